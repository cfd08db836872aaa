set_option maxRecDepth 20000 in
theorem r146_0 (μ : Bool) (d : Nat) (x : Nat) (st : List Value) (h : Hp) (Q : Po) : wp μ d 146 0 [.ref x] st h Q = wp μ d 146 1 [.ref x] (.ref x :: st) h Q := wp_nx rfl
set_option maxRecDepth 20000 in
theorem r146_1 (μ : Bool) (d : Nat) (l0 : Value) (y0 : Nat) (h : Hp) (Q : Po) : wp μ d 146 1 [l0] [.ref y0] h Q = wp μ d 146 4 [l0] [] h Q := (wp_ck _ rfl).trans (propext ⟨fun q => q.2, fun q => ⟨rfl, q⟩⟩)
set_option maxRecDepth 20000 in
theorem r146_4 (μ : Bool) (d : Nat) (x : Nat) (st : List Value) (h : Hp) (Q : Po) : wp μ d 146 4 [.ref x] st h Q = wp μ d 146 5 [.ref x] (.ref x :: st) h Q := wp_nx rfl
set_option maxRecDepth 20000 in
theorem r146_5 (μ : Bool) (d : Nat) (l0 : Value) (st : List Value) (h : Hp) (Q : Po) : wp μ d 146 5 [l0] st h Q = wp μ d 146 7 [l0] (.int (nI 7) :: st) h Q := (wp_nx rfl).trans (congrArg (fun z => wp μ d 146 7 [l0] (.int z :: st) h Q) (show (Int8.ofInt (7)).toInt32 = (nI 7) by decide))
set_option maxRecDepth 20000 in
theorem r146_7 (μ : Bool) (d : Nat) (l0 : Value) (y0 : Int32) (st : List Value) (h : Hp) (Q : Po) : wp μ d 146 7 [l0] (.int y0 :: st) h Q = ((¬ y0 < nI 0 ∧ y0.toNatClampNeg ≤ 1000000) ∧ wp μ d 146 9 [l0] (.ref (hz h) :: st) (mkc h 20 y0.toNatClampNeg) Q) := wp_ck _ rfl
set_option maxRecDepth 20000 in
theorem r146_9 (μ : Bool) (d : Nat) (l0 : Value) (y0 y1 : Nat) (st : List Value) (h : Hp) (Q : Po) : wp μ d 146 9 [l0] (.ref y0 :: .ref y1 :: st) h Q = (((kdm μ h y1).1 = 12 ∧ 3 = 3 ∧ wkm μ y1 1 = true) ∧ wp μ d 146 12 [l0] st (sP h y1 1 (some y0)) Q) := wp_ck _ rfl
set_option maxRecDepth 20000 in
theorem r146_9n (μ : Bool) (d : Nat) (l0 : Value) (y1 : Nat) (st : List Value) (h : Hp) (Q : Po) : wp μ d 146 9 [l0] (.null :: .ref y1 :: st) h Q = (((kdm μ h y1).1 = 12 ∧ 3 = 3 ∧ wkm μ y1 1 = true) ∧ wp μ d 146 12 [l0] st (sP h y1 1 none) Q) := wp_ck _ rfl
set_option maxRecDepth 20000 in
theorem r146_12 (μ : Bool) (d : Nat) (x : Nat) (st : List Value) (h : Hp) (Q : Po) : wp μ d 146 12 [.ref x] st h Q = wp μ d 146 13 [.ref x] (.ref x :: st) h Q := wp_nx rfl
set_option maxRecDepth 20000 in
theorem r146_13 (μ : Bool) (d : Nat) (l0 : Value) (st : List Value) (h : Hp) (Q : Po) : wp μ d 146 13 [l0] st h Q = wp μ d 146 16 [l0] (.int (nI 8391) :: st) h Q := (wp_nx rfl).trans (congrArg (fun z => wp μ d 146 16 [l0] (.int z :: st) h Q) (show (Int16.ofInt (8391)).toInt32 = (nI 8391) by decide))
set_option maxRecDepth 20000 in
theorem r146_16 (μ : Bool) (d : Nat) (l0 : Value) (y0 : Int32) (st : List Value) (h : Hp) (Q : Po) : wp μ d 146 16 [l0] (.int y0 :: st) h Q = ((¬ y0 < nI 0 ∧ y0.toNatClampNeg ≤ 1000000) ∧ wp μ d 146 18 [l0] (.ref (hz h) :: st) (mkc h 20 y0.toNatClampNeg) Q) := wp_ck _ rfl
set_option maxRecDepth 20000 in
theorem r146_18 (μ : Bool) (d : Nat) (l0 : Value) (y0 y1 : Nat) (st : List Value) (h : Hp) (Q : Po) : wp μ d 146 18 [l0] (.ref y0 :: .ref y1 :: st) h Q = (((kdm μ h y1).1 = 12 ∧ 3 = 3 ∧ wkm μ y1 2 = true) ∧ wp μ d 146 21 [l0] st (sP h y1 2 (some y0)) Q) := wp_ck _ rfl
set_option maxRecDepth 20000 in
theorem r146_18n (μ : Bool) (d : Nat) (l0 : Value) (y1 : Nat) (st : List Value) (h : Hp) (Q : Po) : wp μ d 146 18 [l0] (.null :: .ref y1 :: st) h Q = (((kdm μ h y1).1 = 12 ∧ 3 = 3 ∧ wkm μ y1 2 = true) ∧ wp μ d 146 21 [l0] st (sP h y1 2 none) Q) := wp_ck _ rfl
set_option maxRecDepth 20000 in
theorem r146_21 (μ : Bool) (d : Nat) (x : Nat) (st : List Value) (h : Hp) (Q : Po) : wp μ d 146 21 [.ref x] st h Q = wp μ d 146 22 [.ref x] (.ref x :: st) h Q := wp_nx rfl
set_option maxRecDepth 20000 in
theorem r146_22 (μ : Bool) (d : Nat) (l0 : Value) (st : List Value) (h : Hp) (Q : Po) : wp μ d 146 22 [l0] st h Q = wp μ d 146 25 [l0] (.int (nI 16782) :: st) h Q := (wp_nx rfl).trans (congrArg (fun z => wp μ d 146 25 [l0] (.int z :: st) h Q) (show (Int16.ofInt (16782)).toInt32 = (nI 16782) by decide))
set_option maxRecDepth 20000 in
theorem r146_25 (μ : Bool) (d : Nat) (l0 : Value) (y0 : Int32) (st : List Value) (h : Hp) (Q : Po) : wp μ d 146 25 [l0] (.int y0 :: st) h Q = ((¬ y0 < nI 0 ∧ y0.toNatClampNeg ≤ 1000000) ∧ wp μ d 146 27 [l0] (.ref (hz h) :: st) (mkc h 20 y0.toNatClampNeg) Q) := wp_ck _ rfl
set_option maxRecDepth 20000 in
theorem r146_27 (μ : Bool) (d : Nat) (l0 : Value) (y0 y1 : Nat) (st : List Value) (h : Hp) (Q : Po) : wp μ d 146 27 [l0] (.ref y0 :: .ref y1 :: st) h Q = (((kdm μ h y1).1 = 12 ∧ 3 = 3 ∧ wkm μ y1 3 = true) ∧ wp μ d 146 30 [l0] st (sP h y1 3 (some y0)) Q) := wp_ck _ rfl
set_option maxRecDepth 20000 in
theorem r146_27n (μ : Bool) (d : Nat) (l0 : Value) (y1 : Nat) (st : List Value) (h : Hp) (Q : Po) : wp μ d 146 27 [l0] (.null :: .ref y1 :: st) h Q = (((kdm μ h y1).1 = 12 ∧ 3 = 3 ∧ wkm μ y1 3 = true) ∧ wp μ d 146 30 [l0] st (sP h y1 3 none) Q) := wp_ck _ rfl
set_option maxRecDepth 20000 in
theorem r146_30 (μ : Bool) (d : Nat) (x : Nat) (st : List Value) (h : Hp) (Q : Po) : wp μ d 146 30 [.ref x] st h Q = wp μ d 146 31 [.ref x] (.ref x :: st) h Q := wp_nx rfl
set_option maxRecDepth 20000 in
theorem r146_31 (μ : Bool) (d : Nat) (l0 : Value) (st : List Value) (h : Hp) (Q : Po) : wp μ d 146 31 [l0] st h Q = wp μ d 146 32 [l0] (.int (nI 2) :: st) h Q := (wp_nx rfl).trans (congrArg (fun z => wp μ d 146 32 [l0] (.int z :: st) h Q) (show Int32.ofInt (2) = (nI 2) by decide))
set_option maxRecDepth 20000 in
theorem r146_32 (μ : Bool) (d : Nat) (l0 : Value) (y0 : Int32) (st : List Value) (h : Hp) (Q : Po) : wp μ d 146 32 [l0] (.int y0 :: st) h Q = ((¬ y0 < nI 0 ∧ y0.toNatClampNeg ≤ 1000000) ∧ wp μ d 146 34 [l0] (.ref (hz h) :: st) (mkc h 23 y0.toNatClampNeg) Q) := wp_ck _ rfl
set_option maxRecDepth 20000 in
theorem r146_34 (μ : Bool) (d : Nat) (l0 : Value) (y0 y1 : Nat) (st : List Value) (h : Hp) (Q : Po) : wp μ d 146 34 [l0] (.ref y0 :: .ref y1 :: st) h Q = (((kdm μ h y1).1 = 12 ∧ 3 = 3 ∧ wkm μ y1 4 = true) ∧ wp μ d 146 37 [l0] st (sP h y1 4 (some y0)) Q) := wp_ck _ rfl
set_option maxRecDepth 20000 in
theorem r146_34n (μ : Bool) (d : Nat) (l0 : Value) (y1 : Nat) (st : List Value) (h : Hp) (Q : Po) : wp μ d 146 34 [l0] (.null :: .ref y1 :: st) h Q = (((kdm μ h y1).1 = 12 ∧ 3 = 3 ∧ wkm μ y1 4 = true) ∧ wp μ d 146 37 [l0] st (sP h y1 4 none) Q) := wp_ck _ rfl
set_option maxRecDepth 20000 in
theorem r146_37 (μ : Bool) (d : Nat) (x : Nat) (st : List Value) (h : Hp) (Q : Po) : wp μ d 146 37 [.ref x] st h Q = wp μ d 146 38 [.ref x] (.ref x :: st) h Q := wp_nx rfl
set_option maxRecDepth 20000 in
theorem r146_38 (μ : Bool) (d : Nat) (l0 : Value) (st : List Value) (h : Hp) (Q : Po) : wp μ d 146 38 [l0] st h Q = wp μ d 146 40 [l0] (.int (nI 103) :: st) h Q := (wp_nx rfl).trans (congrArg (fun z => wp μ d 146 40 [l0] (.int z :: st) h Q) (show (Int8.ofInt (103)).toInt32 = (nI 103) by decide))
set_option maxRecDepth 20000 in
theorem r146_40 (μ : Bool) (d : Nat) (l0 : Value) (y0 : Int32) (st : List Value) (h : Hp) (Q : Po) : wp μ d 146 40 [l0] (.int y0 :: st) h Q = ((¬ y0 < nI 0 ∧ y0.toNatClampNeg ≤ 1000000) ∧ wp μ d 146 42 [l0] (.ref (hz h) :: st) (mkc h 22 y0.toNatClampNeg) Q) := wp_ck _ rfl
set_option maxRecDepth 20000 in
theorem r146_42 (μ : Bool) (d : Nat) (l0 : Value) (y0 : Nat) (st : List Value) (h : Hp) (Q : Po) : wp μ d 146 42 [l0] (.ref y0 :: st) h Q = wp μ d 146 43 [l0] (.ref y0 :: .ref y0 :: st) h Q := wp_nx rfl
set_option maxRecDepth 20000 in
theorem r146_43 (μ : Bool) (d : Nat) (l0 : Value) (st : List Value) (h : Hp) (Q : Po) : wp μ d 146 43 [l0] st h Q = wp μ d 146 44 [l0] (.int (nI 0) :: st) h Q := (wp_nx rfl).trans (congrArg (fun z => wp μ d 146 44 [l0] (.int z :: st) h Q) (show Int32.ofInt (0) = (nI 0) by decide))
set_option maxRecDepth 20000 in
theorem r146_44 (μ : Bool) (d : Nat) (l0 : Value) (st : List Value) (h : Hp) (Q : Po) : wp μ d 146 44 [l0] st h Q = wp μ d 146 46 [l0] (.int (nI 111) :: st) h Q := (wp_nx rfl).trans (congrArg (fun z => wp μ d 146 46 [l0] (.int z :: st) h Q) (show (Int8.ofInt (111)).toInt32 = (nI 111) by decide))
set_option maxRecDepth 20000 in
theorem r146_46 (μ : Bool) (d : Nat) (l0 : Value) (y0 y1 : Int32) (y2 : Nat) (st : List Value) (h : Hp) (Q : Po) : wp μ d 146 46 [l0] (.int y0 :: .int y1 :: .ref y2 :: st) h Q = ((((kdm μ h y2).1 = 22 ∨ (kdm μ h y2).1 = 23) ∧ vp_in y1 (kdm μ h y2).2) ∧ wp μ d 146 47 [l0] st (sI h y2 y1.toNatClampNeg (if (kdm μ h y2).1 = 22 then vp_nar .byte y0 else vp_nar .boolean y0)) Q) := wp_ck _ rfl
set_option maxRecDepth 20000 in
theorem r146_47 (μ : Bool) (d : Nat) (l0 : Value) (y0 : Nat) (st : List Value) (h : Hp) (Q : Po) : wp μ d 146 47 [l0] (.ref y0 :: st) h Q = wp μ d 146 48 [l0] (.ref y0 :: .ref y0 :: st) h Q := wp_nx rfl
set_option maxRecDepth 20000 in
theorem r146_48 (μ : Bool) (d : Nat) (l0 : Value) (st : List Value) (h : Hp) (Q : Po) : wp μ d 146 48 [l0] st h Q = wp μ d 146 49 [l0] (.int (nI 1) :: st) h Q := (wp_nx rfl).trans (congrArg (fun z => wp μ d 146 49 [l0] (.int z :: st) h Q) (show Int32.ofInt (1) = (nI 1) by decide))
set_option maxRecDepth 20000 in
theorem r146_49 (μ : Bool) (d : Nat) (l0 : Value) (st : List Value) (h : Hp) (Q : Po) : wp μ d 146 49 [l0] st h Q = wp μ d 146 51 [l0] (.int (nI 100) :: st) h Q := (wp_nx rfl).trans (congrArg (fun z => wp μ d 146 51 [l0] (.int z :: st) h Q) (show (Int8.ofInt (100)).toInt32 = (nI 100) by decide))
set_option maxRecDepth 20000 in
theorem r146_51 (μ : Bool) (d : Nat) (l0 : Value) (y0 y1 : Int32) (y2 : Nat) (st : List Value) (h : Hp) (Q : Po) : wp μ d 146 51 [l0] (.int y0 :: .int y1 :: .ref y2 :: st) h Q = ((((kdm μ h y2).1 = 22 ∨ (kdm μ h y2).1 = 23) ∧ vp_in y1 (kdm μ h y2).2) ∧ wp μ d 146 52 [l0] st (sI h y2 y1.toNatClampNeg (if (kdm μ h y2).1 = 22 then vp_nar .byte y0 else vp_nar .boolean y0)) Q) := wp_ck _ rfl
set_option maxRecDepth 20000 in
theorem r146_52 (μ : Bool) (d : Nat) (l0 : Value) (y0 : Nat) (st : List Value) (h : Hp) (Q : Po) : wp μ d 146 52 [l0] (.ref y0 :: st) h Q = wp μ d 146 53 [l0] (.ref y0 :: .ref y0 :: st) h Q := wp_nx rfl
set_option maxRecDepth 20000 in
theorem r146_53 (μ : Bool) (d : Nat) (l0 : Value) (st : List Value) (h : Hp) (Q : Po) : wp μ d 146 53 [l0] st h Q = wp μ d 146 54 [l0] (.int (nI 2) :: st) h Q := (wp_nx rfl).trans (congrArg (fun z => wp μ d 146 54 [l0] (.int z :: st) h Q) (show Int32.ofInt (2) = (nI 2) by decide))
set_option maxRecDepth 20000 in
theorem r146_54 (μ : Bool) (d : Nat) (l0 : Value) (st : List Value) (h : Hp) (Q : Po) : wp μ d 146 54 [l0] st h Q = wp μ d 146 56 [l0] (.int (nI 100) :: st) h Q := (wp_nx rfl).trans (congrArg (fun z => wp μ d 146 56 [l0] (.int z :: st) h Q) (show (Int8.ofInt (100)).toInt32 = (nI 100) by decide))
set_option maxRecDepth 20000 in
theorem r146_56 (μ : Bool) (d : Nat) (l0 : Value) (y0 y1 : Int32) (y2 : Nat) (st : List Value) (h : Hp) (Q : Po) : wp μ d 146 56 [l0] (.int y0 :: .int y1 :: .ref y2 :: st) h Q = ((((kdm μ h y2).1 = 22 ∨ (kdm μ h y2).1 = 23) ∧ vp_in y1 (kdm μ h y2).2) ∧ wp μ d 146 57 [l0] st (sI h y2 y1.toNatClampNeg (if (kdm μ h y2).1 = 22 then vp_nar .byte y0 else vp_nar .boolean y0)) Q) := wp_ck _ rfl
set_option maxRecDepth 20000 in
theorem r146_57 (μ : Bool) (d : Nat) (l0 : Value) (y0 : Nat) (st : List Value) (h : Hp) (Q : Po) : wp μ d 146 57 [l0] (.ref y0 :: st) h Q = wp μ d 146 58 [l0] (.ref y0 :: .ref y0 :: st) h Q := wp_nx rfl
set_option maxRecDepth 20000 in
theorem r146_58 (μ : Bool) (d : Nat) (l0 : Value) (st : List Value) (h : Hp) (Q : Po) : wp μ d 146 58 [l0] st h Q = wp μ d 146 59 [l0] (.int (nI 3) :: st) h Q := (wp_nx rfl).trans (congrArg (fun z => wp μ d 146 59 [l0] (.int z :: st) h Q) (show Int32.ofInt (3) = (nI 3) by decide))
set_option maxRecDepth 20000 in
theorem r146_59 (μ : Bool) (d : Nat) (l0 : Value) (st : List Value) (h : Hp) (Q : Po) : wp μ d 146 59 [l0] st h Q = wp μ d 146 61 [l0] (.int (nI 115) :: st) h Q := (wp_nx rfl).trans (congrArg (fun z => wp μ d 146 61 [l0] (.int z :: st) h Q) (show (Int8.ofInt (115)).toInt32 = (nI 115) by decide))
set_option maxRecDepth 20000 in
theorem r146_61 (μ : Bool) (d : Nat) (l0 : Value) (y0 y1 : Int32) (y2 : Nat) (st : List Value) (h : Hp) (Q : Po) : wp μ d 146 61 [l0] (.int y0 :: .int y1 :: .ref y2 :: st) h Q = ((((kdm μ h y2).1 = 22 ∨ (kdm μ h y2).1 = 23) ∧ vp_in y1 (kdm μ h y2).2) ∧ wp μ d 146 62 [l0] st (sI h y2 y1.toNatClampNeg (if (kdm μ h y2).1 = 22 then vp_nar .byte y0 else vp_nar .boolean y0)) Q) := wp_ck _ rfl
set_option maxRecDepth 20000 in
theorem r146_62 (μ : Bool) (d : Nat) (l0 : Value) (y0 : Nat) (st : List Value) (h : Hp) (Q : Po) : wp μ d 146 62 [l0] (.ref y0 :: st) h Q = wp μ d 146 63 [l0] (.ref y0 :: .ref y0 :: st) h Q := wp_nx rfl
set_option maxRecDepth 20000 in
theorem r146_63 (μ : Bool) (d : Nat) (l0 : Value) (st : List Value) (h : Hp) (Q : Po) : wp μ d 146 63 [l0] st h Q = wp μ d 146 64 [l0] (.int (nI 4) :: st) h Q := (wp_nx rfl).trans (congrArg (fun z => wp μ d 146 64 [l0] (.int z :: st) h Q) (show Int32.ofInt (4) = (nI 4) by decide))
set_option maxRecDepth 20000 in
theorem r146_64 (μ : Bool) (d : Nat) (l0 : Value) (st : List Value) (h : Hp) (Q : Po) : wp μ d 146 64 [l0] st h Q = wp μ d 146 66 [l0] (.int (nI 32) :: st) h Q := (wp_nx rfl).trans (congrArg (fun z => wp μ d 146 66 [l0] (.int z :: st) h Q) (show (Int8.ofInt (32)).toInt32 = (nI 32) by decide))
set_option maxRecDepth 20000 in
theorem r146_66 (μ : Bool) (d : Nat) (l0 : Value) (y0 y1 : Int32) (y2 : Nat) (st : List Value) (h : Hp) (Q : Po) : wp μ d 146 66 [l0] (.int y0 :: .int y1 :: .ref y2 :: st) h Q = ((((kdm μ h y2).1 = 22 ∨ (kdm μ h y2).1 = 23) ∧ vp_in y1 (kdm μ h y2).2) ∧ wp μ d 146 67 [l0] st (sI h y2 y1.toNatClampNeg (if (kdm μ h y2).1 = 22 then vp_nar .byte y0 else vp_nar .boolean y0)) Q) := wp_ck _ rfl
set_option maxRecDepth 20000 in
theorem r146_67 (μ : Bool) (d : Nat) (l0 : Value) (y0 : Nat) (st : List Value) (h : Hp) (Q : Po) : wp μ d 146 67 [l0] (.ref y0 :: st) h Q = wp μ d 146 68 [l0] (.ref y0 :: .ref y0 :: st) h Q := wp_nx rfl
set_option maxRecDepth 20000 in
theorem r146_68 (μ : Bool) (d : Nat) (l0 : Value) (st : List Value) (h : Hp) (Q : Po) : wp μ d 146 68 [l0] st h Q = wp μ d 146 69 [l0] (.int (nI 5) :: st) h Q := (wp_nx rfl).trans (congrArg (fun z => wp μ d 146 69 [l0] (.int z :: st) h Q) (show Int32.ofInt (5) = (nI 5) by decide))
set_option maxRecDepth 20000 in
theorem r146_69 (μ : Bool) (d : Nat) (l0 : Value) (st : List Value) (h : Hp) (Q : Po) : wp μ d 146 69 [l0] st h Q = wp μ d 146 71 [l0] (.int (nI 109) :: st) h Q := (wp_nx rfl).trans (congrArg (fun z => wp μ d 146 71 [l0] (.int z :: st) h Q) (show (Int8.ofInt (109)).toInt32 = (nI 109) by decide))
set_option maxRecDepth 20000 in
theorem r146_71 (μ : Bool) (d : Nat) (l0 : Value) (y0 y1 : Int32) (y2 : Nat) (st : List Value) (h : Hp) (Q : Po) : wp μ d 146 71 [l0] (.int y0 :: .int y1 :: .ref y2 :: st) h Q = ((((kdm μ h y2).1 = 22 ∨ (kdm μ h y2).1 = 23) ∧ vp_in y1 (kdm μ h y2).2) ∧ wp μ d 146 72 [l0] st (sI h y2 y1.toNatClampNeg (if (kdm μ h y2).1 = 22 then vp_nar .byte y0 else vp_nar .boolean y0)) Q) := wp_ck _ rfl
set_option maxRecDepth 20000 in
theorem r146_72 (μ : Bool) (d : Nat) (l0 : Value) (y0 : Nat) (st : List Value) (h : Hp) (Q : Po) : wp μ d 146 72 [l0] (.ref y0 :: st) h Q = wp μ d 146 73 [l0] (.ref y0 :: .ref y0 :: st) h Q := wp_nx rfl
set_option maxRecDepth 20000 in
theorem r146_73 (μ : Bool) (d : Nat) (l0 : Value) (st : List Value) (h : Hp) (Q : Po) : wp μ d 146 73 [l0] st h Q = wp μ d 146 75 [l0] (.int (nI 6) :: st) h Q := (wp_nx rfl).trans (congrArg (fun z => wp μ d 146 75 [l0] (.int z :: st) h Q) (show (Int8.ofInt (6)).toInt32 = (nI 6) by decide))
set_option maxRecDepth 20000 in
theorem r146_75 (μ : Bool) (d : Nat) (l0 : Value) (st : List Value) (h : Hp) (Q : Po) : wp μ d 146 75 [l0] st h Q = wp μ d 146 77 [l0] (.int (nI 111) :: st) h Q := (wp_nx rfl).trans (congrArg (fun z => wp μ d 146 77 [l0] (.int z :: st) h Q) (show (Int8.ofInt (111)).toInt32 = (nI 111) by decide))
set_option maxRecDepth 20000 in
theorem r146_77 (μ : Bool) (d : Nat) (l0 : Value) (y0 y1 : Int32) (y2 : Nat) (st : List Value) (h : Hp) (Q : Po) : wp μ d 146 77 [l0] (.int y0 :: .int y1 :: .ref y2 :: st) h Q = ((((kdm μ h y2).1 = 22 ∨ (kdm μ h y2).1 = 23) ∧ vp_in y1 (kdm μ h y2).2) ∧ wp μ d 146 78 [l0] st (sI h y2 y1.toNatClampNeg (if (kdm μ h y2).1 = 22 then vp_nar .byte y0 else vp_nar .boolean y0)) Q) := wp_ck _ rfl
set_option maxRecDepth 20000 in
theorem r146_78 (μ : Bool) (d : Nat) (l0 : Value) (y0 : Nat) (st : List Value) (h : Hp) (Q : Po) : wp μ d 146 78 [l0] (.ref y0 :: st) h Q = wp μ d 146 79 [l0] (.ref y0 :: .ref y0 :: st) h Q := wp_nx rfl
set_option maxRecDepth 20000 in
theorem r146_79 (μ : Bool) (d : Nat) (l0 : Value) (st : List Value) (h : Hp) (Q : Po) : wp μ d 146 79 [l0] st h Q = wp μ d 146 81 [l0] (.int (nI 7) :: st) h Q := (wp_nx rfl).trans (congrArg (fun z => wp μ d 146 81 [l0] (.int z :: st) h Q) (show (Int8.ofInt (7)).toInt32 = (nI 7) by decide))
set_option maxRecDepth 20000 in
theorem r146_81 (μ : Bool) (d : Nat) (l0 : Value) (st : List Value) (h : Hp) (Q : Po) : wp μ d 146 81 [l0] st h Q = wp μ d 146 83 [l0] (.int (nI 118) :: st) h Q := (wp_nx rfl).trans (congrArg (fun z => wp μ d 146 83 [l0] (.int z :: st) h Q) (show (Int8.ofInt (118)).toInt32 = (nI 118) by decide))
set_option maxRecDepth 20000 in
theorem r146_83 (μ : Bool) (d : Nat) (l0 : Value) (y0 y1 : Int32) (y2 : Nat) (st : List Value) (h : Hp) (Q : Po) : wp μ d 146 83 [l0] (.int y0 :: .int y1 :: .ref y2 :: st) h Q = ((((kdm μ h y2).1 = 22 ∨ (kdm μ h y2).1 = 23) ∧ vp_in y1 (kdm μ h y2).2) ∧ wp μ d 146 84 [l0] st (sI h y2 y1.toNatClampNeg (if (kdm μ h y2).1 = 22 then vp_nar .byte y0 else vp_nar .boolean y0)) Q) := wp_ck _ rfl
set_option maxRecDepth 20000 in
theorem r146_84 (μ : Bool) (d : Nat) (l0 : Value) (y0 : Nat) (st : List Value) (h : Hp) (Q : Po) : wp μ d 146 84 [l0] (.ref y0 :: st) h Q = wp μ d 146 85 [l0] (.ref y0 :: .ref y0 :: st) h Q := wp_nx rfl
set_option maxRecDepth 20000 in
theorem r146_85 (μ : Bool) (d : Nat) (l0 : Value) (st : List Value) (h : Hp) (Q : Po) : wp μ d 146 85 [l0] st h Q = wp μ d 146 87 [l0] (.int (nI 8) :: st) h Q := (wp_nx rfl).trans (congrArg (fun z => wp μ d 146 87 [l0] (.int z :: st) h Q) (show (Int8.ofInt (8)).toInt32 = (nI 8) by decide))
set_option maxRecDepth 20000 in
theorem r146_87 (μ : Bool) (d : Nat) (l0 : Value) (st : List Value) (h : Hp) (Q : Po) : wp μ d 146 87 [l0] st h Q = wp μ d 146 89 [l0] (.int (nI 101) :: st) h Q := (wp_nx rfl).trans (congrArg (fun z => wp μ d 146 89 [l0] (.int z :: st) h Q) (show (Int8.ofInt (101)).toInt32 = (nI 101) by decide))
set_option maxRecDepth 20000 in
theorem r146_89 (μ : Bool) (d : Nat) (l0 : Value) (y0 y1 : Int32) (y2 : Nat) (st : List Value) (h : Hp) (Q : Po) : wp μ d 146 89 [l0] (.int y0 :: .int y1 :: .ref y2 :: st) h Q = ((((kdm μ h y2).1 = 22 ∨ (kdm μ h y2).1 = 23) ∧ vp_in y1 (kdm μ h y2).2) ∧ wp μ d 146 90 [l0] st (sI h y2 y1.toNatClampNeg (if (kdm μ h y2).1 = 22 then vp_nar .byte y0 else vp_nar .boolean y0)) Q) := wp_ck _ rfl
set_option maxRecDepth 20000 in
theorem r146_90 (μ : Bool) (d : Nat) (l0 : Value) (y0 : Nat) (st : List Value) (h : Hp) (Q : Po) : wp μ d 146 90 [l0] (.ref y0 :: st) h Q = wp μ d 146 91 [l0] (.ref y0 :: .ref y0 :: st) h Q := wp_nx rfl
set_option maxRecDepth 20000 in
theorem r146_91 (μ : Bool) (d : Nat) (l0 : Value) (st : List Value) (h : Hp) (Q : Po) : wp μ d 146 91 [l0] st h Q = wp μ d 146 93 [l0] (.int (nI 9) :: st) h Q := (wp_nx rfl).trans (congrArg (fun z => wp μ d 146 93 [l0] (.int z :: st) h Q) (show (Int8.ofInt (9)).toInt32 = (nI 9) by decide))
set_option maxRecDepth 20000 in
theorem r146_93 (μ : Bool) (d : Nat) (l0 : Value) (st : List Value) (h : Hp) (Q : Po) : wp μ d 146 93 [l0] st h Q = wp μ d 146 95 [l0] (.int (nI 32) :: st) h Q := (wp_nx rfl).trans (congrArg (fun z => wp μ d 146 95 [l0] (.int z :: st) h Q) (show (Int8.ofInt (32)).toInt32 = (nI 32) by decide))
set_option maxRecDepth 20000 in
theorem r146_95 (μ : Bool) (d : Nat) (l0 : Value) (y0 y1 : Int32) (y2 : Nat) (st : List Value) (h : Hp) (Q : Po) : wp μ d 146 95 [l0] (.int y0 :: .int y1 :: .ref y2 :: st) h Q = ((((kdm μ h y2).1 = 22 ∨ (kdm μ h y2).1 = 23) ∧ vp_in y1 (kdm μ h y2).2) ∧ wp μ d 146 96 [l0] st (sI h y2 y1.toNatClampNeg (if (kdm μ h y2).1 = 22 then vp_nar .byte y0 else vp_nar .boolean y0)) Q) := wp_ck _ rfl
set_option maxRecDepth 20000 in
theorem r146_96 (μ : Bool) (d : Nat) (l0 : Value) (y0 : Nat) (st : List Value) (h : Hp) (Q : Po) : wp μ d 146 96 [l0] (.ref y0 :: st) h Q = wp μ d 146 97 [l0] (.ref y0 :: .ref y0 :: st) h Q := wp_nx rfl
set_option maxRecDepth 20000 in
theorem r146_97 (μ : Bool) (d : Nat) (l0 : Value) (st : List Value) (h : Hp) (Q : Po) : wp μ d 146 97 [l0] st h Q = wp μ d 146 99 [l0] (.int (nI 10) :: st) h Q := (wp_nx rfl).trans (congrArg (fun z => wp μ d 146 99 [l0] (.int z :: st) h Q) (show (Int8.ofInt (10)).toInt32 = (nI 10) by decide))
set_option maxRecDepth 20000 in
theorem r146_99 (μ : Bool) (d : Nat) (l0 : Value) (st : List Value) (h : Hp) (Q : Po) : wp μ d 146 99 [l0] st h Q = wp μ d 146 101 [l0] (.int (nI 107) :: st) h Q := (wp_nx rfl).trans (congrArg (fun z => wp μ d 146 101 [l0] (.int z :: st) h Q) (show (Int8.ofInt (107)).toInt32 = (nI 107) by decide))
set_option maxRecDepth 20000 in
theorem r146_101 (μ : Bool) (d : Nat) (l0 : Value) (y0 y1 : Int32) (y2 : Nat) (st : List Value) (h : Hp) (Q : Po) : wp μ d 146 101 [l0] (.int y0 :: .int y1 :: .ref y2 :: st) h Q = ((((kdm μ h y2).1 = 22 ∨ (kdm μ h y2).1 = 23) ∧ vp_in y1 (kdm μ h y2).2) ∧ wp μ d 146 102 [l0] st (sI h y2 y1.toNatClampNeg (if (kdm μ h y2).1 = 22 then vp_nar .byte y0 else vp_nar .boolean y0)) Q) := wp_ck _ rfl
set_option maxRecDepth 20000 in
theorem r146_102 (μ : Bool) (d : Nat) (l0 : Value) (y0 : Nat) (st : List Value) (h : Hp) (Q : Po) : wp μ d 146 102 [l0] (.ref y0 :: st) h Q = wp μ d 146 103 [l0] (.ref y0 :: .ref y0 :: st) h Q := wp_nx rfl
set_option maxRecDepth 20000 in
theorem r146_103 (μ : Bool) (d : Nat) (l0 : Value) (st : List Value) (h : Hp) (Q : Po) : wp μ d 146 103 [l0] st h Q = wp μ d 146 105 [l0] (.int (nI 11) :: st) h Q := (wp_nx rfl).trans (congrArg (fun z => wp μ d 146 105 [l0] (.int z :: st) h Q) (show (Int8.ofInt (11)).toInt32 = (nI 11) by decide))
set_option maxRecDepth 20000 in
theorem r146_105 (μ : Bool) (d : Nat) (l0 : Value) (st : List Value) (h : Hp) (Q : Po) : wp μ d 146 105 [l0] st h Q = wp μ d 146 107 [l0] (.int (nI 101) :: st) h Q := (wp_nx rfl).trans (congrArg (fun z => wp μ d 146 107 [l0] (.int z :: st) h Q) (show (Int8.ofInt (101)).toInt32 = (nI 101) by decide))
set_option maxRecDepth 20000 in
theorem r146_107 (μ : Bool) (d : Nat) (l0 : Value) (y0 y1 : Int32) (y2 : Nat) (st : List Value) (h : Hp) (Q : Po) : wp μ d 146 107 [l0] (.int y0 :: .int y1 :: .ref y2 :: st) h Q = ((((kdm μ h y2).1 = 22 ∨ (kdm μ h y2).1 = 23) ∧ vp_in y1 (kdm μ h y2).2) ∧ wp μ d 146 108 [l0] st (sI h y2 y1.toNatClampNeg (if (kdm μ h y2).1 = 22 then vp_nar .byte y0 else vp_nar .boolean y0)) Q) := wp_ck _ rfl
set_option maxRecDepth 20000 in
theorem r146_108 (μ : Bool) (d : Nat) (l0 : Value) (y0 : Nat) (st : List Value) (h : Hp) (Q : Po) : wp μ d 146 108 [l0] (.ref y0 :: st) h Q = wp μ d 146 109 [l0] (.ref y0 :: .ref y0 :: st) h Q := wp_nx rfl
set_option maxRecDepth 20000 in
theorem r146_109 (μ : Bool) (d : Nat) (l0 : Value) (st : List Value) (h : Hp) (Q : Po) : wp μ d 146 109 [l0] st h Q = wp μ d 146 111 [l0] (.int (nI 12) :: st) h Q := (wp_nx rfl).trans (congrArg (fun z => wp μ d 146 111 [l0] (.int z :: st) h Q) (show (Int8.ofInt (12)).toInt32 = (nI 12) by decide))
set_option maxRecDepth 20000 in
theorem r146_111 (μ : Bool) (d : Nat) (l0 : Value) (st : List Value) (h : Hp) (Q : Po) : wp μ d 146 111 [l0] st h Q = wp μ d 146 113 [l0] (.int (nI 121) :: st) h Q := (wp_nx rfl).trans (congrArg (fun z => wp μ d 146 113 [l0] (.int z :: st) h Q) (show (Int8.ofInt (121)).toInt32 = (nI 121) by decide))
set_option maxRecDepth 20000 in
theorem r146_113 (μ : Bool) (d : Nat) (l0 : Value) (y0 y1 : Int32) (y2 : Nat) (st : List Value) (h : Hp) (Q : Po) : wp μ d 146 113 [l0] (.int y0 :: .int y1 :: .ref y2 :: st) h Q = ((((kdm μ h y2).1 = 22 ∨ (kdm μ h y2).1 = 23) ∧ vp_in y1 (kdm μ h y2).2) ∧ wp μ d 146 114 [l0] st (sI h y2 y1.toNatClampNeg (if (kdm μ h y2).1 = 22 then vp_nar .byte y0 else vp_nar .boolean y0)) Q) := wp_ck _ rfl
set_option maxRecDepth 20000 in
theorem r146_114 (μ : Bool) (d : Nat) (l0 : Value) (y0 : Nat) (st : List Value) (h : Hp) (Q : Po) : wp μ d 146 114 [l0] (.ref y0 :: st) h Q = wp μ d 146 115 [l0] (.ref y0 :: .ref y0 :: st) h Q := wp_nx rfl
set_option maxRecDepth 20000 in
theorem r146_115 (μ : Bool) (d : Nat) (l0 : Value) (st : List Value) (h : Hp) (Q : Po) : wp μ d 146 115 [l0] st h Q = wp μ d 146 117 [l0] (.int (nI 13) :: st) h Q := (wp_nx rfl).trans (congrArg (fun z => wp μ d 146 117 [l0] (.int z :: st) h Q) (show (Int8.ofInt (13)).toInt32 = (nI 13) by decide))
set_option maxRecDepth 20000 in
theorem r146_117 (μ : Bool) (d : Nat) (l0 : Value) (st : List Value) (h : Hp) (Q : Po) : wp μ d 146 117 [l0] st h Q = wp μ d 146 119 [l0] (.int (nI 32) :: st) h Q := (wp_nx rfl).trans (congrArg (fun z => wp μ d 146 119 [l0] (.int z :: st) h Q) (show (Int8.ofInt (32)).toInt32 = (nI 32) by decide))
set_option maxRecDepth 20000 in
theorem r146_119 (μ : Bool) (d : Nat) (l0 : Value) (y0 y1 : Int32) (y2 : Nat) (st : List Value) (h : Hp) (Q : Po) : wp μ d 146 119 [l0] (.int y0 :: .int y1 :: .ref y2 :: st) h Q = ((((kdm μ h y2).1 = 22 ∨ (kdm μ h y2).1 = 23) ∧ vp_in y1 (kdm μ h y2).2) ∧ wp μ d 146 120 [l0] st (sI h y2 y1.toNatClampNeg (if (kdm μ h y2).1 = 22 then vp_nar .byte y0 else vp_nar .boolean y0)) Q) := wp_ck _ rfl
set_option maxRecDepth 20000 in
theorem r146_120 (μ : Bool) (d : Nat) (l0 : Value) (y0 : Nat) (st : List Value) (h : Hp) (Q : Po) : wp μ d 146 120 [l0] (.ref y0 :: st) h Q = wp μ d 146 121 [l0] (.ref y0 :: .ref y0 :: st) h Q := wp_nx rfl
set_option maxRecDepth 20000 in
theorem r146_121 (μ : Bool) (d : Nat) (l0 : Value) (st : List Value) (h : Hp) (Q : Po) : wp μ d 146 121 [l0] st h Q = wp μ d 146 123 [l0] (.int (nI 14) :: st) h Q := (wp_nx rfl).trans (congrArg (fun z => wp μ d 146 123 [l0] (.int z :: st) h Q) (show (Int8.ofInt (14)).toInt32 = (nI 14) by decide))
set_option maxRecDepth 20000 in
theorem r146_123 (μ : Bool) (d : Nat) (l0 : Value) (st : List Value) (h : Hp) (Q : Po) : wp μ d 146 123 [l0] st h Q = wp μ d 146 125 [l0] (.int (nI 115) :: st) h Q := (wp_nx rfl).trans (congrArg (fun z => wp μ d 146 125 [l0] (.int z :: st) h Q) (show (Int8.ofInt (115)).toInt32 = (nI 115) by decide))
set_option maxRecDepth 20000 in
theorem r146_125 (μ : Bool) (d : Nat) (l0 : Value) (y0 y1 : Int32) (y2 : Nat) (st : List Value) (h : Hp) (Q : Po) : wp μ d 146 125 [l0] (.int y0 :: .int y1 :: .ref y2 :: st) h Q = ((((kdm μ h y2).1 = 22 ∨ (kdm μ h y2).1 = 23) ∧ vp_in y1 (kdm μ h y2).2) ∧ wp μ d 146 126 [l0] st (sI h y2 y1.toNatClampNeg (if (kdm μ h y2).1 = 22 then vp_nar .byte y0 else vp_nar .boolean y0)) Q) := wp_ck _ rfl
set_option maxRecDepth 20000 in
theorem r146_126 (μ : Bool) (d : Nat) (l0 : Value) (y0 : Nat) (st : List Value) (h : Hp) (Q : Po) : wp μ d 146 126 [l0] (.ref y0 :: st) h Q = wp μ d 146 127 [l0] (.ref y0 :: .ref y0 :: st) h Q := wp_nx rfl
set_option maxRecDepth 20000 in
theorem r146_127 (μ : Bool) (d : Nat) (l0 : Value) (st : List Value) (h : Hp) (Q : Po) : wp μ d 146 127 [l0] st h Q = wp μ d 146 129 [l0] (.int (nI 15) :: st) h Q := (wp_nx rfl).trans (congrArg (fun z => wp μ d 146 129 [l0] (.int z :: st) h Q) (show (Int8.ofInt (15)).toInt32 = (nI 15) by decide))
set_option maxRecDepth 20000 in
theorem r146_129 (μ : Bool) (d : Nat) (l0 : Value) (st : List Value) (h : Hp) (Q : Po) : wp μ d 146 129 [l0] st h Q = wp μ d 146 131 [l0] (.int (nI 116) :: st) h Q := (wp_nx rfl).trans (congrArg (fun z => wp μ d 146 131 [l0] (.int z :: st) h Q) (show (Int8.ofInt (116)).toInt32 = (nI 116) by decide))
set_option maxRecDepth 20000 in
theorem r146_131 (μ : Bool) (d : Nat) (l0 : Value) (y0 y1 : Int32) (y2 : Nat) (st : List Value) (h : Hp) (Q : Po) : wp μ d 146 131 [l0] (.int y0 :: .int y1 :: .ref y2 :: st) h Q = ((((kdm μ h y2).1 = 22 ∨ (kdm μ h y2).1 = 23) ∧ vp_in y1 (kdm μ h y2).2) ∧ wp μ d 146 132 [l0] st (sI h y2 y1.toNatClampNeg (if (kdm μ h y2).1 = 22 then vp_nar .byte y0 else vp_nar .boolean y0)) Q) := wp_ck _ rfl
set_option maxRecDepth 20000 in
theorem r146_132 (μ : Bool) (d : Nat) (l0 : Value) (y0 : Nat) (st : List Value) (h : Hp) (Q : Po) : wp μ d 146 132 [l0] (.ref y0 :: st) h Q = wp μ d 146 133 [l0] (.ref y0 :: .ref y0 :: st) h Q := wp_nx rfl
set_option maxRecDepth 20000 in
theorem r146_133 (μ : Bool) (d : Nat) (l0 : Value) (st : List Value) (h : Hp) (Q : Po) : wp μ d 146 133 [l0] st h Q = wp μ d 146 135 [l0] (.int (nI 16) :: st) h Q := (wp_nx rfl).trans (congrArg (fun z => wp μ d 146 135 [l0] (.int z :: st) h Q) (show (Int8.ofInt (16)).toInt32 = (nI 16) by decide))
set_option maxRecDepth 20000 in
theorem r146_135 (μ : Bool) (d : Nat) (l0 : Value) (st : List Value) (h : Hp) (Q : Po) : wp μ d 146 135 [l0] st h Q = wp μ d 146 137 [l0] (.int (nI 111) :: st) h Q := (wp_nx rfl).trans (congrArg (fun z => wp μ d 146 137 [l0] (.int z :: st) h Q) (show (Int8.ofInt (111)).toInt32 = (nI 111) by decide))
set_option maxRecDepth 20000 in
theorem r146_137 (μ : Bool) (d : Nat) (l0 : Value) (y0 y1 : Int32) (y2 : Nat) (st : List Value) (h : Hp) (Q : Po) : wp μ d 146 137 [l0] (.int y0 :: .int y1 :: .ref y2 :: st) h Q = ((((kdm μ h y2).1 = 22 ∨ (kdm μ h y2).1 = 23) ∧ vp_in y1 (kdm μ h y2).2) ∧ wp μ d 146 138 [l0] st (sI h y2 y1.toNatClampNeg (if (kdm μ h y2).1 = 22 then vp_nar .byte y0 else vp_nar .boolean y0)) Q) := wp_ck _ rfl
set_option maxRecDepth 20000 in
theorem r146_138 (μ : Bool) (d : Nat) (l0 : Value) (y0 : Nat) (st : List Value) (h : Hp) (Q : Po) : wp μ d 146 138 [l0] (.ref y0 :: st) h Q = wp μ d 146 139 [l0] (.ref y0 :: .ref y0 :: st) h Q := wp_nx rfl
set_option maxRecDepth 20000 in
theorem r146_139 (μ : Bool) (d : Nat) (l0 : Value) (st : List Value) (h : Hp) (Q : Po) : wp μ d 146 139 [l0] st h Q = wp μ d 146 141 [l0] (.int (nI 17) :: st) h Q := (wp_nx rfl).trans (congrArg (fun z => wp μ d 146 141 [l0] (.int z :: st) h Q) (show (Int8.ofInt (17)).toInt32 = (nI 17) by decide))
set_option maxRecDepth 20000 in
theorem r146_141 (μ : Bool) (d : Nat) (l0 : Value) (st : List Value) (h : Hp) (Q : Po) : wp μ d 146 141 [l0] st h Q = wp μ d 146 143 [l0] (.int (nI 112) :: st) h Q := (wp_nx rfl).trans (congrArg (fun z => wp μ d 146 143 [l0] (.int z :: st) h Q) (show (Int8.ofInt (112)).toInt32 = (nI 112) by decide))
set_option maxRecDepth 20000 in
theorem r146_143 (μ : Bool) (d : Nat) (l0 : Value) (y0 y1 : Int32) (y2 : Nat) (st : List Value) (h : Hp) (Q : Po) : wp μ d 146 143 [l0] (.int y0 :: .int y1 :: .ref y2 :: st) h Q = ((((kdm μ h y2).1 = 22 ∨ (kdm μ h y2).1 = 23) ∧ vp_in y1 (kdm μ h y2).2) ∧ wp μ d 146 144 [l0] st (sI h y2 y1.toNatClampNeg (if (kdm μ h y2).1 = 22 then vp_nar .byte y0 else vp_nar .boolean y0)) Q) := wp_ck _ rfl
set_option maxRecDepth 20000 in
theorem r146_144 (μ : Bool) (d : Nat) (l0 : Value) (y0 : Nat) (st : List Value) (h : Hp) (Q : Po) : wp μ d 146 144 [l0] (.ref y0 :: st) h Q = wp μ d 146 145 [l0] (.ref y0 :: .ref y0 :: st) h Q := wp_nx rfl
set_option maxRecDepth 20000 in
theorem r146_145 (μ : Bool) (d : Nat) (l0 : Value) (st : List Value) (h : Hp) (Q : Po) : wp μ d 146 145 [l0] st h Q = wp μ d 146 147 [l0] (.int (nI 18) :: st) h Q := (wp_nx rfl).trans (congrArg (fun z => wp μ d 146 147 [l0] (.int z :: st) h Q) (show (Int8.ofInt (18)).toInt32 = (nI 18) by decide))
set_option maxRecDepth 20000 in
theorem r146_147 (μ : Bool) (d : Nat) (l0 : Value) (st : List Value) (h : Hp) (Q : Po) : wp μ d 146 147 [l0] st h Q = wp μ d 146 149 [l0] (.int (nI 32) :: st) h Q := (wp_nx rfl).trans (congrArg (fun z => wp μ d 146 149 [l0] (.int z :: st) h Q) (show (Int8.ofInt (32)).toInt32 = (nI 32) by decide))
set_option maxRecDepth 20000 in
theorem r146_149 (μ : Bool) (d : Nat) (l0 : Value) (y0 y1 : Int32) (y2 : Nat) (st : List Value) (h : Hp) (Q : Po) : wp μ d 146 149 [l0] (.int y0 :: .int y1 :: .ref y2 :: st) h Q = ((((kdm μ h y2).1 = 22 ∨ (kdm μ h y2).1 = 23) ∧ vp_in y1 (kdm μ h y2).2) ∧ wp μ d 146 150 [l0] st (sI h y2 y1.toNatClampNeg (if (kdm μ h y2).1 = 22 then vp_nar .byte y0 else vp_nar .boolean y0)) Q) := wp_ck _ rfl
set_option maxRecDepth 20000 in
theorem r146_150 (μ : Bool) (d : Nat) (l0 : Value) (y0 : Nat) (st : List Value) (h : Hp) (Q : Po) : wp μ d 146 150 [l0] (.ref y0 :: st) h Q = wp μ d 146 151 [l0] (.ref y0 :: .ref y0 :: st) h Q := wp_nx rfl
set_option maxRecDepth 20000 in
theorem r146_151 (μ : Bool) (d : Nat) (l0 : Value) (st : List Value) (h : Hp) (Q : Po) : wp μ d 146 151 [l0] st h Q = wp μ d 146 153 [l0] (.int (nI 19) :: st) h Q := (wp_nx rfl).trans (congrArg (fun z => wp μ d 146 153 [l0] (.int z :: st) h Q) (show (Int8.ofInt (19)).toInt32 = (nI 19) by decide))
set_option maxRecDepth 20000 in
theorem r146_153 (μ : Bool) (d : Nat) (l0 : Value) (st : List Value) (h : Hp) (Q : Po) : wp μ d 146 153 [l0] st h Q = wp μ d 146 155 [l0] (.int (nI 105) :: st) h Q := (wp_nx rfl).trans (congrArg (fun z => wp μ d 146 155 [l0] (.int z :: st) h Q) (show (Int8.ofInt (105)).toInt32 = (nI 105) by decide))
set_option maxRecDepth 20000 in
theorem r146_155 (μ : Bool) (d : Nat) (l0 : Value) (y0 y1 : Int32) (y2 : Nat) (st : List Value) (h : Hp) (Q : Po) : wp μ d 146 155 [l0] (.int y0 :: .int y1 :: .ref y2 :: st) h Q = ((((kdm μ h y2).1 = 22 ∨ (kdm μ h y2).1 = 23) ∧ vp_in y1 (kdm μ h y2).2) ∧ wp μ d 146 156 [l0] st (sI h y2 y1.toNatClampNeg (if (kdm μ h y2).1 = 22 then vp_nar .byte y0 else vp_nar .boolean y0)) Q) := wp_ck _ rfl
set_option maxRecDepth 20000 in
theorem r146_156 (μ : Bool) (d : Nat) (l0 : Value) (y0 : Nat) (st : List Value) (h : Hp) (Q : Po) : wp μ d 146 156 [l0] (.ref y0 :: st) h Q = wp μ d 146 157 [l0] (.ref y0 :: .ref y0 :: st) h Q := wp_nx rfl
set_option maxRecDepth 20000 in
theorem r146_157 (μ : Bool) (d : Nat) (l0 : Value) (st : List Value) (h : Hp) (Q : Po) : wp μ d 146 157 [l0] st h Q = wp μ d 146 159 [l0] (.int (nI 20) :: st) h Q := (wp_nx rfl).trans (congrArg (fun z => wp μ d 146 159 [l0] (.int z :: st) h Q) (show (Int8.ofInt (20)).toInt32 = (nI 20) by decide))
set_option maxRecDepth 20000 in
theorem r146_159 (μ : Bool) (d : Nat) (l0 : Value) (st : List Value) (h : Hp) (Q : Po) : wp μ d 146 159 [l0] st h Q = wp μ d 146 161 [l0] (.int (nI 102) :: st) h Q := (wp_nx rfl).trans (congrArg (fun z => wp μ d 146 161 [l0] (.int z :: st) h Q) (show (Int8.ofInt (102)).toInt32 = (nI 102) by decide))
set_option maxRecDepth 20000 in
theorem r146_161 (μ : Bool) (d : Nat) (l0 : Value) (y0 y1 : Int32) (y2 : Nat) (st : List Value) (h : Hp) (Q : Po) : wp μ d 146 161 [l0] (.int y0 :: .int y1 :: .ref y2 :: st) h Q = ((((kdm μ h y2).1 = 22 ∨ (kdm μ h y2).1 = 23) ∧ vp_in y1 (kdm μ h y2).2) ∧ wp μ d 146 162 [l0] st (sI h y2 y1.toNatClampNeg (if (kdm μ h y2).1 = 22 then vp_nar .byte y0 else vp_nar .boolean y0)) Q) := wp_ck _ rfl
set_option maxRecDepth 20000 in
theorem r146_162 (μ : Bool) (d : Nat) (l0 : Value) (y0 : Nat) (st : List Value) (h : Hp) (Q : Po) : wp μ d 146 162 [l0] (.ref y0 :: st) h Q = wp μ d 146 163 [l0] (.ref y0 :: .ref y0 :: st) h Q := wp_nx rfl
set_option maxRecDepth 20000 in
theorem r146_163 (μ : Bool) (d : Nat) (l0 : Value) (st : List Value) (h : Hp) (Q : Po) : wp μ d 146 163 [l0] st h Q = wp μ d 146 165 [l0] (.int (nI 21) :: st) h Q := (wp_nx rfl).trans (congrArg (fun z => wp μ d 146 165 [l0] (.int z :: st) h Q) (show (Int8.ofInt (21)).toInt32 = (nI 21) by decide))
set_option maxRecDepth 20000 in
theorem r146_165 (μ : Bool) (d : Nat) (l0 : Value) (st : List Value) (h : Hp) (Q : Po) : wp μ d 146 165 [l0] st h Q = wp μ d 146 167 [l0] (.int (nI 32) :: st) h Q := (wp_nx rfl).trans (congrArg (fun z => wp μ d 146 167 [l0] (.int z :: st) h Q) (show (Int8.ofInt (32)).toInt32 = (nI 32) by decide))
set_option maxRecDepth 20000 in
theorem r146_167 (μ : Bool) (d : Nat) (l0 : Value) (y0 y1 : Int32) (y2 : Nat) (st : List Value) (h : Hp) (Q : Po) : wp μ d 146 167 [l0] (.int y0 :: .int y1 :: .ref y2 :: st) h Q = ((((kdm μ h y2).1 = 22 ∨ (kdm μ h y2).1 = 23) ∧ vp_in y1 (kdm μ h y2).2) ∧ wp μ d 146 168 [l0] st (sI h y2 y1.toNatClampNeg (if (kdm μ h y2).1 = 22 then vp_nar .byte y0 else vp_nar .boolean y0)) Q) := wp_ck _ rfl
set_option maxRecDepth 20000 in
theorem r146_168 (μ : Bool) (d : Nat) (l0 : Value) (y0 : Nat) (st : List Value) (h : Hp) (Q : Po) : wp μ d 146 168 [l0] (.ref y0 :: st) h Q = wp μ d 146 169 [l0] (.ref y0 :: .ref y0 :: st) h Q := wp_nx rfl
set_option maxRecDepth 20000 in
theorem r146_169 (μ : Bool) (d : Nat) (l0 : Value) (st : List Value) (h : Hp) (Q : Po) : wp μ d 146 169 [l0] st h Q = wp μ d 146 171 [l0] (.int (nI 22) :: st) h Q := (wp_nx rfl).trans (congrArg (fun z => wp μ d 146 171 [l0] (.int z :: st) h Q) (show (Int8.ofInt (22)).toInt32 = (nI 22) by decide))
set_option maxRecDepth 20000 in
theorem r146_171 (μ : Bool) (d : Nat) (l0 : Value) (st : List Value) (h : Hp) (Q : Po) : wp μ d 146 171 [l0] st h Q = wp μ d 146 173 [l0] (.int (nI 111) :: st) h Q := (wp_nx rfl).trans (congrArg (fun z => wp μ d 146 173 [l0] (.int z :: st) h Q) (show (Int8.ofInt (111)).toInt32 = (nI 111) by decide))
set_option maxRecDepth 20000 in
theorem r146_173 (μ : Bool) (d : Nat) (l0 : Value) (y0 y1 : Int32) (y2 : Nat) (st : List Value) (h : Hp) (Q : Po) : wp μ d 146 173 [l0] (.int y0 :: .int y1 :: .ref y2 :: st) h Q = ((((kdm μ h y2).1 = 22 ∨ (kdm μ h y2).1 = 23) ∧ vp_in y1 (kdm μ h y2).2) ∧ wp μ d 146 174 [l0] st (sI h y2 y1.toNatClampNeg (if (kdm μ h y2).1 = 22 then vp_nar .byte y0 else vp_nar .boolean y0)) Q) := wp_ck _ rfl
set_option maxRecDepth 20000 in
theorem r146_174 (μ : Bool) (d : Nat) (l0 : Value) (y0 : Nat) (st : List Value) (h : Hp) (Q : Po) : wp μ d 146 174 [l0] (.ref y0 :: st) h Q = wp μ d 146 175 [l0] (.ref y0 :: .ref y0 :: st) h Q := wp_nx rfl
set_option maxRecDepth 20000 in
theorem r146_175 (μ : Bool) (d : Nat) (l0 : Value) (st : List Value) (h : Hp) (Q : Po) : wp μ d 146 175 [l0] st h Q = wp μ d 146 177 [l0] (.int (nI 23) :: st) h Q := (wp_nx rfl).trans (congrArg (fun z => wp μ d 146 177 [l0] (.int z :: st) h Q) (show (Int8.ofInt (23)).toInt32 = (nI 23) by decide))
set_option maxRecDepth 20000 in
theorem r146_177 (μ : Bool) (d : Nat) (l0 : Value) (st : List Value) (h : Hp) (Q : Po) : wp μ d 146 177 [l0] st h Q = wp μ d 146 179 [l0] (.int (nI 114) :: st) h Q := (wp_nx rfl).trans (congrArg (fun z => wp μ d 146 179 [l0] (.int z :: st) h Q) (show (Int8.ofInt (114)).toInt32 = (nI 114) by decide))
set_option maxRecDepth 20000 in
theorem r146_179 (μ : Bool) (d : Nat) (l0 : Value) (y0 y1 : Int32) (y2 : Nat) (st : List Value) (h : Hp) (Q : Po) : wp μ d 146 179 [l0] (.int y0 :: .int y1 :: .ref y2 :: st) h Q = ((((kdm μ h y2).1 = 22 ∨ (kdm μ h y2).1 = 23) ∧ vp_in y1 (kdm μ h y2).2) ∧ wp μ d 146 180 [l0] st (sI h y2 y1.toNatClampNeg (if (kdm μ h y2).1 = 22 then vp_nar .byte y0 else vp_nar .boolean y0)) Q) := wp_ck _ rfl
set_option maxRecDepth 20000 in
theorem r146_180 (μ : Bool) (d : Nat) (l0 : Value) (y0 : Nat) (st : List Value) (h : Hp) (Q : Po) : wp μ d 146 180 [l0] (.ref y0 :: st) h Q = wp μ d 146 181 [l0] (.ref y0 :: .ref y0 :: st) h Q := wp_nx rfl
set_option maxRecDepth 20000 in
theorem r146_181 (μ : Bool) (d : Nat) (l0 : Value) (st : List Value) (h : Hp) (Q : Po) : wp μ d 146 181 [l0] st h Q = wp μ d 146 183 [l0] (.int (nI 24) :: st) h Q := (wp_nx rfl).trans (congrArg (fun z => wp μ d 146 183 [l0] (.int z :: st) h Q) (show (Int8.ofInt (24)).toInt32 = (nI 24) by decide))
set_option maxRecDepth 20000 in
theorem r146_183 (μ : Bool) (d : Nat) (l0 : Value) (st : List Value) (h : Hp) (Q : Po) : wp μ d 146 183 [l0] st h Q = wp μ d 146 185 [l0] (.int (nI 32) :: st) h Q := (wp_nx rfl).trans (congrArg (fun z => wp μ d 146 185 [l0] (.int z :: st) h Q) (show (Int8.ofInt (32)).toInt32 = (nI 32) by decide))
set_option maxRecDepth 20000 in
theorem r146_185 (μ : Bool) (d : Nat) (l0 : Value) (y0 y1 : Int32) (y2 : Nat) (st : List Value) (h : Hp) (Q : Po) : wp μ d 146 185 [l0] (.int y0 :: .int y1 :: .ref y2 :: st) h Q = ((((kdm μ h y2).1 = 22 ∨ (kdm μ h y2).1 = 23) ∧ vp_in y1 (kdm μ h y2).2) ∧ wp μ d 146 186 [l0] st (sI h y2 y1.toNatClampNeg (if (kdm μ h y2).1 = 22 then vp_nar .byte y0 else vp_nar .boolean y0)) Q) := wp_ck _ rfl
set_option maxRecDepth 20000 in
theorem r146_186 (μ : Bool) (d : Nat) (l0 : Value) (y0 : Nat) (st : List Value) (h : Hp) (Q : Po) : wp μ d 146 186 [l0] (.ref y0 :: st) h Q = wp μ d 146 187 [l0] (.ref y0 :: .ref y0 :: st) h Q := wp_nx rfl
set_option maxRecDepth 20000 in
theorem r146_187 (μ : Bool) (d : Nat) (l0 : Value) (st : List Value) (h : Hp) (Q : Po) : wp μ d 146 187 [l0] st h Q = wp μ d 146 189 [l0] (.int (nI 25) :: st) h Q := (wp_nx rfl).trans (congrArg (fun z => wp μ d 146 189 [l0] (.int z :: st) h Q) (show (Int8.ofInt (25)).toInt32 = (nI 25) by decide))
set_option maxRecDepth 20000 in
theorem r146_189 (μ : Bool) (d : Nat) (l0 : Value) (st : List Value) (h : Hp) (Q : Po) : wp μ d 146 189 [l0] st h Q = wp μ d 146 191 [l0] (.int (nI 97) :: st) h Q := (wp_nx rfl).trans (congrArg (fun z => wp μ d 146 191 [l0] (.int z :: st) h Q) (show (Int8.ofInt (97)).toInt32 = (nI 97) by decide))
set_option maxRecDepth 20000 in
theorem r146_191 (μ : Bool) (d : Nat) (l0 : Value) (y0 y1 : Int32) (y2 : Nat) (st : List Value) (h : Hp) (Q : Po) : wp μ d 146 191 [l0] (.int y0 :: .int y1 :: .ref y2 :: st) h Q = ((((kdm μ h y2).1 = 22 ∨ (kdm μ h y2).1 = 23) ∧ vp_in y1 (kdm μ h y2).2) ∧ wp μ d 146 192 [l0] st (sI h y2 y1.toNatClampNeg (if (kdm μ h y2).1 = 22 then vp_nar .byte y0 else vp_nar .boolean y0)) Q) := wp_ck _ rfl
set_option maxRecDepth 20000 in
theorem r146_192 (μ : Bool) (d : Nat) (l0 : Value) (y0 : Nat) (st : List Value) (h : Hp) (Q : Po) : wp μ d 146 192 [l0] (.ref y0 :: st) h Q = wp μ d 146 193 [l0] (.ref y0 :: .ref y0 :: st) h Q := wp_nx rfl
set_option maxRecDepth 20000 in
theorem r146_193 (μ : Bool) (d : Nat) (l0 : Value) (st : List Value) (h : Hp) (Q : Po) : wp μ d 146 193 [l0] st h Q = wp μ d 146 195 [l0] (.int (nI 26) :: st) h Q := (wp_nx rfl).trans (congrArg (fun z => wp μ d 146 195 [l0] (.int z :: st) h Q) (show (Int8.ofInt (26)).toInt32 = (nI 26) by decide))
set_option maxRecDepth 20000 in
theorem r146_195 (μ : Bool) (d : Nat) (l0 : Value) (st : List Value) (h : Hp) (Q : Po) : wp μ d 146 195 [l0] st h Q = wp μ d 146 197 [l0] (.int (nI 110) :: st) h Q := (wp_nx rfl).trans (congrArg (fun z => wp μ d 146 197 [l0] (.int z :: st) h Q) (show (Int8.ofInt (110)).toInt32 = (nI 110) by decide))
set_option maxRecDepth 20000 in
theorem r146_197 (μ : Bool) (d : Nat) (l0 : Value) (y0 y1 : Int32) (y2 : Nat) (st : List Value) (h : Hp) (Q : Po) : wp μ d 146 197 [l0] (.int y0 :: .int y1 :: .ref y2 :: st) h Q = ((((kdm μ h y2).1 = 22 ∨ (kdm μ h y2).1 = 23) ∧ vp_in y1 (kdm μ h y2).2) ∧ wp μ d 146 198 [l0] st (sI h y2 y1.toNatClampNeg (if (kdm μ h y2).1 = 22 then vp_nar .byte y0 else vp_nar .boolean y0)) Q) := wp_ck _ rfl
set_option maxRecDepth 20000 in
theorem r146_198 (μ : Bool) (d : Nat) (l0 : Value) (y0 : Nat) (st : List Value) (h : Hp) (Q : Po) : wp μ d 146 198 [l0] (.ref y0 :: st) h Q = wp μ d 146 199 [l0] (.ref y0 :: .ref y0 :: st) h Q := wp_nx rfl
set_option maxRecDepth 20000 in
theorem r146_199 (μ : Bool) (d : Nat) (l0 : Value) (st : List Value) (h : Hp) (Q : Po) : wp μ d 146 199 [l0] st h Q = wp μ d 146 201 [l0] (.int (nI 27) :: st) h Q := (wp_nx rfl).trans (congrArg (fun z => wp μ d 146 201 [l0] (.int z :: st) h Q) (show (Int8.ofInt (27)).toInt32 = (nI 27) by decide))
set_option maxRecDepth 20000 in
theorem r146_201 (μ : Bool) (d : Nat) (l0 : Value) (st : List Value) (h : Hp) (Q : Po) : wp μ d 146 201 [l0] st h Q = wp μ d 146 203 [l0] (.int (nI 100) :: st) h Q := (wp_nx rfl).trans (congrArg (fun z => wp μ d 146 203 [l0] (.int z :: st) h Q) (show (Int8.ofInt (100)).toInt32 = (nI 100) by decide))
set_option maxRecDepth 20000 in
theorem r146_203 (μ : Bool) (d : Nat) (l0 : Value) (y0 y1 : Int32) (y2 : Nat) (st : List Value) (h : Hp) (Q : Po) : wp μ d 146 203 [l0] (.int y0 :: .int y1 :: .ref y2 :: st) h Q = ((((kdm μ h y2).1 = 22 ∨ (kdm μ h y2).1 = 23) ∧ vp_in y1 (kdm μ h y2).2) ∧ wp μ d 146 204 [l0] st (sI h y2 y1.toNatClampNeg (if (kdm μ h y2).1 = 22 then vp_nar .byte y0 else vp_nar .boolean y0)) Q) := wp_ck _ rfl
set_option maxRecDepth 20000 in
theorem r146_204 (μ : Bool) (d : Nat) (l0 : Value) (y0 : Nat) (st : List Value) (h : Hp) (Q : Po) : wp μ d 146 204 [l0] (.ref y0 :: st) h Q = wp μ d 146 205 [l0] (.ref y0 :: .ref y0 :: st) h Q := wp_nx rfl
set_option maxRecDepth 20000 in
theorem r146_205 (μ : Bool) (d : Nat) (l0 : Value) (st : List Value) (h : Hp) (Q : Po) : wp μ d 146 205 [l0] st h Q = wp μ d 146 207 [l0] (.int (nI 28) :: st) h Q := (wp_nx rfl).trans (congrArg (fun z => wp μ d 146 207 [l0] (.int z :: st) h Q) (show (Int8.ofInt (28)).toInt32 = (nI 28) by decide))
set_option maxRecDepth 20000 in
theorem r146_207 (μ : Bool) (d : Nat) (l0 : Value) (st : List Value) (h : Hp) (Q : Po) : wp μ d 146 207 [l0] st h Q = wp μ d 146 209 [l0] (.int (nI 32) :: st) h Q := (wp_nx rfl).trans (congrArg (fun z => wp μ d 146 209 [l0] (.int z :: st) h Q) (show (Int8.ofInt (32)).toInt32 = (nI 32) by decide))
set_option maxRecDepth 20000 in
theorem r146_209 (μ : Bool) (d : Nat) (l0 : Value) (y0 y1 : Int32) (y2 : Nat) (st : List Value) (h : Hp) (Q : Po) : wp μ d 146 209 [l0] (.int y0 :: .int y1 :: .ref y2 :: st) h Q = ((((kdm μ h y2).1 = 22 ∨ (kdm μ h y2).1 = 23) ∧ vp_in y1 (kdm μ h y2).2) ∧ wp μ d 146 210 [l0] st (sI h y2 y1.toNatClampNeg (if (kdm μ h y2).1 = 22 then vp_nar .byte y0 else vp_nar .boolean y0)) Q) := wp_ck _ rfl
set_option maxRecDepth 20000 in
theorem r146_210 (μ : Bool) (d : Nat) (l0 : Value) (y0 : Nat) (st : List Value) (h : Hp) (Q : Po) : wp μ d 146 210 [l0] (.ref y0 :: st) h Q = wp μ d 146 211 [l0] (.ref y0 :: .ref y0 :: st) h Q := wp_nx rfl
set_option maxRecDepth 20000 in
theorem r146_211 (μ : Bool) (d : Nat) (l0 : Value) (st : List Value) (h : Hp) (Q : Po) : wp μ d 146 211 [l0] st h Q = wp μ d 146 213 [l0] (.int (nI 29) :: st) h Q := (wp_nx rfl).trans (congrArg (fun z => wp μ d 146 213 [l0] (.int z :: st) h Q) (show (Int8.ofInt (29)).toInt32 = (nI 29) by decide))
set_option maxRecDepth 20000 in
theorem r146_213 (μ : Bool) (d : Nat) (l0 : Value) (st : List Value) (h : Hp) (Q : Po) : wp μ d 146 213 [l0] st h Q = wp μ d 146 215 [l0] (.int (nI 110) :: st) h Q := (wp_nx rfl).trans (congrArg (fun z => wp μ d 146 215 [l0] (.int z :: st) h Q) (show (Int8.ofInt (110)).toInt32 = (nI 110) by decide))
set_option maxRecDepth 20000 in
theorem r146_215 (μ : Bool) (d : Nat) (l0 : Value) (y0 y1 : Int32) (y2 : Nat) (st : List Value) (h : Hp) (Q : Po) : wp μ d 146 215 [l0] (.int y0 :: .int y1 :: .ref y2 :: st) h Q = ((((kdm μ h y2).1 = 22 ∨ (kdm μ h y2).1 = 23) ∧ vp_in y1 (kdm μ h y2).2) ∧ wp μ d 146 216 [l0] st (sI h y2 y1.toNatClampNeg (if (kdm μ h y2).1 = 22 then vp_nar .byte y0 else vp_nar .boolean y0)) Q) := wp_ck _ rfl
set_option maxRecDepth 20000 in
theorem r146_216 (μ : Bool) (d : Nat) (l0 : Value) (y0 : Nat) (st : List Value) (h : Hp) (Q : Po) : wp μ d 146 216 [l0] (.ref y0 :: st) h Q = wp μ d 146 217 [l0] (.ref y0 :: .ref y0 :: st) h Q := wp_nx rfl
set_option maxRecDepth 20000 in
theorem r146_217 (μ : Bool) (d : Nat) (l0 : Value) (st : List Value) (h : Hp) (Q : Po) : wp μ d 146 217 [l0] st h Q = wp μ d 146 219 [l0] (.int (nI 30) :: st) h Q := (wp_nx rfl).trans (congrArg (fun z => wp μ d 146 219 [l0] (.int z :: st) h Q) (show (Int8.ofInt (30)).toInt32 = (nI 30) by decide))
set_option maxRecDepth 20000 in
theorem r146_219 (μ : Bool) (d : Nat) (l0 : Value) (st : List Value) (h : Hp) (Q : Po) : wp μ d 146 219 [l0] st h Q = wp μ d 146 221 [l0] (.int (nI 111) :: st) h Q := (wp_nx rfl).trans (congrArg (fun z => wp μ d 146 221 [l0] (.int z :: st) h Q) (show (Int8.ofInt (111)).toInt32 = (nI 111) by decide))
set_option maxRecDepth 20000 in
theorem r146_221 (μ : Bool) (d : Nat) (l0 : Value) (y0 y1 : Int32) (y2 : Nat) (st : List Value) (h : Hp) (Q : Po) : wp μ d 146 221 [l0] (.int y0 :: .int y1 :: .ref y2 :: st) h Q = ((((kdm μ h y2).1 = 22 ∨ (kdm μ h y2).1 = 23) ∧ vp_in y1 (kdm μ h y2).2) ∧ wp μ d 146 222 [l0] st (sI h y2 y1.toNatClampNeg (if (kdm μ h y2).1 = 22 then vp_nar .byte y0 else vp_nar .boolean y0)) Q) := wp_ck _ rfl
set_option maxRecDepth 20000 in
theorem r146_222 (μ : Bool) (d : Nat) (l0 : Value) (y0 : Nat) (st : List Value) (h : Hp) (Q : Po) : wp μ d 146 222 [l0] (.ref y0 :: st) h Q = wp μ d 146 223 [l0] (.ref y0 :: .ref y0 :: st) h Q := wp_nx rfl
set_option maxRecDepth 20000 in
theorem r146_223 (μ : Bool) (d : Nat) (l0 : Value) (st : List Value) (h : Hp) (Q : Po) : wp μ d 146 223 [l0] st h Q = wp μ d 146 225 [l0] (.int (nI 31) :: st) h Q := (wp_nx rfl).trans (congrArg (fun z => wp μ d 146 225 [l0] (.int z :: st) h Q) (show (Int8.ofInt (31)).toInt32 = (nI 31) by decide))
set_option maxRecDepth 20000 in
theorem r146_225 (μ : Bool) (d : Nat) (l0 : Value) (st : List Value) (h : Hp) (Q : Po) : wp μ d 146 225 [l0] st h Q = wp μ d 146 227 [l0] (.int (nI 116) :: st) h Q := (wp_nx rfl).trans (congrArg (fun z => wp μ d 146 227 [l0] (.int z :: st) h Q) (show (Int8.ofInt (116)).toInt32 = (nI 116) by decide))
set_option maxRecDepth 20000 in
theorem r146_227 (μ : Bool) (d : Nat) (l0 : Value) (y0 y1 : Int32) (y2 : Nat) (st : List Value) (h : Hp) (Q : Po) : wp μ d 146 227 [l0] (.int y0 :: .int y1 :: .ref y2 :: st) h Q = ((((kdm μ h y2).1 = 22 ∨ (kdm μ h y2).1 = 23) ∧ vp_in y1 (kdm μ h y2).2) ∧ wp μ d 146 228 [l0] st (sI h y2 y1.toNatClampNeg (if (kdm μ h y2).1 = 22 then vp_nar .byte y0 else vp_nar .boolean y0)) Q) := wp_ck _ rfl
set_option maxRecDepth 20000 in
theorem r146_228 (μ : Bool) (d : Nat) (l0 : Value) (y0 : Nat) (st : List Value) (h : Hp) (Q : Po) : wp μ d 146 228 [l0] (.ref y0 :: st) h Q = wp μ d 146 229 [l0] (.ref y0 :: .ref y0 :: st) h Q := wp_nx rfl
set_option maxRecDepth 20000 in
theorem r146_229 (μ : Bool) (d : Nat) (l0 : Value) (st : List Value) (h : Hp) (Q : Po) : wp μ d 146 229 [l0] st h Q = wp μ d 146 231 [l0] (.int (nI 32) :: st) h Q := (wp_nx rfl).trans (congrArg (fun z => wp μ d 146 231 [l0] (.int z :: st) h Q) (show (Int8.ofInt (32)).toInt32 = (nI 32) by decide))
set_option maxRecDepth 20000 in
theorem r146_231 (μ : Bool) (d : Nat) (l0 : Value) (st : List Value) (h : Hp) (Q : Po) : wp μ d 146 231 [l0] st h Q = wp μ d 146 233 [l0] (.int (nI 32) :: st) h Q := (wp_nx rfl).trans (congrArg (fun z => wp μ d 146 233 [l0] (.int z :: st) h Q) (show (Int8.ofInt (32)).toInt32 = (nI 32) by decide))
set_option maxRecDepth 20000 in
theorem r146_233 (μ : Bool) (d : Nat) (l0 : Value) (y0 y1 : Int32) (y2 : Nat) (st : List Value) (h : Hp) (Q : Po) : wp μ d 146 233 [l0] (.int y0 :: .int y1 :: .ref y2 :: st) h Q = ((((kdm μ h y2).1 = 22 ∨ (kdm μ h y2).1 = 23) ∧ vp_in y1 (kdm μ h y2).2) ∧ wp μ d 146 234 [l0] st (sI h y2 y1.toNatClampNeg (if (kdm μ h y2).1 = 22 then vp_nar .byte y0 else vp_nar .boolean y0)) Q) := wp_ck _ rfl
set_option maxRecDepth 20000 in
theorem r146_234 (μ : Bool) (d : Nat) (l0 : Value) (y0 : Nat) (st : List Value) (h : Hp) (Q : Po) : wp μ d 146 234 [l0] (.ref y0 :: st) h Q = wp μ d 146 235 [l0] (.ref y0 :: .ref y0 :: st) h Q := wp_nx rfl
set_option maxRecDepth 20000 in
theorem r146_235 (μ : Bool) (d : Nat) (l0 : Value) (st : List Value) (h : Hp) (Q : Po) : wp μ d 146 235 [l0] st h Q = wp μ d 146 237 [l0] (.int (nI 33) :: st) h Q := (wp_nx rfl).trans (congrArg (fun z => wp μ d 146 237 [l0] (.int z :: st) h Q) (show (Int8.ofInt (33)).toInt32 = (nI 33) by decide))
set_option maxRecDepth 20000 in
theorem r146_237 (μ : Bool) (d : Nat) (l0 : Value) (st : List Value) (h : Hp) (Q : Po) : wp μ d 146 237 [l0] st h Q = wp μ d 146 239 [l0] (.int (nI 119) :: st) h Q := (wp_nx rfl).trans (congrArg (fun z => wp μ d 146 239 [l0] (.int z :: st) h Q) (show (Int8.ofInt (119)).toInt32 = (nI 119) by decide))
set_option maxRecDepth 20000 in
theorem r146_239 (μ : Bool) (d : Nat) (l0 : Value) (y0 y1 : Int32) (y2 : Nat) (st : List Value) (h : Hp) (Q : Po) : wp μ d 146 239 [l0] (.int y0 :: .int y1 :: .ref y2 :: st) h Q = ((((kdm μ h y2).1 = 22 ∨ (kdm μ h y2).1 = 23) ∧ vp_in y1 (kdm μ h y2).2) ∧ wp μ d 146 240 [l0] st (sI h y2 y1.toNatClampNeg (if (kdm μ h y2).1 = 22 then vp_nar .byte y0 else vp_nar .boolean y0)) Q) := wp_ck _ rfl
set_option maxRecDepth 20000 in
theorem r146_240 (μ : Bool) (d : Nat) (l0 : Value) (y0 : Nat) (st : List Value) (h : Hp) (Q : Po) : wp μ d 146 240 [l0] (.ref y0 :: st) h Q = wp μ d 146 241 [l0] (.ref y0 :: .ref y0 :: st) h Q := wp_nx rfl
set_option maxRecDepth 20000 in
theorem r146_241 (μ : Bool) (d : Nat) (l0 : Value) (st : List Value) (h : Hp) (Q : Po) : wp μ d 146 241 [l0] st h Q = wp μ d 146 243 [l0] (.int (nI 34) :: st) h Q := (wp_nx rfl).trans (congrArg (fun z => wp μ d 146 243 [l0] (.int z :: st) h Q) (show (Int8.ofInt (34)).toInt32 = (nI 34) by decide))
set_option maxRecDepth 20000 in
theorem r146_243 (μ : Bool) (d : Nat) (l0 : Value) (st : List Value) (h : Hp) (Q : Po) : wp μ d 146 243 [l0] st h Q = wp μ d 146 245 [l0] (.int (nI 97) :: st) h Q := (wp_nx rfl).trans (congrArg (fun z => wp μ d 146 245 [l0] (.int z :: st) h Q) (show (Int8.ofInt (97)).toInt32 = (nI 97) by decide))
set_option maxRecDepth 20000 in
theorem r146_245 (μ : Bool) (d : Nat) (l0 : Value) (y0 y1 : Int32) (y2 : Nat) (st : List Value) (h : Hp) (Q : Po) : wp μ d 146 245 [l0] (.int y0 :: .int y1 :: .ref y2 :: st) h Q = ((((kdm μ h y2).1 = 22 ∨ (kdm μ h y2).1 = 23) ∧ vp_in y1 (kdm μ h y2).2) ∧ wp μ d 146 246 [l0] st (sI h y2 y1.toNatClampNeg (if (kdm μ h y2).1 = 22 then vp_nar .byte y0 else vp_nar .boolean y0)) Q) := wp_ck _ rfl
set_option maxRecDepth 20000 in
theorem r146_246 (μ : Bool) (d : Nat) (l0 : Value) (y0 : Nat) (st : List Value) (h : Hp) (Q : Po) : wp μ d 146 246 [l0] (.ref y0 :: st) h Q = wp μ d 146 247 [l0] (.ref y0 :: .ref y0 :: st) h Q := wp_nx rfl
set_option maxRecDepth 20000 in
theorem r146_247 (μ : Bool) (d : Nat) (l0 : Value) (st : List Value) (h : Hp) (Q : Po) : wp μ d 146 247 [l0] st h Q = wp μ d 146 249 [l0] (.int (nI 35) :: st) h Q := (wp_nx rfl).trans (congrArg (fun z => wp μ d 146 249 [l0] (.int z :: st) h Q) (show (Int8.ofInt (35)).toInt32 = (nI 35) by decide))
set_option maxRecDepth 20000 in
theorem r146_249 (μ : Bool) (d : Nat) (l0 : Value) (st : List Value) (h : Hp) (Q : Po) : wp μ d 146 249 [l0] st h Q = wp μ d 146 251 [l0] (.int (nI 114) :: st) h Q := (wp_nx rfl).trans (congrArg (fun z => wp μ d 146 251 [l0] (.int z :: st) h Q) (show (Int8.ofInt (114)).toInt32 = (nI 114) by decide))
set_option maxRecDepth 20000 in
theorem r146_251 (μ : Bool) (d : Nat) (l0 : Value) (y0 y1 : Int32) (y2 : Nat) (st : List Value) (h : Hp) (Q : Po) : wp μ d 146 251 [l0] (.int y0 :: .int y1 :: .ref y2 :: st) h Q = ((((kdm μ h y2).1 = 22 ∨ (kdm μ h y2).1 = 23) ∧ vp_in y1 (kdm μ h y2).2) ∧ wp μ d 146 252 [l0] st (sI h y2 y1.toNatClampNeg (if (kdm μ h y2).1 = 22 then vp_nar .byte y0 else vp_nar .boolean y0)) Q) := wp_ck _ rfl
set_option maxRecDepth 20000 in
theorem r146_252 (μ : Bool) (d : Nat) (l0 : Value) (y0 : Nat) (st : List Value) (h : Hp) (Q : Po) : wp μ d 146 252 [l0] (.ref y0 :: st) h Q = wp μ d 146 253 [l0] (.ref y0 :: .ref y0 :: st) h Q := wp_nx rfl
set_option maxRecDepth 20000 in
theorem r146_253 (μ : Bool) (d : Nat) (l0 : Value) (st : List Value) (h : Hp) (Q : Po) : wp μ d 146 253 [l0] st h Q = wp μ d 146 255 [l0] (.int (nI 36) :: st) h Q := (wp_nx rfl).trans (congrArg (fun z => wp μ d 146 255 [l0] (.int z :: st) h Q) (show (Int8.ofInt (36)).toInt32 = (nI 36) by decide))
set_option maxRecDepth 20000 in
theorem r146_255 (μ : Bool) (d : Nat) (l0 : Value) (st : List Value) (h : Hp) (Q : Po) : wp μ d 146 255 [l0] st h Q = wp μ d 146 257 [l0] (.int (nI 109) :: st) h Q := (wp_nx rfl).trans (congrArg (fun z => wp μ d 146 257 [l0] (.int z :: st) h Q) (show (Int8.ofInt (109)).toInt32 = (nI 109) by decide))
set_option maxRecDepth 20000 in
theorem r146_257 (μ : Bool) (d : Nat) (l0 : Value) (y0 y1 : Int32) (y2 : Nat) (st : List Value) (h : Hp) (Q : Po) : wp μ d 146 257 [l0] (.int y0 :: .int y1 :: .ref y2 :: st) h Q = ((((kdm μ h y2).1 = 22 ∨ (kdm μ h y2).1 = 23) ∧ vp_in y1 (kdm μ h y2).2) ∧ wp μ d 146 258 [l0] st (sI h y2 y1.toNatClampNeg (if (kdm μ h y2).1 = 22 then vp_nar .byte y0 else vp_nar .boolean y0)) Q) := wp_ck _ rfl
set_option maxRecDepth 20000 in
theorem r146_258 (μ : Bool) (d : Nat) (l0 : Value) (y0 : Nat) (st : List Value) (h : Hp) (Q : Po) : wp μ d 146 258 [l0] (.ref y0 :: st) h Q = wp μ d 146 259 [l0] (.ref y0 :: .ref y0 :: st) h Q := wp_nx rfl
set_option maxRecDepth 20000 in
theorem r146_259 (μ : Bool) (d : Nat) (l0 : Value) (st : List Value) (h : Hp) (Q : Po) : wp μ d 146 259 [l0] st h Q = wp μ d 146 261 [l0] (.int (nI 37) :: st) h Q := (wp_nx rfl).trans (congrArg (fun z => wp μ d 146 261 [l0] (.int z :: st) h Q) (show (Int8.ofInt (37)).toInt32 = (nI 37) by decide))
set_option maxRecDepth 20000 in
theorem r146_261 (μ : Bool) (d : Nat) (l0 : Value) (st : List Value) (h : Hp) (Q : Po) : wp μ d 146 261 [l0] st h Q = wp μ d 146 263 [l0] (.int (nI 116) :: st) h Q := (wp_nx rfl).trans (congrArg (fun z => wp μ d 146 263 [l0] (.int z :: st) h Q) (show (Int8.ofInt (116)).toInt32 = (nI 116) by decide))
set_option maxRecDepth 20000 in
theorem r146_263 (μ : Bool) (d : Nat) (l0 : Value) (y0 y1 : Int32) (y2 : Nat) (st : List Value) (h : Hp) (Q : Po) : wp μ d 146 263 [l0] (.int y0 :: .int y1 :: .ref y2 :: st) h Q = ((((kdm μ h y2).1 = 22 ∨ (kdm μ h y2).1 = 23) ∧ vp_in y1 (kdm μ h y2).2) ∧ wp μ d 146 264 [l0] st (sI h y2 y1.toNatClampNeg (if (kdm μ h y2).1 = 22 then vp_nar .byte y0 else vp_nar .boolean y0)) Q) := wp_ck _ rfl
set_option maxRecDepth 20000 in
theorem r146_264 (μ : Bool) (d : Nat) (l0 : Value) (y0 : Nat) (st : List Value) (h : Hp) (Q : Po) : wp μ d 146 264 [l0] (.ref y0 :: st) h Q = wp μ d 146 265 [l0] (.ref y0 :: .ref y0 :: st) h Q := wp_nx rfl
set_option maxRecDepth 20000 in
theorem r146_265 (μ : Bool) (d : Nat) (l0 : Value) (st : List Value) (h : Hp) (Q : Po) : wp μ d 146 265 [l0] st h Q = wp μ d 146 267 [l0] (.int (nI 38) :: st) h Q := (wp_nx rfl).trans (congrArg (fun z => wp μ d 146 267 [l0] (.int z :: st) h Q) (show (Int8.ofInt (38)).toInt32 = (nI 38) by decide))
set_option maxRecDepth 20000 in
theorem r146_267 (μ : Bool) (d : Nat) (l0 : Value) (st : List Value) (h : Hp) (Q : Po) : wp μ d 146 267 [l0] st h Q = wp μ d 146 269 [l0] (.int (nI 104) :: st) h Q := (wp_nx rfl).trans (congrArg (fun z => wp μ d 146 269 [l0] (.int z :: st) h Q) (show (Int8.ofInt (104)).toInt32 = (nI 104) by decide))
set_option maxRecDepth 20000 in
theorem r146_269 (μ : Bool) (d : Nat) (l0 : Value) (y0 y1 : Int32) (y2 : Nat) (st : List Value) (h : Hp) (Q : Po) : wp μ d 146 269 [l0] (.int y0 :: .int y1 :: .ref y2 :: st) h Q = ((((kdm μ h y2).1 = 22 ∨ (kdm μ h y2).1 = 23) ∧ vp_in y1 (kdm μ h y2).2) ∧ wp μ d 146 270 [l0] st (sI h y2 y1.toNatClampNeg (if (kdm μ h y2).1 = 22 then vp_nar .byte y0 else vp_nar .boolean y0)) Q) := wp_ck _ rfl
set_option maxRecDepth 20000 in
theorem r146_270 (μ : Bool) (d : Nat) (l0 : Value) (y0 : Nat) (st : List Value) (h : Hp) (Q : Po) : wp μ d 146 270 [l0] (.ref y0 :: st) h Q = wp μ d 146 271 [l0] (.ref y0 :: .ref y0 :: st) h Q := wp_nx rfl
set_option maxRecDepth 20000 in
theorem r146_271 (μ : Bool) (d : Nat) (l0 : Value) (st : List Value) (h : Hp) (Q : Po) : wp μ d 146 271 [l0] st h Q = wp μ d 146 273 [l0] (.int (nI 39) :: st) h Q := (wp_nx rfl).trans (congrArg (fun z => wp μ d 146 273 [l0] (.int z :: st) h Q) (show (Int8.ofInt (39)).toInt32 = (nI 39) by decide))
set_option maxRecDepth 20000 in
theorem r146_273 (μ : Bool) (d : Nat) (l0 : Value) (st : List Value) (h : Hp) (Q : Po) : wp μ d 146 273 [l0] st h Q = wp μ d 146 275 [l0] (.int (nI 32) :: st) h Q := (wp_nx rfl).trans (congrArg (fun z => wp μ d 146 275 [l0] (.int z :: st) h Q) (show (Int8.ofInt (32)).toInt32 = (nI 32) by decide))
set_option maxRecDepth 20000 in
theorem r146_275 (μ : Bool) (d : Nat) (l0 : Value) (y0 y1 : Int32) (y2 : Nat) (st : List Value) (h : Hp) (Q : Po) : wp μ d 146 275 [l0] (.int y0 :: .int y1 :: .ref y2 :: st) h Q = ((((kdm μ h y2).1 = 22 ∨ (kdm μ h y2).1 = 23) ∧ vp_in y1 (kdm μ h y2).2) ∧ wp μ d 146 276 [l0] st (sI h y2 y1.toNatClampNeg (if (kdm μ h y2).1 = 22 then vp_nar .byte y0 else vp_nar .boolean y0)) Q) := wp_ck _ rfl
set_option maxRecDepth 20000 in
theorem r146_276 (μ : Bool) (d : Nat) (l0 : Value) (y0 : Nat) (st : List Value) (h : Hp) (Q : Po) : wp μ d 146 276 [l0] (.ref y0 :: st) h Q = wp μ d 146 277 [l0] (.ref y0 :: .ref y0 :: st) h Q := wp_nx rfl
set_option maxRecDepth 20000 in
theorem r146_277 (μ : Bool) (d : Nat) (l0 : Value) (st : List Value) (h : Hp) (Q : Po) : wp μ d 146 277 [l0] st h Q = wp μ d 146 279 [l0] (.int (nI 40) :: st) h Q := (wp_nx rfl).trans (congrArg (fun z => wp μ d 146 279 [l0] (.int z :: st) h Q) (show (Int8.ofInt (40)).toInt32 = (nI 40) by decide))
set_option maxRecDepth 20000 in
theorem r146_279 (μ : Bool) (d : Nat) (l0 : Value) (st : List Value) (h : Hp) (Q : Po) : wp μ d 146 279 [l0] st h Q = wp μ d 146 281 [l0] (.int (nI 112) :: st) h Q := (wp_nx rfl).trans (congrArg (fun z => wp μ d 146 281 [l0] (.int z :: st) h Q) (show (Int8.ofInt (112)).toInt32 = (nI 112) by decide))
set_option maxRecDepth 20000 in
theorem r146_281 (μ : Bool) (d : Nat) (l0 : Value) (y0 y1 : Int32) (y2 : Nat) (st : List Value) (h : Hp) (Q : Po) : wp μ d 146 281 [l0] (.int y0 :: .int y1 :: .ref y2 :: st) h Q = ((((kdm μ h y2).1 = 22 ∨ (kdm μ h y2).1 = 23) ∧ vp_in y1 (kdm μ h y2).2) ∧ wp μ d 146 282 [l0] st (sI h y2 y1.toNatClampNeg (if (kdm μ h y2).1 = 22 then vp_nar .byte y0 else vp_nar .boolean y0)) Q) := wp_ck _ rfl
set_option maxRecDepth 20000 in
theorem r146_282 (μ : Bool) (d : Nat) (l0 : Value) (y0 : Nat) (st : List Value) (h : Hp) (Q : Po) : wp μ d 146 282 [l0] (.ref y0 :: st) h Q = wp μ d 146 283 [l0] (.ref y0 :: .ref y0 :: st) h Q := wp_nx rfl
set_option maxRecDepth 20000 in
theorem r146_283 (μ : Bool) (d : Nat) (l0 : Value) (st : List Value) (h : Hp) (Q : Po) : wp μ d 146 283 [l0] st h Q = wp μ d 146 285 [l0] (.int (nI 41) :: st) h Q := (wp_nx rfl).trans (congrArg (fun z => wp μ d 146 285 [l0] (.int z :: st) h Q) (show (Int8.ofInt (41)).toInt32 = (nI 41) by decide))
set_option maxRecDepth 20000 in
theorem r146_285 (μ : Bool) (d : Nat) (l0 : Value) (st : List Value) (h : Hp) (Q : Po) : wp μ d 146 285 [l0] st h Q = wp μ d 146 287 [l0] (.int (nI 114) :: st) h Q := (wp_nx rfl).trans (congrArg (fun z => wp μ d 146 287 [l0] (.int z :: st) h Q) (show (Int8.ofInt (114)).toInt32 = (nI 114) by decide))
set_option maxRecDepth 20000 in
theorem r146_287 (μ : Bool) (d : Nat) (l0 : Value) (y0 y1 : Int32) (y2 : Nat) (st : List Value) (h : Hp) (Q : Po) : wp μ d 146 287 [l0] (.int y0 :: .int y1 :: .ref y2 :: st) h Q = ((((kdm μ h y2).1 = 22 ∨ (kdm μ h y2).1 = 23) ∧ vp_in y1 (kdm μ h y2).2) ∧ wp μ d 146 288 [l0] st (sI h y2 y1.toNatClampNeg (if (kdm μ h y2).1 = 22 then vp_nar .byte y0 else vp_nar .boolean y0)) Q) := wp_ck _ rfl
set_option maxRecDepth 20000 in
theorem r146_288 (μ : Bool) (d : Nat) (l0 : Value) (y0 : Nat) (st : List Value) (h : Hp) (Q : Po) : wp μ d 146 288 [l0] (.ref y0 :: st) h Q = wp μ d 146 289 [l0] (.ref y0 :: .ref y0 :: st) h Q := wp_nx rfl
set_option maxRecDepth 20000 in
theorem r146_289 (μ : Bool) (d : Nat) (l0 : Value) (st : List Value) (h : Hp) (Q : Po) : wp μ d 146 289 [l0] st h Q = wp μ d 146 291 [l0] (.int (nI 42) :: st) h Q := (wp_nx rfl).trans (congrArg (fun z => wp μ d 146 291 [l0] (.int z :: st) h Q) (show (Int8.ofInt (42)).toInt32 = (nI 42) by decide))
set_option maxRecDepth 20000 in
theorem r146_291 (μ : Bool) (d : Nat) (l0 : Value) (st : List Value) (h : Hp) (Q : Po) : wp μ d 146 291 [l0] st h Q = wp μ d 146 293 [l0] (.int (nI 101) :: st) h Q := (wp_nx rfl).trans (congrArg (fun z => wp μ d 146 293 [l0] (.int z :: st) h Q) (show (Int8.ofInt (101)).toInt32 = (nI 101) by decide))
set_option maxRecDepth 20000 in
theorem r146_293 (μ : Bool) (d : Nat) (l0 : Value) (y0 y1 : Int32) (y2 : Nat) (st : List Value) (h : Hp) (Q : Po) : wp μ d 146 293 [l0] (.int y0 :: .int y1 :: .ref y2 :: st) h Q = ((((kdm μ h y2).1 = 22 ∨ (kdm μ h y2).1 = 23) ∧ vp_in y1 (kdm μ h y2).2) ∧ wp μ d 146 294 [l0] st (sI h y2 y1.toNatClampNeg (if (kdm μ h y2).1 = 22 then vp_nar .byte y0 else vp_nar .boolean y0)) Q) := wp_ck _ rfl
set_option maxRecDepth 20000 in
theorem r146_294 (μ : Bool) (d : Nat) (l0 : Value) (y0 : Nat) (st : List Value) (h : Hp) (Q : Po) : wp μ d 146 294 [l0] (.ref y0 :: st) h Q = wp μ d 146 295 [l0] (.ref y0 :: .ref y0 :: st) h Q := wp_nx rfl
set_option maxRecDepth 20000 in
theorem r146_295 (μ : Bool) (d : Nat) (l0 : Value) (st : List Value) (h : Hp) (Q : Po) : wp μ d 146 295 [l0] st h Q = wp μ d 146 297 [l0] (.int (nI 43) :: st) h Q := (wp_nx rfl).trans (congrArg (fun z => wp μ d 146 297 [l0] (.int z :: st) h Q) (show (Int8.ofInt (43)).toInt32 = (nI 43) by decide))
set_option maxRecDepth 20000 in
theorem r146_297 (μ : Bool) (d : Nat) (l0 : Value) (st : List Value) (h : Hp) (Q : Po) : wp μ d 146 297 [l0] st h Q = wp μ d 146 299 [l0] (.int (nI 115) :: st) h Q := (wp_nx rfl).trans (congrArg (fun z => wp μ d 146 299 [l0] (.int z :: st) h Q) (show (Int8.ofInt (115)).toInt32 = (nI 115) by decide))
set_option maxRecDepth 20000 in
theorem r146_299 (μ : Bool) (d : Nat) (l0 : Value) (y0 y1 : Int32) (y2 : Nat) (st : List Value) (h : Hp) (Q : Po) : wp μ d 146 299 [l0] (.int y0 :: .int y1 :: .ref y2 :: st) h Q = ((((kdm μ h y2).1 = 22 ∨ (kdm μ h y2).1 = 23) ∧ vp_in y1 (kdm μ h y2).2) ∧ wp μ d 146 300 [l0] st (sI h y2 y1.toNatClampNeg (if (kdm μ h y2).1 = 22 then vp_nar .byte y0 else vp_nar .boolean y0)) Q) := wp_ck _ rfl
set_option maxRecDepth 20000 in
theorem r146_300 (μ : Bool) (d : Nat) (l0 : Value) (y0 : Nat) (st : List Value) (h : Hp) (Q : Po) : wp μ d 146 300 [l0] (.ref y0 :: st) h Q = wp μ d 146 301 [l0] (.ref y0 :: .ref y0 :: st) h Q := wp_nx rfl
set_option maxRecDepth 20000 in
theorem r146_301 (μ : Bool) (d : Nat) (l0 : Value) (st : List Value) (h : Hp) (Q : Po) : wp μ d 146 301 [l0] st h Q = wp μ d 146 303 [l0] (.int (nI 44) :: st) h Q := (wp_nx rfl).trans (congrArg (fun z => wp μ d 146 303 [l0] (.int z :: st) h Q) (show (Int8.ofInt (44)).toInt32 = (nI 44) by decide))
set_option maxRecDepth 20000 in
theorem r146_303 (μ : Bool) (d : Nat) (l0 : Value) (st : List Value) (h : Hp) (Q : Po) : wp μ d 146 303 [l0] st h Q = wp μ d 146 305 [l0] (.int (nI 115) :: st) h Q := (wp_nx rfl).trans (congrArg (fun z => wp μ d 146 305 [l0] (.int z :: st) h Q) (show (Int8.ofInt (115)).toInt32 = (nI 115) by decide))
set_option maxRecDepth 20000 in
theorem r146_305 (μ : Bool) (d : Nat) (l0 : Value) (y0 y1 : Int32) (y2 : Nat) (st : List Value) (h : Hp) (Q : Po) : wp μ d 146 305 [l0] (.int y0 :: .int y1 :: .ref y2 :: st) h Q = ((((kdm μ h y2).1 = 22 ∨ (kdm μ h y2).1 = 23) ∧ vp_in y1 (kdm μ h y2).2) ∧ wp μ d 146 306 [l0] st (sI h y2 y1.toNatClampNeg (if (kdm μ h y2).1 = 22 then vp_nar .byte y0 else vp_nar .boolean y0)) Q) := wp_ck _ rfl
set_option maxRecDepth 20000 in
theorem r146_306 (μ : Bool) (d : Nat) (l0 : Value) (y0 : Nat) (st : List Value) (h : Hp) (Q : Po) : wp μ d 146 306 [l0] (.ref y0 :: st) h Q = wp μ d 146 307 [l0] (.ref y0 :: .ref y0 :: st) h Q := wp_nx rfl
set_option maxRecDepth 20000 in
theorem r146_307 (μ : Bool) (d : Nat) (l0 : Value) (st : List Value) (h : Hp) (Q : Po) : wp μ d 146 307 [l0] st h Q = wp μ d 146 309 [l0] (.int (nI 45) :: st) h Q := (wp_nx rfl).trans (congrArg (fun z => wp μ d 146 309 [l0] (.int z :: st) h Q) (show (Int8.ofInt (45)).toInt32 = (nI 45) by decide))
set_option maxRecDepth 20000 in
theorem r146_309 (μ : Bool) (d : Nat) (l0 : Value) (st : List Value) (h : Hp) (Q : Po) : wp μ d 146 309 [l0] st h Q = wp μ d 146 311 [l0] (.int (nI 32) :: st) h Q := (wp_nx rfl).trans (congrArg (fun z => wp μ d 146 311 [l0] (.int z :: st) h Q) (show (Int8.ofInt (32)).toInt32 = (nI 32) by decide))
set_option maxRecDepth 20000 in
theorem r146_311 (μ : Bool) (d : Nat) (l0 : Value) (y0 y1 : Int32) (y2 : Nat) (st : List Value) (h : Hp) (Q : Po) : wp μ d 146 311 [l0] (.int y0 :: .int y1 :: .ref y2 :: st) h Q = ((((kdm μ h y2).1 = 22 ∨ (kdm μ h y2).1 = 23) ∧ vp_in y1 (kdm μ h y2).2) ∧ wp μ d 146 312 [l0] st (sI h y2 y1.toNatClampNeg (if (kdm μ h y2).1 = 22 then vp_nar .byte y0 else vp_nar .boolean y0)) Q) := wp_ck _ rfl
set_option maxRecDepth 20000 in
theorem r146_312 (μ : Bool) (d : Nat) (l0 : Value) (y0 : Nat) (st : List Value) (h : Hp) (Q : Po) : wp μ d 146 312 [l0] (.ref y0 :: st) h Q = wp μ d 146 313 [l0] (.ref y0 :: .ref y0 :: st) h Q := wp_nx rfl
set_option maxRecDepth 20000 in
theorem r146_313 (μ : Bool) (d : Nat) (l0 : Value) (st : List Value) (h : Hp) (Q : Po) : wp μ d 146 313 [l0] st h Q = wp μ d 146 315 [l0] (.int (nI 46) :: st) h Q := (wp_nx rfl).trans (congrArg (fun z => wp μ d 146 315 [l0] (.int z :: st) h Q) (show (Int8.ofInt (46)).toInt32 = (nI 46) by decide))
set_option maxRecDepth 20000 in
theorem r146_315 (μ : Bool) (d : Nat) (l0 : Value) (st : List Value) (h : Hp) (Q : Po) : wp μ d 146 315 [l0] st h Q = wp μ d 146 317 [l0] (.int (nI 114) :: st) h Q := (wp_nx rfl).trans (congrArg (fun z => wp μ d 146 317 [l0] (.int z :: st) h Q) (show (Int8.ofInt (114)).toInt32 = (nI 114) by decide))
set_option maxRecDepth 20000 in
theorem r146_317 (μ : Bool) (d : Nat) (l0 : Value) (y0 y1 : Int32) (y2 : Nat) (st : List Value) (h : Hp) (Q : Po) : wp μ d 146 317 [l0] (.int y0 :: .int y1 :: .ref y2 :: st) h Q = ((((kdm μ h y2).1 = 22 ∨ (kdm μ h y2).1 = 23) ∧ vp_in y1 (kdm μ h y2).2) ∧ wp μ d 146 318 [l0] st (sI h y2 y1.toNatClampNeg (if (kdm μ h y2).1 = 22 then vp_nar .byte y0 else vp_nar .boolean y0)) Q) := wp_ck _ rfl
set_option maxRecDepth 20000 in
theorem r146_318 (μ : Bool) (d : Nat) (l0 : Value) (y0 : Nat) (st : List Value) (h : Hp) (Q : Po) : wp μ d 146 318 [l0] (.ref y0 :: st) h Q = wp μ d 146 319 [l0] (.ref y0 :: .ref y0 :: st) h Q := wp_nx rfl
set_option maxRecDepth 20000 in
theorem r146_319 (μ : Bool) (d : Nat) (l0 : Value) (st : List Value) (h : Hp) (Q : Po) : wp μ d 146 319 [l0] st h Q = wp μ d 146 321 [l0] (.int (nI 47) :: st) h Q := (wp_nx rfl).trans (congrArg (fun z => wp μ d 146 321 [l0] (.int z :: st) h Q) (show (Int8.ofInt (47)).toInt32 = (nI 47) by decide))
set_option maxRecDepth 20000 in
theorem r146_321 (μ : Bool) (d : Nat) (l0 : Value) (st : List Value) (h : Hp) (Q : Po) : wp μ d 146 321 [l0] st h Q = wp μ d 146 323 [l0] (.int (nI 105) :: st) h Q := (wp_nx rfl).trans (congrArg (fun z => wp μ d 146 323 [l0] (.int z :: st) h Q) (show (Int8.ofInt (105)).toInt32 = (nI 105) by decide))
set_option maxRecDepth 20000 in
theorem r146_323 (μ : Bool) (d : Nat) (l0 : Value) (y0 y1 : Int32) (y2 : Nat) (st : List Value) (h : Hp) (Q : Po) : wp μ d 146 323 [l0] (.int y0 :: .int y1 :: .ref y2 :: st) h Q = ((((kdm μ h y2).1 = 22 ∨ (kdm μ h y2).1 = 23) ∧ vp_in y1 (kdm μ h y2).2) ∧ wp μ d 146 324 [l0] st (sI h y2 y1.toNatClampNeg (if (kdm μ h y2).1 = 22 then vp_nar .byte y0 else vp_nar .boolean y0)) Q) := wp_ck _ rfl
set_option maxRecDepth 20000 in
theorem r146_324 (μ : Bool) (d : Nat) (l0 : Value) (y0 : Nat) (st : List Value) (h : Hp) (Q : Po) : wp μ d 146 324 [l0] (.ref y0 :: st) h Q = wp μ d 146 325 [l0] (.ref y0 :: .ref y0 :: st) h Q := wp_nx rfl
set_option maxRecDepth 20000 in
theorem r146_325 (μ : Bool) (d : Nat) (l0 : Value) (st : List Value) (h : Hp) (Q : Po) : wp μ d 146 325 [l0] st h Q = wp μ d 146 327 [l0] (.int (nI 48) :: st) h Q := (wp_nx rfl).trans (congrArg (fun z => wp μ d 146 327 [l0] (.int z :: st) h Q) (show (Int8.ofInt (48)).toInt32 = (nI 48) by decide))
set_option maxRecDepth 20000 in
theorem r146_327 (μ : Bool) (d : Nat) (l0 : Value) (st : List Value) (h : Hp) (Q : Po) : wp μ d 146 327 [l0] st h Q = wp μ d 146 329 [l0] (.int (nI 110) :: st) h Q := (wp_nx rfl).trans (congrArg (fun z => wp μ d 146 329 [l0] (.int z :: st) h Q) (show (Int8.ofInt (110)).toInt32 = (nI 110) by decide))
set_option maxRecDepth 20000 in
theorem r146_329 (μ : Bool) (d : Nat) (l0 : Value) (y0 y1 : Int32) (y2 : Nat) (st : List Value) (h : Hp) (Q : Po) : wp μ d 146 329 [l0] (.int y0 :: .int y1 :: .ref y2 :: st) h Q = ((((kdm μ h y2).1 = 22 ∨ (kdm μ h y2).1 = 23) ∧ vp_in y1 (kdm μ h y2).2) ∧ wp μ d 146 330 [l0] st (sI h y2 y1.toNatClampNeg (if (kdm μ h y2).1 = 22 then vp_nar .byte y0 else vp_nar .boolean y0)) Q) := wp_ck _ rfl
set_option maxRecDepth 20000 in
theorem r146_330 (μ : Bool) (d : Nat) (l0 : Value) (y0 : Nat) (st : List Value) (h : Hp) (Q : Po) : wp μ d 146 330 [l0] (.ref y0 :: st) h Q = wp μ d 146 331 [l0] (.ref y0 :: .ref y0 :: st) h Q := wp_nx rfl
set_option maxRecDepth 20000 in
theorem r146_331 (μ : Bool) (d : Nat) (l0 : Value) (st : List Value) (h : Hp) (Q : Po) : wp μ d 146 331 [l0] st h Q = wp μ d 146 333 [l0] (.int (nI 49) :: st) h Q := (wp_nx rfl).trans (congrArg (fun z => wp μ d 146 333 [l0] (.int z :: st) h Q) (show (Int8.ofInt (49)).toInt32 = (nI 49) by decide))
set_option maxRecDepth 20000 in
theorem r146_333 (μ : Bool) (d : Nat) (l0 : Value) (st : List Value) (h : Hp) (Q : Po) : wp μ d 146 333 [l0] st h Q = wp μ d 146 335 [l0] (.int (nI 103) :: st) h Q := (wp_nx rfl).trans (congrArg (fun z => wp μ d 146 335 [l0] (.int z :: st) h Q) (show (Int8.ofInt (103)).toInt32 = (nI 103) by decide))
set_option maxRecDepth 20000 in
theorem r146_335 (μ : Bool) (d : Nat) (l0 : Value) (y0 y1 : Int32) (y2 : Nat) (st : List Value) (h : Hp) (Q : Po) : wp μ d 146 335 [l0] (.int y0 :: .int y1 :: .ref y2 :: st) h Q = ((((kdm μ h y2).1 = 22 ∨ (kdm μ h y2).1 = 23) ∧ vp_in y1 (kdm μ h y2).2) ∧ wp μ d 146 336 [l0] st (sI h y2 y1.toNatClampNeg (if (kdm μ h y2).1 = 22 then vp_nar .byte y0 else vp_nar .boolean y0)) Q) := wp_ck _ rfl
set_option maxRecDepth 20000 in
theorem r146_336 (μ : Bool) (d : Nat) (l0 : Value) (y0 : Nat) (st : List Value) (h : Hp) (Q : Po) : wp μ d 146 336 [l0] (.ref y0 :: st) h Q = wp μ d 146 337 [l0] (.ref y0 :: .ref y0 :: st) h Q := wp_nx rfl
set_option maxRecDepth 20000 in
theorem r146_337 (μ : Bool) (d : Nat) (l0 : Value) (st : List Value) (h : Hp) (Q : Po) : wp μ d 146 337 [l0] st h Q = wp μ d 146 339 [l0] (.int (nI 50) :: st) h Q := (wp_nx rfl).trans (congrArg (fun z => wp μ d 146 339 [l0] (.int z :: st) h Q) (show (Int8.ofInt (50)).toInt32 = (nI 50) by decide))
set_option maxRecDepth 20000 in
theorem r146_339 (μ : Bool) (d : Nat) (l0 : Value) (st : List Value) (h : Hp) (Q : Po) : wp μ d 146 339 [l0] st h Q = wp μ d 146 341 [l0] (.int (nI 32) :: st) h Q := (wp_nx rfl).trans (congrArg (fun z => wp μ d 146 341 [l0] (.int z :: st) h Q) (show (Int8.ofInt (32)).toInt32 = (nI 32) by decide))
set_option maxRecDepth 20000 in
theorem r146_341 (μ : Bool) (d : Nat) (l0 : Value) (y0 y1 : Int32) (y2 : Nat) (st : List Value) (h : Hp) (Q : Po) : wp μ d 146 341 [l0] (.int y0 :: .int y1 :: .ref y2 :: st) h Q = ((((kdm μ h y2).1 = 22 ∨ (kdm μ h y2).1 = 23) ∧ vp_in y1 (kdm μ h y2).2) ∧ wp μ d 146 342 [l0] st (sI h y2 y1.toNatClampNeg (if (kdm μ h y2).1 = 22 then vp_nar .byte y0 else vp_nar .boolean y0)) Q) := wp_ck _ rfl
set_option maxRecDepth 20000 in
theorem r146_342 (μ : Bool) (d : Nat) (l0 : Value) (y0 : Nat) (st : List Value) (h : Hp) (Q : Po) : wp μ d 146 342 [l0] (.ref y0 :: st) h Q = wp μ d 146 343 [l0] (.ref y0 :: .ref y0 :: st) h Q := wp_nx rfl
set_option maxRecDepth 20000 in
theorem r146_343 (μ : Bool) (d : Nat) (l0 : Value) (st : List Value) (h : Hp) (Q : Po) : wp μ d 146 343 [l0] st h Q = wp μ d 146 345 [l0] (.int (nI 51) :: st) h Q := (wp_nx rfl).trans (congrArg (fun z => wp μ d 146 345 [l0] (.int z :: st) h Q) (show (Int8.ofInt (51)).toInt32 = (nI 51) by decide))
set_option maxRecDepth 20000 in
theorem r146_345 (μ : Bool) (d : Nat) (l0 : Value) (st : List Value) (h : Hp) (Q : Po) : wp μ d 146 345 [l0] st h Q = wp μ d 146 347 [l0] (.int (nI 119) :: st) h Q := (wp_nx rfl).trans (congrArg (fun z => wp μ d 146 347 [l0] (.int z :: st) h Q) (show (Int8.ofInt (119)).toInt32 = (nI 119) by decide))
set_option maxRecDepth 20000 in
theorem r146_347 (μ : Bool) (d : Nat) (l0 : Value) (y0 y1 : Int32) (y2 : Nat) (st : List Value) (h : Hp) (Q : Po) : wp μ d 146 347 [l0] (.int y0 :: .int y1 :: .ref y2 :: st) h Q = ((((kdm μ h y2).1 = 22 ∨ (kdm μ h y2).1 = 23) ∧ vp_in y1 (kdm μ h y2).2) ∧ wp μ d 146 348 [l0] st (sI h y2 y1.toNatClampNeg (if (kdm μ h y2).1 = 22 then vp_nar .byte y0 else vp_nar .boolean y0)) Q) := wp_ck _ rfl
set_option maxRecDepth 20000 in
theorem r146_348 (μ : Bool) (d : Nat) (l0 : Value) (y0 : Nat) (st : List Value) (h : Hp) (Q : Po) : wp μ d 146 348 [l0] (.ref y0 :: st) h Q = wp μ d 146 349 [l0] (.ref y0 :: .ref y0 :: st) h Q := wp_nx rfl
set_option maxRecDepth 20000 in
theorem r146_349 (μ : Bool) (d : Nat) (l0 : Value) (st : List Value) (h : Hp) (Q : Po) : wp μ d 146 349 [l0] st h Q = wp μ d 146 351 [l0] (.int (nI 52) :: st) h Q := (wp_nx rfl).trans (congrArg (fun z => wp μ d 146 351 [l0] (.int z :: st) h Q) (show (Int8.ofInt (52)).toInt32 = (nI 52) by decide))
set_option maxRecDepth 20000 in
theorem r146_351 (μ : Bool) (d : Nat) (l0 : Value) (st : List Value) (h : Hp) (Q : Po) : wp μ d 146 351 [l0] st h Q = wp μ d 146 353 [l0] (.int (nI 111) :: st) h Q := (wp_nx rfl).trans (congrArg (fun z => wp μ d 146 353 [l0] (.int z :: st) h Q) (show (Int8.ofInt (111)).toInt32 = (nI 111) by decide))
set_option maxRecDepth 20000 in
theorem r146_353 (μ : Bool) (d : Nat) (l0 : Value) (y0 y1 : Int32) (y2 : Nat) (st : List Value) (h : Hp) (Q : Po) : wp μ d 146 353 [l0] (.int y0 :: .int y1 :: .ref y2 :: st) h Q = ((((kdm μ h y2).1 = 22 ∨ (kdm μ h y2).1 = 23) ∧ vp_in y1 (kdm μ h y2).2) ∧ wp μ d 146 354 [l0] st (sI h y2 y1.toNatClampNeg (if (kdm μ h y2).1 = 22 then vp_nar .byte y0 else vp_nar .boolean y0)) Q) := wp_ck _ rfl
set_option maxRecDepth 20000 in
theorem r146_354 (μ : Bool) (d : Nat) (l0 : Value) (y0 : Nat) (st : List Value) (h : Hp) (Q : Po) : wp μ d 146 354 [l0] (.ref y0 :: st) h Q = wp μ d 146 355 [l0] (.ref y0 :: .ref y0 :: st) h Q := wp_nx rfl
set_option maxRecDepth 20000 in
theorem r146_355 (μ : Bool) (d : Nat) (l0 : Value) (st : List Value) (h : Hp) (Q : Po) : wp μ d 146 355 [l0] st h Q = wp μ d 146 357 [l0] (.int (nI 53) :: st) h Q := (wp_nx rfl).trans (congrArg (fun z => wp μ d 146 357 [l0] (.int z :: st) h Q) (show (Int8.ofInt (53)).toInt32 = (nI 53) by decide))
set_option maxRecDepth 20000 in
theorem r146_357 (μ : Bool) (d : Nat) (l0 : Value) (st : List Value) (h : Hp) (Q : Po) : wp μ d 146 357 [l0] st h Q = wp μ d 146 359 [l0] (.int (nI 114) :: st) h Q := (wp_nx rfl).trans (congrArg (fun z => wp μ d 146 359 [l0] (.int z :: st) h Q) (show (Int8.ofInt (114)).toInt32 = (nI 114) by decide))
set_option maxRecDepth 20000 in
theorem r146_359 (μ : Bool) (d : Nat) (l0 : Value) (y0 y1 : Int32) (y2 : Nat) (st : List Value) (h : Hp) (Q : Po) : wp μ d 146 359 [l0] (.int y0 :: .int y1 :: .ref y2 :: st) h Q = ((((kdm μ h y2).1 = 22 ∨ (kdm μ h y2).1 = 23) ∧ vp_in y1 (kdm μ h y2).2) ∧ wp μ d 146 360 [l0] st (sI h y2 y1.toNatClampNeg (if (kdm μ h y2).1 = 22 then vp_nar .byte y0 else vp_nar .boolean y0)) Q) := wp_ck _ rfl
set_option maxRecDepth 20000 in
theorem r146_360 (μ : Bool) (d : Nat) (l0 : Value) (y0 : Nat) (st : List Value) (h : Hp) (Q : Po) : wp μ d 146 360 [l0] (.ref y0 :: st) h Q = wp μ d 146 361 [l0] (.ref y0 :: .ref y0 :: st) h Q := wp_nx rfl
set_option maxRecDepth 20000 in
theorem r146_361 (μ : Bool) (d : Nat) (l0 : Value) (st : List Value) (h : Hp) (Q : Po) : wp μ d 146 361 [l0] st h Q = wp μ d 146 363 [l0] (.int (nI 54) :: st) h Q := (wp_nx rfl).trans (congrArg (fun z => wp μ d 146 363 [l0] (.int z :: st) h Q) (show (Int8.ofInt (54)).toInt32 = (nI 54) by decide))
set_option maxRecDepth 20000 in
theorem r146_363 (μ : Bool) (d : Nat) (l0 : Value) (st : List Value) (h : Hp) (Q : Po) : wp μ d 146 363 [l0] st h Q = wp μ d 146 365 [l0] (.int (nI 115) :: st) h Q := (wp_nx rfl).trans (congrArg (fun z => wp μ d 146 365 [l0] (.int z :: st) h Q) (show (Int8.ofInt (115)).toInt32 = (nI 115) by decide))
set_option maxRecDepth 20000 in
theorem r146_365 (μ : Bool) (d : Nat) (l0 : Value) (y0 y1 : Int32) (y2 : Nat) (st : List Value) (h : Hp) (Q : Po) : wp μ d 146 365 [l0] (.int y0 :: .int y1 :: .ref y2 :: st) h Q = ((((kdm μ h y2).1 = 22 ∨ (kdm μ h y2).1 = 23) ∧ vp_in y1 (kdm μ h y2).2) ∧ wp μ d 146 366 [l0] st (sI h y2 y1.toNatClampNeg (if (kdm μ h y2).1 = 22 then vp_nar .byte y0 else vp_nar .boolean y0)) Q) := wp_ck _ rfl
set_option maxRecDepth 20000 in
theorem r146_366 (μ : Bool) (d : Nat) (l0 : Value) (y0 : Nat) (st : List Value) (h : Hp) (Q : Po) : wp μ d 146 366 [l0] (.ref y0 :: st) h Q = wp μ d 146 367 [l0] (.ref y0 :: .ref y0 :: st) h Q := wp_nx rfl
set_option maxRecDepth 20000 in
theorem r146_367 (μ : Bool) (d : Nat) (l0 : Value) (st : List Value) (h : Hp) (Q : Po) : wp μ d 146 367 [l0] st h Q = wp μ d 146 369 [l0] (.int (nI 55) :: st) h Q := (wp_nx rfl).trans (congrArg (fun z => wp μ d 146 369 [l0] (.int z :: st) h Q) (show (Int8.ofInt (55)).toInt32 = (nI 55) by decide))
set_option maxRecDepth 20000 in
theorem r146_369 (μ : Bool) (d : Nat) (l0 : Value) (st : List Value) (h : Hp) (Q : Po) : wp μ d 146 369 [l0] st h Q = wp μ d 146 371 [l0] (.int (nI 116) :: st) h Q := (wp_nx rfl).trans (congrArg (fun z => wp μ d 146 371 [l0] (.int z :: st) h Q) (show (Int8.ofInt (116)).toInt32 = (nI 116) by decide))
set_option maxRecDepth 20000 in
theorem r146_371 (μ : Bool) (d : Nat) (l0 : Value) (y0 y1 : Int32) (y2 : Nat) (st : List Value) (h : Hp) (Q : Po) : wp μ d 146 371 [l0] (.int y0 :: .int y1 :: .ref y2 :: st) h Q = ((((kdm μ h y2).1 = 22 ∨ (kdm μ h y2).1 = 23) ∧ vp_in y1 (kdm μ h y2).2) ∧ wp μ d 146 372 [l0] st (sI h y2 y1.toNatClampNeg (if (kdm μ h y2).1 = 22 then vp_nar .byte y0 else vp_nar .boolean y0)) Q) := wp_ck _ rfl
set_option maxRecDepth 20000 in
theorem r146_372 (μ : Bool) (d : Nat) (l0 : Value) (y0 : Nat) (st : List Value) (h : Hp) (Q : Po) : wp μ d 146 372 [l0] (.ref y0 :: st) h Q = wp μ d 146 373 [l0] (.ref y0 :: .ref y0 :: st) h Q := wp_nx rfl
set_option maxRecDepth 20000 in
theorem r146_373 (μ : Bool) (d : Nat) (l0 : Value) (st : List Value) (h : Hp) (Q : Po) : wp μ d 146 373 [l0] st h Q = wp μ d 146 375 [l0] (.int (nI 56) :: st) h Q := (wp_nx rfl).trans (congrArg (fun z => wp μ d 146 375 [l0] (.int z :: st) h Q) (show (Int8.ofInt (56)).toInt32 = (nI 56) by decide))
set_option maxRecDepth 20000 in
theorem r146_375 (μ : Bool) (d : Nat) (l0 : Value) (st : List Value) (h : Hp) (Q : Po) : wp μ d 146 375 [l0] st h Q = wp μ d 146 377 [l0] (.int (nI 32) :: st) h Q := (wp_nx rfl).trans (congrArg (fun z => wp μ d 146 377 [l0] (.int z :: st) h Q) (show (Int8.ofInt (32)).toInt32 = (nI 32) by decide))
set_option maxRecDepth 20000 in
theorem r146_377 (μ : Bool) (d : Nat) (l0 : Value) (y0 y1 : Int32) (y2 : Nat) (st : List Value) (h : Hp) (Q : Po) : wp μ d 146 377 [l0] (.int y0 :: .int y1 :: .ref y2 :: st) h Q = ((((kdm μ h y2).1 = 22 ∨ (kdm μ h y2).1 = 23) ∧ vp_in y1 (kdm μ h y2).2) ∧ wp μ d 146 378 [l0] st (sI h y2 y1.toNatClampNeg (if (kdm μ h y2).1 = 22 then vp_nar .byte y0 else vp_nar .boolean y0)) Q) := wp_ck _ rfl
set_option maxRecDepth 20000 in
theorem r146_378 (μ : Bool) (d : Nat) (l0 : Value) (y0 : Nat) (st : List Value) (h : Hp) (Q : Po) : wp μ d 146 378 [l0] (.ref y0 :: st) h Q = wp μ d 146 379 [l0] (.ref y0 :: .ref y0 :: st) h Q := wp_nx rfl
set_option maxRecDepth 20000 in
theorem r146_379 (μ : Bool) (d : Nat) (l0 : Value) (st : List Value) (h : Hp) (Q : Po) : wp μ d 146 379 [l0] st h Q = wp μ d 146 381 [l0] (.int (nI 57) :: st) h Q := (wp_nx rfl).trans (congrArg (fun z => wp μ d 146 381 [l0] (.int z :: st) h Q) (show (Int8.ofInt (57)).toInt32 = (nI 57) by decide))
set_option maxRecDepth 20000 in
theorem r146_381 (μ : Bool) (d : Nat) (l0 : Value) (st : List Value) (h : Hp) (Q : Po) : wp μ d 146 381 [l0] st h Q = wp μ d 146 383 [l0] (.int (nI 114) :: st) h Q := (wp_nx rfl).trans (congrArg (fun z => wp μ d 146 383 [l0] (.int z :: st) h Q) (show (Int8.ofInt (114)).toInt32 = (nI 114) by decide))
set_option maxRecDepth 20000 in
theorem r146_383 (μ : Bool) (d : Nat) (l0 : Value) (y0 y1 : Int32) (y2 : Nat) (st : List Value) (h : Hp) (Q : Po) : wp μ d 146 383 [l0] (.int y0 :: .int y1 :: .ref y2 :: st) h Q = ((((kdm μ h y2).1 = 22 ∨ (kdm μ h y2).1 = 23) ∧ vp_in y1 (kdm μ h y2).2) ∧ wp μ d 146 384 [l0] st (sI h y2 y1.toNatClampNeg (if (kdm μ h y2).1 = 22 then vp_nar .byte y0 else vp_nar .boolean y0)) Q) := wp_ck _ rfl
set_option maxRecDepth 20000 in
theorem r146_384 (μ : Bool) (d : Nat) (l0 : Value) (y0 : Nat) (st : List Value) (h : Hp) (Q : Po) : wp μ d 146 384 [l0] (.ref y0 :: st) h Q = wp μ d 146 385 [l0] (.ref y0 :: .ref y0 :: st) h Q := wp_nx rfl
set_option maxRecDepth 20000 in
theorem r146_385 (μ : Bool) (d : Nat) (l0 : Value) (st : List Value) (h : Hp) (Q : Po) : wp μ d 146 385 [l0] st h Q = wp μ d 146 387 [l0] (.int (nI 58) :: st) h Q := (wp_nx rfl).trans (congrArg (fun z => wp μ d 146 387 [l0] (.int z :: st) h Q) (show (Int8.ofInt (58)).toInt32 = (nI 58) by decide))
set_option maxRecDepth 20000 in
theorem r146_387 (μ : Bool) (d : Nat) (l0 : Value) (st : List Value) (h : Hp) (Q : Po) : wp μ d 146 387 [l0] st h Q = wp μ d 146 389 [l0] (.int (nI 97) :: st) h Q := (wp_nx rfl).trans (congrArg (fun z => wp μ d 146 389 [l0] (.int z :: st) h Q) (show (Int8.ofInt (97)).toInt32 = (nI 97) by decide))
set_option maxRecDepth 20000 in
theorem r146_389 (μ : Bool) (d : Nat) (l0 : Value) (y0 y1 : Int32) (y2 : Nat) (st : List Value) (h : Hp) (Q : Po) : wp μ d 146 389 [l0] (.int y0 :: .int y1 :: .ref y2 :: st) h Q = ((((kdm μ h y2).1 = 22 ∨ (kdm μ h y2).1 = 23) ∧ vp_in y1 (kdm μ h y2).2) ∧ wp μ d 146 390 [l0] st (sI h y2 y1.toNatClampNeg (if (kdm μ h y2).1 = 22 then vp_nar .byte y0 else vp_nar .boolean y0)) Q) := wp_ck _ rfl
set_option maxRecDepth 20000 in
theorem r146_390 (μ : Bool) (d : Nat) (l0 : Value) (y0 : Nat) (st : List Value) (h : Hp) (Q : Po) : wp μ d 146 390 [l0] (.ref y0 :: st) h Q = wp μ d 146 391 [l0] (.ref y0 :: .ref y0 :: st) h Q := wp_nx rfl
set_option maxRecDepth 20000 in
theorem r146_391 (μ : Bool) (d : Nat) (l0 : Value) (st : List Value) (h : Hp) (Q : Po) : wp μ d 146 391 [l0] st h Q = wp μ d 146 393 [l0] (.int (nI 59) :: st) h Q := (wp_nx rfl).trans (congrArg (fun z => wp μ d 146 393 [l0] (.int z :: st) h Q) (show (Int8.ofInt (59)).toInt32 = (nI 59) by decide))
set_option maxRecDepth 20000 in
theorem r146_393 (μ : Bool) (d : Nat) (l0 : Value) (st : List Value) (h : Hp) (Q : Po) : wp μ d 146 393 [l0] st h Q = wp μ d 146 395 [l0] (.int (nI 110) :: st) h Q := (wp_nx rfl).trans (congrArg (fun z => wp μ d 146 395 [l0] (.int z :: st) h Q) (show (Int8.ofInt (110)).toInt32 = (nI 110) by decide))
set_option maxRecDepth 20000 in
theorem r146_395 (μ : Bool) (d : Nat) (l0 : Value) (y0 y1 : Int32) (y2 : Nat) (st : List Value) (h : Hp) (Q : Po) : wp μ d 146 395 [l0] (.int y0 :: .int y1 :: .ref y2 :: st) h Q = ((((kdm μ h y2).1 = 22 ∨ (kdm μ h y2).1 = 23) ∧ vp_in y1 (kdm μ h y2).2) ∧ wp μ d 146 396 [l0] st (sI h y2 y1.toNatClampNeg (if (kdm μ h y2).1 = 22 then vp_nar .byte y0 else vp_nar .boolean y0)) Q) := wp_ck _ rfl
set_option maxRecDepth 20000 in
theorem r146_396 (μ : Bool) (d : Nat) (l0 : Value) (y0 : Nat) (st : List Value) (h : Hp) (Q : Po) : wp μ d 146 396 [l0] (.ref y0 :: st) h Q = wp μ d 146 397 [l0] (.ref y0 :: .ref y0 :: st) h Q := wp_nx rfl
set_option maxRecDepth 20000 in
theorem r146_397 (μ : Bool) (d : Nat) (l0 : Value) (st : List Value) (h : Hp) (Q : Po) : wp μ d 146 397 [l0] st h Q = wp μ d 146 399 [l0] (.int (nI 60) :: st) h Q := (wp_nx rfl).trans (congrArg (fun z => wp μ d 146 399 [l0] (.int z :: st) h Q) (show (Int8.ofInt (60)).toInt32 = (nI 60) by decide))
set_option maxRecDepth 20000 in
theorem r146_399 (μ : Bool) (d : Nat) (l0 : Value) (st : List Value) (h : Hp) (Q : Po) : wp μ d 146 399 [l0] st h Q = wp μ d 146 401 [l0] (.int (nI 107) :: st) h Q := (wp_nx rfl).trans (congrArg (fun z => wp μ d 146 401 [l0] (.int z :: st) h Q) (show (Int8.ofInt (107)).toInt32 = (nI 107) by decide))
set_option maxRecDepth 20000 in
theorem r146_401 (μ : Bool) (d : Nat) (l0 : Value) (y0 y1 : Int32) (y2 : Nat) (st : List Value) (h : Hp) (Q : Po) : wp μ d 146 401 [l0] (.int y0 :: .int y1 :: .ref y2 :: st) h Q = ((((kdm μ h y2).1 = 22 ∨ (kdm μ h y2).1 = 23) ∧ vp_in y1 (kdm μ h y2).2) ∧ wp μ d 146 402 [l0] st (sI h y2 y1.toNatClampNeg (if (kdm μ h y2).1 = 22 then vp_nar .byte y0 else vp_nar .boolean y0)) Q) := wp_ck _ rfl
set_option maxRecDepth 20000 in
theorem r146_402 (μ : Bool) (d : Nat) (l0 : Value) (y0 : Nat) (st : List Value) (h : Hp) (Q : Po) : wp μ d 146 402 [l0] (.ref y0 :: st) h Q = wp μ d 146 403 [l0] (.ref y0 :: .ref y0 :: st) h Q := wp_nx rfl
set_option maxRecDepth 20000 in
theorem r146_403 (μ : Bool) (d : Nat) (l0 : Value) (st : List Value) (h : Hp) (Q : Po) : wp μ d 146 403 [l0] st h Q = wp μ d 146 405 [l0] (.int (nI 61) :: st) h Q := (wp_nx rfl).trans (congrArg (fun z => wp μ d 146 405 [l0] (.int z :: st) h Q) (show (Int8.ofInt (61)).toInt32 = (nI 61) by decide))
set_option maxRecDepth 20000 in
theorem r146_405 (μ : Bool) (d : Nat) (l0 : Value) (st : List Value) (h : Hp) (Q : Po) : wp μ d 146 405 [l0] st h Q = wp μ d 146 407 [l0] (.int (nI 32) :: st) h Q := (wp_nx rfl).trans (congrArg (fun z => wp μ d 146 407 [l0] (.int z :: st) h Q) (show (Int8.ofInt (32)).toInt32 = (nI 32) by decide))
set_option maxRecDepth 20000 in
theorem r146_407 (μ : Bool) (d : Nat) (l0 : Value) (y0 y1 : Int32) (y2 : Nat) (st : List Value) (h : Hp) (Q : Po) : wp μ d 146 407 [l0] (.int y0 :: .int y1 :: .ref y2 :: st) h Q = ((((kdm μ h y2).1 = 22 ∨ (kdm μ h y2).1 = 23) ∧ vp_in y1 (kdm μ h y2).2) ∧ wp μ d 146 408 [l0] st (sI h y2 y1.toNatClampNeg (if (kdm μ h y2).1 = 22 then vp_nar .byte y0 else vp_nar .boolean y0)) Q) := wp_ck _ rfl
set_option maxRecDepth 20000 in
theorem r146_408 (μ : Bool) (d : Nat) (l0 : Value) (y0 : Nat) (st : List Value) (h : Hp) (Q : Po) : wp μ d 146 408 [l0] (.ref y0 :: st) h Q = wp μ d 146 409 [l0] (.ref y0 :: .ref y0 :: st) h Q := wp_nx rfl
set_option maxRecDepth 20000 in
theorem r146_409 (μ : Bool) (d : Nat) (l0 : Value) (st : List Value) (h : Hp) (Q : Po) : wp μ d 146 409 [l0] st h Q = wp μ d 146 411 [l0] (.int (nI 62) :: st) h Q := (wp_nx rfl).trans (congrArg (fun z => wp μ d 146 411 [l0] (.int z :: st) h Q) (show (Int8.ofInt (62)).toInt32 = (nI 62) by decide))
set_option maxRecDepth 20000 in
theorem r146_411 (μ : Bool) (d : Nat) (l0 : Value) (st : List Value) (h : Hp) (Q : Po) : wp μ d 146 411 [l0] st h Q = wp μ d 146 413 [l0] (.int (nI 114) :: st) h Q := (wp_nx rfl).trans (congrArg (fun z => wp μ d 146 413 [l0] (.int z :: st) h Q) (show (Int8.ofInt (114)).toInt32 = (nI 114) by decide))
set_option maxRecDepth 20000 in
theorem r146_413 (μ : Bool) (d : Nat) (l0 : Value) (y0 y1 : Int32) (y2 : Nat) (st : List Value) (h : Hp) (Q : Po) : wp μ d 146 413 [l0] (.int y0 :: .int y1 :: .ref y2 :: st) h Q = ((((kdm μ h y2).1 = 22 ∨ (kdm μ h y2).1 = 23) ∧ vp_in y1 (kdm μ h y2).2) ∧ wp μ d 146 414 [l0] st (sI h y2 y1.toNatClampNeg (if (kdm μ h y2).1 = 22 then vp_nar .byte y0 else vp_nar .boolean y0)) Q) := wp_ck _ rfl
set_option maxRecDepth 20000 in
theorem r146_414 (μ : Bool) (d : Nat) (l0 : Value) (y0 : Nat) (st : List Value) (h : Hp) (Q : Po) : wp μ d 146 414 [l0] (.ref y0 :: st) h Q = wp μ d 146 415 [l0] (.ref y0 :: .ref y0 :: st) h Q := wp_nx rfl
set_option maxRecDepth 20000 in
theorem r146_415 (μ : Bool) (d : Nat) (l0 : Value) (st : List Value) (h : Hp) (Q : Po) : wp μ d 146 415 [l0] st h Q = wp μ d 146 417 [l0] (.int (nI 63) :: st) h Q := (wp_nx rfl).trans (congrArg (fun z => wp μ d 146 417 [l0] (.int z :: st) h Q) (show (Int8.ofInt (63)).toInt32 = (nI 63) by decide))
set_option maxRecDepth 20000 in
theorem r146_417 (μ : Bool) (d : Nat) (l0 : Value) (st : List Value) (h : Hp) (Q : Po) : wp μ d 146 417 [l0] st h Q = wp μ d 146 419 [l0] (.int (nI 111) :: st) h Q := (wp_nx rfl).trans (congrArg (fun z => wp μ d 146 419 [l0] (.int z :: st) h Q) (show (Int8.ofInt (111)).toInt32 = (nI 111) by decide))
set_option maxRecDepth 20000 in
theorem r146_419 (μ : Bool) (d : Nat) (l0 : Value) (y0 y1 : Int32) (y2 : Nat) (st : List Value) (h : Hp) (Q : Po) : wp μ d 146 419 [l0] (.int y0 :: .int y1 :: .ref y2 :: st) h Q = ((((kdm μ h y2).1 = 22 ∨ (kdm μ h y2).1 = 23) ∧ vp_in y1 (kdm μ h y2).2) ∧ wp μ d 146 420 [l0] st (sI h y2 y1.toNatClampNeg (if (kdm μ h y2).1 = 22 then vp_nar .byte y0 else vp_nar .boolean y0)) Q) := wp_ck _ rfl
set_option maxRecDepth 20000 in
theorem r146_420 (μ : Bool) (d : Nat) (l0 : Value) (y0 : Nat) (st : List Value) (h : Hp) (Q : Po) : wp μ d 146 420 [l0] (.ref y0 :: st) h Q = wp μ d 146 421 [l0] (.ref y0 :: .ref y0 :: st) h Q := wp_nx rfl
set_option maxRecDepth 20000 in
theorem r146_421 (μ : Bool) (d : Nat) (l0 : Value) (st : List Value) (h : Hp) (Q : Po) : wp μ d 146 421 [l0] st h Q = wp μ d 146 423 [l0] (.int (nI 64) :: st) h Q := (wp_nx rfl).trans (congrArg (fun z => wp μ d 146 423 [l0] (.int z :: st) h Q) (show (Int8.ofInt (64)).toInt32 = (nI 64) by decide))
set_option maxRecDepth 20000 in
theorem r146_423 (μ : Bool) (d : Nat) (l0 : Value) (st : List Value) (h : Hp) (Q : Po) : wp μ d 146 423 [l0] st h Q = wp μ d 146 425 [l0] (.int (nI 111) :: st) h Q := (wp_nx rfl).trans (congrArg (fun z => wp μ d 146 425 [l0] (.int z :: st) h Q) (show (Int8.ofInt (111)).toInt32 = (nI 111) by decide))
set_option maxRecDepth 20000 in
theorem r146_425 (μ : Bool) (d : Nat) (l0 : Value) (y0 y1 : Int32) (y2 : Nat) (st : List Value) (h : Hp) (Q : Po) : wp μ d 146 425 [l0] (.int y0 :: .int y1 :: .ref y2 :: st) h Q = ((((kdm μ h y2).1 = 22 ∨ (kdm μ h y2).1 = 23) ∧ vp_in y1 (kdm μ h y2).2) ∧ wp μ d 146 426 [l0] st (sI h y2 y1.toNatClampNeg (if (kdm μ h y2).1 = 22 then vp_nar .byte y0 else vp_nar .boolean y0)) Q) := wp_ck _ rfl
set_option maxRecDepth 20000 in
theorem r146_426 (μ : Bool) (d : Nat) (l0 : Value) (y0 : Nat) (st : List Value) (h : Hp) (Q : Po) : wp μ d 146 426 [l0] (.ref y0 :: st) h Q = wp μ d 146 427 [l0] (.ref y0 :: .ref y0 :: st) h Q := wp_nx rfl
set_option maxRecDepth 20000 in
theorem r146_427 (μ : Bool) (d : Nat) (l0 : Value) (st : List Value) (h : Hp) (Q : Po) : wp μ d 146 427 [l0] st h Q = wp μ d 146 429 [l0] (.int (nI 65) :: st) h Q := (wp_nx rfl).trans (congrArg (fun z => wp μ d 146 429 [l0] (.int z :: st) h Q) (show (Int8.ofInt (65)).toInt32 = (nI 65) by decide))
set_option maxRecDepth 20000 in
theorem r146_429 (μ : Bool) (d : Nat) (l0 : Value) (st : List Value) (h : Hp) (Q : Po) : wp μ d 146 429 [l0] st h Q = wp μ d 146 431 [l0] (.int (nI 109) :: st) h Q := (wp_nx rfl).trans (congrArg (fun z => wp μ d 146 431 [l0] (.int z :: st) h Q) (show (Int8.ofInt (109)).toInt32 = (nI 109) by decide))
set_option maxRecDepth 20000 in
theorem r146_431 (μ : Bool) (d : Nat) (l0 : Value) (y0 y1 : Int32) (y2 : Nat) (st : List Value) (h : Hp) (Q : Po) : wp μ d 146 431 [l0] (.int y0 :: .int y1 :: .ref y2 :: st) h Q = ((((kdm μ h y2).1 = 22 ∨ (kdm μ h y2).1 = 23) ∧ vp_in y1 (kdm μ h y2).2) ∧ wp μ d 146 432 [l0] st (sI h y2 y1.toNatClampNeg (if (kdm μ h y2).1 = 22 then vp_nar .byte y0 else vp_nar .boolean y0)) Q) := wp_ck _ rfl
set_option maxRecDepth 20000 in
theorem r146_432 (μ : Bool) (d : Nat) (l0 : Value) (y0 : Nat) (st : List Value) (h : Hp) (Q : Po) : wp μ d 146 432 [l0] (.ref y0 :: st) h Q = wp μ d 146 433 [l0] (.ref y0 :: .ref y0 :: st) h Q := wp_nx rfl
set_option maxRecDepth 20000 in
theorem r146_433 (μ : Bool) (d : Nat) (l0 : Value) (st : List Value) (h : Hp) (Q : Po) : wp μ d 146 433 [l0] st h Q = wp μ d 146 435 [l0] (.int (nI 66) :: st) h Q := (wp_nx rfl).trans (congrArg (fun z => wp μ d 146 435 [l0] (.int z :: st) h Q) (show (Int8.ofInt (66)).toInt32 = (nI 66) by decide))
set_option maxRecDepth 20000 in
theorem r146_435 (μ : Bool) (d : Nat) (l0 : Value) (st : List Value) (h : Hp) (Q : Po) : wp μ d 146 435 [l0] st h Q = wp μ d 146 437 [l0] (.int (nI 32) :: st) h Q := (wp_nx rfl).trans (congrArg (fun z => wp μ d 146 437 [l0] (.int z :: st) h Q) (show (Int8.ofInt (32)).toInt32 = (nI 32) by decide))
set_option maxRecDepth 20000 in
theorem r146_437 (μ : Bool) (d : Nat) (l0 : Value) (y0 y1 : Int32) (y2 : Nat) (st : List Value) (h : Hp) (Q : Po) : wp μ d 146 437 [l0] (.int y0 :: .int y1 :: .ref y2 :: st) h Q = ((((kdm μ h y2).1 = 22 ∨ (kdm μ h y2).1 = 23) ∧ vp_in y1 (kdm μ h y2).2) ∧ wp μ d 146 438 [l0] st (sI h y2 y1.toNatClampNeg (if (kdm μ h y2).1 = 22 then vp_nar .byte y0 else vp_nar .boolean y0)) Q) := wp_ck _ rfl
set_option maxRecDepth 20000 in
theorem r146_438 (μ : Bool) (d : Nat) (l0 : Value) (y0 : Nat) (st : List Value) (h : Hp) (Q : Po) : wp μ d 146 438 [l0] (.ref y0 :: st) h Q = wp μ d 146 439 [l0] (.ref y0 :: .ref y0 :: st) h Q := wp_nx rfl
set_option maxRecDepth 20000 in
theorem r146_439 (μ : Bool) (d : Nat) (l0 : Value) (st : List Value) (h : Hp) (Q : Po) : wp μ d 146 439 [l0] st h Q = wp μ d 146 441 [l0] (.int (nI 67) :: st) h Q := (wp_nx rfl).trans (congrArg (fun z => wp μ d 146 441 [l0] (.int z :: st) h Q) (show (Int8.ofInt (67)).toInt32 = (nI 67) by decide))
set_option maxRecDepth 20000 in
theorem r146_441 (μ : Bool) (d : Nat) (l0 : Value) (st : List Value) (h : Hp) (Q : Po) : wp μ d 146 441 [l0] st h Q = wp μ d 146 443 [l0] (.int (nI 115) :: st) h Q := (wp_nx rfl).trans (congrArg (fun z => wp μ d 146 443 [l0] (.int z :: st) h Q) (show (Int8.ofInt (115)).toInt32 = (nI 115) by decide))
set_option maxRecDepth 20000 in
theorem r146_443 (μ : Bool) (d : Nat) (l0 : Value) (y0 y1 : Int32) (y2 : Nat) (st : List Value) (h : Hp) (Q : Po) : wp μ d 146 443 [l0] (.int y0 :: .int y1 :: .ref y2 :: st) h Q = ((((kdm μ h y2).1 = 22 ∨ (kdm μ h y2).1 = 23) ∧ vp_in y1 (kdm μ h y2).2) ∧ wp μ d 146 444 [l0] st (sI h y2 y1.toNatClampNeg (if (kdm μ h y2).1 = 22 then vp_nar .byte y0 else vp_nar .boolean y0)) Q) := wp_ck _ rfl
set_option maxRecDepth 20000 in
theorem r146_444 (μ : Bool) (d : Nat) (l0 : Value) (y0 : Nat) (st : List Value) (h : Hp) (Q : Po) : wp μ d 146 444 [l0] (.ref y0 :: st) h Q = wp μ d 146 445 [l0] (.ref y0 :: .ref y0 :: st) h Q := wp_nx rfl
set_option maxRecDepth 20000 in
theorem r146_445 (μ : Bool) (d : Nat) (l0 : Value) (st : List Value) (h : Hp) (Q : Po) : wp μ d 146 445 [l0] st h Q = wp μ d 146 447 [l0] (.int (nI 68) :: st) h Q := (wp_nx rfl).trans (congrArg (fun z => wp μ d 146 447 [l0] (.int z :: st) h Q) (show (Int8.ofInt (68)).toInt32 = (nI 68) by decide))
set_option maxRecDepth 20000 in
theorem r146_447 (μ : Bool) (d : Nat) (l0 : Value) (st : List Value) (h : Hp) (Q : Po) : wp μ d 146 447 [l0] st h Q = wp μ d 146 449 [l0] (.int (nI 105) :: st) h Q := (wp_nx rfl).trans (congrArg (fun z => wp μ d 146 449 [l0] (.int z :: st) h Q) (show (Int8.ofInt (105)).toInt32 = (nI 105) by decide))
set_option maxRecDepth 20000 in
theorem r146_449 (μ : Bool) (d : Nat) (l0 : Value) (y0 y1 : Int32) (y2 : Nat) (st : List Value) (h : Hp) (Q : Po) : wp μ d 146 449 [l0] (.int y0 :: .int y1 :: .ref y2 :: st) h Q = ((((kdm μ h y2).1 = 22 ∨ (kdm μ h y2).1 = 23) ∧ vp_in y1 (kdm μ h y2).2) ∧ wp μ d 146 450 [l0] st (sI h y2 y1.toNatClampNeg (if (kdm μ h y2).1 = 22 then vp_nar .byte y0 else vp_nar .boolean y0)) Q) := wp_ck _ rfl
set_option maxRecDepth 20000 in
theorem r146_450 (μ : Bool) (d : Nat) (l0 : Value) (y0 : Nat) (st : List Value) (h : Hp) (Q : Po) : wp μ d 146 450 [l0] (.ref y0 :: st) h Q = wp μ d 146 451 [l0] (.ref y0 :: .ref y0 :: st) h Q := wp_nx rfl
set_option maxRecDepth 20000 in
theorem r146_451 (μ : Bool) (d : Nat) (l0 : Value) (st : List Value) (h : Hp) (Q : Po) : wp μ d 146 451 [l0] st h Q = wp μ d 146 453 [l0] (.int (nI 69) :: st) h Q := (wp_nx rfl).trans (congrArg (fun z => wp μ d 146 453 [l0] (.int z :: st) h Q) (show (Int8.ofInt (69)).toInt32 = (nI 69) by decide))
set_option maxRecDepth 20000 in
theorem r146_453 (μ : Bool) (d : Nat) (l0 : Value) (st : List Value) (h : Hp) (Q : Po) : wp μ d 146 453 [l0] st h Q = wp μ d 146 455 [l0] (.int (nI 100) :: st) h Q := (wp_nx rfl).trans (congrArg (fun z => wp μ d 146 455 [l0] (.int z :: st) h Q) (show (Int8.ofInt (100)).toInt32 = (nI 100) by decide))
set_option maxRecDepth 20000 in
theorem r146_455 (μ : Bool) (d : Nat) (l0 : Value) (y0 y1 : Int32) (y2 : Nat) (st : List Value) (h : Hp) (Q : Po) : wp μ d 146 455 [l0] (.int y0 :: .int y1 :: .ref y2 :: st) h Q = ((((kdm μ h y2).1 = 22 ∨ (kdm μ h y2).1 = 23) ∧ vp_in y1 (kdm μ h y2).2) ∧ wp μ d 146 456 [l0] st (sI h y2 y1.toNatClampNeg (if (kdm μ h y2).1 = 22 then vp_nar .byte y0 else vp_nar .boolean y0)) Q) := wp_ck _ rfl
set_option maxRecDepth 20000 in
theorem r146_456 (μ : Bool) (d : Nat) (l0 : Value) (y0 : Nat) (st : List Value) (h : Hp) (Q : Po) : wp μ d 146 456 [l0] (.ref y0 :: st) h Q = wp μ d 146 457 [l0] (.ref y0 :: .ref y0 :: st) h Q := wp_nx rfl
set_option maxRecDepth 20000 in
theorem r146_457 (μ : Bool) (d : Nat) (l0 : Value) (st : List Value) (h : Hp) (Q : Po) : wp μ d 146 457 [l0] st h Q = wp μ d 146 459 [l0] (.int (nI 70) :: st) h Q := (wp_nx rfl).trans (congrArg (fun z => wp μ d 146 459 [l0] (.int z :: st) h Q) (show (Int8.ofInt (70)).toInt32 = (nI 70) by decide))
set_option maxRecDepth 20000 in
theorem r146_459 (μ : Bool) (d : Nat) (l0 : Value) (st : List Value) (h : Hp) (Q : Po) : wp μ d 146 459 [l0] st h Q = wp μ d 146 461 [l0] (.int (nI 101) :: st) h Q := (wp_nx rfl).trans (congrArg (fun z => wp μ d 146 461 [l0] (.int z :: st) h Q) (show (Int8.ofInt (101)).toInt32 = (nI 101) by decide))
set_option maxRecDepth 20000 in
theorem r146_461 (μ : Bool) (d : Nat) (l0 : Value) (y0 y1 : Int32) (y2 : Nat) (st : List Value) (h : Hp) (Q : Po) : wp μ d 146 461 [l0] (.int y0 :: .int y1 :: .ref y2 :: st) h Q = ((((kdm μ h y2).1 = 22 ∨ (kdm μ h y2).1 = 23) ∧ vp_in y1 (kdm μ h y2).2) ∧ wp μ d 146 462 [l0] st (sI h y2 y1.toNatClampNeg (if (kdm μ h y2).1 = 22 then vp_nar .byte y0 else vp_nar .boolean y0)) Q) := wp_ck _ rfl
set_option maxRecDepth 20000 in
theorem r146_462 (μ : Bool) (d : Nat) (l0 : Value) (y0 : Nat) (st : List Value) (h : Hp) (Q : Po) : wp μ d 146 462 [l0] (.ref y0 :: st) h Q = wp μ d 146 463 [l0] (.ref y0 :: .ref y0 :: st) h Q := wp_nx rfl
set_option maxRecDepth 20000 in
theorem r146_463 (μ : Bool) (d : Nat) (l0 : Value) (st : List Value) (h : Hp) (Q : Po) : wp μ d 146 463 [l0] st h Q = wp μ d 146 465 [l0] (.int (nI 71) :: st) h Q := (wp_nx rfl).trans (congrArg (fun z => wp μ d 146 465 [l0] (.int z :: st) h Q) (show (Int8.ofInt (71)).toInt32 = (nI 71) by decide))
set_option maxRecDepth 20000 in
theorem r146_465 (μ : Bool) (d : Nat) (l0 : Value) (st : List Value) (h : Hp) (Q : Po) : wp μ d 146 465 [l0] st h Q = wp μ d 146 467 [l0] (.int (nI 32) :: st) h Q := (wp_nx rfl).trans (congrArg (fun z => wp μ d 146 467 [l0] (.int z :: st) h Q) (show (Int8.ofInt (32)).toInt32 = (nI 32) by decide))
set_option maxRecDepth 20000 in
theorem r146_467 (μ : Bool) (d : Nat) (l0 : Value) (y0 y1 : Int32) (y2 : Nat) (st : List Value) (h : Hp) (Q : Po) : wp μ d 146 467 [l0] (.int y0 :: .int y1 :: .ref y2 :: st) h Q = ((((kdm μ h y2).1 = 22 ∨ (kdm μ h y2).1 = 23) ∧ vp_in y1 (kdm μ h y2).2) ∧ wp μ d 146 468 [l0] st (sI h y2 y1.toNatClampNeg (if (kdm μ h y2).1 = 22 then vp_nar .byte y0 else vp_nar .boolean y0)) Q) := wp_ck _ rfl
set_option maxRecDepth 20000 in
theorem r146_468 (μ : Bool) (d : Nat) (l0 : Value) (y0 : Nat) (st : List Value) (h : Hp) (Q : Po) : wp μ d 146 468 [l0] (.ref y0 :: st) h Q = wp μ d 146 469 [l0] (.ref y0 :: .ref y0 :: st) h Q := wp_nx rfl
set_option maxRecDepth 20000 in
theorem r146_469 (μ : Bool) (d : Nat) (l0 : Value) (st : List Value) (h : Hp) (Q : Po) : wp μ d 146 469 [l0] st h Q = wp μ d 146 471 [l0] (.int (nI 72) :: st) h Q := (wp_nx rfl).trans (congrArg (fun z => wp μ d 146 471 [l0] (.int z :: st) h Q) (show (Int8.ofInt (72)).toInt32 = (nI 72) by decide))
set_option maxRecDepth 20000 in
theorem r146_471 (μ : Bool) (d : Nat) (l0 : Value) (st : List Value) (h : Hp) (Q : Po) : wp μ d 146 471 [l0] st h Q = wp μ d 146 473 [l0] (.int (nI 100) :: st) h Q := (wp_nx rfl).trans (congrArg (fun z => wp μ d 146 473 [l0] (.int z :: st) h Q) (show (Int8.ofInt (100)).toInt32 = (nI 100) by decide))
set_option maxRecDepth 20000 in
theorem r146_473 (μ : Bool) (d : Nat) (l0 : Value) (y0 y1 : Int32) (y2 : Nat) (st : List Value) (h : Hp) (Q : Po) : wp μ d 146 473 [l0] (.int y0 :: .int y1 :: .ref y2 :: st) h Q = ((((kdm μ h y2).1 = 22 ∨ (kdm μ h y2).1 = 23) ∧ vp_in y1 (kdm μ h y2).2) ∧ wp μ d 146 474 [l0] st (sI h y2 y1.toNatClampNeg (if (kdm μ h y2).1 = 22 then vp_nar .byte y0 else vp_nar .boolean y0)) Q) := wp_ck _ rfl
set_option maxRecDepth 20000 in
theorem r146_474 (μ : Bool) (d : Nat) (l0 : Value) (y0 : Nat) (st : List Value) (h : Hp) (Q : Po) : wp μ d 146 474 [l0] (.ref y0 :: st) h Q = wp μ d 146 475 [l0] (.ref y0 :: .ref y0 :: st) h Q := wp_nx rfl
set_option maxRecDepth 20000 in
theorem r146_475 (μ : Bool) (d : Nat) (l0 : Value) (st : List Value) (h : Hp) (Q : Po) : wp μ d 146 475 [l0] st h Q = wp μ d 146 477 [l0] (.int (nI 73) :: st) h Q := (wp_nx rfl).trans (congrArg (fun z => wp μ d 146 477 [l0] (.int z :: st) h Q) (show (Int8.ofInt (73)).toInt32 = (nI 73) by decide))
set_option maxRecDepth 20000 in
theorem r146_477 (μ : Bool) (d : Nat) (l0 : Value) (st : List Value) (h : Hp) (Q : Po) : wp μ d 146 477 [l0] st h Q = wp μ d 146 479 [l0] (.int (nI 111) :: st) h Q := (wp_nx rfl).trans (congrArg (fun z => wp μ d 146 479 [l0] (.int z :: st) h Q) (show (Int8.ofInt (111)).toInt32 = (nI 111) by decide))
set_option maxRecDepth 20000 in
theorem r146_479 (μ : Bool) (d : Nat) (l0 : Value) (y0 y1 : Int32) (y2 : Nat) (st : List Value) (h : Hp) (Q : Po) : wp μ d 146 479 [l0] (.int y0 :: .int y1 :: .ref y2 :: st) h Q = ((((kdm μ h y2).1 = 22 ∨ (kdm μ h y2).1 = 23) ∧ vp_in y1 (kdm μ h y2).2) ∧ wp μ d 146 480 [l0] st (sI h y2 y1.toNatClampNeg (if (kdm μ h y2).1 = 22 then vp_nar .byte y0 else vp_nar .boolean y0)) Q) := wp_ck _ rfl
set_option maxRecDepth 20000 in
theorem r146_480 (μ : Bool) (d : Nat) (l0 : Value) (y0 : Nat) (st : List Value) (h : Hp) (Q : Po) : wp μ d 146 480 [l0] (.ref y0 :: st) h Q = wp μ d 146 481 [l0] (.ref y0 :: .ref y0 :: st) h Q := wp_nx rfl
set_option maxRecDepth 20000 in
theorem r146_481 (μ : Bool) (d : Nat) (l0 : Value) (st : List Value) (h : Hp) (Q : Po) : wp μ d 146 481 [l0] st h Q = wp μ d 146 483 [l0] (.int (nI 74) :: st) h Q := (wp_nx rfl).trans (congrArg (fun z => wp μ d 146 483 [l0] (.int z :: st) h Q) (show (Int8.ofInt (74)).toInt32 = (nI 74) by decide))
set_option maxRecDepth 20000 in
theorem r146_483 (μ : Bool) (d : Nat) (l0 : Value) (st : List Value) (h : Hp) (Q : Po) : wp μ d 146 483 [l0] st h Q = wp μ d 146 485 [l0] (.int (nI 117) :: st) h Q := (wp_nx rfl).trans (congrArg (fun z => wp μ d 146 485 [l0] (.int z :: st) h Q) (show (Int8.ofInt (117)).toInt32 = (nI 117) by decide))
set_option maxRecDepth 20000 in
theorem r146_485 (μ : Bool) (d : Nat) (l0 : Value) (y0 y1 : Int32) (y2 : Nat) (st : List Value) (h : Hp) (Q : Po) : wp μ d 146 485 [l0] (.int y0 :: .int y1 :: .ref y2 :: st) h Q = ((((kdm μ h y2).1 = 22 ∨ (kdm μ h y2).1 = 23) ∧ vp_in y1 (kdm μ h y2).2) ∧ wp μ d 146 486 [l0] st (sI h y2 y1.toNatClampNeg (if (kdm μ h y2).1 = 22 then vp_nar .byte y0 else vp_nar .boolean y0)) Q) := wp_ck _ rfl
set_option maxRecDepth 20000 in
theorem r146_486 (μ : Bool) (d : Nat) (l0 : Value) (y0 : Nat) (st : List Value) (h : Hp) (Q : Po) : wp μ d 146 486 [l0] (.ref y0 :: st) h Q = wp μ d 146 487 [l0] (.ref y0 :: .ref y0 :: st) h Q := wp_nx rfl
set_option maxRecDepth 20000 in
theorem r146_487 (μ : Bool) (d : Nat) (l0 : Value) (st : List Value) (h : Hp) (Q : Po) : wp μ d 146 487 [l0] st h Q = wp μ d 146 489 [l0] (.int (nI 75) :: st) h Q := (wp_nx rfl).trans (congrArg (fun z => wp μ d 146 489 [l0] (.int z :: st) h Q) (show (Int8.ofInt (75)).toInt32 = (nI 75) by decide))
set_option maxRecDepth 20000 in
theorem r146_489 (μ : Bool) (d : Nat) (l0 : Value) (st : List Value) (h : Hp) (Q : Po) : wp μ d 146 489 [l0] st h Q = wp μ d 146 491 [l0] (.int (nI 98) :: st) h Q := (wp_nx rfl).trans (congrArg (fun z => wp μ d 146 491 [l0] (.int z :: st) h Q) (show (Int8.ofInt (98)).toInt32 = (nI 98) by decide))
set_option maxRecDepth 20000 in
theorem r146_491 (μ : Bool) (d : Nat) (l0 : Value) (y0 y1 : Int32) (y2 : Nat) (st : List Value) (h : Hp) (Q : Po) : wp μ d 146 491 [l0] (.int y0 :: .int y1 :: .ref y2 :: st) h Q = ((((kdm μ h y2).1 = 22 ∨ (kdm μ h y2).1 = 23) ∧ vp_in y1 (kdm μ h y2).2) ∧ wp μ d 146 492 [l0] st (sI h y2 y1.toNatClampNeg (if (kdm μ h y2).1 = 22 then vp_nar .byte y0 else vp_nar .boolean y0)) Q) := wp_ck _ rfl
set_option maxRecDepth 20000 in
theorem r146_492 (μ : Bool) (d : Nat) (l0 : Value) (y0 : Nat) (st : List Value) (h : Hp) (Q : Po) : wp μ d 146 492 [l0] (.ref y0 :: st) h Q = wp μ d 146 493 [l0] (.ref y0 :: .ref y0 :: st) h Q := wp_nx rfl
set_option maxRecDepth 20000 in
theorem r146_493 (μ : Bool) (d : Nat) (l0 : Value) (st : List Value) (h : Hp) (Q : Po) : wp μ d 146 493 [l0] st h Q = wp μ d 146 495 [l0] (.int (nI 76) :: st) h Q := (wp_nx rfl).trans (congrArg (fun z => wp μ d 146 495 [l0] (.int z :: st) h Q) (show (Int8.ofInt (76)).toInt32 = (nI 76) by decide))
set_option maxRecDepth 20000 in
theorem r146_495 (μ : Bool) (d : Nat) (l0 : Value) (st : List Value) (h : Hp) (Q : Po) : wp μ d 146 495 [l0] st h Q = wp μ d 146 497 [l0] (.int (nI 116) :: st) h Q := (wp_nx rfl).trans (congrArg (fun z => wp μ d 146 497 [l0] (.int z :: st) h Q) (show (Int8.ofInt (116)).toInt32 = (nI 116) by decide))
set_option maxRecDepth 20000 in
theorem r146_497 (μ : Bool) (d : Nat) (l0 : Value) (y0 y1 : Int32) (y2 : Nat) (st : List Value) (h : Hp) (Q : Po) : wp μ d 146 497 [l0] (.int y0 :: .int y1 :: .ref y2 :: st) h Q = ((((kdm μ h y2).1 = 22 ∨ (kdm μ h y2).1 = 23) ∧ vp_in y1 (kdm μ h y2).2) ∧ wp μ d 146 498 [l0] st (sI h y2 y1.toNatClampNeg (if (kdm μ h y2).1 = 22 then vp_nar .byte y0 else vp_nar .boolean y0)) Q) := wp_ck _ rfl
set_option maxRecDepth 20000 in
theorem r146_498 (μ : Bool) (d : Nat) (l0 : Value) (y0 : Nat) (st : List Value) (h : Hp) (Q : Po) : wp μ d 146 498 [l0] (.ref y0 :: st) h Q = wp μ d 146 499 [l0] (.ref y0 :: .ref y0 :: st) h Q := wp_nx rfl
set_option maxRecDepth 20000 in
theorem r146_499 (μ : Bool) (d : Nat) (l0 : Value) (st : List Value) (h : Hp) (Q : Po) : wp μ d 146 499 [l0] st h Q = wp μ d 146 501 [l0] (.int (nI 77) :: st) h Q := (wp_nx rfl).trans (congrArg (fun z => wp μ d 146 501 [l0] (.int z :: st) h Q) (show (Int8.ofInt (77)).toInt32 = (nI 77) by decide))
set_option maxRecDepth 20000 in
theorem r146_501 (μ : Bool) (d : Nat) (l0 : Value) (st : List Value) (h : Hp) (Q : Po) : wp μ d 146 501 [l0] st h Q = wp μ d 146 503 [l0] (.int (nI 32) :: st) h Q := (wp_nx rfl).trans (congrArg (fun z => wp μ d 146 503 [l0] (.int z :: st) h Q) (show (Int8.ofInt (32)).toInt32 = (nI 32) by decide))
set_option maxRecDepth 20000 in
theorem r146_503 (μ : Bool) (d : Nat) (l0 : Value) (y0 y1 : Int32) (y2 : Nat) (st : List Value) (h : Hp) (Q : Po) : wp μ d 146 503 [l0] (.int y0 :: .int y1 :: .ref y2 :: st) h Q = ((((kdm μ h y2).1 = 22 ∨ (kdm μ h y2).1 = 23) ∧ vp_in y1 (kdm μ h y2).2) ∧ wp μ d 146 504 [l0] st (sI h y2 y1.toNatClampNeg (if (kdm μ h y2).1 = 22 then vp_nar .byte y0 else vp_nar .boolean y0)) Q) := wp_ck _ rfl
set_option maxRecDepth 20000 in
theorem r146_504 (μ : Bool) (d : Nat) (l0 : Value) (y0 : Nat) (st : List Value) (h : Hp) (Q : Po) : wp μ d 146 504 [l0] (.ref y0 :: st) h Q = wp μ d 146 505 [l0] (.ref y0 :: .ref y0 :: st) h Q := wp_nx rfl
set_option maxRecDepth 20000 in
theorem r146_505 (μ : Bool) (d : Nat) (l0 : Value) (st : List Value) (h : Hp) (Q : Po) : wp μ d 146 505 [l0] st h Q = wp μ d 146 507 [l0] (.int (nI 78) :: st) h Q := (wp_nx rfl).trans (congrArg (fun z => wp μ d 146 507 [l0] (.int z :: st) h Q) (show (Int8.ofInt (78)).toInt32 = (nI 78) by decide))
set_option maxRecDepth 20000 in
theorem r146_507 (μ : Bool) (d : Nat) (l0 : Value) (st : List Value) (h : Hp) (Q : Po) : wp μ d 146 507 [l0] st h Q = wp μ d 146 509 [l0] (.int (nI 112) :: st) h Q := (wp_nx rfl).trans (congrArg (fun z => wp μ d 146 509 [l0] (.int z :: st) h Q) (show (Int8.ofInt (112)).toInt32 = (nI 112) by decide))
set_option maxRecDepth 20000 in
theorem r146_509 (μ : Bool) (d : Nat) (l0 : Value) (y0 y1 : Int32) (y2 : Nat) (st : List Value) (h : Hp) (Q : Po) : wp μ d 146 509 [l0] (.int y0 :: .int y1 :: .ref y2 :: st) h Q = ((((kdm μ h y2).1 = 22 ∨ (kdm μ h y2).1 = 23) ∧ vp_in y1 (kdm μ h y2).2) ∧ wp μ d 146 510 [l0] st (sI h y2 y1.toNatClampNeg (if (kdm μ h y2).1 = 22 then vp_nar .byte y0 else vp_nar .boolean y0)) Q) := wp_ck _ rfl
set_option maxRecDepth 20000 in
theorem r146_510 (μ : Bool) (d : Nat) (l0 : Value) (y0 : Nat) (st : List Value) (h : Hp) (Q : Po) : wp μ d 146 510 [l0] (.ref y0 :: st) h Q = wp μ d 146 511 [l0] (.ref y0 :: .ref y0 :: st) h Q := wp_nx rfl
set_option maxRecDepth 20000 in
theorem r146_511 (μ : Bool) (d : Nat) (l0 : Value) (st : List Value) (h : Hp) (Q : Po) : wp μ d 146 511 [l0] st h Q = wp μ d 146 513 [l0] (.int (nI 79) :: st) h Q := (wp_nx rfl).trans (congrArg (fun z => wp μ d 146 513 [l0] (.int z :: st) h Q) (show (Int8.ofInt (79)).toInt32 = (nI 79) by decide))
set_option maxRecDepth 20000 in
theorem r146_513 (μ : Bool) (d : Nat) (l0 : Value) (st : List Value) (h : Hp) (Q : Po) : wp μ d 146 513 [l0] st h Q = wp μ d 146 515 [l0] (.int (nI 114) :: st) h Q := (wp_nx rfl).trans (congrArg (fun z => wp μ d 146 515 [l0] (.int z :: st) h Q) (show (Int8.ofInt (114)).toInt32 = (nI 114) by decide))
set_option maxRecDepth 20000 in
theorem r146_515 (μ : Bool) (d : Nat) (l0 : Value) (y0 y1 : Int32) (y2 : Nat) (st : List Value) (h : Hp) (Q : Po) : wp μ d 146 515 [l0] (.int y0 :: .int y1 :: .ref y2 :: st) h Q = ((((kdm μ h y2).1 = 22 ∨ (kdm μ h y2).1 = 23) ∧ vp_in y1 (kdm μ h y2).2) ∧ wp μ d 146 516 [l0] st (sI h y2 y1.toNatClampNeg (if (kdm μ h y2).1 = 22 then vp_nar .byte y0 else vp_nar .boolean y0)) Q) := wp_ck _ rfl
set_option maxRecDepth 20000 in
theorem r146_516 (μ : Bool) (d : Nat) (l0 : Value) (y0 : Nat) (st : List Value) (h : Hp) (Q : Po) : wp μ d 146 516 [l0] (.ref y0 :: st) h Q = wp μ d 146 517 [l0] (.ref y0 :: .ref y0 :: st) h Q := wp_nx rfl
set_option maxRecDepth 20000 in
theorem r146_517 (μ : Bool) (d : Nat) (l0 : Value) (st : List Value) (h : Hp) (Q : Po) : wp μ d 146 517 [l0] st h Q = wp μ d 146 519 [l0] (.int (nI 80) :: st) h Q := (wp_nx rfl).trans (congrArg (fun z => wp μ d 146 519 [l0] (.int z :: st) h Q) (show (Int8.ofInt (80)).toInt32 = (nI 80) by decide))
set_option maxRecDepth 20000 in
theorem r146_519 (μ : Bool) (d : Nat) (l0 : Value) (st : List Value) (h : Hp) (Q : Po) : wp μ d 146 519 [l0] st h Q = wp μ d 146 521 [l0] (.int (nI 111) :: st) h Q := (wp_nx rfl).trans (congrArg (fun z => wp μ d 146 521 [l0] (.int z :: st) h Q) (show (Int8.ofInt (111)).toInt32 = (nI 111) by decide))
set_option maxRecDepth 20000 in
theorem r146_521 (μ : Bool) (d : Nat) (l0 : Value) (y0 y1 : Int32) (y2 : Nat) (st : List Value) (h : Hp) (Q : Po) : wp μ d 146 521 [l0] (.int y0 :: .int y1 :: .ref y2 :: st) h Q = ((((kdm μ h y2).1 = 22 ∨ (kdm μ h y2).1 = 23) ∧ vp_in y1 (kdm μ h y2).2) ∧ wp μ d 146 522 [l0] st (sI h y2 y1.toNatClampNeg (if (kdm μ h y2).1 = 22 then vp_nar .byte y0 else vp_nar .boolean y0)) Q) := wp_ck _ rfl
set_option maxRecDepth 20000 in
theorem r146_522 (μ : Bool) (d : Nat) (l0 : Value) (y0 : Nat) (st : List Value) (h : Hp) (Q : Po) : wp μ d 146 522 [l0] (.ref y0 :: st) h Q = wp μ d 146 523 [l0] (.ref y0 :: .ref y0 :: st) h Q := wp_nx rfl
set_option maxRecDepth 20000 in
theorem r146_523 (μ : Bool) (d : Nat) (l0 : Value) (st : List Value) (h : Hp) (Q : Po) : wp μ d 146 523 [l0] st h Q = wp μ d 146 525 [l0] (.int (nI 81) :: st) h Q := (wp_nx rfl).trans (congrArg (fun z => wp μ d 146 525 [l0] (.int z :: st) h Q) (show (Int8.ofInt (81)).toInt32 = (nI 81) by decide))
set_option maxRecDepth 20000 in
theorem r146_525 (μ : Bool) (d : Nat) (l0 : Value) (st : List Value) (h : Hp) (Q : Po) : wp μ d 146 525 [l0] st h Q = wp μ d 146 527 [l0] (.int (nI 111) :: st) h Q := (wp_nx rfl).trans (congrArg (fun z => wp μ d 146 527 [l0] (.int z :: st) h Q) (show (Int8.ofInt (111)).toInt32 = (nI 111) by decide))
set_option maxRecDepth 20000 in
theorem r146_527 (μ : Bool) (d : Nat) (l0 : Value) (y0 y1 : Int32) (y2 : Nat) (st : List Value) (h : Hp) (Q : Po) : wp μ d 146 527 [l0] (.int y0 :: .int y1 :: .ref y2 :: st) h Q = ((((kdm μ h y2).1 = 22 ∨ (kdm μ h y2).1 = 23) ∧ vp_in y1 (kdm μ h y2).2) ∧ wp μ d 146 528 [l0] st (sI h y2 y1.toNatClampNeg (if (kdm μ h y2).1 = 22 then vp_nar .byte y0 else vp_nar .boolean y0)) Q) := wp_ck _ rfl
set_option maxRecDepth 20000 in
theorem r146_528 (μ : Bool) (d : Nat) (l0 : Value) (y0 : Nat) (st : List Value) (h : Hp) (Q : Po) : wp μ d 146 528 [l0] (.ref y0 :: st) h Q = wp μ d 146 529 [l0] (.ref y0 :: .ref y0 :: st) h Q := wp_nx rfl
set_option maxRecDepth 20000 in
theorem r146_529 (μ : Bool) (d : Nat) (l0 : Value) (st : List Value) (h : Hp) (Q : Po) : wp μ d 146 529 [l0] st h Q = wp μ d 146 531 [l0] (.int (nI 82) :: st) h Q := (wp_nx rfl).trans (congrArg (fun z => wp μ d 146 531 [l0] (.int z :: st) h Q) (show (Int8.ofInt (82)).toInt32 = (nI 82) by decide))
set_option maxRecDepth 20000 in
theorem r146_531 (μ : Bool) (d : Nat) (l0 : Value) (st : List Value) (h : Hp) (Q : Po) : wp μ d 146 531 [l0] st h Q = wp μ d 146 533 [l0] (.int (nI 102) :: st) h Q := (wp_nx rfl).trans (congrArg (fun z => wp μ d 146 533 [l0] (.int z :: st) h Q) (show (Int8.ofInt (102)).toInt32 = (nI 102) by decide))
set_option maxRecDepth 20000 in
theorem r146_533 (μ : Bool) (d : Nat) (l0 : Value) (y0 y1 : Int32) (y2 : Nat) (st : List Value) (h : Hp) (Q : Po) : wp μ d 146 533 [l0] (.int y0 :: .int y1 :: .ref y2 :: st) h Q = ((((kdm μ h y2).1 = 22 ∨ (kdm μ h y2).1 = 23) ∧ vp_in y1 (kdm μ h y2).2) ∧ wp μ d 146 534 [l0] st (sI h y2 y1.toNatClampNeg (if (kdm μ h y2).1 = 22 then vp_nar .byte y0 else vp_nar .boolean y0)) Q) := wp_ck _ rfl
set_option maxRecDepth 20000 in
theorem r146_534 (μ : Bool) (d : Nat) (l0 : Value) (y0 : Nat) (st : List Value) (h : Hp) (Q : Po) : wp μ d 146 534 [l0] (.ref y0 :: st) h Q = wp μ d 146 535 [l0] (.ref y0 :: .ref y0 :: st) h Q := wp_nx rfl
set_option maxRecDepth 20000 in
theorem r146_535 (μ : Bool) (d : Nat) (l0 : Value) (st : List Value) (h : Hp) (Q : Po) : wp μ d 146 535 [l0] st h Q = wp μ d 146 537 [l0] (.int (nI 83) :: st) h Q := (wp_nx rfl).trans (congrArg (fun z => wp μ d 146 537 [l0] (.int z :: st) h Q) (show (Int8.ofInt (83)).toInt32 = (nI 83) by decide))
set_option maxRecDepth 20000 in
theorem r146_537 (μ : Bool) (d : Nat) (l0 : Value) (st : List Value) (h : Hp) (Q : Po) : wp μ d 146 537 [l0] st h Q = wp μ d 146 539 [l0] (.int (nI 32) :: st) h Q := (wp_nx rfl).trans (congrArg (fun z => wp μ d 146 539 [l0] (.int z :: st) h Q) (show (Int8.ofInt (32)).toInt32 = (nI 32) by decide))
set_option maxRecDepth 20000 in
theorem r146_539 (μ : Bool) (d : Nat) (l0 : Value) (y0 y1 : Int32) (y2 : Nat) (st : List Value) (h : Hp) (Q : Po) : wp μ d 146 539 [l0] (.int y0 :: .int y1 :: .ref y2 :: st) h Q = ((((kdm μ h y2).1 = 22 ∨ (kdm μ h y2).1 = 23) ∧ vp_in y1 (kdm μ h y2).2) ∧ wp μ d 146 540 [l0] st (sI h y2 y1.toNatClampNeg (if (kdm μ h y2).1 = 22 then vp_nar .byte y0 else vp_nar .boolean y0)) Q) := wp_ck _ rfl
set_option maxRecDepth 20000 in
theorem r146_540 (μ : Bool) (d : Nat) (l0 : Value) (y0 : Nat) (st : List Value) (h : Hp) (Q : Po) : wp μ d 146 540 [l0] (.ref y0 :: st) h Q = wp μ d 146 541 [l0] (.ref y0 :: .ref y0 :: st) h Q := wp_nx rfl
set_option maxRecDepth 20000 in
theorem r146_541 (μ : Bool) (d : Nat) (l0 : Value) (st : List Value) (h : Hp) (Q : Po) : wp μ d 146 541 [l0] st h Q = wp μ d 146 543 [l0] (.int (nI 84) :: st) h Q := (wp_nx rfl).trans (congrArg (fun z => wp μ d 146 543 [l0] (.int z :: st) h Q) (show (Int8.ofInt (84)).toInt32 = (nI 84) by decide))
set_option maxRecDepth 20000 in
theorem r146_543 (μ : Bool) (d : Nat) (l0 : Value) (st : List Value) (h : Hp) (Q : Po) : wp μ d 146 543 [l0] st h Q = wp μ d 146 545 [l0] (.int (nI 107) :: st) h Q := (wp_nx rfl).trans (congrArg (fun z => wp μ d 146 545 [l0] (.int z :: st) h Q) (show (Int8.ofInt (107)).toInt32 = (nI 107) by decide))
set_option maxRecDepth 20000 in
theorem r146_545 (μ : Bool) (d : Nat) (l0 : Value) (y0 y1 : Int32) (y2 : Nat) (st : List Value) (h : Hp) (Q : Po) : wp μ d 146 545 [l0] (.int y0 :: .int y1 :: .ref y2 :: st) h Q = ((((kdm μ h y2).1 = 22 ∨ (kdm μ h y2).1 = 23) ∧ vp_in y1 (kdm μ h y2).2) ∧ wp μ d 146 546 [l0] st (sI h y2 y1.toNatClampNeg (if (kdm μ h y2).1 = 22 then vp_nar .byte y0 else vp_nar .boolean y0)) Q) := wp_ck _ rfl
set_option maxRecDepth 20000 in
theorem r146_546 (μ : Bool) (d : Nat) (l0 : Value) (y0 : Nat) (st : List Value) (h : Hp) (Q : Po) : wp μ d 146 546 [l0] (.ref y0 :: st) h Q = wp μ d 146 547 [l0] (.ref y0 :: .ref y0 :: st) h Q := wp_nx rfl
set_option maxRecDepth 20000 in
theorem r146_547 (μ : Bool) (d : Nat) (l0 : Value) (st : List Value) (h : Hp) (Q : Po) : wp μ d 146 547 [l0] st h Q = wp μ d 146 549 [l0] (.int (nI 85) :: st) h Q := (wp_nx rfl).trans (congrArg (fun z => wp μ d 146 549 [l0] (.int z :: st) h Q) (show (Int8.ofInt (85)).toInt32 = (nI 85) by decide))
set_option maxRecDepth 20000 in
theorem r146_549 (μ : Bool) (d : Nat) (l0 : Value) (st : List Value) (h : Hp) (Q : Po) : wp μ d 146 549 [l0] st h Q = wp μ d 146 551 [l0] (.int (nI 105) :: st) h Q := (wp_nx rfl).trans (congrArg (fun z => wp μ d 146 551 [l0] (.int z :: st) h Q) (show (Int8.ofInt (105)).toInt32 = (nI 105) by decide))
set_option maxRecDepth 20000 in
theorem r146_551 (μ : Bool) (d : Nat) (l0 : Value) (y0 y1 : Int32) (y2 : Nat) (st : List Value) (h : Hp) (Q : Po) : wp μ d 146 551 [l0] (.int y0 :: .int y1 :: .ref y2 :: st) h Q = ((((kdm μ h y2).1 = 22 ∨ (kdm μ h y2).1 = 23) ∧ vp_in y1 (kdm μ h y2).2) ∧ wp μ d 146 552 [l0] st (sI h y2 y1.toNatClampNeg (if (kdm μ h y2).1 = 22 then vp_nar .byte y0 else vp_nar .boolean y0)) Q) := wp_ck _ rfl
set_option maxRecDepth 20000 in
theorem r146_552 (μ : Bool) (d : Nat) (l0 : Value) (y0 : Nat) (st : List Value) (h : Hp) (Q : Po) : wp μ d 146 552 [l0] (.ref y0 :: st) h Q = wp μ d 146 553 [l0] (.ref y0 :: .ref y0 :: st) h Q := wp_nx rfl
set_option maxRecDepth 20000 in
theorem r146_553 (μ : Bool) (d : Nat) (l0 : Value) (st : List Value) (h : Hp) (Q : Po) : wp μ d 146 553 [l0] st h Q = wp μ d 146 555 [l0] (.int (nI 86) :: st) h Q := (wp_nx rfl).trans (congrArg (fun z => wp μ d 146 555 [l0] (.int z :: st) h Q) (show (Int8.ofInt (86)).toInt32 = (nI 86) by decide))
set_option maxRecDepth 20000 in
theorem r146_555 (μ : Bool) (d : Nat) (l0 : Value) (st : List Value) (h : Hp) (Q : Po) : wp μ d 146 555 [l0] st h Q = wp μ d 146 557 [l0] (.int (nI 110) :: st) h Q := (wp_nx rfl).trans (congrArg (fun z => wp μ d 146 557 [l0] (.int z :: st) h Q) (show (Int8.ofInt (110)).toInt32 = (nI 110) by decide))
set_option maxRecDepth 20000 in
theorem r146_557 (μ : Bool) (d : Nat) (l0 : Value) (y0 y1 : Int32) (y2 : Nat) (st : List Value) (h : Hp) (Q : Po) : wp μ d 146 557 [l0] (.int y0 :: .int y1 :: .ref y2 :: st) h Q = ((((kdm μ h y2).1 = 22 ∨ (kdm μ h y2).1 = 23) ∧ vp_in y1 (kdm μ h y2).2) ∧ wp μ d 146 558 [l0] st (sI h y2 y1.toNatClampNeg (if (kdm μ h y2).1 = 22 then vp_nar .byte y0 else vp_nar .boolean y0)) Q) := wp_ck _ rfl
set_option maxRecDepth 20000 in
theorem r146_558 (μ : Bool) (d : Nat) (l0 : Value) (y0 : Nat) (st : List Value) (h : Hp) (Q : Po) : wp μ d 146 558 [l0] (.ref y0 :: st) h Q = wp μ d 146 559 [l0] (.ref y0 :: .ref y0 :: st) h Q := wp_nx rfl
set_option maxRecDepth 20000 in
theorem r146_559 (μ : Bool) (d : Nat) (l0 : Value) (st : List Value) (h : Hp) (Q : Po) : wp μ d 146 559 [l0] st h Q = wp μ d 146 561 [l0] (.int (nI 87) :: st) h Q := (wp_nx rfl).trans (congrArg (fun z => wp μ d 146 561 [l0] (.int z :: st) h Q) (show (Int8.ofInt (87)).toInt32 = (nI 87) by decide))
set_option maxRecDepth 20000 in
theorem r146_561 (μ : Bool) (d : Nat) (l0 : Value) (st : List Value) (h : Hp) (Q : Po) : wp μ d 146 561 [l0] st h Q = wp μ d 146 563 [l0] (.int (nI 100) :: st) h Q := (wp_nx rfl).trans (congrArg (fun z => wp μ d 146 563 [l0] (.int z :: st) h Q) (show (Int8.ofInt (100)).toInt32 = (nI 100) by decide))
set_option maxRecDepth 20000 in
theorem r146_563 (μ : Bool) (d : Nat) (l0 : Value) (y0 y1 : Int32) (y2 : Nat) (st : List Value) (h : Hp) (Q : Po) : wp μ d 146 563 [l0] (.int y0 :: .int y1 :: .ref y2 :: st) h Q = ((((kdm μ h y2).1 = 22 ∨ (kdm μ h y2).1 = 23) ∧ vp_in y1 (kdm μ h y2).2) ∧ wp μ d 146 564 [l0] st (sI h y2 y1.toNatClampNeg (if (kdm μ h y2).1 = 22 then vp_nar .byte y0 else vp_nar .boolean y0)) Q) := wp_ck _ rfl
set_option maxRecDepth 20000 in
theorem r146_564 (μ : Bool) (d : Nat) (l0 : Value) (y0 : Nat) (st : List Value) (h : Hp) (Q : Po) : wp μ d 146 564 [l0] (.ref y0 :: st) h Q = wp μ d 146 565 [l0] (.ref y0 :: .ref y0 :: st) h Q := wp_nx rfl
set_option maxRecDepth 20000 in
theorem r146_565 (μ : Bool) (d : Nat) (l0 : Value) (st : List Value) (h : Hp) (Q : Po) : wp μ d 146 565 [l0] st h Q = wp μ d 146 567 [l0] (.int (nI 88) :: st) h Q := (wp_nx rfl).trans (congrArg (fun z => wp μ d 146 567 [l0] (.int z :: st) h Q) (show (Int8.ofInt (88)).toInt32 = (nI 88) by decide))
set_option maxRecDepth 20000 in
theorem r146_567 (μ : Bool) (d : Nat) (l0 : Value) (st : List Value) (h : Hp) (Q : Po) : wp μ d 146 567 [l0] st h Q = wp μ d 146 569 [l0] (.int (nI 32) :: st) h Q := (wp_nx rfl).trans (congrArg (fun z => wp μ d 146 569 [l0] (.int z :: st) h Q) (show (Int8.ofInt (32)).toInt32 = (nI 32) by decide))
set_option maxRecDepth 20000 in
theorem r146_569 (μ : Bool) (d : Nat) (l0 : Value) (y0 y1 : Int32) (y2 : Nat) (st : List Value) (h : Hp) (Q : Po) : wp μ d 146 569 [l0] (.int y0 :: .int y1 :: .ref y2 :: st) h Q = ((((kdm μ h y2).1 = 22 ∨ (kdm μ h y2).1 = 23) ∧ vp_in y1 (kdm μ h y2).2) ∧ wp μ d 146 570 [l0] st (sI h y2 y1.toNatClampNeg (if (kdm μ h y2).1 = 22 then vp_nar .byte y0 else vp_nar .boolean y0)) Q) := wp_ck _ rfl
set_option maxRecDepth 20000 in
theorem r146_570 (μ : Bool) (d : Nat) (l0 : Value) (y0 : Nat) (st : List Value) (h : Hp) (Q : Po) : wp μ d 146 570 [l0] (.ref y0 :: st) h Q = wp μ d 146 571 [l0] (.ref y0 :: .ref y0 :: st) h Q := wp_nx rfl
set_option maxRecDepth 20000 in
theorem r146_571 (μ : Bool) (d : Nat) (l0 : Value) (st : List Value) (h : Hp) (Q : Po) : wp μ d 146 571 [l0] st h Q = wp μ d 146 573 [l0] (.int (nI 89) :: st) h Q := (wp_nx rfl).trans (congrArg (fun z => wp μ d 146 573 [l0] (.int z :: st) h Q) (show (Int8.ofInt (89)).toInt32 = (nI 89) by decide))
set_option maxRecDepth 20000 in
theorem r146_573 (μ : Bool) (d : Nat) (l0 : Value) (st : List Value) (h : Hp) (Q : Po) : wp μ d 146 573 [l0] st h Q = wp μ d 146 575 [l0] (.int (nI 119) :: st) h Q := (wp_nx rfl).trans (congrArg (fun z => wp μ d 146 575 [l0] (.int z :: st) h Q) (show (Int8.ofInt (119)).toInt32 = (nI 119) by decide))
set_option maxRecDepth 20000 in
theorem r146_575 (μ : Bool) (d : Nat) (l0 : Value) (y0 y1 : Int32) (y2 : Nat) (st : List Value) (h : Hp) (Q : Po) : wp μ d 146 575 [l0] (.int y0 :: .int y1 :: .ref y2 :: st) h Q = ((((kdm μ h y2).1 = 22 ∨ (kdm μ h y2).1 = 23) ∧ vp_in y1 (kdm μ h y2).2) ∧ wp μ d 146 576 [l0] st (sI h y2 y1.toNatClampNeg (if (kdm μ h y2).1 = 22 then vp_nar .byte y0 else vp_nar .boolean y0)) Q) := wp_ck _ rfl
set_option maxRecDepth 20000 in
theorem r146_576 (μ : Bool) (d : Nat) (l0 : Value) (y0 : Nat) (st : List Value) (h : Hp) (Q : Po) : wp μ d 146 576 [l0] (.ref y0 :: st) h Q = wp μ d 146 577 [l0] (.ref y0 :: .ref y0 :: st) h Q := wp_nx rfl
set_option maxRecDepth 20000 in
theorem r146_577 (μ : Bool) (d : Nat) (l0 : Value) (st : List Value) (h : Hp) (Q : Po) : wp μ d 146 577 [l0] st h Q = wp μ d 146 579 [l0] (.int (nI 90) :: st) h Q := (wp_nx rfl).trans (congrArg (fun z => wp μ d 146 579 [l0] (.int z :: st) h Q) (show (Int8.ofInt (90)).toInt32 = (nI 90) by decide))
set_option maxRecDepth 20000 in
theorem r146_579 (μ : Bool) (d : Nat) (l0 : Value) (st : List Value) (h : Hp) (Q : Po) : wp μ d 146 579 [l0] st h Q = wp μ d 146 581 [l0] (.int (nI 101) :: st) h Q := (wp_nx rfl).trans (congrArg (fun z => wp μ d 146 581 [l0] (.int z :: st) h Q) (show (Int8.ofInt (101)).toInt32 = (nI 101) by decide))
set_option maxRecDepth 20000 in
theorem r146_581 (μ : Bool) (d : Nat) (l0 : Value) (y0 y1 : Int32) (y2 : Nat) (st : List Value) (h : Hp) (Q : Po) : wp μ d 146 581 [l0] (.int y0 :: .int y1 :: .ref y2 :: st) h Q = ((((kdm μ h y2).1 = 22 ∨ (kdm μ h y2).1 = 23) ∧ vp_in y1 (kdm μ h y2).2) ∧ wp μ d 146 582 [l0] st (sI h y2 y1.toNatClampNeg (if (kdm μ h y2).1 = 22 then vp_nar .byte y0 else vp_nar .boolean y0)) Q) := wp_ck _ rfl
set_option maxRecDepth 20000 in
theorem r146_582 (μ : Bool) (d : Nat) (l0 : Value) (y0 : Nat) (st : List Value) (h : Hp) (Q : Po) : wp μ d 146 582 [l0] (.ref y0 :: st) h Q = wp μ d 146 583 [l0] (.ref y0 :: .ref y0 :: st) h Q := wp_nx rfl
set_option maxRecDepth 20000 in
theorem r146_583 (μ : Bool) (d : Nat) (l0 : Value) (st : List Value) (h : Hp) (Q : Po) : wp μ d 146 583 [l0] st h Q = wp μ d 146 585 [l0] (.int (nI 91) :: st) h Q := (wp_nx rfl).trans (congrArg (fun z => wp μ d 146 585 [l0] (.int z :: st) h Q) (show (Int8.ofInt (91)).toInt32 = (nI 91) by decide))
set_option maxRecDepth 20000 in
theorem r146_585 (μ : Bool) (d : Nat) (l0 : Value) (st : List Value) (h : Hp) (Q : Po) : wp μ d 146 585 [l0] st h Q = wp μ d 146 587 [l0] (.int (nI 105) :: st) h Q := (wp_nx rfl).trans (congrArg (fun z => wp μ d 146 587 [l0] (.int z :: st) h Q) (show (Int8.ofInt (105)).toInt32 = (nI 105) by decide))
set_option maxRecDepth 20000 in
theorem r146_587 (μ : Bool) (d : Nat) (l0 : Value) (y0 y1 : Int32) (y2 : Nat) (st : List Value) (h : Hp) (Q : Po) : wp μ d 146 587 [l0] (.int y0 :: .int y1 :: .ref y2 :: st) h Q = ((((kdm μ h y2).1 = 22 ∨ (kdm μ h y2).1 = 23) ∧ vp_in y1 (kdm μ h y2).2) ∧ wp μ d 146 588 [l0] st (sI h y2 y1.toNatClampNeg (if (kdm μ h y2).1 = 22 then vp_nar .byte y0 else vp_nar .boolean y0)) Q) := wp_ck _ rfl
set_option maxRecDepth 20000 in
theorem r146_588 (μ : Bool) (d : Nat) (l0 : Value) (y0 : Nat) (st : List Value) (h : Hp) (Q : Po) : wp μ d 146 588 [l0] (.ref y0 :: st) h Q = wp μ d 146 589 [l0] (.ref y0 :: .ref y0 :: st) h Q := wp_nx rfl
set_option maxRecDepth 20000 in
theorem r146_589 (μ : Bool) (d : Nat) (l0 : Value) (st : List Value) (h : Hp) (Q : Po) : wp μ d 146 589 [l0] st h Q = wp μ d 146 591 [l0] (.int (nI 92) :: st) h Q := (wp_nx rfl).trans (congrArg (fun z => wp μ d 146 591 [l0] (.int z :: st) h Q) (show (Int8.ofInt (92)).toInt32 = (nI 92) by decide))
set_option maxRecDepth 20000 in
theorem r146_591 (μ : Bool) (d : Nat) (l0 : Value) (st : List Value) (h : Hp) (Q : Po) : wp μ d 146 591 [l0] st h Q = wp μ d 146 593 [l0] (.int (nI 103) :: st) h Q := (wp_nx rfl).trans (congrArg (fun z => wp μ d 146 593 [l0] (.int z :: st) h Q) (show (Int8.ofInt (103)).toInt32 = (nI 103) by decide))
set_option maxRecDepth 20000 in
theorem r146_593 (μ : Bool) (d : Nat) (l0 : Value) (y0 y1 : Int32) (y2 : Nat) (st : List Value) (h : Hp) (Q : Po) : wp μ d 146 593 [l0] (.int y0 :: .int y1 :: .ref y2 :: st) h Q = ((((kdm μ h y2).1 = 22 ∨ (kdm μ h y2).1 = 23) ∧ vp_in y1 (kdm μ h y2).2) ∧ wp μ d 146 594 [l0] st (sI h y2 y1.toNatClampNeg (if (kdm μ h y2).1 = 22 then vp_nar .byte y0 else vp_nar .boolean y0)) Q) := wp_ck _ rfl
set_option maxRecDepth 20000 in
theorem r146_594 (μ : Bool) (d : Nat) (l0 : Value) (y0 : Nat) (st : List Value) (h : Hp) (Q : Po) : wp μ d 146 594 [l0] (.ref y0 :: st) h Q = wp μ d 146 595 [l0] (.ref y0 :: .ref y0 :: st) h Q := wp_nx rfl
set_option maxRecDepth 20000 in
theorem r146_595 (μ : Bool) (d : Nat) (l0 : Value) (st : List Value) (h : Hp) (Q : Po) : wp μ d 146 595 [l0] st h Q = wp μ d 146 597 [l0] (.int (nI 93) :: st) h Q := (wp_nx rfl).trans (congrArg (fun z => wp μ d 146 597 [l0] (.int z :: st) h Q) (show (Int8.ofInt (93)).toInt32 = (nI 93) by decide))
set_option maxRecDepth 20000 in
theorem r146_597 (μ : Bool) (d : Nat) (l0 : Value) (st : List Value) (h : Hp) (Q : Po) : wp μ d 146 597 [l0] st h Q = wp μ d 146 599 [l0] (.int (nI 104) :: st) h Q := (wp_nx rfl).trans (congrArg (fun z => wp μ d 146 599 [l0] (.int z :: st) h Q) (show (Int8.ofInt (104)).toInt32 = (nI 104) by decide))
set_option maxRecDepth 20000 in
theorem r146_599 (μ : Bool) (d : Nat) (l0 : Value) (y0 y1 : Int32) (y2 : Nat) (st : List Value) (h : Hp) (Q : Po) : wp μ d 146 599 [l0] (.int y0 :: .int y1 :: .ref y2 :: st) h Q = ((((kdm μ h y2).1 = 22 ∨ (kdm μ h y2).1 = 23) ∧ vp_in y1 (kdm μ h y2).2) ∧ wp μ d 146 600 [l0] st (sI h y2 y1.toNatClampNeg (if (kdm μ h y2).1 = 22 then vp_nar .byte y0 else vp_nar .boolean y0)) Q) := wp_ck _ rfl
set_option maxRecDepth 20000 in
theorem r146_600 (μ : Bool) (d : Nat) (l0 : Value) (y0 : Nat) (st : List Value) (h : Hp) (Q : Po) : wp μ d 146 600 [l0] (.ref y0 :: st) h Q = wp μ d 146 601 [l0] (.ref y0 :: .ref y0 :: st) h Q := wp_nx rfl
set_option maxRecDepth 20000 in
theorem r146_601 (μ : Bool) (d : Nat) (l0 : Value) (st : List Value) (h : Hp) (Q : Po) : wp μ d 146 601 [l0] st h Q = wp μ d 146 603 [l0] (.int (nI 94) :: st) h Q := (wp_nx rfl).trans (congrArg (fun z => wp μ d 146 603 [l0] (.int z :: st) h Q) (show (Int8.ofInt (94)).toInt32 = (nI 94) by decide))
set_option maxRecDepth 20000 in
theorem r146_603 (μ : Bool) (d : Nat) (l0 : Value) (st : List Value) (h : Hp) (Q : Po) : wp μ d 146 603 [l0] st h Q = wp μ d 146 605 [l0] (.int (nI 116) :: st) h Q := (wp_nx rfl).trans (congrArg (fun z => wp μ d 146 605 [l0] (.int z :: st) h Q) (show (Int8.ofInt (116)).toInt32 = (nI 116) by decide))
set_option maxRecDepth 20000 in
theorem r146_605 (μ : Bool) (d : Nat) (l0 : Value) (y0 y1 : Int32) (y2 : Nat) (st : List Value) (h : Hp) (Q : Po) : wp μ d 146 605 [l0] (.int y0 :: .int y1 :: .ref y2 :: st) h Q = ((((kdm μ h y2).1 = 22 ∨ (kdm μ h y2).1 = 23) ∧ vp_in y1 (kdm μ h y2).2) ∧ wp μ d 146 606 [l0] st (sI h y2 y1.toNatClampNeg (if (kdm μ h y2).1 = 22 then vp_nar .byte y0 else vp_nar .boolean y0)) Q) := wp_ck _ rfl
set_option maxRecDepth 20000 in
theorem r146_606 (μ : Bool) (d : Nat) (l0 : Value) (y0 : Nat) (st : List Value) (h : Hp) (Q : Po) : wp μ d 146 606 [l0] (.ref y0 :: st) h Q = wp μ d 146 607 [l0] (.ref y0 :: .ref y0 :: st) h Q := wp_nx rfl
set_option maxRecDepth 20000 in
theorem r146_607 (μ : Bool) (d : Nat) (l0 : Value) (st : List Value) (h : Hp) (Q : Po) : wp μ d 146 607 [l0] st h Q = wp μ d 146 609 [l0] (.int (nI 95) :: st) h Q := (wp_nx rfl).trans (congrArg (fun z => wp μ d 146 609 [l0] (.int z :: st) h Q) (show (Int8.ofInt (95)).toInt32 = (nI 95) by decide))
set_option maxRecDepth 20000 in
theorem r146_609 (μ : Bool) (d : Nat) (l0 : Value) (st : List Value) (h : Hp) (Q : Po) : wp μ d 146 609 [l0] st h Q = wp μ d 146 611 [l0] (.int (nI 32) :: st) h Q := (wp_nx rfl).trans (congrArg (fun z => wp μ d 146 611 [l0] (.int z :: st) h Q) (show (Int8.ofInt (32)).toInt32 = (nI 32) by decide))
set_option maxRecDepth 20000 in
theorem r146_611 (μ : Bool) (d : Nat) (l0 : Value) (y0 y1 : Int32) (y2 : Nat) (st : List Value) (h : Hp) (Q : Po) : wp μ d 146 611 [l0] (.int y0 :: .int y1 :: .ref y2 :: st) h Q = ((((kdm μ h y2).1 = 22 ∨ (kdm μ h y2).1 = 23) ∧ vp_in y1 (kdm μ h y2).2) ∧ wp μ d 146 612 [l0] st (sI h y2 y1.toNatClampNeg (if (kdm μ h y2).1 = 22 then vp_nar .byte y0 else vp_nar .boolean y0)) Q) := wp_ck _ rfl
set_option maxRecDepth 20000 in
theorem r146_612 (μ : Bool) (d : Nat) (l0 : Value) (y0 : Nat) (st : List Value) (h : Hp) (Q : Po) : wp μ d 146 612 [l0] (.ref y0 :: st) h Q = wp μ d 146 613 [l0] (.ref y0 :: .ref y0 :: st) h Q := wp_nx rfl
set_option maxRecDepth 20000 in
theorem r146_613 (μ : Bool) (d : Nat) (l0 : Value) (st : List Value) (h : Hp) (Q : Po) : wp μ d 146 613 [l0] st h Q = wp μ d 146 615 [l0] (.int (nI 96) :: st) h Q := (wp_nx rfl).trans (congrArg (fun z => wp μ d 146 615 [l0] (.int z :: st) h Q) (show (Int8.ofInt (96)).toInt32 = (nI 96) by decide))
set_option maxRecDepth 20000 in
theorem r146_615 (μ : Bool) (d : Nat) (l0 : Value) (st : List Value) (h : Hp) (Q : Po) : wp μ d 146 615 [l0] st h Q = wp μ d 146 617 [l0] (.int (nI 109) :: st) h Q := (wp_nx rfl).trans (congrArg (fun z => wp μ d 146 617 [l0] (.int z :: st) h Q) (show (Int8.ofInt (109)).toInt32 = (nI 109) by decide))
set_option maxRecDepth 20000 in
theorem r146_617 (μ : Bool) (d : Nat) (l0 : Value) (y0 y1 : Int32) (y2 : Nat) (st : List Value) (h : Hp) (Q : Po) : wp μ d 146 617 [l0] (.int y0 :: .int y1 :: .ref y2 :: st) h Q = ((((kdm μ h y2).1 = 22 ∨ (kdm μ h y2).1 = 23) ∧ vp_in y1 (kdm μ h y2).2) ∧ wp μ d 146 618 [l0] st (sI h y2 y1.toNatClampNeg (if (kdm μ h y2).1 = 22 then vp_nar .byte y0 else vp_nar .boolean y0)) Q) := wp_ck _ rfl
set_option maxRecDepth 20000 in
theorem r146_618 (μ : Bool) (d : Nat) (l0 : Value) (y0 : Nat) (st : List Value) (h : Hp) (Q : Po) : wp μ d 146 618 [l0] (.ref y0 :: st) h Q = wp μ d 146 619 [l0] (.ref y0 :: .ref y0 :: st) h Q := wp_nx rfl
set_option maxRecDepth 20000 in
theorem r146_619 (μ : Bool) (d : Nat) (l0 : Value) (st : List Value) (h : Hp) (Q : Po) : wp μ d 146 619 [l0] st h Q = wp μ d 146 621 [l0] (.int (nI 97) :: st) h Q := (wp_nx rfl).trans (congrArg (fun z => wp μ d 146 621 [l0] (.int z :: st) h Q) (show (Int8.ofInt (97)).toInt32 = (nI 97) by decide))
set_option maxRecDepth 20000 in
theorem r146_621 (μ : Bool) (d : Nat) (l0 : Value) (st : List Value) (h : Hp) (Q : Po) : wp μ d 146 621 [l0] st h Q = wp μ d 146 623 [l0] (.int (nI 105) :: st) h Q := (wp_nx rfl).trans (congrArg (fun z => wp μ d 146 623 [l0] (.int z :: st) h Q) (show (Int8.ofInt (105)).toInt32 = (nI 105) by decide))
set_option maxRecDepth 20000 in
theorem r146_623 (μ : Bool) (d : Nat) (l0 : Value) (y0 y1 : Int32) (y2 : Nat) (st : List Value) (h : Hp) (Q : Po) : wp μ d 146 623 [l0] (.int y0 :: .int y1 :: .ref y2 :: st) h Q = ((((kdm μ h y2).1 = 22 ∨ (kdm μ h y2).1 = 23) ∧ vp_in y1 (kdm μ h y2).2) ∧ wp μ d 146 624 [l0] st (sI h y2 y1.toNatClampNeg (if (kdm μ h y2).1 = 22 then vp_nar .byte y0 else vp_nar .boolean y0)) Q) := wp_ck _ rfl
set_option maxRecDepth 20000 in
theorem r146_624 (μ : Bool) (d : Nat) (l0 : Value) (y0 : Nat) (st : List Value) (h : Hp) (Q : Po) : wp μ d 146 624 [l0] (.ref y0 :: st) h Q = wp μ d 146 625 [l0] (.ref y0 :: .ref y0 :: st) h Q := wp_nx rfl
set_option maxRecDepth 20000 in
theorem r146_625 (μ : Bool) (d : Nat) (l0 : Value) (st : List Value) (h : Hp) (Q : Po) : wp μ d 146 625 [l0] st h Q = wp μ d 146 627 [l0] (.int (nI 98) :: st) h Q := (wp_nx rfl).trans (congrArg (fun z => wp μ d 146 627 [l0] (.int z :: st) h Q) (show (Int8.ofInt (98)).toInt32 = (nI 98) by decide))
set_option maxRecDepth 20000 in
theorem r146_627 (μ : Bool) (d : Nat) (l0 : Value) (st : List Value) (h : Hp) (Q : Po) : wp μ d 146 627 [l0] st h Q = wp μ d 146 629 [l0] (.int (nI 110) :: st) h Q := (wp_nx rfl).trans (congrArg (fun z => wp μ d 146 629 [l0] (.int z :: st) h Q) (show (Int8.ofInt (110)).toInt32 = (nI 110) by decide))
set_option maxRecDepth 20000 in
theorem r146_629 (μ : Bool) (d : Nat) (l0 : Value) (y0 y1 : Int32) (y2 : Nat) (st : List Value) (h : Hp) (Q : Po) : wp μ d 146 629 [l0] (.int y0 :: .int y1 :: .ref y2 :: st) h Q = ((((kdm μ h y2).1 = 22 ∨ (kdm μ h y2).1 = 23) ∧ vp_in y1 (kdm μ h y2).2) ∧ wp μ d 146 630 [l0] st (sI h y2 y1.toNatClampNeg (if (kdm μ h y2).1 = 22 then vp_nar .byte y0 else vp_nar .boolean y0)) Q) := wp_ck _ rfl
set_option maxRecDepth 20000 in
theorem r146_630 (μ : Bool) (d : Nat) (l0 : Value) (y0 : Nat) (st : List Value) (h : Hp) (Q : Po) : wp μ d 146 630 [l0] (.ref y0 :: st) h Q = wp μ d 146 631 [l0] (.ref y0 :: .ref y0 :: st) h Q := wp_nx rfl
set_option maxRecDepth 20000 in
theorem r146_631 (μ : Bool) (d : Nat) (l0 : Value) (st : List Value) (h : Hp) (Q : Po) : wp μ d 146 631 [l0] st h Q = wp μ d 146 633 [l0] (.int (nI 99) :: st) h Q := (wp_nx rfl).trans (congrArg (fun z => wp μ d 146 633 [l0] (.int z :: st) h Q) (show (Int8.ofInt (99)).toInt32 = (nI 99) by decide))
set_option maxRecDepth 20000 in
theorem r146_633 (μ : Bool) (d : Nat) (l0 : Value) (st : List Value) (h : Hp) (Q : Po) : wp μ d 146 633 [l0] st h Q = wp μ d 146 635 [l0] (.int (nI 117) :: st) h Q := (wp_nx rfl).trans (congrArg (fun z => wp μ d 146 635 [l0] (.int z :: st) h Q) (show (Int8.ofInt (117)).toInt32 = (nI 117) by decide))
set_option maxRecDepth 20000 in
theorem r146_635 (μ : Bool) (d : Nat) (l0 : Value) (y0 y1 : Int32) (y2 : Nat) (st : List Value) (h : Hp) (Q : Po) : wp μ d 146 635 [l0] (.int y0 :: .int y1 :: .ref y2 :: st) h Q = ((((kdm μ h y2).1 = 22 ∨ (kdm μ h y2).1 = 23) ∧ vp_in y1 (kdm μ h y2).2) ∧ wp μ d 146 636 [l0] st (sI h y2 y1.toNatClampNeg (if (kdm μ h y2).1 = 22 then vp_nar .byte y0 else vp_nar .boolean y0)) Q) := wp_ck _ rfl
set_option maxRecDepth 20000 in
theorem r146_636 (μ : Bool) (d : Nat) (l0 : Value) (y0 : Nat) (st : List Value) (h : Hp) (Q : Po) : wp μ d 146 636 [l0] (.ref y0 :: st) h Q = wp μ d 146 637 [l0] (.ref y0 :: .ref y0 :: st) h Q := wp_nx rfl
set_option maxRecDepth 20000 in
theorem r146_637 (μ : Bool) (d : Nat) (l0 : Value) (st : List Value) (h : Hp) (Q : Po) : wp μ d 146 637 [l0] st h Q = wp μ d 146 639 [l0] (.int (nI 100) :: st) h Q := (wp_nx rfl).trans (congrArg (fun z => wp μ d 146 639 [l0] (.int z :: st) h Q) (show (Int8.ofInt (100)).toInt32 = (nI 100) by decide))
set_option maxRecDepth 20000 in
theorem r146_639 (μ : Bool) (d : Nat) (l0 : Value) (st : List Value) (h : Hp) (Q : Po) : wp μ d 146 639 [l0] st h Q = wp μ d 146 641 [l0] (.int (nI 116) :: st) h Q := (wp_nx rfl).trans (congrArg (fun z => wp μ d 146 641 [l0] (.int z :: st) h Q) (show (Int8.ofInt (116)).toInt32 = (nI 116) by decide))
set_option maxRecDepth 20000 in
theorem r146_641 (μ : Bool) (d : Nat) (l0 : Value) (y0 y1 : Int32) (y2 : Nat) (st : List Value) (h : Hp) (Q : Po) : wp μ d 146 641 [l0] (.int y0 :: .int y1 :: .ref y2 :: st) h Q = ((((kdm μ h y2).1 = 22 ∨ (kdm μ h y2).1 = 23) ∧ vp_in y1 (kdm μ h y2).2) ∧ wp μ d 146 642 [l0] st (sI h y2 y1.toNatClampNeg (if (kdm μ h y2).1 = 22 then vp_nar .byte y0 else vp_nar .boolean y0)) Q) := wp_ck _ rfl
set_option maxRecDepth 20000 in
theorem r146_642 (μ : Bool) (d : Nat) (l0 : Value) (y0 : Nat) (st : List Value) (h : Hp) (Q : Po) : wp μ d 146 642 [l0] (.ref y0 :: st) h Q = wp μ d 146 643 [l0] (.ref y0 :: .ref y0 :: st) h Q := wp_nx rfl
set_option maxRecDepth 20000 in
theorem r146_643 (μ : Bool) (d : Nat) (l0 : Value) (st : List Value) (h : Hp) (Q : Po) : wp μ d 146 643 [l0] st h Q = wp μ d 146 645 [l0] (.int (nI 101) :: st) h Q := (wp_nx rfl).trans (congrArg (fun z => wp μ d 146 645 [l0] (.int z :: st) h Q) (show (Int8.ofInt (101)).toInt32 = (nI 101) by decide))
set_option maxRecDepth 20000 in
theorem r146_645 (μ : Bool) (d : Nat) (l0 : Value) (st : List Value) (h : Hp) (Q : Po) : wp μ d 146 645 [l0] st h Q = wp μ d 146 647 [l0] (.int (nI 101) :: st) h Q := (wp_nx rfl).trans (congrArg (fun z => wp μ d 146 647 [l0] (.int z :: st) h Q) (show (Int8.ofInt (101)).toInt32 = (nI 101) by decide))
set_option maxRecDepth 20000 in
theorem r146_647 (μ : Bool) (d : Nat) (l0 : Value) (y0 y1 : Int32) (y2 : Nat) (st : List Value) (h : Hp) (Q : Po) : wp μ d 146 647 [l0] (.int y0 :: .int y1 :: .ref y2 :: st) h Q = ((((kdm μ h y2).1 = 22 ∨ (kdm μ h y2).1 = 23) ∧ vp_in y1 (kdm μ h y2).2) ∧ wp μ d 146 648 [l0] st (sI h y2 y1.toNatClampNeg (if (kdm μ h y2).1 = 22 then vp_nar .byte y0 else vp_nar .boolean y0)) Q) := wp_ck _ rfl
set_option maxRecDepth 20000 in
theorem r146_648 (μ : Bool) (d : Nat) (l0 : Value) (y0 : Nat) (st : List Value) (h : Hp) (Q : Po) : wp μ d 146 648 [l0] (.ref y0 :: st) h Q = wp μ d 146 649 [l0] (.ref y0 :: .ref y0 :: st) h Q := wp_nx rfl
set_option maxRecDepth 20000 in
theorem r146_649 (μ : Bool) (d : Nat) (l0 : Value) (st : List Value) (h : Hp) (Q : Po) : wp μ d 146 649 [l0] st h Q = wp μ d 146 651 [l0] (.int (nI 102) :: st) h Q := (wp_nx rfl).trans (congrArg (fun z => wp μ d 146 651 [l0] (.int z :: st) h Q) (show (Int8.ofInt (102)).toInt32 = (nI 102) by decide))
set_option maxRecDepth 20000 in
theorem r146_651 (μ : Bool) (d : Nat) (l0 : Value) (st : List Value) (h : Hp) (Q : Po) : wp μ d 146 651 [l0] st h Q = wp μ d 146 653 [l0] (.int (nI 32) :: st) h Q := (wp_nx rfl).trans (congrArg (fun z => wp μ d 146 653 [l0] (.int z :: st) h Q) (show (Int8.ofInt (32)).toInt32 = (nI 32) by decide))
set_option maxRecDepth 20000 in
theorem r146_653 (μ : Bool) (d : Nat) (l0 : Value) (y0 y1 : Int32) (y2 : Nat) (st : List Value) (h : Hp) (Q : Po) : wp μ d 146 653 [l0] (.int y0 :: .int y1 :: .ref y2 :: st) h Q = ((((kdm μ h y2).1 = 22 ∨ (kdm μ h y2).1 = 23) ∧ vp_in y1 (kdm μ h y2).2) ∧ wp μ d 146 654 [l0] st (sI h y2 y1.toNatClampNeg (if (kdm μ h y2).1 = 22 then vp_nar .byte y0 else vp_nar .boolean y0)) Q) := wp_ck _ rfl
set_option maxRecDepth 20000 in
theorem r146_654 (μ : Bool) (d : Nat) (l0 : Value) (y0 y1 : Nat) (st : List Value) (h : Hp) (Q : Po) : wp μ d 146 654 [l0] (.ref y0 :: .ref y1 :: st) h Q = (((kdm μ h y1).1 = 12 ∧ 3 = 3 ∧ wkm μ y1 5 = true) ∧ wp μ d 146 657 [l0] st (sP h y1 5 (some y0)) Q) := wp_ck _ rfl
set_option maxRecDepth 20000 in
theorem r146_654n (μ : Bool) (d : Nat) (l0 : Value) (y1 : Nat) (st : List Value) (h : Hp) (Q : Po) : wp μ d 146 654 [l0] (.null :: .ref y1 :: st) h Q = (((kdm μ h y1).1 = 12 ∧ 3 = 3 ∧ wkm μ y1 5 = true) ∧ wp μ d 146 657 [l0] st (sP h y1 5 none) Q) := wp_ck _ rfl
set_option maxRecDepth 20000 in
theorem r146_657 (μ : Bool) (d : Nat) (x : Nat) (st : List Value) (h : Hp) (Q : Po) : wp μ d 146 657 [.ref x] st h Q = wp μ d 146 658 [.ref x] (.ref x :: st) h Q := wp_nx rfl
set_option maxRecDepth 20000 in
theorem r146_658 (μ : Bool) (d : Nat) (l0 : Value) (st : List Value) (h : Hp) (Q : Po) : wp μ d 146 658 [l0] st h Q = wp μ d 146 661 [l0] (.int (nI 400) :: st) h Q := (wp_nx rfl).trans (congrArg (fun z => wp μ d 146 661 [l0] (.int z :: st) h Q) (show (Int16.ofInt (400)).toInt32 = (nI 400) by decide))
set_option maxRecDepth 20000 in
theorem r146_661 (μ : Bool) (d : Nat) (l0 : Value) (y0 : Int32) (st : List Value) (h : Hp) (Q : Po) : wp μ d 146 661 [l0] (.int y0 :: st) h Q = ((¬ y0 < nI 0 ∧ y0.toNatClampNeg ≤ 1000000) ∧ wp μ d 146 663 [l0] (.ref (hz h) :: st) (mkc h 22 y0.toNatClampNeg) Q) := wp_ck _ rfl
set_option maxRecDepth 20000 in
theorem r146_663 (μ : Bool) (d : Nat) (l0 : Value) (y0 y1 : Nat) (st : List Value) (h : Hp) (Q : Po) : wp μ d 146 663 [l0] (.ref y0 :: .ref y1 :: st) h Q = (((kdm μ h y1).1 = 12 ∧ 3 = 3 ∧ wkm μ y1 6 = true) ∧ wp μ d 146 666 [l0] st (sP h y1 6 (some y0)) Q) := wp_ck _ rfl
set_option maxRecDepth 20000 in
theorem r146_663n (μ : Bool) (d : Nat) (l0 : Value) (y1 : Nat) (st : List Value) (h : Hp) (Q : Po) : wp μ d 146 663 [l0] (.null :: .ref y1 :: st) h Q = (((kdm μ h y1).1 = 12 ∧ 3 = 3 ∧ wkm μ y1 6 = true) ∧ wp μ d 146 666 [l0] st (sP h y1 6 none) Q) := wp_ck _ rfl
set_option maxRecDepth 20000 in
theorem r146_666 (μ : Bool) (d : Nat) (x : Nat) (st : List Value) (h : Hp) (Q : Po) : wp μ d 146 666 [.ref x] st h Q = wp μ d 146 667 [.ref x] (.ref x :: st) h Q := wp_nx rfl
set_option maxRecDepth 20000 in
theorem r146_667 (μ : Bool) (d : Nat) (l0 : Value) (st : List Value) (h : Hp) (Q : Po) : wp μ d 146 667 [l0] st h Q = wp μ d 146 668 [l0] (.int (nI 5) :: st) h Q := (wp_nx rfl).trans (congrArg (fun z => wp μ d 146 668 [l0] (.int z :: st) h Q) (show Int32.ofInt (5) = (nI 5) by decide))
set_option maxRecDepth 20000 in
theorem r146_668 (μ : Bool) (d : Nat) (l0 : Value) (y0 : Int32) (st : List Value) (h : Hp) (Q : Po) : wp μ d 146 668 [l0] (.int y0 :: st) h Q = ((¬ y0 < nI 0 ∧ y0.toNatClampNeg ≤ 1000000) ∧ wp μ d 146 670 [l0] (.ref (hz h) :: st) (mkc h 20 y0.toNatClampNeg) Q) := wp_ck _ rfl
set_option maxRecDepth 20000 in
theorem r146_670 (μ : Bool) (d : Nat) (l0 : Value) (y0 y1 : Nat) (st : List Value) (h : Hp) (Q : Po) : wp μ d 146 670 [l0] (.ref y0 :: .ref y1 :: st) h Q = (((kdm μ h y1).1 = 12 ∧ 3 = 3 ∧ wkm μ y1 7 = true) ∧ wp μ d 146 673 [l0] st (sP h y1 7 (some y0)) Q) := wp_ck _ rfl
set_option maxRecDepth 20000 in
theorem r146_670n (μ : Bool) (d : Nat) (l0 : Value) (y1 : Nat) (st : List Value) (h : Hp) (Q : Po) : wp μ d 146 670 [l0] (.null :: .ref y1 :: st) h Q = (((kdm μ h y1).1 = 12 ∧ 3 = 3 ∧ wkm μ y1 7 = true) ∧ wp μ d 146 673 [l0] st (sP h y1 7 none) Q) := wp_ck _ rfl
set_option maxRecDepth 20000 in
theorem r146_673 (μ : Bool) (d : Nat) (x : Nat) (st : List Value) (h : Hp) (Q : Po) : wp μ d 146 673 [.ref x] st h Q = wp μ d 146 674 [.ref x] (.ref x :: st) h Q := wp_nx rfl
set_option maxRecDepth 20000 in
theorem r146_674 (μ : Bool) (d : Nat) (l0 : Value) (st : List Value) (h : Hp) (Q : Po) : wp μ d 146 674 [l0] st h Q = wp μ d 146 675 [l0] (.int (-1) :: st) h Q := (wp_nx rfl).trans (congrArg (fun z => wp μ d 146 675 [l0] (.int z :: st) h Q) (show Int32.ofInt (-1) = (-1) by decide))
set_option maxRecDepth 20000 in
theorem r146_675 (μ : Bool) (d : Nat) (l0 : Value) (y0 : Int32) (y1 : Nat) (st : List Value) (h : Hp) (Q : Po) : wp μ d 146 675 [l0] (.int y0 :: .ref y1 :: st) h Q = (((kdm μ h y1).1 = 12 ∧ (0 = 0 ∨ (0 = 1 ∧ (y0 = nI 0 ∨ y0 = nI 1)))) ∧ wp μ d 146 678 [l0] st (sI h y1 9 y0) Q) := wp_ck _ rfl
set_option maxRecDepth 20000 in
theorem r146_678 (μ : Bool) (d : Nat) (x : Nat) (st : List Value) (h : Hp) (Q : Po) : wp μ d 146 678 [.ref x] st h Q = wp μ d 146 679 [.ref x] (.ref x :: st) h Q := wp_nx rfl
set_option maxRecDepth 20000 in
theorem r146_679 (μ : Bool) (d : Nat) (l0 : Value) (st : List Value) (h : Hp) (Q : Po) : wp μ d 146 679 [l0] st h Q = wp μ d 146 682 [l0] (.int (nI 401) :: st) h Q := (wp_nx rfl).trans (congrArg (fun z => wp μ d 146 682 [l0] (.int z :: st) h Q) (show (Int16.ofInt (401)).toInt32 = (nI 401) by decide))
set_option maxRecDepth 20000 in
theorem r146_682 (μ : Bool) (d : Nat) (l0 : Value) (y0 : Int32) (st : List Value) (h : Hp) (Q : Po) : wp μ d 146 682 [l0] (.int y0 :: st) h Q = ((¬ y0 < nI 0 ∧ y0.toNatClampNeg ≤ 1000000) ∧ wp μ d 146 684 [l0] (.ref (hz h) :: st) (mkc h 20 y0.toNatClampNeg) Q) := wp_ck _ rfl
set_option maxRecDepth 20000 in
theorem r146_684 (μ : Bool) (d : Nat) (l0 : Value) (y0 y1 : Nat) (st : List Value) (h : Hp) (Q : Po) : wp μ d 146 684 [l0] (.ref y0 :: .ref y1 :: st) h Q = (((kdm μ h y1).1 = 12 ∧ 3 = 3 ∧ wkm μ y1 10 = true) ∧ wp μ d 146 687 [l0] st (sP h y1 10 (some y0)) Q) := wp_ck _ rfl
set_option maxRecDepth 20000 in
theorem r146_684n (μ : Bool) (d : Nat) (l0 : Value) (y1 : Nat) (st : List Value) (h : Hp) (Q : Po) : wp μ d 146 684 [l0] (.null :: .ref y1 :: st) h Q = (((kdm μ h y1).1 = 12 ∧ 3 = 3 ∧ wkm μ y1 10 = true) ∧ wp μ d 146 687 [l0] st (sP h y1 10 none) Q) := wp_ck _ rfl
set_option maxRecDepth 20000 in
theorem r146_687 (μ : Bool) (d : Nat) (x : Nat) (st : List Value) (h : Hp) (Q : Po) : wp μ d 146 687 [.ref x] st h Q = wp μ d 146 688 [.ref x] (.ref x :: st) h Q := wp_nx rfl
set_option maxRecDepth 20000 in
theorem r146_688 (μ : Bool) (d : Nat) (l0 : Value) (st : List Value) (h : Hp) (Q : Po) : wp μ d 146 688 [l0] st h Q = wp μ d 146 691 [l0] (.int (nI 401) :: st) h Q := (wp_nx rfl).trans (congrArg (fun z => wp μ d 146 691 [l0] (.int z :: st) h Q) (show (Int16.ofInt (401)).toInt32 = (nI 401) by decide))
set_option maxRecDepth 20000 in
theorem r146_691 (μ : Bool) (d : Nat) (l0 : Value) (y0 : Int32) (st : List Value) (h : Hp) (Q : Po) : wp μ d 146 691 [l0] (.int y0 :: st) h Q = ((¬ y0 < nI 0 ∧ y0.toNatClampNeg ≤ 1000000) ∧ wp μ d 146 693 [l0] (.ref (hz h) :: st) (mkc h 20 y0.toNatClampNeg) Q) := wp_ck _ rfl
set_option maxRecDepth 20000 in
theorem r146_693 (μ : Bool) (d : Nat) (l0 : Value) (y0 y1 : Nat) (st : List Value) (h : Hp) (Q : Po) : wp μ d 146 693 [l0] (.ref y0 :: .ref y1 :: st) h Q = (((kdm μ h y1).1 = 12 ∧ 3 = 3 ∧ wkm μ y1 11 = true) ∧ wp μ d 146 696 [l0] st (sP h y1 11 (some y0)) Q) := wp_ck _ rfl
set_option maxRecDepth 20000 in
theorem r146_693n (μ : Bool) (d : Nat) (l0 : Value) (y1 : Nat) (st : List Value) (h : Hp) (Q : Po) : wp μ d 146 693 [l0] (.null :: .ref y1 :: st) h Q = (((kdm μ h y1).1 = 12 ∧ 3 = 3 ∧ wkm μ y1 11 = true) ∧ wp μ d 146 696 [l0] st (sP h y1 11 none) Q) := wp_ck _ rfl
set_option maxRecDepth 20000 in
theorem r146_696 (μ : Bool) (d : Nat) (x : Nat) (st : List Value) (h : Hp) (Q : Po) : wp μ d 146 696 [.ref x] st h Q = wp μ d 146 697 [.ref x] (.ref x :: st) h Q := wp_nx rfl
set_option maxRecDepth 20000 in
theorem r146_697 (μ : Bool) (d : Nat) (l0 : Value) (st : List Value) (h : Hp) (Q : Po) : wp μ d 146 697 [l0] st h Q = wp μ d 146 700 [l0] (.int (nI 401) :: st) h Q := (wp_nx rfl).trans (congrArg (fun z => wp μ d 146 700 [l0] (.int z :: st) h Q) (show (Int16.ofInt (401)).toInt32 = (nI 401) by decide))
set_option maxRecDepth 20000 in
theorem r146_700 (μ : Bool) (d : Nat) (l0 : Value) (y0 : Int32) (st : List Value) (h : Hp) (Q : Po) : wp μ d 146 700 [l0] (.int y0 :: st) h Q = ((¬ y0 < nI 0 ∧ y0.toNatClampNeg ≤ 1000000) ∧ wp μ d 146 702 [l0] (.ref (hz h) :: st) (mkc h 20 y0.toNatClampNeg) Q) := wp_ck _ rfl
set_option maxRecDepth 20000 in
theorem r146_702 (μ : Bool) (d : Nat) (l0 : Value) (y0 y1 : Nat) (st : List Value) (h : Hp) (Q : Po) : wp μ d 146 702 [l0] (.ref y0 :: .ref y1 :: st) h Q = (((kdm μ h y1).1 = 12 ∧ 3 = 3 ∧ wkm μ y1 12 = true) ∧ wp μ d 146 705 [l0] st (sP h y1 12 (some y0)) Q) := wp_ck _ rfl
set_option maxRecDepth 20000 in
theorem r146_702n (μ : Bool) (d : Nat) (l0 : Value) (y1 : Nat) (st : List Value) (h : Hp) (Q : Po) : wp μ d 146 702 [l0] (.null :: .ref y1 :: st) h Q = (((kdm μ h y1).1 = 12 ∧ 3 = 3 ∧ wkm μ y1 12 = true) ∧ wp μ d 146 705 [l0] st (sP h y1 12 none) Q) := wp_ck _ rfl
set_option maxRecDepth 20000 in
theorem r146_705 (μ : Bool) (d : Nat) (x : Nat) (st : List Value) (h : Hp) (Q : Po) : wp μ d 146 705 [.ref x] st h Q = wp μ d 146 706 [.ref x] (.ref x :: st) h Q := wp_nx rfl
set_option maxRecDepth 20000 in
theorem r146_706 (μ : Bool) (d : Nat) (l0 : Value) (st : List Value) (h : Hp) (Q : Po) : wp μ d 146 706 [l0] st h Q = wp μ d 146 708 [l0] (.int (nI 12) :: st) h Q := (wp_nx rfl).trans (congrArg (fun z => wp μ d 146 708 [l0] (.int z :: st) h Q) (show (Int8.ofInt (12)).toInt32 = (nI 12) by decide))
set_option maxRecDepth 20000 in
theorem r146_708 (μ : Bool) (d : Nat) (l0 : Value) (y0 : Int32) (st : List Value) (h : Hp) (Q : Po) : wp μ d 146 708 [l0] (.int y0 :: st) h Q = ((¬ y0 < nI 0 ∧ y0.toNatClampNeg ≤ 1000000) ∧ wp μ d 146 710 [l0] (.ref (hz h) :: st) (mkc h 20 y0.toNatClampNeg) Q) := wp_ck _ rfl
set_option maxRecDepth 20000 in
theorem r146_710 (μ : Bool) (d : Nat) (l0 : Value) (y0 y1 : Nat) (st : List Value) (h : Hp) (Q : Po) : wp μ d 146 710 [l0] (.ref y0 :: .ref y1 :: st) h Q = (((kdm μ h y1).1 = 12 ∧ 3 = 3 ∧ wkm μ y1 20 = true) ∧ wp μ d 146 713 [l0] st (sP h y1 20 (some y0)) Q) := wp_ck _ rfl
set_option maxRecDepth 20000 in
theorem r146_710n (μ : Bool) (d : Nat) (l0 : Value) (y1 : Nat) (st : List Value) (h : Hp) (Q : Po) : wp μ d 146 710 [l0] (.null :: .ref y1 :: st) h Q = (((kdm μ h y1).1 = 12 ∧ 3 = 3 ∧ wkm μ y1 20 = true) ∧ wp μ d 146 713 [l0] st (sP h y1 20 none) Q) := wp_ck _ rfl
set_option maxRecDepth 20000 in
theorem r146_713 (μ : Bool) (d : Nat) (x : Nat) (st : List Value) (h : Hp) (Q : Po) : wp μ d 146 713 [.ref x] st h Q = wp μ d 146 714 [.ref x] (.ref x :: st) h Q := wp_nx rfl
set_option maxRecDepth 20000 in
theorem r146_714 (μ : Bool) (d : Nat) (l0 : Value) (st : List Value) (h : Hp) (Q : Po) : wp μ d 146 714 [l0] st h Q = wp μ d 146 716 [l0] (.int (nI 40) :: st) h Q := (wp_nx rfl).trans (congrArg (fun z => wp μ d 146 716 [l0] (.int z :: st) h Q) (show (Int8.ofInt (40)).toInt32 = (nI 40) by decide))
set_option maxRecDepth 20000 in
theorem r146_716 (μ : Bool) (d : Nat) (l0 : Value) (y0 : Int32) (st : List Value) (h : Hp) (Q : Po) : wp μ d 146 716 [l0] (.int y0 :: st) h Q = ((¬ y0 < nI 0 ∧ y0.toNatClampNeg ≤ 1000000) ∧ wp μ d 146 718 [l0] (.ref (hz h) :: st) (mkc h 21 y0.toNatClampNeg) Q) := wp_ck _ rfl
set_option maxRecDepth 20000 in
theorem r146_718 (μ : Bool) (d : Nat) (l0 : Value) (y0 y1 : Nat) (st : List Value) (h : Hp) (Q : Po) : wp μ d 146 718 [l0] (.ref y0 :: .ref y1 :: st) h Q = (((kdm μ h y1).1 = 12 ∧ 3 = 3 ∧ wkm μ y1 23 = true) ∧ wp μ d 146 721 [l0] st (sP h y1 23 (some y0)) Q) := wp_ck _ rfl
set_option maxRecDepth 20000 in
theorem r146_718n (μ : Bool) (d : Nat) (l0 : Value) (y1 : Nat) (st : List Value) (h : Hp) (Q : Po) : wp μ d 146 718 [l0] (.null :: .ref y1 :: st) h Q = (((kdm μ h y1).1 = 12 ∧ 3 = 3 ∧ wkm μ y1 23 = true) ∧ wp μ d 146 721 [l0] st (sP h y1 23 none) Q) := wp_ck _ rfl
set_option maxRecDepth 20000 in
theorem r146_721 (μ : Bool) (d : Nat) (x : Nat) (st : List Value) (h : Hp) (Q : Po) : wp μ d 146 721 [.ref x] st h Q = wp μ d 146 722 [.ref x] (.ref x :: st) h Q := wp_nx rfl
set_option maxRecDepth 20000 in
theorem r146_722 (μ : Bool) (d : Nat) (l0 : Value) (st : List Value) (h : Hp) (Q : Po) : wp μ d 146 722 [l0] st h Q = wp μ d 146 724 [l0] (.int (nI 40) :: st) h Q := (wp_nx rfl).trans (congrArg (fun z => wp μ d 146 724 [l0] (.int z :: st) h Q) (show (Int8.ofInt (40)).toInt32 = (nI 40) by decide))
set_option maxRecDepth 20000 in
theorem r146_724 (μ : Bool) (d : Nat) (l0 : Value) (y0 : Int32) (st : List Value) (h : Hp) (Q : Po) : wp μ d 146 724 [l0] (.int y0 :: st) h Q = ((¬ y0 < nI 0 ∧ y0.toNatClampNeg ≤ 1000000) ∧ wp μ d 146 726 [l0] (.ref (hz h) :: st) (mkc h 21 y0.toNatClampNeg) Q) := wp_ck _ rfl
set_option maxRecDepth 20000 in
theorem r146_726 (μ : Bool) (d : Nat) (l0 : Value) (y0 y1 : Nat) (st : List Value) (h : Hp) (Q : Po) : wp μ d 146 726 [l0] (.ref y0 :: .ref y1 :: st) h Q = (((kdm μ h y1).1 = 12 ∧ 3 = 3 ∧ wkm μ y1 24 = true) ∧ wp μ d 146 729 [l0] st (sP h y1 24 (some y0)) Q) := wp_ck _ rfl
set_option maxRecDepth 20000 in
theorem r146_726n (μ : Bool) (d : Nat) (l0 : Value) (y1 : Nat) (st : List Value) (h : Hp) (Q : Po) : wp μ d 146 726 [l0] (.null :: .ref y1 :: st) h Q = (((kdm μ h y1).1 = 12 ∧ 3 = 3 ∧ wkm μ y1 24 = true) ∧ wp μ d 146 729 [l0] st (sP h y1 24 none) Q) := wp_ck _ rfl
set_option maxRecDepth 20000 in
theorem r146_729 (μ : Bool) (d : Nat) (x : Nat) (st : List Value) (h : Hp) (Q : Po) : wp μ d 146 729 [.ref x] st h Q = wp μ d 146 730 [.ref x] (.ref x :: st) h Q := wp_nx rfl
set_option maxRecDepth 20000 in
theorem r146_730 (μ : Bool) (d : Nat) (l0 : Value) (st : List Value) (h : Hp) (Q : Po) : wp μ d 146 730 [l0] st h Q = wp μ d 146 732 [l0] (.int (nI 40) :: st) h Q := (wp_nx rfl).trans (congrArg (fun z => wp μ d 146 732 [l0] (.int z :: st) h Q) (show (Int8.ofInt (40)).toInt32 = (nI 40) by decide))
set_option maxRecDepth 20000 in
theorem r146_732 (μ : Bool) (d : Nat) (l0 : Value) (y0 : Int32) (st : List Value) (h : Hp) (Q : Po) : wp μ d 146 732 [l0] (.int y0 :: st) h Q = ((¬ y0 < nI 0 ∧ y0.toNatClampNeg ≤ 1000000) ∧ wp μ d 146 734 [l0] (.ref (hz h) :: st) (mkc h 21 y0.toNatClampNeg) Q) := wp_ck _ rfl
set_option maxRecDepth 20000 in
theorem r146_734 (μ : Bool) (d : Nat) (l0 : Value) (y0 y1 : Nat) (st : List Value) (h : Hp) (Q : Po) : wp μ d 146 734 [l0] (.ref y0 :: .ref y1 :: st) h Q = (((kdm μ h y1).1 = 12 ∧ 3 = 3 ∧ wkm μ y1 25 = true) ∧ wp μ d 146 737 [l0] st (sP h y1 25 (some y0)) Q) := wp_ck _ rfl
set_option maxRecDepth 20000 in
theorem r146_734n (μ : Bool) (d : Nat) (l0 : Value) (y1 : Nat) (st : List Value) (h : Hp) (Q : Po) : wp μ d 146 734 [l0] (.null :: .ref y1 :: st) h Q = (((kdm μ h y1).1 = 12 ∧ 3 = 3 ∧ wkm μ y1 25 = true) ∧ wp μ d 146 737 [l0] st (sP h y1 25 none) Q) := wp_ck _ rfl
set_option maxRecDepth 20000 in
theorem r146_737 (μ : Bool) (d : Nat) (x : Nat) (st : List Value) (h : Hp) (Q : Po) : wp μ d 146 737 [.ref x] st h Q = wp μ d 146 738 [.ref x] (.ref x :: st) h Q := wp_nx rfl
set_option maxRecDepth 20000 in
theorem r146_738 (μ : Bool) (d : Nat) (l0 : Value) (st : List Value) (h : Hp) (Q : Po) : wp μ d 146 738 [l0] st h Q = wp μ d 146 740 [l0] (.int (nI 96025) :: st) h Q := (wp_nx rfl).trans (congrArg (fun z => wp μ d 146 740 [l0] (.int z :: st) h Q) (show Int32.ofInt (96025) = (nI 96025) by decide))
set_option maxRecDepth 20000 in
theorem r146_740 (μ : Bool) (d : Nat) (l0 : Value) (y0 : Int32) (st : List Value) (h : Hp) (Q : Po) : wp μ d 146 740 [l0] (.int y0 :: st) h Q = ((¬ y0 < nI 0 ∧ y0.toNatClampNeg ≤ 1000000) ∧ wp μ d 146 742 [l0] (.ref (hz h) :: st) (mkc h 20 y0.toNatClampNeg) Q) := wp_ck _ rfl
set_option maxRecDepth 20000 in
theorem r146_742 (μ : Bool) (d : Nat) (l0 : Value) (y0 y1 : Nat) (st : List Value) (h : Hp) (Q : Po) : wp μ d 146 742 [l0] (.ref y0 :: .ref y1 :: st) h Q = (((kdm μ h y1).1 = 12 ∧ 3 = 3 ∧ wkm μ y1 26 = true) ∧ wp μ d 146 745 [l0] st (sP h y1 26 (some y0)) Q) := wp_ck _ rfl
set_option maxRecDepth 20000 in
theorem r146_742n (μ : Bool) (d : Nat) (l0 : Value) (y1 : Nat) (st : List Value) (h : Hp) (Q : Po) : wp μ d 146 742 [l0] (.null :: .ref y1 :: st) h Q = (((kdm μ h y1).1 = 12 ∧ 3 = 3 ∧ wkm μ y1 26 = true) ∧ wp μ d 146 745 [l0] st (sP h y1 26 none) Q) := wp_ck _ rfl
set_option maxRecDepth 20000 in
theorem r146_745 (μ : Bool) (d : Nat) (x : Nat) (st : List Value) (h : Hp) (Q : Po) : wp μ d 146 745 [.ref x] st h Q = wp μ d 146 746 [.ref x] (.ref x :: st) h Q := wp_nx rfl
set_option maxRecDepth 20000 in
theorem r146_746 (μ : Bool) (d : Nat) (l0 : Value) (st : List Value) (h : Hp) (Q : Po) : wp μ d 146 746 [l0] st h Q = wp μ d 146 748 [l0] (.int (nI 24) :: st) h Q := (wp_nx rfl).trans (congrArg (fun z => wp μ d 146 748 [l0] (.int z :: st) h Q) (show (Int8.ofInt (24)).toInt32 = (nI 24) by decide))
set_option maxRecDepth 20000 in
theorem r146_748 (μ : Bool) (d : Nat) (l0 : Value) (y0 : Int32) (st : List Value) (h : Hp) (Q : Po) : wp μ d 146 748 [l0] (.int y0 :: st) h Q = ((¬ y0 < nI 0 ∧ y0.toNatClampNeg ≤ 1000000) ∧ wp μ d 146 750 [l0] (.ref (hz h) :: st) (mkc h 20 y0.toNatClampNeg) Q) := wp_ck _ rfl
set_option maxRecDepth 20000 in
theorem r146_750 (μ : Bool) (d : Nat) (l0 : Value) (y0 y1 : Nat) (st : List Value) (h : Hp) (Q : Po) : wp μ d 146 750 [l0] (.ref y0 :: .ref y1 :: st) h Q = (((kdm μ h y1).1 = 12 ∧ 3 = 3 ∧ wkm μ y1 27 = true) ∧ wp μ d 146 753 [l0] st (sP h y1 27 (some y0)) Q) := wp_ck _ rfl
set_option maxRecDepth 20000 in
theorem r146_750n (μ : Bool) (d : Nat) (l0 : Value) (y1 : Nat) (st : List Value) (h : Hp) (Q : Po) : wp μ d 146 750 [l0] (.null :: .ref y1 :: st) h Q = (((kdm μ h y1).1 = 12 ∧ 3 = 3 ∧ wkm μ y1 27 = true) ∧ wp μ d 146 753 [l0] st (sP h y1 27 none) Q) := wp_ck _ rfl
set_option maxRecDepth 20000 in
theorem r146_753 (μ : Bool) (d : Nat) (x : Nat) (st : List Value) (h : Hp) (Q : Po) : wp μ d 146 753 [.ref x] st h Q = wp μ d 146 754 [.ref x] (.ref x :: st) h Q := wp_nx rfl
set_option maxRecDepth 20000 in
theorem r146_754 (μ : Bool) (d : Nat) (l0 : Value) (st : List Value) (h : Hp) (Q : Po) : wp μ d 146 754 [l0] st h Q = wp μ d 146 756 [l0] (.int (nI 24) :: st) h Q := (wp_nx rfl).trans (congrArg (fun z => wp μ d 146 756 [l0] (.int z :: st) h Q) (show (Int8.ofInt (24)).toInt32 = (nI 24) by decide))
set_option maxRecDepth 20000 in
theorem r146_756 (μ : Bool) (d : Nat) (l0 : Value) (y0 : Int32) (st : List Value) (h : Hp) (Q : Po) : wp μ d 146 756 [l0] (.int y0 :: st) h Q = ((¬ y0 < nI 0 ∧ y0.toNatClampNeg ≤ 1000000) ∧ wp μ d 146 758 [l0] (.ref (hz h) :: st) (mkc h 21 y0.toNatClampNeg) Q) := wp_ck _ rfl
set_option maxRecDepth 20000 in
theorem r146_758 (μ : Bool) (d : Nat) (l0 : Value) (y0 y1 : Nat) (st : List Value) (h : Hp) (Q : Po) : wp μ d 146 758 [l0] (.ref y0 :: .ref y1 :: st) h Q = (((kdm μ h y1).1 = 12 ∧ 3 = 3 ∧ wkm μ y1 28 = true) ∧ wp μ d 146 761 [l0] st (sP h y1 28 (some y0)) Q) := wp_ck _ rfl
set_option maxRecDepth 20000 in
theorem r146_758n (μ : Bool) (d : Nat) (l0 : Value) (y1 : Nat) (st : List Value) (h : Hp) (Q : Po) : wp μ d 146 758 [l0] (.null :: .ref y1 :: st) h Q = (((kdm μ h y1).1 = 12 ∧ 3 = 3 ∧ wkm μ y1 28 = true) ∧ wp μ d 146 761 [l0] st (sP h y1 28 none) Q) := wp_ck _ rfl
set_option maxRecDepth 20000 in
theorem r146_761 (μ : Bool) (d : Nat) (x : Nat) (st : List Value) (h : Hp) (Q : Po) : wp μ d 146 761 [.ref x] st h Q = wp μ d 146 762 [.ref x] (.ref x :: st) h Q := wp_nx rfl
set_option maxRecDepth 20000 in
theorem r146_762 (μ : Bool) (d : Nat) (l0 : Value) (st : List Value) (h : Hp) (Q : Po) : wp μ d 146 762 [l0] st h Q = wp μ d 146 764 [l0] (.int (nI 12) :: st) h Q := (wp_nx rfl).trans (congrArg (fun z => wp μ d 146 764 [l0] (.int z :: st) h Q) (show (Int8.ofInt (12)).toInt32 = (nI 12) by decide))
set_option maxRecDepth 20000 in
theorem r146_764 (μ : Bool) (d : Nat) (l0 : Value) (y0 : Int32) (st : List Value) (h : Hp) (Q : Po) : wp μ d 146 764 [l0] (.int y0 :: st) h Q = ((¬ y0 < nI 0 ∧ y0.toNatClampNeg ≤ 1000000) ∧ wp μ d 146 766 [l0] (.ref (hz h) :: st) (mkc h 20 y0.toNatClampNeg) Q) := wp_ck _ rfl
set_option maxRecDepth 20000 in
theorem r146_766 (μ : Bool) (d : Nat) (l0 : Value) (y0 y1 : Nat) (st : List Value) (h : Hp) (Q : Po) : wp μ d 146 766 [l0] (.ref y0 :: .ref y1 :: st) h Q = (((kdm μ h y1).1 = 12 ∧ 3 = 3 ∧ wkm μ y1 30 = true) ∧ wp μ d 146 769 [l0] st (sP h y1 30 (some y0)) Q) := wp_ck _ rfl
set_option maxRecDepth 20000 in
theorem r146_766n (μ : Bool) (d : Nat) (l0 : Value) (y1 : Nat) (st : List Value) (h : Hp) (Q : Po) : wp μ d 146 766 [l0] (.null :: .ref y1 :: st) h Q = (((kdm μ h y1).1 = 12 ∧ 3 = 3 ∧ wkm μ y1 30 = true) ∧ wp μ d 146 769 [l0] st (sP h y1 30 none) Q) := wp_ck _ rfl
set_option maxRecDepth 20000 in
theorem r146_769 (μ : Bool) (d : Nat) (x : Nat) (st : List Value) (h : Hp) (Q : Po) : wp μ d 146 769 [.ref x] st h Q = wp μ d 146 770 [.ref x] (.ref x :: st) h Q := wp_nx rfl
set_option maxRecDepth 20000 in
theorem r146_770 (μ : Bool) (d : Nat) (l0 : Value) (st : List Value) (h : Hp) (Q : Po) : wp μ d 146 770 [l0] st h Q = wp μ d 146 772 [l0] (.int (nI 12) :: st) h Q := (wp_nx rfl).trans (congrArg (fun z => wp μ d 146 772 [l0] (.int z :: st) h Q) (show (Int8.ofInt (12)).toInt32 = (nI 12) by decide))
set_option maxRecDepth 20000 in
theorem r146_772 (μ : Bool) (d : Nat) (l0 : Value) (y0 : Int32) (st : List Value) (h : Hp) (Q : Po) : wp μ d 146 772 [l0] (.int y0 :: st) h Q = ((¬ y0 < nI 0 ∧ y0.toNatClampNeg ≤ 1000000) ∧ wp μ d 146 774 [l0] (.ref (hz h) :: st) (mkc h 20 y0.toNatClampNeg) Q) := wp_ck _ rfl
set_option maxRecDepth 20000 in
theorem r146_774 (μ : Bool) (d : Nat) (l0 : Value) (y0 y1 : Nat) (st : List Value) (h : Hp) (Q : Po) : wp μ d 146 774 [l0] (.ref y0 :: .ref y1 :: st) h Q = (((kdm μ h y1).1 = 12 ∧ 3 = 3 ∧ wkm μ y1 31 = true) ∧ wp μ d 146 777 [l0] st (sP h y1 31 (some y0)) Q) := wp_ck _ rfl
set_option maxRecDepth 20000 in
theorem r146_774n (μ : Bool) (d : Nat) (l0 : Value) (y1 : Nat) (st : List Value) (h : Hp) (Q : Po) : wp μ d 146 774 [l0] (.null :: .ref y1 :: st) h Q = (((kdm μ h y1).1 = 12 ∧ 3 = 3 ∧ wkm μ y1 31 = true) ∧ wp μ d 146 777 [l0] st (sP h y1 31 none) Q) := wp_ck _ rfl
set_option maxRecDepth 20000 in
theorem r146_777 (μ : Bool) (d : Nat) (x : Nat) (st : List Value) (h : Hp) (Q : Po) : wp μ d 146 777 [.ref x] st h Q = wp μ d 146 778 [.ref x] (.ref x :: st) h Q := wp_nx rfl
set_option maxRecDepth 20000 in
theorem r146_778 (μ : Bool) (d : Nat) (l0 : Value) (y0 : Nat) (st : List Value) (h : Hp) (Q : Po) : wp μ d 146 778 [l0] (.ref y0 :: st) h Q = ((kdm μ h y0).1 = 12 ∧ wp μ d 146 781 [l0] (va_rf (rpm μ h y0 2) :: st) h Q) := wp_ck _ rfl
set_option maxRecDepth 20000 in
theorem r146_781 (μ : Bool) (d : Nat) (l0 : Value) (st : List Value) (h : Hp) (Q : Po) : wp μ d 146 781 [l0] st h Q = wp μ d 146 784 [l0] (.int (nI 216) :: st) h Q := (wp_nx rfl).trans (congrArg (fun z => wp μ d 146 784 [l0] (.int z :: st) h Q) (show (Int16.ofInt (216)).toInt32 = (nI 216) by decide))
set_option maxRecDepth 20000 in
theorem r146_784 (μ : Bool) (d : Nat) (l0 : Value) (st : List Value) (h : Hp) (Q : Po) : wp μ d 146 784 [l0] st h Q = wp μ d 146 786 [l0] (.int (nI 6) :: st) h Q := (wp_nx rfl).trans (congrArg (fun z => wp μ d 146 786 [l0] (.int z :: st) h Q) (show (Int8.ofInt (6)).toInt32 = (nI 6) by decide))
set_option maxRecDepth 20000 in
theorem r146_786 (μ : Bool) (d : Nat) (l0 : Value) (y0 y1 : Int32) (y2 : Nat) (st : List Value) (h : Hp) (Q : Po) : wp μ d 146 786 [l0] (.int y0 :: .int y1 :: .ref y2 :: st) h Q = (((kdm μ h y2).1 = 20 ∧ vp_in y1 (kdm μ h y2).2) ∧ wp μ d 146 787 [l0] st (sI h y2 y1.toNatClampNeg y0) Q) := wp_ck _ rfl
set_option maxRecDepth 20000 in
theorem r146_787 (μ : Bool) (d : Nat) (x : Nat) (st : List Value) (h : Hp) (Q : Po) : wp μ d 146 787 [.ref x] st h Q = wp μ d 146 788 [.ref x] (.ref x :: st) h Q := wp_nx rfl
set_option maxRecDepth 20000 in
theorem r146_788 (μ : Bool) (d : Nat) (l0 : Value) (y0 : Nat) (st : List Value) (h : Hp) (Q : Po) : wp μ d 146 788 [l0] (.ref y0 :: st) h Q = ((kdm μ h y0).1 = 12 ∧ wp μ d 146 791 [l0] (va_rf (rpm μ h y0 2) :: st) h Q) := wp_ck _ rfl
set_option maxRecDepth 20000 in
theorem r146_791 (μ : Bool) (d : Nat) (l0 : Value) (st : List Value) (h : Hp) (Q : Po) : wp μ d 146 791 [l0] st h Q = wp μ d 146 794 [l0] (.int (nI 217) :: st) h Q := (wp_nx rfl).trans (congrArg (fun z => wp μ d 146 794 [l0] (.int z :: st) h Q) (show (Int16.ofInt (217)).toInt32 = (nI 217) by decide))
set_option maxRecDepth 20000 in
theorem r146_794 (μ : Bool) (d : Nat) (l0 : Value) (st : List Value) (h : Hp) (Q : Po) : wp μ d 146 794 [l0] st h Q = wp μ d 146 795 [l0] (.int (nI 1) :: st) h Q := (wp_nx rfl).trans (congrArg (fun z => wp μ d 146 795 [l0] (.int z :: st) h Q) (show Int32.ofInt (1) = (nI 1) by decide))
set_option maxRecDepth 20000 in
theorem r146_795 (μ : Bool) (d : Nat) (l0 : Value) (y0 y1 : Int32) (y2 : Nat) (st : List Value) (h : Hp) (Q : Po) : wp μ d 146 795 [l0] (.int y0 :: .int y1 :: .ref y2 :: st) h Q = (((kdm μ h y2).1 = 20 ∧ vp_in y1 (kdm μ h y2).2) ∧ wp μ d 146 796 [l0] st (sI h y2 y1.toNatClampNeg y0) Q) := wp_ck _ rfl
set_option maxRecDepth 20000 in
theorem r146_796 (μ : Bool) (d : Nat) (l0 : Value) (h : Hp) (Q : Po) : wp μ d 146 796 [l0] [] h Q = Q none h := wp_rt rfl
theorem r147_0 (μ : Bool) (d : Nat) (l0 : Value) (l2 : Value) (x : Int32) (st : List Value) (h : Hp) (Q : Po) : wp μ d 147 0 [l0, .int x, l2] st h Q = wp μ d 147 1 [l0, .int x, l2] (.int x :: st) h Q := wp_nx rfl
theorem r147_1 (μ : Bool) (d : Nat) (l0 : Value) (l1 : Value) (l2 : Value) (st : List Value) (h : Hp) (Q : Po) : wp μ d 147 1 [l0, l1, l2] st h Q = wp μ d 147 2 [l0, l1, l2] (.int (nI 0) :: st) h Q := (wp_nx rfl).trans (congrArg (fun z => wp μ d 147 2 [l0, l1, l2] (.int z :: st) h Q) (show Int32.ofInt (0) = (nI 0) by decide))
theorem r147_2 (μ : Bool) (d : Nat) (l0 : Value) (l1 : Value) (l2 : Value) (st : List Value) (h : Hp) (Q : Po) : wp μ d 147 2 [l0, l1, l2] st h Q = wp μ d 147 3 [l0, l1, l2] (.int (nI 1) :: st) h Q := (wp_nx rfl).trans (congrArg (fun z => wp μ d 147 3 [l0, l1, l2] (.int z :: st) h Q) (show Int32.ofInt (1) = (nI 1) by decide))
theorem r147_3 (μ : Bool) (d : Nat) (l0 : Value) (l1 : Value) (l2 : Value) (y0 : Int32) (y1 : Int32) (y2 : Int32) (h : Hp) (Q : Po) : wp μ (d + 1) 147 3 [l0, l1, l2] [.int y0, .int y1, .int y2] h Q = cwp μ d 143 [.int y2, .int y1, .int y0] h (fun r h' => wp μ (d + 1) 147 6 [l0, l1, l2] (r.toList ++ []) h' Q) := wp_kl rfl ⟨Nat.le_of_ble_eq_true rfl, ⟨Nat.le_of_ble_eq_true rfl, rfl, Nat.le_of_ble_eq_true rfl⟩, fun q => absurd q (by decide), fun q => absurd q (by decide)⟩
theorem r147_6 (μ : Bool) (d : Nat) (l0 : Value) (l1 : Value) (l2 : Value) (y0 : Int32) (st : List Value) (h : Hp) (Q : Po) : wp μ d 147 6 [l0, l1, l2] (.int y0 :: st) h Q = if ¬ y0 = nI 0 then wp μ d 147 15 [l0, l1, l2] st h Q else wp μ d 147 9 [l0, l1, l2] st h Q := wp_br (¬ y0 = nI 0) rfl
theorem r147_9 (μ : Bool) (d : Nat) (l1 : Value) (l2 : Value) (x : Nat) (st : List Value) (h : Hp) (Q : Po) : wp μ d 147 9 [.ref x, l1, l2] st h Q = wp μ d 147 10 [.ref x, l1, l2] (.ref x :: st) h Q := wp_nx rfl
theorem r147_10 (μ : Bool) (d : Nat) (l0 : Value) (l1 : Value) (l2 : Value) (st : List Value) (h : Hp) (Q : Po) : wp μ d 147 10 [l0, l1, l2] st h Q = wp μ d 147 11 [l0, l1, l2] (.int (-1) :: st) h Q := (wp_nx rfl).trans (congrArg (fun z => wp μ d 147 11 [l0, l1, l2] (.int z :: st) h Q) (show Int32.ofInt (-1) = (-1) by decide))
theorem r147_11 (μ : Bool) (d : Nat) (l0 : Value) (l1 : Value) (l2 : Value) (y0 : Int32) (y1 : Nat) (h : Hp) (Q : Po) : wp μ (d + 1) 147 11 [l0, l1, l2] [.int y0, .ref y1] h Q = ((kdm μ h y1).1 = 12 ∧ cwp μ d 144 [.ref y1, .int y0] h (fun r h' => wp μ (d + 1) 147 14 [l0, l1, l2] (r.toList ++ []) h' Q)) := wp_kc _ True rfl ⟨fun q => by obtain ⟨x, q1, q2⟩ := q.2.2.1 rfl; cases q1; exact q2, fun q => ⟨Nat.le_of_ble_eq_true rfl, ⟨Nat.le_of_ble_eq_true rfl, rfl, Nat.le_of_ble_eq_true rfl⟩, fun _ => ⟨_, rfl, q⟩, fun q9 => absurd q9 (by decide)⟩⟩
theorem r147_14 (μ : Bool) (d : Nat) (l0 : Value) (l1 : Value) (l2 : Value) (y0 : Int32) (h : Hp) (Q : Po) : wp μ d 147 14 [l0, l1, l2] [.int y0] h Q = Q (some (.int y0)) h := wp_rT rfl
theorem r147_15 (μ : Bool) (d : Nat) (l0 : Value) (l1 : Value) (l2 : Value) (st : List Value) (h : Hp) (Q : Po) : wp μ d 147 15 [l0, l1, l2] st h Q = wp μ d 147 16 [l0, l1, l2] (.int (nI 0) :: st) h Q := (wp_nx rfl).trans (congrArg (fun z => wp μ d 147 16 [l0, l1, l2] (.int z :: st) h Q) (show Int32.ofInt (0) = (nI 0) by decide))
theorem r147_16 (μ : Bool) (d : Nat) (l0 : Value) (l1 : Value) (l2 : Value) (x : Int32) (st : List Value) (h : Hp) (Q : Po) : wp μ d 147 16 [l0, l1, l2] (.int x :: st) h Q = wp μ d 147 17 [l0, l1, .int x] st h Q := wp_nx rfl
theorem r147_17 (μ : Bool) (d : Nat) (l0 : Value) (l1 : Value) (x : Int32) (st : List Value) (h : Hp) (Q : Po) : wp μ d 147 17 [l0, l1, .int x] st h Q = wp μ d 147 18 [l0, l1, .int x] (.int x :: st) h Q := wp_nx rfl
theorem r147_18 (μ : Bool) (d : Nat) (l0 : Value) (l1 : Value) (l2 : Value) (st : List Value) (h : Hp) (Q : Po) : wp μ d 147 18 [l0, l1, l2] st h Q = wp μ d 147 21 [l0, l1, l2] (.int (nI 8391) :: st) h Q := (wp_nx rfl).trans (congrArg (fun z => wp μ d 147 21 [l0, l1, l2] (.int z :: st) h Q) (show (Int16.ofInt (8391)).toInt32 = (nI 8391) by decide))
theorem r147_21 (μ : Bool) (d : Nat) (l0 : Value) (l1 : Value) (l2 : Value) (y0 y1 : Int32) (st : List Value) (h : Hp) (Q : Po) : wp μ d 147 21 [l0, l1, l2] (.int y0 :: .int y1 :: st) h Q = if y0 ≤ y1 then wp μ d 147 48 [l0, l1, l2] st h Q else wp μ d 147 24 [l0, l1, l2] st h Q := wp_br (y0 ≤ y1) rfl
theorem r147_24 (μ : Bool) (d : Nat) (l1 : Value) (l2 : Value) (x : Nat) (st : List Value) (h : Hp) (Q : Po) : wp μ d 147 24 [.ref x, l1, l2] st h Q = wp μ d 147 25 [.ref x, l1, l2] (.ref x :: st) h Q := wp_nx rfl
theorem r147_25 (μ : Bool) (d : Nat) (l0 : Value) (l1 : Value) (l2 : Value) (y0 : Nat) (st : List Value) (h : Hp) (Q : Po) : wp μ d 147 25 [l0, l1, l2] (.ref y0 :: st) h Q = ((kdm μ h y0).1 = 12 ∧ wp μ d 147 28 [l0, l1, l2] (va_rf (rpm μ h y0 3) :: st) h Q) := wp_ck _ rfl
theorem r147_28 (μ : Bool) (d : Nat) (l0 : Value) (l1 : Value) (l2 : Value) (st : List Value) (h : Hp) (Q : Po) : wp μ d 147 28 [l0, l1, l2] st h Q = wp μ d 147 31 [l0, l1, l2] (.int (nI 8391) :: st) h Q := (wp_nx rfl).trans (congrArg (fun z => wp μ d 147 31 [l0, l1, l2] (.int z :: st) h Q) (show (Int16.ofInt (8391)).toInt32 = (nI 8391) by decide))
theorem r147_31 (μ : Bool) (d : Nat) (l0 : Value) (l2 : Value) (x : Int32) (st : List Value) (h : Hp) (Q : Po) : wp μ d 147 31 [l0, .int x, l2] st h Q = wp μ d 147 32 [l0, .int x, l2] (.int x :: st) h Q := wp_nx rfl
theorem r147_32 (μ : Bool) (d : Nat) (l0 : Value) (l1 : Value) (l2 : Value) (y0 y1 : Int32) (st : List Value) (h : Hp) (Q : Po) : wp μ d 147 32 [l0, l1, l2] (.int y0 :: .int y1 :: st) h Q = wp μ d 147 33 [l0, l1, l2] (.int (y1 * y0) :: st) h Q := wp_nx rfl
theorem r147_33 (μ : Bool) (d : Nat) (l0 : Value) (l1 : Value) (x : Int32) (st : List Value) (h : Hp) (Q : Po) : wp μ d 147 33 [l0, l1, .int x] st h Q = wp μ d 147 34 [l0, l1, .int x] (.int x :: st) h Q := wp_nx rfl
theorem r147_34 (μ : Bool) (d : Nat) (l0 : Value) (l1 : Value) (l2 : Value) (y0 y1 : Int32) (st : List Value) (h : Hp) (Q : Po) : wp μ d 147 34 [l0, l1, l2] (.int y0 :: .int y1 :: st) h Q = wp μ d 147 35 [l0, l1, l2] (.int (y1 + y0) :: st) h Q := wp_nx rfl
theorem r147_35 (μ : Bool) (d : Nat) (l1 : Value) (l2 : Value) (x : Nat) (st : List Value) (h : Hp) (Q : Po) : wp μ d 147 35 [.ref x, l1, l2] st h Q = wp μ d 147 36 [.ref x, l1, l2] (.ref x :: st) h Q := wp_nx rfl
theorem r147_36 (μ : Bool) (d : Nat) (l0 : Value) (l1 : Value) (l2 : Value) (y0 : Nat) (st : List Value) (h : Hp) (Q : Po) : wp μ d 147 36 [l0, l1, l2] (.ref y0 :: st) h Q = ((kdm μ h y0).1 = 12 ∧ wp μ d 147 39 [l0, l1, l2] (va_rf (rpm μ h y0 2) :: st) h Q) := wp_ck _ rfl
theorem r147_39 (μ : Bool) (d : Nat) (l0 : Value) (l1 : Value) (x : Int32) (st : List Value) (h : Hp) (Q : Po) : wp μ d 147 39 [l0, l1, .int x] st h Q = wp μ d 147 40 [l0, l1, .int x] (.int x :: st) h Q := wp_nx rfl
theorem r147_40 (μ : Bool) (d : Nat) (l0 : Value) (l1 : Value) (l2 : Value) (y0 : Int32) (y1 : Nat) (st : List Value) (h : Hp) (Q : Po) : wp μ d 147 40 [l0, l1, l2] (.int y0 :: .ref y1 :: st) h Q = (((kdm μ h y1).1 = 20 ∧ vp_in y0 (kdm μ h y1).2) ∧ wp μ d 147 41 [l0, l1, l2] (.int (gI h y1 y0.toNatClampNeg) :: st) h Q) := wp_ck _ rfl
theorem r147_41 (μ : Bool) (d : Nat) (l0 : Value) (l1 : Value) (l2 : Value) (y0 y1 : Int32) (y2 : Nat) (st : List Value) (h : Hp) (Q : Po) : wp μ d 147 41 [l0, l1, l2] (.int y0 :: .int y1 :: .ref y2 :: st) h Q = (((kdm μ h y2).1 = 20 ∧ vp_in y1 (kdm μ h y2).2) ∧ wp μ d 147 42 [l0, l1, l2] st (sI h y2 y1.toNatClampNeg y0) Q) := wp_ck _ rfl
theorem r147_42 (μ : Bool) (d : Nat) (l0 : Value) (l1 : Value) (x : Int32) (st : List Value) (h : Hp) (Q : Po) : wp μ d 147 42 [l0, l1, .int x] st h Q = wp μ d 147 45 [l0, l1, .int (x + (nI 1))] st h Q := (wp_nx rfl).trans (congrArg (fun z => wp μ d 147 45 [l0, l1, .int z] st h Q) (show x + Int32.ofInt (1) = x + (nI 1) by rw [show Int32.ofInt (1) = (nI 1) by decide]))
theorem r147_45 (μ : Bool) (d : Nat) (l0 : Value) (l1 : Value) (l2 : Value) (st : List Value) (h : Hp) (Q : Po) : wp μ d 147 45 [l0, l1, l2] st h Q = wp μ d 147 17 [l0, l1, l2] st h Q := wp_nx rfl
theorem r147_48 (μ : Bool) (d : Nat) (l1 : Value) (l2 : Value) (x : Nat) (st : List Value) (h : Hp) (Q : Po) : wp μ d 147 48 [.ref x, l1, l2] st h Q = wp μ d 147 49 [.ref x, l1, l2] (.ref x :: st) h Q := wp_nx rfl
theorem r147_49 (μ : Bool) (d : Nat) (l0 : Value) (l1 : Value) (l2 : Value) (y0 : Nat) (st : List Value) (h : Hp) (Q : Po) : wp μ d 147 49 [l0, l1, l2] (.ref y0 :: st) h Q = ((kdm μ h y0).1 = 12 ∧ wp μ d 147 52 [l0, l1, l2] (va_rf (rpm μ h y0 4) :: st) h Q) := wp_ck _ rfl
theorem r147_52 (μ : Bool) (d : Nat) (l0 : Value) (l2 : Value) (x : Int32) (st : List Value) (h : Hp) (Q : Po) : wp μ d 147 52 [l0, .int x, l2] st h Q = wp μ d 147 53 [l0, .int x, l2] (.int x :: st) h Q := wp_nx rfl
theorem r147_53 (μ : Bool) (d : Nat) (l0 : Value) (l1 : Value) (l2 : Value) (st : List Value) (h : Hp) (Q : Po) : wp μ d 147 53 [l0, l1, l2] st h Q = wp μ d 147 54 [l0, l1, l2] (.int (nI 1) :: st) h Q := (wp_nx rfl).trans (congrArg (fun z => wp μ d 147 54 [l0, l1, l2] (.int z :: st) h Q) (show Int32.ofInt (1) = (nI 1) by decide))
theorem r147_54 (μ : Bool) (d : Nat) (l0 : Value) (l1 : Value) (l2 : Value) (y0 y1 : Int32) (y2 : Nat) (st : List Value) (h : Hp) (Q : Po) : wp μ d 147 54 [l0, l1, l2] (.int y0 :: .int y1 :: .ref y2 :: st) h Q = ((((kdm μ h y2).1 = 22 ∨ (kdm μ h y2).1 = 23) ∧ vp_in y1 (kdm μ h y2).2) ∧ wp μ d 147 55 [l0, l1, l2] st (sI h y2 y1.toNatClampNeg (if (kdm μ h y2).1 = 22 then vp_nar .byte y0 else vp_nar .boolean y0)) Q) := wp_ck _ rfl
theorem r147_55 (μ : Bool) (d : Nat) (l1 : Value) (l2 : Value) (x : Nat) (st : List Value) (h : Hp) (Q : Po) : wp μ d 147 55 [.ref x, l1, l2] st h Q = wp μ d 147 56 [.ref x, l1, l2] (.ref x :: st) h Q := wp_nx rfl
theorem r147_56 (μ : Bool) (d : Nat) (l0 : Value) (l1 : Value) (l2 : Value) (st : List Value) (h : Hp) (Q : Po) : wp μ d 147 56 [l0, l1, l2] st h Q = wp μ d 147 57 [l0, l1, l2] (.int (nI 0) :: st) h Q := (wp_nx rfl).trans (congrArg (fun z => wp μ d 147 57 [l0, l1, l2] (.int z :: st) h Q) (show Int32.ofInt (0) = (nI 0) by decide))
theorem r147_57 (μ : Bool) (d : Nat) (l0 : Value) (l1 : Value) (l2 : Value) (y0 : Int32) (y1 : Nat) (h : Hp) (Q : Po) : wp μ (d + 1) 147 57 [l0, l1, l2] [.int y0, .ref y1] h Q = ((kdm μ h y1).1 = 12 ∧ cwp μ d 145 [.ref y1, .int y0] h (fun r h' => wp μ (d + 1) 147 60 [l0, l1, l2] (r.toList ++ []) h' Q)) := wp_kc _ True rfl ⟨fun q => by obtain ⟨x, q1, q2⟩ := q.2.2.1 rfl; cases q1; exact q2, fun q => ⟨Nat.le_of_ble_eq_true rfl, ⟨Nat.le_of_ble_eq_true rfl, rfl, Nat.le_of_ble_eq_true rfl⟩, fun _ => ⟨_, rfl, q⟩, fun q9 => absurd q9 (by decide)⟩⟩
theorem r147_60 (μ : Bool) (d : Nat) (l0 : Value) (l1 : Value) (l2 : Value) (y0 : Int32) (h : Hp) (Q : Po) : wp μ d 147 60 [l0, l1, l2] [.int y0] h Q = Q (some (.int y0)) h := wp_rT rfl
theorem r148_0 (μ : Bool) (d : Nat) (l0 : Value) (l2 : Value) (x : Int32) (st : List Value) (h : Hp) (Q : Po) : wp μ d 148 0 [l0, .int x, l2] st h Q = wp μ d 148 1 [l0, .int x, l2] (.int x :: st) h Q := wp_nx rfl
theorem r148_1 (μ : Bool) (d : Nat) (l0 : Value) (l1 : Value) (l2 : Value) (st : List Value) (h : Hp) (Q : Po) : wp μ d 148 1 [l0, l1, l2] st h Q = wp μ d 148 2 [l0, l1, l2] (.int (nI 0) :: st) h Q := (wp_nx rfl).trans (congrArg (fun z => wp μ d 148 2 [l0, l1, l2] (.int z :: st) h Q) (show Int32.ofInt (0) = (nI 0) by decide))
theorem r148_2 (μ : Bool) (d : Nat) (l0 : Value) (l1 : Value) (l2 : Value) (st : List Value) (h : Hp) (Q : Po) : wp μ d 148 2 [l0, l1, l2] st h Q = wp μ d 148 3 [l0, l1, l2] (.int (nI 1) :: st) h Q := (wp_nx rfl).trans (congrArg (fun z => wp μ d 148 3 [l0, l1, l2] (.int z :: st) h Q) (show Int32.ofInt (1) = (nI 1) by decide))
theorem r148_3 (μ : Bool) (d : Nat) (l0 : Value) (l1 : Value) (l2 : Value) (y0 : Int32) (y1 : Int32) (y2 : Int32) (h : Hp) (Q : Po) : wp μ (d + 1) 148 3 [l0, l1, l2] [.int y0, .int y1, .int y2] h Q = cwp μ d 143 [.int y2, .int y1, .int y0] h (fun r h' => wp μ (d + 1) 148 6 [l0, l1, l2] (r.toList ++ []) h' Q) := wp_kl rfl ⟨Nat.le_of_ble_eq_true rfl, ⟨Nat.le_of_ble_eq_true rfl, rfl, Nat.le_of_ble_eq_true rfl⟩, fun q => absurd q (by decide), fun q => absurd q (by decide)⟩
theorem r148_6 (μ : Bool) (d : Nat) (l0 : Value) (l1 : Value) (l2 : Value) (y0 : Int32) (st : List Value) (h : Hp) (Q : Po) : wp μ d 148 6 [l0, l1, l2] (.int y0 :: st) h Q = if ¬ y0 = nI 0 then wp μ d 148 15 [l0, l1, l2] st h Q else wp μ d 148 9 [l0, l1, l2] st h Q := wp_br (¬ y0 = nI 0) rfl
theorem r148_9 (μ : Bool) (d : Nat) (l1 : Value) (l2 : Value) (x : Nat) (st : List Value) (h : Hp) (Q : Po) : wp μ d 148 9 [.ref x, l1, l2] st h Q = wp μ d 148 10 [.ref x, l1, l2] (.ref x :: st) h Q := wp_nx rfl
theorem r148_10 (μ : Bool) (d : Nat) (l0 : Value) (l1 : Value) (l2 : Value) (st : List Value) (h : Hp) (Q : Po) : wp μ d 148 10 [l0, l1, l2] st h Q = wp μ d 148 11 [l0, l1, l2] (.int (-1) :: st) h Q := (wp_nx rfl).trans (congrArg (fun z => wp μ d 148 11 [l0, l1, l2] (.int z :: st) h Q) (show Int32.ofInt (-1) = (-1) by decide))
theorem r148_11 (μ : Bool) (d : Nat) (l0 : Value) (l1 : Value) (l2 : Value) (y0 : Int32) (y1 : Nat) (h : Hp) (Q : Po) : wp μ (d + 1) 148 11 [l0, l1, l2] [.int y0, .ref y1] h Q = ((kdm μ h y1).1 = 12 ∧ cwp μ d 144 [.ref y1, .int y0] h (fun r h' => wp μ (d + 1) 148 14 [l0, l1, l2] (r.toList ++ []) h' Q)) := wp_kc _ True rfl ⟨fun q => by obtain ⟨x, q1, q2⟩ := q.2.2.1 rfl; cases q1; exact q2, fun q => ⟨Nat.le_of_ble_eq_true rfl, ⟨Nat.le_of_ble_eq_true rfl, rfl, Nat.le_of_ble_eq_true rfl⟩, fun _ => ⟨_, rfl, q⟩, fun q9 => absurd q9 (by decide)⟩⟩
theorem r148_14 (μ : Bool) (d : Nat) (l0 : Value) (l1 : Value) (l2 : Value) (y0 : Int32) (h : Hp) (Q : Po) : wp μ d 148 14 [l0, l1, l2] [.int y0] h Q = Q (some (.int y0)) h := wp_rT rfl
theorem r148_15 (μ : Bool) (d : Nat) (l1 : Value) (l2 : Value) (x : Nat) (st : List Value) (h : Hp) (Q : Po) : wp μ d 148 15 [.ref x, l1, l2] st h Q = wp μ d 148 16 [.ref x, l1, l2] (.ref x :: st) h Q := wp_nx rfl
theorem r148_16 (μ : Bool) (d : Nat) (l0 : Value) (l1 : Value) (l2 : Value) (y0 : Nat) (st : List Value) (h : Hp) (Q : Po) : wp μ d 148 16 [l0, l1, l2] (.ref y0 :: st) h Q = ((kdm μ h y0).1 = 12 ∧ wp μ d 148 19 [l0, l1, l2] (va_rf (rpm μ h y0 4) :: st) h Q) := wp_ck _ rfl
theorem r148_19 (μ : Bool) (d : Nat) (l0 : Value) (l2 : Value) (x : Int32) (st : List Value) (h : Hp) (Q : Po) : wp μ d 148 19 [l0, .int x, l2] st h Q = wp μ d 148 20 [l0, .int x, l2] (.int x :: st) h Q := wp_nx rfl
theorem r148_20 (μ : Bool) (d : Nat) (l0 : Value) (l1 : Value) (l2 : Value) (y0 : Int32) (y1 : Nat) (st : List Value) (h : Hp) (Q : Po) : wp μ d 148 20 [l0, l1, l2] (.int y0 :: .ref y1 :: st) h Q = ((((kdm μ h y1).1 = 22 ∨ (kdm μ h y1).1 = 23) ∧ vp_in y0 (kdm μ h y1).2) ∧ wp μ d 148 21 [l0, l1, l2] (.int (gI h y1 y0.toNatClampNeg) :: st) h Q) := wp_ck _ rfl
theorem r148_21 (μ : Bool) (d : Nat) (l0 : Value) (l1 : Value) (l2 : Value) (y0 : Int32) (st : List Value) (h : Hp) (Q : Po) : wp μ d 148 21 [l0, l1, l2] (.int y0 :: st) h Q = if ¬ y0 = nI 0 then wp μ d 148 31 [l0, l1, l2] st h Q else wp μ d 148 24 [l0, l1, l2] st h Q := wp_br (¬ y0 = nI 0) rfl
theorem r148_24 (μ : Bool) (d : Nat) (l1 : Value) (l2 : Value) (x : Nat) (st : List Value) (h : Hp) (Q : Po) : wp μ d 148 24 [.ref x, l1, l2] st h Q = wp μ d 148 25 [.ref x, l1, l2] (.ref x :: st) h Q := wp_nx rfl
theorem r148_25 (μ : Bool) (d : Nat) (l0 : Value) (l1 : Value) (l2 : Value) (st : List Value) (h : Hp) (Q : Po) : wp μ d 148 25 [l0, l1, l2] st h Q = wp μ d 148 27 [l0, l1, l2] (.int (-2) :: st) h Q := (wp_nx rfl).trans (congrArg (fun z => wp μ d 148 27 [l0, l1, l2] (.int z :: st) h Q) (show (Int8.ofInt (-2)).toInt32 = (-2) by decide))
theorem r148_27 (μ : Bool) (d : Nat) (l0 : Value) (l1 : Value) (l2 : Value) (y0 : Int32) (y1 : Nat) (h : Hp) (Q : Po) : wp μ (d + 1) 148 27 [l0, l1, l2] [.int y0, .ref y1] h Q = ((kdm μ h y1).1 = 12 ∧ cwp μ d 144 [.ref y1, .int y0] h (fun r h' => wp μ (d + 1) 148 30 [l0, l1, l2] (r.toList ++ []) h' Q)) := wp_kc _ True rfl ⟨fun q => by obtain ⟨x, q1, q2⟩ := q.2.2.1 rfl; cases q1; exact q2, fun q => ⟨Nat.le_of_ble_eq_true rfl, ⟨Nat.le_of_ble_eq_true rfl, rfl, Nat.le_of_ble_eq_true rfl⟩, fun _ => ⟨_, rfl, q⟩, fun q9 => absurd q9 (by decide)⟩⟩
theorem r148_30 (μ : Bool) (d : Nat) (l0 : Value) (l1 : Value) (l2 : Value) (y0 : Int32) (h : Hp) (Q : Po) : wp μ d 148 30 [l0, l1, l2] [.int y0] h Q = Q (some (.int y0)) h := wp_rT rfl
theorem r148_31 (μ : Bool) (d : Nat) (l0 : Value) (l1 : Value) (l2 : Value) (st : List Value) (h : Hp) (Q : Po) : wp μ d 148 31 [l0, l1, l2] st h Q = wp μ d 148 32 [l0, l1, l2] (.int (nI 0) :: st) h Q := (wp_nx rfl).trans (congrArg (fun z => wp μ d 148 32 [l0, l1, l2] (.int z :: st) h Q) (show Int32.ofInt (0) = (nI 0) by decide))
theorem r148_32 (μ : Bool) (d : Nat) (l0 : Value) (l1 : Value) (l2 : Value) (x : Int32) (st : List Value) (h : Hp) (Q : Po) : wp μ d 148 32 [l0, l1, l2] (.int x :: st) h Q = wp μ d 148 33 [l0, l1, .int x] st h Q := wp_nx rfl
theorem r148_33 (μ : Bool) (d : Nat) (l0 : Value) (l1 : Value) (x : Int32) (st : List Value) (h : Hp) (Q : Po) : wp μ d 148 33 [l0, l1, .int x] st h Q = wp μ d 148 34 [l0, l1, .int x] (.int x :: st) h Q := wp_nx rfl
theorem r148_34 (μ : Bool) (d : Nat) (l0 : Value) (l1 : Value) (l2 : Value) (st : List Value) (h : Hp) (Q : Po) : wp μ d 148 34 [l0, l1, l2] st h Q = wp μ d 148 37 [l0, l1, l2] (.int (nI 8391) :: st) h Q := (wp_nx rfl).trans (congrArg (fun z => wp μ d 148 37 [l0, l1, l2] (.int z :: st) h Q) (show (Int16.ofInt (8391)).toInt32 = (nI 8391) by decide))
theorem r148_37 (μ : Bool) (d : Nat) (l0 : Value) (l1 : Value) (l2 : Value) (y0 y1 : Int32) (st : List Value) (h : Hp) (Q : Po) : wp μ d 148 37 [l0, l1, l2] (.int y0 :: .int y1 :: st) h Q = if y0 ≤ y1 then wp μ d 148 64 [l0, l1, l2] st h Q else wp μ d 148 40 [l0, l1, l2] st h Q := wp_br (y0 ≤ y1) rfl
theorem r148_40 (μ : Bool) (d : Nat) (l1 : Value) (l2 : Value) (x : Nat) (st : List Value) (h : Hp) (Q : Po) : wp μ d 148 40 [.ref x, l1, l2] st h Q = wp μ d 148 41 [.ref x, l1, l2] (.ref x :: st) h Q := wp_nx rfl
theorem r148_41 (μ : Bool) (d : Nat) (l0 : Value) (l1 : Value) (l2 : Value) (y0 : Nat) (st : List Value) (h : Hp) (Q : Po) : wp μ d 148 41 [l0, l1, l2] (.ref y0 :: st) h Q = ((kdm μ h y0).1 = 12 ∧ wp μ d 148 44 [l0, l1, l2] (va_rf (rpm μ h y0 2) :: st) h Q) := wp_ck _ rfl
theorem r148_44 (μ : Bool) (d : Nat) (l0 : Value) (l1 : Value) (x : Int32) (st : List Value) (h : Hp) (Q : Po) : wp μ d 148 44 [l0, l1, .int x] st h Q = wp μ d 148 45 [l0, l1, .int x] (.int x :: st) h Q := wp_nx rfl
theorem r148_45 (μ : Bool) (d : Nat) (l1 : Value) (l2 : Value) (x : Nat) (st : List Value) (h : Hp) (Q : Po) : wp μ d 148 45 [.ref x, l1, l2] st h Q = wp μ d 148 46 [.ref x, l1, l2] (.ref x :: st) h Q := wp_nx rfl
theorem r148_46 (μ : Bool) (d : Nat) (l0 : Value) (l1 : Value) (l2 : Value) (y0 : Nat) (st : List Value) (h : Hp) (Q : Po) : wp μ d 148 46 [l0, l1, l2] (.ref y0 :: st) h Q = ((kdm μ h y0).1 = 12 ∧ wp μ d 148 49 [l0, l1, l2] (va_rf (rpm μ h y0 3) :: st) h Q) := wp_ck _ rfl
theorem r148_49 (μ : Bool) (d : Nat) (l0 : Value) (l1 : Value) (l2 : Value) (st : List Value) (h : Hp) (Q : Po) : wp μ d 148 49 [l0, l1, l2] st h Q = wp μ d 148 52 [l0, l1, l2] (.int (nI 8391) :: st) h Q := (wp_nx rfl).trans (congrArg (fun z => wp μ d 148 52 [l0, l1, l2] (.int z :: st) h Q) (show (Int16.ofInt (8391)).toInt32 = (nI 8391) by decide))
theorem r148_52 (μ : Bool) (d : Nat) (l0 : Value) (l2 : Value) (x : Int32) (st : List Value) (h : Hp) (Q : Po) : wp μ d 148 52 [l0, .int x, l2] st h Q = wp μ d 148 53 [l0, .int x, l2] (.int x :: st) h Q := wp_nx rfl
theorem r148_53 (μ : Bool) (d : Nat) (l0 : Value) (l1 : Value) (l2 : Value) (y0 y1 : Int32) (st : List Value) (h : Hp) (Q : Po) : wp μ d 148 53 [l0, l1, l2] (.int y0 :: .int y1 :: st) h Q = wp μ d 148 54 [l0, l1, l2] (.int (y1 * y0) :: st) h Q := wp_nx rfl
theorem r148_54 (μ : Bool) (d : Nat) (l0 : Value) (l1 : Value) (x : Int32) (st : List Value) (h : Hp) (Q : Po) : wp μ d 148 54 [l0, l1, .int x] st h Q = wp μ d 148 55 [l0, l1, .int x] (.int x :: st) h Q := wp_nx rfl
theorem r148_55 (μ : Bool) (d : Nat) (l0 : Value) (l1 : Value) (l2 : Value) (y0 y1 : Int32) (st : List Value) (h : Hp) (Q : Po) : wp μ d 148 55 [l0, l1, l2] (.int y0 :: .int y1 :: st) h Q = wp μ d 148 56 [l0, l1, l2] (.int (y1 + y0) :: st) h Q := wp_nx rfl
theorem r148_56 (μ : Bool) (d : Nat) (l0 : Value) (l1 : Value) (l2 : Value) (y0 : Int32) (y1 : Nat) (st : List Value) (h : Hp) (Q : Po) : wp μ d 148 56 [l0, l1, l2] (.int y0 :: .ref y1 :: st) h Q = (((kdm μ h y1).1 = 20 ∧ vp_in y0 (kdm μ h y1).2) ∧ wp μ d 148 57 [l0, l1, l2] (.int (gI h y1 y0.toNatClampNeg) :: st) h Q) := wp_ck _ rfl
theorem r148_57 (μ : Bool) (d : Nat) (l0 : Value) (l1 : Value) (l2 : Value) (y0 y1 : Int32) (y2 : Nat) (st : List Value) (h : Hp) (Q : Po) : wp μ d 148 57 [l0, l1, l2] (.int y0 :: .int y1 :: .ref y2 :: st) h Q = (((kdm μ h y2).1 = 20 ∧ vp_in y1 (kdm μ h y2).2) ∧ wp μ d 148 58 [l0, l1, l2] st (sI h y2 y1.toNatClampNeg y0) Q) := wp_ck _ rfl
theorem r148_58 (μ : Bool) (d : Nat) (l0 : Value) (l1 : Value) (x : Int32) (st : List Value) (h : Hp) (Q : Po) : wp μ d 148 58 [l0, l1, .int x] st h Q = wp μ d 148 61 [l0, l1, .int (x + (nI 1))] st h Q := (wp_nx rfl).trans (congrArg (fun z => wp μ d 148 61 [l0, l1, .int z] st h Q) (show x + Int32.ofInt (1) = x + (nI 1) by rw [show Int32.ofInt (1) = (nI 1) by decide]))
theorem r148_61 (μ : Bool) (d : Nat) (l0 : Value) (l1 : Value) (l2 : Value) (st : List Value) (h : Hp) (Q : Po) : wp μ d 148 61 [l0, l1, l2] st h Q = wp μ d 148 33 [l0, l1, l2] st h Q := wp_nx rfl
theorem r148_64 (μ : Bool) (d : Nat) (l1 : Value) (l2 : Value) (x : Nat) (st : List Value) (h : Hp) (Q : Po) : wp μ d 148 64 [.ref x, l1, l2] st h Q = wp μ d 148 65 [.ref x, l1, l2] (.ref x :: st) h Q := wp_nx rfl
theorem r148_65 (μ : Bool) (d : Nat) (l0 : Value) (l1 : Value) (l2 : Value) (st : List Value) (h : Hp) (Q : Po) : wp μ d 148 65 [l0, l1, l2] st h Q = wp μ d 148 66 [l0, l1, l2] (.int (nI 0) :: st) h Q := (wp_nx rfl).trans (congrArg (fun z => wp μ d 148 66 [l0, l1, l2] (.int z :: st) h Q) (show Int32.ofInt (0) = (nI 0) by decide))
theorem r148_66 (μ : Bool) (d : Nat) (l0 : Value) (l1 : Value) (l2 : Value) (y0 : Int32) (y1 : Nat) (h : Hp) (Q : Po) : wp μ (d + 1) 148 66 [l0, l1, l2] [.int y0, .ref y1] h Q = ((kdm μ h y1).1 = 12 ∧ cwp μ d 145 [.ref y1, .int y0] h (fun r h' => wp μ (d + 1) 148 69 [l0, l1, l2] (r.toList ++ []) h' Q)) := wp_kc _ True rfl ⟨fun q => by obtain ⟨x, q1, q2⟩ := q.2.2.1 rfl; cases q1; exact q2, fun q => ⟨Nat.le_of_ble_eq_true rfl, ⟨Nat.le_of_ble_eq_true rfl, rfl, Nat.le_of_ble_eq_true rfl⟩, fun _ => ⟨_, rfl, q⟩, fun q9 => absurd q9 (by decide)⟩⟩
theorem r148_69 (μ : Bool) (d : Nat) (l0 : Value) (l1 : Value) (l2 : Value) (y0 : Int32) (h : Hp) (Q : Po) : wp μ d 148 69 [l0, l1, l2] [.int y0] h Q = Q (some (.int y0)) h := wp_rT rfl
theorem r149_0 (μ : Bool) (d : Nat) (l1 : Value) (x : Nat) (st : List Value) (h : Hp) (Q : Po) : wp μ d 149 0 [.ref x, l1] st h Q = wp μ d 149 1 [.ref x, l1] (.ref x :: st) h Q := wp_nx rfl
theorem r149_1 (μ : Bool) (d : Nat) (l0 : Value) (l1 : Value) (y0 : Nat) (st : List Value) (h : Hp) (Q : Po) : wp μ d 149 1 [l0, l1] (.ref y0 :: st) h Q = ((kdm μ h y0).1 = 12 ∧ wp μ d 149 4 [l0, l1] (va_rf (rpm μ h y0 2) :: st) h Q) := wp_ck _ rfl
theorem r149_4 (μ : Bool) (d : Nat) (l0 : Value) (l1 : Value) (st : List Value) (h : Hp) (Q : Po) : wp μ d 149 4 [l0, l1] st h Q = wp μ d 149 7 [l0, l1] (.int (nI 216) :: st) h Q := (wp_nx rfl).trans (congrArg (fun z => wp μ d 149 7 [l0, l1] (.int z :: st) h Q) (show (Int16.ofInt (216)).toInt32 = (nI 216) by decide))
theorem r149_7 (μ : Bool) (d : Nat) (l0 : Value) (x : Int32) (st : List Value) (h : Hp) (Q : Po) : wp μ d 149 7 [l0, .int x] st h Q = wp μ d 149 8 [l0, .int x] (.int x :: st) h Q := wp_nx rfl
theorem r149_8 (μ : Bool) (d : Nat) (l0 : Value) (l1 : Value) (y0 y1 : Int32) (st : List Value) (h : Hp) (Q : Po) : wp μ d 149 8 [l0, l1] (.int y0 :: .int y1 :: st) h Q = wp μ d 149 9 [l0, l1] (.int (y1 + y0) :: st) h Q := wp_nx rfl
theorem r149_9 (μ : Bool) (d : Nat) (l0 : Value) (l1 : Value) (y0 : Int32) (y1 : Nat) (st : List Value) (h : Hp) (Q : Po) : wp μ d 149 9 [l0, l1] (.int y0 :: .ref y1 :: st) h Q = (((kdm μ h y1).1 = 20 ∧ vp_in y0 (kdm μ h y1).2) ∧ wp μ d 149 10 [l0, l1] (.int (gI h y1 y0.toNatClampNeg) :: st) h Q) := wp_ck _ rfl
theorem r149_10 (μ : Bool) (d : Nat) (l0 : Value) (l1 : Value) (y0 : Int32) (h : Hp) (Q : Po) : wp μ d 149 10 [l0, l1] [.int y0] h Q = Q (some (.int y0)) h := wp_rT rfl
theorem r150_0 (μ : Bool) (d : Nat) (l0 : Value) (x : Int32) (st : List Value) (h : Hp) (Q : Po) : wp μ d 150 0 [l0, .int x] st h Q = wp μ d 150 1 [l0, .int x] (.int x :: st) h Q := wp_nx rfl
theorem r150_1 (μ : Bool) (d : Nat) (l0 : Value) (l1 : Value) (st : List Value) (h : Hp) (Q : Po) : wp μ d 150 1 [l0, l1] st h Q = wp μ d 150 2 [l0, l1] (.int (nI 0) :: st) h Q := (wp_nx rfl).trans (congrArg (fun z => wp μ d 150 2 [l0, l1] (.int z :: st) h Q) (show Int32.ofInt (0) = (nI 0) by decide))
theorem r150_2 (μ : Bool) (d : Nat) (l1 : Value) (x : Nat) (st : List Value) (h : Hp) (Q : Po) : wp μ d 150 2 [.ref x, l1] st h Q = wp μ d 150 3 [.ref x, l1] (.ref x :: st) h Q := wp_nx rfl
theorem r150_3 (μ : Bool) (d : Nat) (l0 : Value) (l1 : Value) (y0 : Nat) (st : List Value) (h : Hp) (Q : Po) : wp μ d 150 3 [l0, l1] (.ref y0 :: st) h Q = ((kdm μ h y0).1 = 12 ∧ wp μ d 150 6 [l0, l1] (va_rf (rpm μ h y0 2) :: st) h Q) := wp_ck _ rfl
theorem r150_6 (μ : Bool) (d : Nat) (l0 : Value) (l1 : Value) (st : List Value) (h : Hp) (Q : Po) : wp μ d 150 6 [l0, l1] st h Q = wp μ d 150 9 [l0, l1] (.int (nI 380) :: st) h Q := (wp_nx rfl).trans (congrArg (fun z => wp μ d 150 9 [l0, l1] (.int z :: st) h Q) (show (Int16.ofInt (380)).toInt32 = (nI 380) by decide))
theorem r150_9 (μ : Bool) (d : Nat) (l0 : Value) (l1 : Value) (y0 : Int32) (y1 : Nat) (st : List Value) (h : Hp) (Q : Po) : wp μ d 150 9 [l0, l1] (.int y0 :: .ref y1 :: st) h Q = (((kdm μ h y1).1 = 20 ∧ vp_in y0 (kdm μ h y1).2) ∧ wp μ d 150 10 [l0, l1] (.int (gI h y1 y0.toNatClampNeg) :: st) h Q) := wp_ck _ rfl
theorem r150_10 (μ : Bool) (d : Nat) (l0 : Value) (l1 : Value) (st : List Value) (h : Hp) (Q : Po) : wp μ d 150 10 [l0, l1] st h Q = wp μ d 150 11 [l0, l1] (.int (nI 1) :: st) h Q := (wp_nx rfl).trans (congrArg (fun z => wp μ d 150 11 [l0, l1] (.int z :: st) h Q) (show Int32.ofInt (1) = (nI 1) by decide))
theorem r150_11 (μ : Bool) (d : Nat) (l0 : Value) (l1 : Value) (y0 y1 : Int32) (st : List Value) (h : Hp) (Q : Po) : wp μ d 150 11 [l0, l1] (.int y0 :: .int y1 :: st) h Q = wp μ d 150 12 [l0, l1] (.int (y1 - y0) :: st) h Q := wp_nx rfl
theorem r150_12 (μ : Bool) (d : Nat) (l0 : Value) (l1 : Value) (y0 : Int32) (y1 : Int32) (y2 : Int32) (h : Hp) (Q : Po) : wp μ (d + 1) 150 12 [l0, l1] [.int y0, .int y1, .int y2] h Q = cwp μ d 143 [.int y2, .int y1, .int y0] h (fun r h' => wp μ (d + 1) 150 15 [l0, l1] (r.toList ++ []) h' Q) := wp_kl rfl ⟨Nat.le_of_ble_eq_true rfl, ⟨Nat.le_of_ble_eq_true rfl, rfl, Nat.le_of_ble_eq_true rfl⟩, fun q => absurd q (by decide), fun q => absurd q (by decide)⟩
theorem r150_15 (μ : Bool) (d : Nat) (l0 : Value) (l1 : Value) (y0 : Int32) (h : Hp) (Q : Po) : wp μ d 150 15 [l0, l1] [.int y0] h Q = ((y0 = nI 0 ∨ y0 = nI 1) ∧ Q (some (.int y0)) h) := (wp_rc _ rfl).trans (by rw [show retOk (rM 150) y0 = (narrow .boolean (.int y0) = .int y0) from rfl, nz_iff]; rfl)
theorem r151_0 (μ : Bool) (d : Nat) (x : Int32) (st : List Value) (h : Hp) (Q : Po) : wp μ d 151 0 [.int x] st h Q = wp μ d 151 1 [.int x] (.int x :: st) h Q := wp_nx rfl
theorem r151_1 (μ : Bool) (d : Nat) (l0 : Value) (st : List Value) (h : Hp) (Q : Po) : wp μ d 151 1 [l0] st h Q = wp μ d 151 3 [l0] (.int (-40) :: st) h Q := (wp_nx rfl).trans (congrArg (fun z => wp μ d 151 3 [l0] (.int z :: st) h Q) (show (Int8.ofInt (-40)).toInt32 = (-40) by decide))
theorem r151_3 (μ : Bool) (d : Nat) (l0 : Value) (st : List Value) (h : Hp) (Q : Po) : wp μ d 151 3 [l0] st h Q = wp μ d 151 5 [l0] (.int (nI 120) :: st) h Q := (wp_nx rfl).trans (congrArg (fun z => wp μ d 151 5 [l0] (.int z :: st) h Q) (show (Int8.ofInt (120)).toInt32 = (nI 120) by decide))
theorem r151_5 (μ : Bool) (d : Nat) (l0 : Value) (y0 : Int32) (y1 : Int32) (y2 : Int32) (h : Hp) (Q : Po) : wp μ (d + 1) 151 5 [l0] [.int y0, .int y1, .int y2] h Q = cwp μ d 143 [.int y2, .int y1, .int y0] h (fun r h' => wp μ (d + 1) 151 8 [l0] (r.toList ++ []) h' Q) := wp_kl rfl ⟨Nat.le_of_ble_eq_true rfl, ⟨Nat.le_of_ble_eq_true rfl, rfl, Nat.le_of_ble_eq_true rfl⟩, fun q => absurd q (by decide), fun q => absurd q (by decide)⟩
theorem r151_8 (μ : Bool) (d : Nat) (l0 : Value) (y0 : Int32) (h : Hp) (Q : Po) : wp μ d 151 8 [l0] [.int y0] h Q = ((y0 = nI 0 ∨ y0 = nI 1) ∧ Q (some (.int y0)) h) := (wp_rc _ rfl).trans (by rw [show retOk (rM 151) y0 = (narrow .boolean (.int y0) = .int y0) from rfl, nz_iff]; rfl)
theorem r152_0 (μ : Bool) (d : Nat) (x : Int32) (st : List Value) (h : Hp) (Q : Po) : wp μ d 152 0 [.int x] st h Q = wp μ d 152 1 [.int x] (.int x :: st) h Q := wp_nx rfl
theorem r152_1 (μ : Bool) (d : Nat) (l0 : Value) (st : List Value) (h : Hp) (Q : Po) : wp μ d 152 1 [l0] st h Q = wp μ d 152 2 [l0] (.int (nI 0) :: st) h Q := (wp_nx rfl).trans (congrArg (fun z => wp μ d 152 2 [l0] (.int z :: st) h Q) (show Int32.ofInt (0) = (nI 0) by decide))
theorem r152_2 (μ : Bool) (d : Nat) (l0 : Value) (st : List Value) (h : Hp) (Q : Po) : wp μ d 152 2 [l0] st h Q = wp μ d 152 3 [l0] (.int (nI 1) :: st) h Q := (wp_nx rfl).trans (congrArg (fun z => wp μ d 152 3 [l0] (.int z :: st) h Q) (show Int32.ofInt (1) = (nI 1) by decide))
theorem r152_3 (μ : Bool) (d : Nat) (l0 : Value) (y0 : Int32) (y1 : Int32) (y2 : Int32) (h : Hp) (Q : Po) : wp μ (d + 1) 152 3 [l0] [.int y0, .int y1, .int y2] h Q = cwp μ d 143 [.int y2, .int y1, .int y0] h (fun r h' => wp μ (d + 1) 152 6 [l0] (r.toList ++ []) h' Q) := wp_kl rfl ⟨Nat.le_of_ble_eq_true rfl, ⟨Nat.le_of_ble_eq_true rfl, rfl, Nat.le_of_ble_eq_true rfl⟩, fun q => absurd q (by decide), fun q => absurd q (by decide)⟩
theorem r152_6 (μ : Bool) (d : Nat) (l0 : Value) (y0 : Int32) (h : Hp) (Q : Po) : wp μ d 152 6 [l0] [.int y0] h Q = ((y0 = nI 0 ∨ y0 = nI 1) ∧ Q (some (.int y0)) h) := (wp_rc _ rfl).trans (by rw [show retOk (rM 152) y0 = (narrow .boolean (.int y0) = .int y0) from rfl, nz_iff]; rfl)
theorem r153_0 (μ : Bool) (d : Nat) (x : Nat) (st : List Value) (h : Hp) (Q : Po) : wp μ d 153 0 [.ref x] st h Q = wp μ d 153 1 [.ref x] (.ref x :: st) h Q := wp_nx rfl
theorem r153_1 (μ : Bool) (d : Nat) (l0 : Value) (y0 : Nat) (st : List Value) (h : Hp) (Q : Po) : wp μ d 153 1 [l0] (.ref y0 :: st) h Q = ((kdm μ h y0).1 = 12 ∧ wp μ d 153 4 [l0] (va_rf (rpm μ h y0 2) :: st) h Q) := wp_ck _ rfl
theorem r153_4 (μ : Bool) (d : Nat) (l0 : Value) (st : List Value) (h : Hp) (Q : Po) : wp μ d 153 4 [l0] st h Q = wp μ d 153 7 [l0] (.int (nI 376) :: st) h Q := (wp_nx rfl).trans (congrArg (fun z => wp μ d 153 7 [l0] (.int z :: st) h Q) (show (Int16.ofInt (376)).toInt32 = (nI 376) by decide))
theorem r153_7 (μ : Bool) (d : Nat) (l0 : Value) (y0 : Int32) (y1 : Nat) (st : List Value) (h : Hp) (Q : Po) : wp μ d 153 7 [l0] (.int y0 :: .ref y1 :: st) h Q = (((kdm μ h y1).1 = 20 ∧ vp_in y0 (kdm μ h y1).2) ∧ wp μ d 153 8 [l0] (.int (gI h y1 y0.toNatClampNeg) :: st) h Q) := wp_ck _ rfl
theorem r153_8 (μ : Bool) (d : Nat) (l0 : Value) (y0 : Int32) (h : Hp) (Q : Po) : wp μ d 153 8 [l0] [.int y0] h Q = Q (some (.int y0)) h := wp_rT rfl
theorem r154_0 (μ : Bool) (d : Nat) (l0 : Value) (x : Int32) (st : List Value) (h : Hp) (Q : Po) : wp μ d 154 0 [l0, .int x] st h Q = wp μ d 154 1 [l0, .int x] (.int x :: st) h Q := wp_nx rfl
theorem r154_1 (μ : Bool) (d : Nat) (l0 : Value) (l1 : Value) (st : List Value) (h : Hp) (Q : Po) : wp μ d 154 1 [l0, l1] st h Q = wp μ d 154 2 [l0, l1] (.int (nI 0) :: st) h Q := (wp_nx rfl).trans (congrArg (fun z => wp μ d 154 2 [l0, l1] (.int z :: st) h Q) (show Int32.ofInt (0) = (nI 0) by decide))
theorem r154_2 (μ : Bool) (d : Nat) (l1 : Value) (x : Nat) (st : List Value) (h : Hp) (Q : Po) : wp μ d 154 2 [.ref x, l1] st h Q = wp μ d 154 3 [.ref x, l1] (.ref x :: st) h Q := wp_nx rfl
theorem r154_3 (μ : Bool) (d : Nat) (l0 : Value) (l1 : Value) (y0 : Nat) (y1 : Int32) (y2 : Int32) (h : Hp) (Q : Po) : wp μ (d + 1) 154 3 [l0, l1] [.ref y0, .int y1, .int y2] h Q = ((kdm μ h y0).1 = 12 ∧ cwp μ d 153 [.ref y0] h (fun r h' => wp μ (d + 1) 154 6 [l0, l1] (r.toList ++ [.int y1, .int y2]) h' Q)) := wp_kc _ True rfl ⟨fun q => by obtain ⟨x, q1, q2⟩ := q.2.2.1 rfl; cases q1; exact q2, fun q => ⟨Nat.le_of_ble_eq_true rfl, ⟨Nat.le_of_ble_eq_true rfl, rfl, Nat.le_of_ble_eq_true rfl⟩, fun _ => ⟨_, rfl, q⟩, fun q9 => absurd q9 (by decide)⟩⟩
theorem r154_6 (μ : Bool) (d : Nat) (l0 : Value) (l1 : Value) (st : List Value) (h : Hp) (Q : Po) : wp μ d 154 6 [l0, l1] st h Q = wp μ d 154 7 [l0, l1] (.int (nI 1) :: st) h Q := (wp_nx rfl).trans (congrArg (fun z => wp μ d 154 7 [l0, l1] (.int z :: st) h Q) (show Int32.ofInt (1) = (nI 1) by decide))
theorem r154_7 (μ : Bool) (d : Nat) (l0 : Value) (l1 : Value) (y0 y1 : Int32) (st : List Value) (h : Hp) (Q : Po) : wp μ d 154 7 [l0, l1] (.int y0 :: .int y1 :: st) h Q = wp μ d 154 8 [l0, l1] (.int (y1 - y0) :: st) h Q := wp_nx rfl
theorem r154_8 (μ : Bool) (d : Nat) (l0 : Value) (l1 : Value) (y0 : Int32) (y1 : Int32) (y2 : Int32) (h : Hp) (Q : Po) : wp μ (d + 1) 154 8 [l0, l1] [.int y0, .int y1, .int y2] h Q = cwp μ d 143 [.int y2, .int y1, .int y0] h (fun r h' => wp μ (d + 1) 154 11 [l0, l1] (r.toList ++ []) h' Q) := wp_kl rfl ⟨Nat.le_of_ble_eq_true rfl, ⟨Nat.le_of_ble_eq_true rfl, rfl, Nat.le_of_ble_eq_true rfl⟩, fun q => absurd q (by decide), fun q => absurd q (by decide)⟩
theorem r154_11 (μ : Bool) (d : Nat) (l0 : Value) (l1 : Value) (y0 : Int32) (h : Hp) (Q : Po) : wp μ d 154 11 [l0, l1] [.int y0] h Q = ((y0 = nI 0 ∨ y0 = nI 1) ∧ Q (some (.int y0)) h) := (wp_rc _ rfl).trans (by rw [show retOk (rM 154) y0 = (narrow .boolean (.int y0) = .int y0) from rfl, nz_iff]; rfl)
theorem r155_0 (μ : Bool) (d : Nat) (l1 : Value) (l2 : Value) (x : Nat) (st : List Value) (h : Hp) (Q : Po) : wp μ d 155 0 [.ref x, l1, l2] st h Q = wp μ d 155 1 [.ref x, l1, l2] (.ref x :: st) h Q := wp_nx rfl
theorem r155_1 (μ : Bool) (d : Nat) (l0 : Value) (l1 : Value) (l2 : Value) (y0 : Nat) (st : List Value) (h : Hp) (Q : Po) : wp μ d 155 1 [l0, l1, l2] (.ref y0 :: st) h Q = ((kdm μ h y0).1 = 12 ∧ wp μ d 155 4 [l0, l1, l2] (va_rf (rpm μ h y0 2) :: st) h Q) := wp_ck _ rfl
theorem r155_4 (μ : Bool) (d : Nat) (l0 : Value) (l1 : Value) (l2 : Value) (st : List Value) (h : Hp) (Q : Po) : wp μ d 155 4 [l0, l1, l2] st h Q = wp μ d 155 5 [l0, l1, l2] (.int (nI 0) :: st) h Q := (wp_nx rfl).trans (congrArg (fun z => wp μ d 155 5 [l0, l1, l2] (.int z :: st) h Q) (show Int32.ofInt (0) = (nI 0) by decide))
theorem r155_5 (μ : Bool) (d : Nat) (l0 : Value) (l1 : Value) (l2 : Value) (st : List Value) (h : Hp) (Q : Po) : wp μ d 155 5 [l0, l1, l2] st h Q = wp μ d 155 7 [l0, l1, l2] (.int (nI 9) :: st) h Q := (wp_nx rfl).trans (congrArg (fun z => wp μ d 155 7 [l0, l1, l2] (.int z :: st) h Q) (show (Int8.ofInt (9)).toInt32 = (nI 9) by decide))
theorem r155_7 (μ : Bool) (d : Nat) (l0 : Value) (l2 : Value) (x : Int32) (st : List Value) (h : Hp) (Q : Po) : wp μ d 155 7 [l0, .int x, l2] st h Q = wp μ d 155 8 [l0, .int x, l2] (.int x :: st) h Q := wp_nx rfl
theorem r155_8 (μ : Bool) (d : Nat) (l0 : Value) (l1 : Value) (l2 : Value) (y0 y1 : Int32) (st : List Value) (h : Hp) (Q : Po) : wp μ d 155 8 [l0, l1, l2] (.int y0 :: .int y1 :: st) h Q = wp μ d 155 9 [l0, l1, l2] (.int (y1 * y0) :: st) h Q := wp_nx rfl
theorem r155_9 (μ : Bool) (d : Nat) (l0 : Value) (l1 : Value) (l2 : Value) (y0 y1 : Int32) (st : List Value) (h : Hp) (Q : Po) : wp μ d 155 9 [l0, l1, l2] (.int y0 :: .int y1 :: st) h Q = wp μ d 155 10 [l0, l1, l2] (.int (y1 + y0) :: st) h Q := wp_nx rfl
theorem r155_10 (μ : Bool) (d : Nat) (l0 : Value) (l1 : Value) (x : Int32) (st : List Value) (h : Hp) (Q : Po) : wp μ d 155 10 [l0, l1, .int x] st h Q = wp μ d 155 11 [l0, l1, .int x] (.int x :: st) h Q := wp_nx rfl
theorem r155_11 (μ : Bool) (d : Nat) (l0 : Value) (l1 : Value) (l2 : Value) (y0 y1 : Int32) (st : List Value) (h : Hp) (Q : Po) : wp μ d 155 11 [l0, l1, l2] (.int y0 :: .int y1 :: st) h Q = wp μ d 155 12 [l0, l1, l2] (.int (y1 + y0) :: st) h Q := wp_nx rfl
theorem r155_12 (μ : Bool) (d : Nat) (l0 : Value) (l1 : Value) (l2 : Value) (y0 : Int32) (y1 : Nat) (st : List Value) (h : Hp) (Q : Po) : wp μ d 155 12 [l0, l1, l2] (.int y0 :: .ref y1 :: st) h Q = (((kdm μ h y1).1 = 20 ∧ vp_in y0 (kdm μ h y1).2) ∧ wp μ d 155 13 [l0, l1, l2] (.int (gI h y1 y0.toNatClampNeg) :: st) h Q) := wp_ck _ rfl
theorem r155_13 (μ : Bool) (d : Nat) (l0 : Value) (l1 : Value) (l2 : Value) (y0 : Int32) (h : Hp) (Q : Po) : wp μ d 155 13 [l0, l1, l2] [.int y0] h Q = Q (some (.int y0)) h := wp_rT rfl
theorem r156_0 (μ : Bool) (d : Nat) (l1 : Value) (l2 : Value) (x : Nat) (st : List Value) (h : Hp) (Q : Po) : wp μ d 156 0 [.ref x, l1, l2] st h Q = wp μ d 156 1 [.ref x, l1, l2] (.ref x :: st) h Q := wp_nx rfl
theorem r156_1 (μ : Bool) (d : Nat) (l0 : Value) (l2 : Value) (x : Int32) (st : List Value) (h : Hp) (Q : Po) : wp μ d 156 1 [l0, .int x, l2] st h Q = wp μ d 156 2 [l0, .int x, l2] (.int x :: st) h Q := wp_nx rfl
theorem r156_2 (μ : Bool) (d : Nat) (l0 : Value) (l1 : Value) (l2 : Value) (st : List Value) (h : Hp) (Q : Po) : wp μ d 156 2 [l0, l1, l2] st h Q = wp μ d 156 3 [l0, l1, l2] (.int (nI 3) :: st) h Q := (wp_nx rfl).trans (congrArg (fun z => wp μ d 156 3 [l0, l1, l2] (.int z :: st) h Q) (show Int32.ofInt (3) = (nI 3) by decide))
theorem r156_3 (μ : Bool) (d : Nat) (l0 : Value) (l1 : Value) (x : Int32) (st : List Value) (h : Hp) (Q : Po) : wp μ d 156 3 [l0, l1, .int x] st h Q = wp μ d 156 4 [l0, l1, .int x] (.int x :: st) h Q := wp_nx rfl
theorem r156_4 (μ : Bool) (d : Nat) (l0 : Value) (l1 : Value) (l2 : Value) (y0 y1 : Int32) (st : List Value) (h : Hp) (Q : Po) : wp μ d 156 4 [l0, l1, l2] (.int y0 :: .int y1 :: st) h Q = wp μ d 156 5 [l0, l1, l2] (.int (y1 + y0) :: st) h Q := wp_nx rfl
theorem r156_5 (μ : Bool) (d : Nat) (l0 : Value) (l1 : Value) (l2 : Value) (y0 : Int32) (y1 : Int32) (y2 : Nat) (h : Hp) (Q : Po) : wp μ (d + 1) 156 5 [l0, l1, l2] [.int y0, .int y1, .ref y2] h Q = ((kdm μ h y2).1 = 12 ∧ cwp μ d 155 [.ref y2, .int y1, .int y0] h (fun r h' => wp μ (d + 1) 156 8 [l0, l1, l2] (r.toList ++ []) h' Q)) := wp_kc _ True rfl ⟨fun q => by obtain ⟨x, q1, q2⟩ := q.2.2.1 rfl; cases q1; exact q2, fun q => ⟨Nat.le_of_ble_eq_true rfl, ⟨Nat.le_of_ble_eq_true rfl, rfl, Nat.le_of_ble_eq_true rfl⟩, fun _ => ⟨_, rfl, q⟩, fun q9 => absurd q9 (by decide)⟩⟩
theorem r156_8 (μ : Bool) (d : Nat) (l0 : Value) (l1 : Value) (l2 : Value) (y0 : Int32) (h : Hp) (Q : Po) : wp μ d 156 8 [l0, l1, l2] [.int y0] h Q = Q (some (.int y0)) h := wp_rT rfl
theorem r157_0 (μ : Bool) (d : Nat) (l0 : Value) (l1 : Value) (l2 : Value) (l3 : Value) (st : List Value) (h : Hp) (Q : Po) : wp μ d 157 0 [l0, l1, l2, l3] st h Q = wp μ d 157 1 [l0, l1, l2, l3] (.int (nI 0) :: st) h Q := (wp_nx rfl).trans (congrArg (fun z => wp μ d 157 1 [l0, l1, l2, l3] (.int z :: st) h Q) (show Int32.ofInt (0) = (nI 0) by decide))
theorem r157_1 (μ : Bool) (d : Nat) (l0 : Value) (l1 : Value) (l2 : Value) (l3 : Value) (x : Int32) (st : List Value) (h : Hp) (Q : Po) : wp μ d 157 1 [l0, l1, l2, l3] (.int x :: st) h Q = wp μ d 157 2 [l0, l1, .int x, l3] st h Q := wp_nx rfl
theorem r157_2 (μ : Bool) (d : Nat) (l0 : Value) (l1 : Value) (l2 : Value) (l3 : Value) (st : List Value) (h : Hp) (Q : Po) : wp μ d 157 2 [l0, l1, l2, l3] st h Q = wp μ d 157 3 [l0, l1, l2, l3] (.int (nI 0) :: st) h Q := (wp_nx rfl).trans (congrArg (fun z => wp μ d 157 3 [l0, l1, l2, l3] (.int z :: st) h Q) (show Int32.ofInt (0) = (nI 0) by decide))
theorem r157_3 (μ : Bool) (d : Nat) (l0 : Value) (l1 : Value) (l2 : Value) (l3 : Value) (x : Int32) (st : List Value) (h : Hp) (Q : Po) : wp μ d 157 3 [l0, l1, l2, l3] (.int x :: st) h Q = wp μ d 157 4 [l0, l1, l2, .int x] st h Q := wp_nx rfl
theorem r157_4 (μ : Bool) (d : Nat) (l0 : Value) (l1 : Value) (l2 : Value) (x : Int32) (st : List Value) (h : Hp) (Q : Po) : wp μ d 157 4 [l0, l1, l2, .int x] st h Q = wp μ d 157 5 [l0, l1, l2, .int x] (.int x :: st) h Q := wp_nx rfl
theorem r157_5 (μ : Bool) (d : Nat) (l1 : Value) (l2 : Value) (l3 : Value) (x : Nat) (st : List Value) (h : Hp) (Q : Po) : wp μ d 157 5 [.ref x, l1, l2, l3] st h Q = wp μ d 157 6 [.ref x, l1, l2, l3] (.ref x :: st) h Q := wp_nx rfl
theorem r157_6 (μ : Bool) (d : Nat) (l0 : Value) (l2 : Value) (l3 : Value) (x : Int32) (st : List Value) (h : Hp) (Q : Po) : wp μ d 157 6 [l0, .int x, l2, l3] st h Q = wp μ d 157 7 [l0, .int x, l2, l3] (.int x :: st) h Q := wp_nx rfl
theorem r157_7 (μ : Bool) (d : Nat) (l0 : Value) (l1 : Value) (l2 : Value) (l3 : Value) (st : List Value) (h : Hp) (Q : Po) : wp μ d 157 7 [l0, l1, l2, l3] st h Q = wp μ d 157 8 [l0, l1, l2, l3] (.int (nI 2) :: st) h Q := (wp_nx rfl).trans (congrArg (fun z => wp μ d 157 8 [l0, l1, l2, l3] (.int z :: st) h Q) (show Int32.ofInt (2) = (nI 2) by decide))
theorem r157_8 (μ : Bool) (d : Nat) (l0 : Value) (l1 : Value) (l2 : Value) (l3 : Value) (y0 : Int32) (y1 : Int32) (y2 : Nat) (y3 : Int32) (h : Hp) (Q : Po) : wp μ (d + 1) 157 8 [l0, l1, l2, l3] [.int y0, .int y1, .ref y2, .int y3] h Q = ((kdm μ h y2).1 = 12 ∧ cwp μ d 155 [.ref y2, .int y1, .int y0] h (fun r h' => wp μ (d + 1) 157 11 [l0, l1, l2, l3] (r.toList ++ [.int y3]) h' Q)) := wp_kc _ True rfl ⟨fun q => by obtain ⟨x, q1, q2⟩ := q.2.2.1 rfl; cases q1; exact q2, fun q => ⟨Nat.le_of_ble_eq_true rfl, ⟨Nat.le_of_ble_eq_true rfl, rfl, Nat.le_of_ble_eq_true rfl⟩, fun _ => ⟨_, rfl, q⟩, fun q9 => absurd q9 (by decide)⟩⟩
theorem r157_11 (μ : Bool) (d : Nat) (l0 : Value) (l1 : Value) (l2 : Value) (l3 : Value) (y0 y1 : Int32) (st : List Value) (h : Hp) (Q : Po) : wp μ d 157 11 [l0, l1, l2, l3] (.int y0 :: .int y1 :: st) h Q = if y0 ≤ y1 then wp μ d 157 37 [l0, l1, l2, l3] st h Q else wp μ d 157 14 [l0, l1, l2, l3] st h Q := wp_br (y0 ≤ y1) rfl
theorem r157_14 (μ : Bool) (d : Nat) (l1 : Value) (l2 : Value) (l3 : Value) (x : Nat) (st : List Value) (h : Hp) (Q : Po) : wp μ d 157 14 [.ref x, l1, l2, l3] st h Q = wp μ d 157 15 [.ref x, l1, l2, l3] (.ref x :: st) h Q := wp_nx rfl
theorem r157_15 (μ : Bool) (d : Nat) (l0 : Value) (l2 : Value) (l3 : Value) (x : Int32) (st : List Value) (h : Hp) (Q : Po) : wp μ d 157 15 [l0, .int x, l2, l3] st h Q = wp μ d 157 16 [l0, .int x, l2, l3] (.int x :: st) h Q := wp_nx rfl
theorem r157_16 (μ : Bool) (d : Nat) (l0 : Value) (l1 : Value) (l2 : Value) (x : Int32) (st : List Value) (h : Hp) (Q : Po) : wp μ d 157 16 [l0, l1, l2, .int x] st h Q = wp μ d 157 17 [l0, l1, l2, .int x] (.int x :: st) h Q := wp_nx rfl
theorem r157_17 (μ : Bool) (d : Nat) (l0 : Value) (l1 : Value) (l2 : Value) (l3 : Value) (y0 : Int32) (y1 : Int32) (y2 : Nat) (h : Hp) (Q : Po) : wp μ (d + 1) 157 17 [l0, l1, l2, l3] [.int y0, .int y1, .ref y2] h Q = ((kdm μ h y2).1 = 12 ∧ cwp μ d 156 [.ref y2, .int y1, .int y0] h (fun r h' => wp μ (d + 1) 157 20 [l0, l1, l2, l3] (r.toList ++ []) h' Q)) := wp_kc _ True rfl ⟨fun q => by obtain ⟨x, q1, q2⟩ := q.2.2.1 rfl; cases q1; exact q2, fun q => ⟨Nat.le_of_ble_eq_true rfl, ⟨Nat.le_of_ble_eq_true rfl, rfl, Nat.le_of_ble_eq_true rfl⟩, fun _ => ⟨_, rfl, q⟩, fun q9 => absurd q9 (by decide)⟩⟩
theorem r157_20 (μ : Bool) (d : Nat) (l0 : Value) (l1 : Value) (l3 : Value) (x : Int32) (st : List Value) (h : Hp) (Q : Po) : wp μ d 157 20 [l0, l1, .int x, l3] st h Q = wp μ d 157 21 [l0, l1, .int x, l3] (.int x :: st) h Q := wp_nx rfl
theorem r157_21 (μ : Bool) (d : Nat) (l0 : Value) (l1 : Value) (l2 : Value) (l3 : Value) (y0 y1 : Int32) (st : List Value) (h : Hp) (Q : Po) : wp μ d 157 21 [l0, l1, l2, l3] (.int y0 :: .int y1 :: st) h Q = if y1 ≤ y0 then wp μ d 157 31 [l0, l1, l2, l3] st h Q else wp μ d 157 24 [l0, l1, l2, l3] st h Q := wp_br (y1 ≤ y0) rfl
theorem r157_24 (μ : Bool) (d : Nat) (l1 : Value) (l2 : Value) (l3 : Value) (x : Nat) (st : List Value) (h : Hp) (Q : Po) : wp μ d 157 24 [.ref x, l1, l2, l3] st h Q = wp μ d 157 25 [.ref x, l1, l2, l3] (.ref x :: st) h Q := wp_nx rfl
theorem r157_25 (μ : Bool) (d : Nat) (l0 : Value) (l2 : Value) (l3 : Value) (x : Int32) (st : List Value) (h : Hp) (Q : Po) : wp μ d 157 25 [l0, .int x, l2, l3] st h Q = wp μ d 157 26 [l0, .int x, l2, l3] (.int x :: st) h Q := wp_nx rfl
theorem r157_26 (μ : Bool) (d : Nat) (l0 : Value) (l1 : Value) (l2 : Value) (x : Int32) (st : List Value) (h : Hp) (Q : Po) : wp μ d 157 26 [l0, l1, l2, .int x] st h Q = wp μ d 157 27 [l0, l1, l2, .int x] (.int x :: st) h Q := wp_nx rfl
theorem r157_27 (μ : Bool) (d : Nat) (l0 : Value) (l1 : Value) (l2 : Value) (l3 : Value) (y0 : Int32) (y1 : Int32) (y2 : Nat) (h : Hp) (Q : Po) : wp μ (d + 1) 157 27 [l0, l1, l2, l3] [.int y0, .int y1, .ref y2] h Q = ((kdm μ h y2).1 = 12 ∧ cwp μ d 156 [.ref y2, .int y1, .int y0] h (fun r h' => wp μ (d + 1) 157 30 [l0, l1, l2, l3] (r.toList ++ []) h' Q)) := wp_kc _ True rfl ⟨fun q => by obtain ⟨x, q1, q2⟩ := q.2.2.1 rfl; cases q1; exact q2, fun q => ⟨Nat.le_of_ble_eq_true rfl, ⟨Nat.le_of_ble_eq_true rfl, rfl, Nat.le_of_ble_eq_true rfl⟩, fun _ => ⟨_, rfl, q⟩, fun q9 => absurd q9 (by decide)⟩⟩
theorem r157_30 (μ : Bool) (d : Nat) (l0 : Value) (l1 : Value) (l2 : Value) (l3 : Value) (x : Int32) (st : List Value) (h : Hp) (Q : Po) : wp μ d 157 30 [l0, l1, l2, l3] (.int x :: st) h Q = wp μ d 157 31 [l0, l1, .int x, l3] st h Q := wp_nx rfl
theorem r157_31 (μ : Bool) (d : Nat) (l0 : Value) (l1 : Value) (l2 : Value) (x : Int32) (st : List Value) (h : Hp) (Q : Po) : wp μ d 157 31 [l0, l1, l2, .int x] st h Q = wp μ d 157 34 [l0, l1, l2, .int (x + (nI 1))] st h Q := (wp_nx rfl).trans (congrArg (fun z => wp μ d 157 34 [l0, l1, l2, .int z] st h Q) (show x + Int32.ofInt (1) = x + (nI 1) by rw [show Int32.ofInt (1) = (nI 1) by decide]))
theorem r157_34 (μ : Bool) (d : Nat) (l0 : Value) (l1 : Value) (l2 : Value) (l3 : Value) (st : List Value) (h : Hp) (Q : Po) : wp μ d 157 34 [l0, l1, l2, l3] st h Q = wp μ d 157 4 [l0, l1, l2, l3] st h Q := wp_nx rfl
theorem r157_37 (μ : Bool) (d : Nat) (l0 : Value) (l1 : Value) (l3 : Value) (x : Int32) (st : List Value) (h : Hp) (Q : Po) : wp μ d 157 37 [l0, l1, .int x, l3] st h Q = wp μ d 157 38 [l0, l1, .int x, l3] (.int x :: st) h Q := wp_nx rfl
theorem r157_38 (μ : Bool) (d : Nat) (l0 : Value) (l1 : Value) (l2 : Value) (l3 : Value) (y0 : Int32) (h : Hp) (Q : Po) : wp μ d 157 38 [l0, l1, l2, l3] [.int y0] h Q = Q (some (.int y0)) h := wp_rT rfl
