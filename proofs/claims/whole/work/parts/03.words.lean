theorem w_mx1 : Cond.static Lib.Math.max.name ∈ lw_tbl := seg2 (List.mem_of_getElem? (i := 220) rfl)
theorem w_mx2 : Cond.code Lib.Math.max.name Lib.Math.max.code 2 (some .int) ∈ lw_tbl := seg2 (List.mem_of_getElem? (i := 221) rfl)
theorem w_mn1 : Cond.static Lib.Math.min.name ∈ lw_tbl := seg3 (List.mem_of_getElem? (i := 35) rfl)
theorem w_mn2 : Cond.code Lib.Math.min.name Lib.Math.min.code 2 (some .int) ∈ lw_tbl := seg3 (List.mem_of_getElem? (i := 36) rfl)
theorem w_oi1 : Cond.instanceMethod objectInit ∈ lw_tbl := seg1 (List.mem_of_getElem? (i := 28) rfl)
theorem w_oi2 : Cond.code objectInit ⟨#[0xb1]⟩ 1 none ∈ lw_tbl := seg1 (List.mem_of_getElem? (i := 29) rfl)
theorem w_ac1 : Cond.native arraycopyName ∈ lw_tbl := seg3 (List.mem_of_getElem? (i := 163) rfl)
theorem w_ac2 : Cond.static arraycopyName ∈ lw_tbl := seg3 (List.mem_of_getElem? (i := 162) rfl)
def fFW : Nat × Nat × Nat × Nat → Cond := fun q => .fieldLink (cS q.1) q.2.1 (cS q.2.2.1) (fT q.2.2.1 q.2.2.2).2.1 (fT q.2.2.1 q.2.2.2).2.2.1
def FW_1_0 : List (Nat × Nat × Nat × Nat) := [(2, 9, 2, 0), (5, 48, 2, 0), (11, 124, 2, 0), (10, 59, 2, 0), (2, 15, 2, 1), (5, 51, 2, 1), (11, 127, 2, 1), (2, 18, 2, 2), (11, 118, 2, 2), (2, 21, 2, 3), (11, 121, 2, 3), (2, 24, 2, 4), (10, 22, 2, 4), (5, 38, 2, 4), (11, 99, 2, 4), (1, 9, 1, 0), (1, 15, 1, 1), (1, 18, 1, 2), (11, 226, 1, 2), (1, 22, 1, 3), (11, 230, 1, 3), (1, 25, 1, 4), (11, 233, 1, 4), (3, 9, 3, 0), (8, 112, 3, 0), (3, 15, 3, 1), (8, 136, 3, 1), (3, 18, 3, 2), (8, 139, 3, 2), (3, 21, 3, 3), (8, 76, 3, 3), (3, 24, 3, 4), (8, 68, 3, 4), (3, 27, 3, 5), (8, 63, 3, 5), (11, 269, 3, 5), (3, 31, 3, 6), (8, 115, 3, 6), (3, 34, 3, 7), (8, 99, 3, 7), (3, 37, 3, 8), (8, 93, 3, 8), (3, 40, 3, 9), (8, 96, 3, 9), (3, 43, 3, 10), (3, 46, 3, 11), (8, 86, 3, 11), (11, 287, 3, 11), (3, 49, 3, 12), (8, 83, 3, 12), (3, 52, 3, 13), (8, 80, 3, 13), (11, 278, 3, 13), (7, 12, 7, 0), (11, 40, 7, 0), (7, 21, 7, 1), (11, 217, 7, 1), (7, 28, 7, 2), (8, 48, 7, 2), (11, 265, 7, 2)]
set_option maxRecDepth 100000 in
theorem FW_1_0_eq : FW_1_0.map fFW = ([42, 43, 44, 45, 46, 47, 48, 49, 50, 51, 52, 53, 54, 55, 56, 75, 76, 77, 78, 79, 80, 81, 82, 100, 101, 102, 103, 104, 105, 106, 107, 108, 109, 110, 111, 112, 113, 114, 115, 116, 117, 118, 119, 120, 121, 122, 123, 124, 125, 126, 127, 128, 129, 161, 162, 163, 164, 165, 166, 167] : List Nat).filterMap (fun i => tables_1_1[i]?) := rfl
def FW_1_1 : List (Nat × Nat × Nat × Nat) := [(7, 32, 7, 3), (8, 55, 7, 3), (11, 151, 7, 3), (7, 38, 7, 4), (11, 177, 7, 4), (7, 42, 7, 5), (11, 167, 7, 5), (6, 11, 6, 0), (6, 15, 6, 1), (11, 161, 6, 1), (6, 19, 6, 2), (6, 22, 6, 3), (6, 25, 6, 4), (6, 28, 6, 5), (11, 174, 6, 5), (6, 31, 6, 6), (6, 34, 6, 7), (6, 37, 6, 8), (6, 41, 6, 9), (6, 46, 6, 10), (6, 49, 6, 11)]
set_option maxRecDepth 100000 in
theorem FW_1_1_eq : FW_1_1.map fFW = ([168, 169, 170, 171, 172, 173, 174, 195, 196, 197, 198, 199, 200, 201, 202, 203, 204, 205, 206, 207, 208] : List Nat).filterMap (fun i => tables_1_1[i]?) := rfl
def FW_2_0 : List (Nat × Nat × Nat × Nat) := [(0, 9, 0, 0), (5, 45, 0, 0), (8, 133, 0, 0), (11, 356, 0, 0), (0, 15, 0, 1), (5, 62, 0, 1), (8, 126, 0, 1), (11, 363, 0, 1), (0, 19, 0, 2), (0, 22, 0, 3), (0, 25, 0, 4), (5, 25, 5, 0), (5, 29, 5, 1), (5, 9, 5, 2), (11, 255, 5, 2), (5, 15, 5, 3), (5, 18, 5, 4), (5, 22, 5, 5), (11, 254, 5, 5), (10, 18, 10, 0), (10, 11, 10, 1), (10, 15, 10, 2), (8, 54, 8, 0), (8, 58, 8, 1), (8, 59, 8, 2), (8, 9, 8, 3), (8, 15, 8, 4), (8, 18, 8, 5), (8, 22, 8, 6), (8, 26, 8, 7), (11, 306, 8, 7), (8, 29, 8, 8), (11, 309, 8, 8), (8, 32, 8, 9), (11, 297, 8, 9), (8, 35, 8, 10), (8, 39, 8, 11), (8, 42, 8, 12), (8, 45, 8, 13), (4, 9, 4, 0), (4, 13, 4, 1), (11, 10, 11, 0), (11, 16, 11, 1), (11, 20, 11, 2), (11, 27, 11, 3), (11, 34, 11, 4), (11, 47, 11, 5), (11, 56, 11, 6), (11, 65, 11, 7), (11, 72, 11, 8), (11, 76, 11, 9), (11, 80, 11, 10), (11, 84, 11, 11)]
set_option maxRecDepth 100000 in
theorem FW_2_0_eq : FW_2_0.map fFW = ([2, 3, 4, 5, 6, 7, 8, 9, 10, 11, 12, 30, 31, 32, 33, 34, 35, 36, 37, 57, 58, 59, 73, 74, 75, 76, 77, 78, 79, 80, 81, 82, 83, 84, 85, 86, 87, 88, 89, 126, 127, 133, 134, 135, 136, 137, 138, 139, 140, 141, 142, 143, 144] : List Nat).filterMap (fun i => tables_1_2[i]?) := rfl
def FW_3_0 : List (Nat × Nat × Nat × Nat) := [(9, 7, 9, 0), (0, 40, 9, 0), (9, 13, 9, 1), (0, 35, 9, 1)]
set_option maxRecDepth 100000 in
theorem FW_3_0_eq : FW_3_0.map fFW = ([168, 169, 170, 171] : List Nat).filterMap (fun i => tables_1_3[i]?) := rfl
def FW_5_0 : List (Nat × Nat × Nat × Nat) := [(12, 3, 12, 0), (12, 7, 12, 1), (12, 17, 12, 2), (12, 20, 12, 3), (12, 23, 12, 4), (12, 27, 12, 5), (12, 31, 12, 6), (12, 34, 12, 7), (12, 123, 12, 8), (12, 37, 12, 9), (12, 40, 12, 10), (12, 43, 12, 11), (12, 46, 12, 12), (12, 126, 12, 13), (12, 146, 12, 14), (12, 155, 12, 15), (12, 139, 12, 16), (12, 199, 12, 17), (12, 196, 12, 18), (12, 209, 12, 19), (12, 49, 12, 20), (12, 243, 12, 21), (12, 247, 12, 22), (12, 52, 12, 23), (12, 56, 12, 24), (12, 59, 12, 25), (12, 63, 12, 26), (12, 66, 12, 27), (12, 69, 12, 28), (12, 319, 12, 29), (12, 72, 12, 30), (12, 75, 12, 31), (12, 375, 12, 32), (12, 358, 12, 33), (12, 348, 12, 34)]
set_option maxRecDepth 100000 in
theorem FW_5_0_eq : FW_5_0.map fFW = ([109, 110, 111, 112, 113, 114, 115, 116, 117, 118, 119, 120, 121, 122, 123, 124, 125, 126, 127, 128, 129, 130, 131, 132, 133, 134, 135, 136, 137, 138, 139, 140, 141, 142, 143] : List Nat).filterMap (fun i => tables_1_5[i]?) := rfl
def FW : List (Nat × Nat × Nat × Nat) := FW_1_0 ++ FW_1_1 ++ FW_2_0 ++ FW_3_0 ++ FW_5_0
theorem FW_in {q : Nat × Nat × Nat × Nat} (hq : q ∈ FW) : fFW q ∈ lw_tbl := by
  unfold FW at hq
  simp only [List.mem_append] at hq
  rcases hq with (((hq | hq) | hq) | hq) | hq
  · exact seg1 (seg_of FW_1_0_eq hq)
  · exact seg1 (seg_of FW_1_1_eq hq)
  · exact seg2 (seg_of FW_2_0_eq hq)
  · exact seg3 (seg_of FW_3_0_eq hq)
  · exact seg5 (seg_of FW_5_0_eq hq)
def fMW : Nat × Nat × Nat → Cond := fun q => .methodLink (cS q.1) q.2.1 (yM q.2.2)
def MW_1_0 : List (Nat × Nat × Nat) := [(13, 9, 86)]
set_option maxRecDepth 100000 in
theorem MW_1_0_eq : MW_1_0.map fMW = ([24] : List Nat).filterMap (fun i => tables_1_1[i]?) := rfl
def MW_2_0 : List (Nat × Nat × Nat) := [(11, 44, 32), (11, 53, 79), (11, 62, 61), (13, 13, 87), (11, 87, 129), (11, 111, 125), (11, 91, 130), (11, 95, 133), (11, 343, 134), (11, 104, 12), (11, 108, 135), (11, 346, 62), (13, 18, 88), (11, 115, 11), (13, 22, 89), (11, 130, 13), (11, 139, 15), (2, 44, 13), (11, 142, 14), (13, 27, 90), (11, 145, 131), (11, 148, 132)]
set_option maxRecDepth 100000 in
theorem MW_2_0_eq : MW_2_0.map fMW = ([26, 53, 69, 170, 174, 177, 180, 183, 187, 190, 194, 198, 202, 206, 211, 215, 223, 227, 228, 232, 236, 239] : List Nat).filterMap (fun i => tables_1_2[i]?) := rfl
def MW_3_0 : List (Nat × Nat × Nat) := [(13, 31, 91), (11, 154, 38), (11, 157, 39), (13, 36, 92), (13, 41, 93), (11, 164, 40), (13, 45, 94), (11, 170, 41), (6, 58, 43), (6, 78, 44), (6, 82, 46), (6, 86, 45), (6, 61, 49), (6, 99, 54), (6, 122, 57), (6, 65, 42), (6, 113, 47), (6, 125, 56), (6, 128, 55), (6, 103, 50), (6, 106, 51), (6, 116, 52), (6, 119, 53), (6, 109, 48), (6, 69, 265), (6, 75, 78), (13, 50, 95), (13, 54, 96), (11, 181, 60), (11, 184, 137), (11, 353, 1), (0, 29, 263), (11, 359, 2), (0, 43, 3), (0, 47, 4), (11, 366, 128), (13, 59, 97), (11, 188, 126), (11, 191, 138), (11, 369, 29), (11, 372, 16), (2, 48, 14), (2, 52, 15)]
set_option maxRecDepth 100000 in
theorem MW_3_0_eq : MW_3_0.map fMW = ([2, 6, 10, 14, 18, 22, 26, 30, 37, 41, 44, 97, 100, 104, 108, 112, 116, 120, 124, 128, 132, 136, 140, 144, 150, 164, 177, 181, 185, 190, 194, 198, 201, 205, 209, 215, 219, 223, 226, 230, 234, 238, 239] : List Nat).filterMap (fun i => tables_1_3[i]?) := rfl
def MW_4_0 : List (Nat × Nat × Nat) := [(11, 375, 30), (11, 195, 139), (11, 199, 31), (13, 63, 98), (13, 67, 99), (11, 207, 140), (13, 72, 100), (11, 211, 82), (10, 40, 80), (10, 28, 17), (10, 36, 18), (2, 55, 16), (10, 43, 83), (10, 56, 16), (10, 53, 84), (10, 65, 264), (16, 13, 262), (10, 71, 85), (11, 214, 81), (13, 76, 101), (11, 221, 7), (13, 80, 102), (11, 227, 8), (13, 84, 103), (13, 88, 104), (11, 239, 141), (13, 92, 105), (11, 243, 142), (11, 303, 127), (13, 96, 106), (11, 247, 19), (13, 100, 107), (13, 104, 108), (11, 250, 33), (5, 33, 1), (5, 41, 16), (5, 54, 13), (5, 58, 2), (5, 65, 34), (13, 108, 109), (11, 258, 35), (5, 69, 17), (11, 262, 36), (13, 112, 110), (13, 116, 111), (11, 274, 22), (13, 120, 112), (11, 281, 23), (3, 61, 24), (13, 124, 113), (11, 284, 25), (13, 128, 114), (11, 290, 136), (11, 349, 63), (8, 71, 1), (11, 294, 65), (8, 77, 64), (8, 89, 66), (8, 102, 68), (8, 105, 26)]
set_option maxRecDepth 100000 in
theorem MW_4_0_eq : MW_4_0.map fMW = ([0, 5, 9, 13, 17, 23, 26, 30, 34, 38, 45, 49, 51, 55, 58, 62, 65, 68, 72, 76, 80, 85, 89, 94, 98, 102, 105, 109, 113, 114, 118, 122, 126, 130, 134, 135, 136, 137, 138, 142, 146, 150, 152, 157, 161, 165, 169, 173, 177, 181, 185, 190, 194, 198, 202, 203, 207, 211, 215, 219] : List Nat).filterMap (fun i => tables_1_4[i]?) := rfl
def MW_4_1 : List (Nat × Nat × Nat) := [(8, 109, 67), (8, 118, 69), (8, 122, 2), (11, 300, 71), (8, 142, 70)]
set_option maxRecDepth 100000 in
theorem MW_4_1_eq : MW_4_1.map fMW = ([223, 227, 231, 233, 237] : List Nat).filterMap (fun i => tables_1_4[i]?) := rfl
def MW_5_0 : List (Nat × Nat × Nat) := [(13, 132, 115), (11, 312, 70), (13, 136, 116), (11, 315, 74), (8, 153, 27), (8, 157, 75), (8, 161, 76), (8, 165, 71), (11, 318, 261), (13, 140, 117), (13, 144, 118), (11, 323, 72), (8, 149, 65), (11, 326, 73), (13, 148, 119), (13, 152, 120), (11, 330, 77), (13, 156, 121), (11, 333, 59), (7, 46, 10), (7, 50, 6), (7, 53, 21), (13, 160, 122), (13, 164, 123), (11, 337, 27), (11, 340, 18), (13, 168, 124), (13, 12, 146), (13, 159, 147), (12, 78, 143), (12, 82, 144), (12, 86, 145), (13, 163, 148), (13, 17, 163), (12, 110, 151)]
set_option maxRecDepth 100000 in
theorem MW_5_0_eq : MW_5_0.map fMW = ([2, 6, 7, 11, 15, 19, 23, 27, 28, 34, 38, 42, 46, 47, 51, 55, 59, 64, 68, 72, 77, 82, 88, 92, 96, 97, 98, 104, 216, 220, 223, 227, 231, 235, 239] : List Nat).filterMap (fun i => tables_1_5[i]?) := rfl
def MW_6_0 : List (Nat × Nat × Nat) := [(12, 89, 153), (12, 113, 162), (13, 21, 164), (12, 117, 154), (12, 93, 155), (13, 26, 165), (12, 100, 157), (12, 97, 156), (12, 107, 159), (12, 103, 158), (13, 30, 166), (12, 120, 149), (13, 44, 167), (13, 35, 168), (13, 40, 169), (13, 49, 188), (12, 193, 187), (12, 187, 173), (12, 129, 170), (12, 132, 171), (12, 135, 172), (12, 190, 180), (12, 149, 176), (12, 142, 174), (12, 158, 184), (12, 178, 185), (12, 181, 186), (12, 174, 179), (12, 152, 175), (12, 162, 177), (12, 184, 178), (12, 165, 181), (12, 168, 182), (12, 171, 183), (13, 53, 189), (13, 58, 204), (12, 261, 150), (12, 264, 203), (12, 250, 201), (12, 253, 200), (12, 202, 190), (12, 227, 193), (12, 213, 194), (12, 221, 195), (12, 224, 191), (12, 217, 192), (12, 240, 196), (12, 230, 197), (12, 234, 198), (12, 237, 199), (12, 257, 202), (13, 62, 208), (12, 278, 152), (12, 281, 209), (12, 285, 207), (12, 270, 160), (12, 274, 205), (12, 289, 206), (13, 66, 210), (13, 71, 211)]
set_option maxRecDepth 100000 in
theorem MW_6_0_eq : MW_6_0.map fMW = ([2, 6, 10, 14, 18, 22, 26, 30, 34, 38, 42, 46, 50, 54, 58, 62, 66, 70, 74, 77, 80, 85, 89, 93, 97, 101, 105, 109, 112, 116, 120, 124, 128, 132, 136, 140, 144, 148, 152, 156, 160, 164, 168, 172, 176, 180, 186, 190, 194, 198, 202, 205, 209, 212, 216, 220, 224, 229, 232, 236] : List Nat).filterMap (fun i => tables_1_6[i]?) := rfl
def MW_7_0 : List (Nat × Nat × Nat) := [(13, 75, 212), (12, 297, 161), (13, 79, 215), (12, 300, 213), (12, 303, 214), (13, 83, 218), (12, 310, 217), (12, 306, 216), (13, 87, 219), (13, 91, 221), (12, 313, 220), (13, 95, 222), (13, 99, 224), (12, 316, 223), (13, 103, 225), (13, 107, 227), (12, 322, 226), (13, 111, 230), (12, 325, 228), (12, 328, 229), (13, 115, 231), (13, 119, 238), (12, 331, 232), (13, 123, 239), (12, 337, 236), (12, 334, 233), (13, 127, 240), (12, 340, 237), (13, 131, 248), (12, 382, 241), (12, 343, 235), (12, 378, 246), (12, 355, 234), (12, 366, 245), (12, 369, 242), (12, 372, 244), (12, 361, 243), (13, 135, 249), (13, 139, 252), (12, 392, 251), (12, 385, 250), (12, 388, 247), (13, 143, 253), (13, 147, 256), (12, 395, 255), (12, 398, 254), (13, 151, 257), (13, 155, 258), (13, 167, 259), (13, 171, 260)]
set_option maxRecDepth 100000 in
theorem MW_7_0_eq : MW_7_0.map fMW = ([2, 6, 10, 14, 18, 22, 26, 30, 34, 38, 42, 45, 49, 53, 57, 61, 65, 69, 73, 77, 81, 85, 89, 93, 97, 101, 105, 109, 113, 117, 121, 125, 129, 133, 137, 144, 148, 153, 157, 161, 165, 168, 172, 176, 180, 184, 188, 192, 196, 200] : List Nat).filterMap (fun i => tables_1_7[i]?) := rfl
def MW : List (Nat × Nat × Nat) := MW_1_0 ++ MW_2_0 ++ MW_3_0 ++ MW_4_0 ++ MW_4_1 ++ MW_5_0 ++ MW_6_0 ++ MW_7_0
theorem MW_in {q : Nat × Nat × Nat} (hq : q ∈ MW) : fMW q ∈ lw_tbl := by
  unfold MW at hq
  simp only [List.mem_append] at hq
  rcases hq with ((((((hq | hq) | hq) | hq) | hq) | hq) | hq) | hq
  · exact seg1 (seg_of MW_1_0_eq hq)
  · exact seg2 (seg_of MW_2_0_eq hq)
  · exact seg3 (seg_of MW_3_0_eq hq)
  · exact seg4 (seg_of MW_4_0_eq hq)
  · exact seg4 (seg_of MW_4_1_eq hq)
  · exact seg5 (seg_of MW_5_0_eq hq)
  · exact seg6 (seg_of MW_6_0_eq hq)
  · exact seg7 (seg_of MW_7_0_eq hq)
def fNW : Nat × Nat × Nat → Cond := fun q => .methodLinkNest (cS q.1) q.2.1 (yM q.2.2) "ColdRing"
def NW_1_0 : List (Nat × Nat × Nat) := [(11, 9, 58), (7, 11, 9), (7, 20, 5), (7, 27, 20), (11, 26, 37), (11, 33, 0)]
set_option maxRecDepth 100000 in
theorem NW_1_0_eq : NW_1_0.map fNW = ([32, 38, 71, 96, 191, 238] : List Nat).filterMap (fun i => tables_1_1[i]?) := rfl
def NW_2_0 : List (Nat × Nat × Nat) := [(11, 71, 28), (2, 34, 125)]
set_option maxRecDepth 100000 in
theorem NW_2_0_eq : NW_2_0.map fNW = ([122, 210] : List Nat).filterMap (fun i => tables_1_2[i]?) := rfl
def NW_3_0 : List (Nat × Nat × Nat) := [(7, 62, 125)]
set_option maxRecDepth 100000 in
theorem NW_3_0_eq : NW_3_0.map fNW = ([189] : List Nat).filterMap (fun i => tables_1_3[i]?) := rfl
def NW_4_0 : List (Nat × Nat × Nat) := [(10, 32, 127), (2, 59, 127), (5, 72, 127), (3, 65, 125), (8, 129, 128)]
set_option maxRecDepth 100000 in
theorem NW_4_0_eq : NW_4_0.map fNW = ([42, 50, 151, 189, 232] : List Nat).filterMap (fun i => tables_1_4[i]?) := rfl
def NW_5_0 : List (Nat × Nat × Nat) := [(8, 145, 127)]
set_option maxRecDepth 100000 in
theorem NW_5_0_eq : NW_5_0.map fNW = ([1] : List Nat).filterMap (fun i => tables_1_5[i]?) := rfl
def NW : List (Nat × Nat × Nat) := NW_1_0 ++ NW_2_0 ++ NW_3_0 ++ NW_4_0 ++ NW_5_0
theorem NW_in {q : Nat × Nat × Nat} (hq : q ∈ NW) : fNW q ∈ lw_tbl := by
  unfold NW at hq
  simp only [List.mem_append] at hq
  rcases hq with (((hq | hq) | hq) | hq) | hq
  · exact seg1 (seg_of NW_1_0_eq hq)
  · exact seg2 (seg_of NW_2_0_eq hq)
  · exact seg3 (seg_of NW_3_0_eq hq)
  · exact seg4 (seg_of NW_4_0_eq hq)
  · exact seg5 (seg_of NW_5_0_eq hq)
def fOW : Nat × Nat → Cond := fun q => .methodLink (cS q.1) q.2 objectInit
def OW_1_0 : List (Nat × Nat) := [(11, 1), (7, 3), (2, 3), (1, 3), (3, 3), (6, 3)]
set_option maxRecDepth 100000 in
theorem OW_1_0_eq : OW_1_0.map fOW = ([27, 35, 41, 74, 99, 194] : List Nat).filterMap (fun i => tables_1_1[i]?) := rfl
def OW_2_0 : List (Nat × Nat) := [(0, 3), (5, 3), (10, 5), (8, 3), (4, 1)]
set_option maxRecDepth 100000 in
theorem OW_2_0_eq : OW_2_0.map fOW = ([1, 29, 56, 72, 125] : List Nat).filterMap (fun i => tables_1_2[i]?) := rfl
def OW_3_0 : List (Nat × Nat) := [(9, 1)]
set_option maxRecDepth 100000 in
theorem OW_3_0_eq : OW_3_0.map fOW = ([167] : List Nat).filterMap (fun i => tables_1_3[i]?) := rfl
def OW_5_0 : List (Nat × Nat) := [(12, 11)]
set_option maxRecDepth 100000 in
theorem OW_5_0_eq : OW_5_0.map fOW = ([107] : List Nat).filterMap (fun i => tables_1_5[i]?) := rfl
def OW : List (Nat × Nat) := OW_1_0 ++ OW_2_0 ++ OW_3_0 ++ OW_5_0
theorem OW_in {q : Nat × Nat} (hq : q ∈ OW) : fOW q ∈ lw_tbl := by
  unfold OW at hq
  simp only [List.mem_append] at hq
  rcases hq with ((hq | hq) | hq) | hq
  · exact seg1 (seg_of OW_1_0_eq hq)
  · exact seg2 (seg_of OW_2_0_eq hq)
  · exact seg3 (seg_of OW_3_0_eq hq)
  · exact seg5 (seg_of OW_5_0_eq hq)
def fAW : Nat × Nat → Cond := fun q => .methodLink (cS q.1) q.2 arraycopyName
def AW_3_0 : List (Nat × Nat) := [(16, 150)]
set_option maxRecDepth 100000 in
theorem AW_3_0_eq : AW_3_0.map fAW = ([161] : List Nat).filterMap (fun i => tables_1_3[i]?) := rfl
def AW_5_0 : List (Nat × Nat) := [(2, 28), (1, 28), (3, 55), (7, 56)]
set_option maxRecDepth 100000 in
theorem AW_5_0_eq : AW_5_0.map fAW = ([76, 81, 86, 87] : List Nat).filterMap (fun i => tables_1_5[i]?) := rfl
def AW : List (Nat × Nat) := AW_3_0 ++ AW_5_0
theorem AW_in {q : Nat × Nat} (hq : q ∈ AW) : fAW q ∈ lw_tbl := by
  unfold AW at hq
  simp only [List.mem_append] at hq
  rcases hq with hq | hq
  · exact seg3 (seg_of AW_3_0_eq hq)
  · exact seg5 (seg_of AW_5_0_eq hq)
def fXW : Nat × Nat → Cond := fun q => .methodLink (cS q.1) q.2 Lib.Math.max.name
def XW_2_0 : List (Nat × Nat) := [(2, 38), (11, 133)]
set_option maxRecDepth 100000 in
theorem XW_2_0_eq : XW_2_0.map fXW = ([219, 222] : List Nat).filterMap (fun i => tables_1_2[i]?) := rfl
def XW_4_0 : List (Nat × Nat) := [(10, 62), (1, 34)]
set_option maxRecDepth 100000 in
theorem XW_4_0_eq : XW_4_0.map fXW = ([57, 84] : List Nat).filterMap (fun i => tables_1_4[i]?) := rfl
def XW : List (Nat × Nat) := XW_2_0 ++ XW_4_0
theorem XW_in {q : Nat × Nat} (hq : q ∈ XW) : fXW q ∈ lw_tbl := by
  unfold XW at hq
  simp only [List.mem_append] at hq
  rcases hq with hq | hq
  · exact seg2 (seg_of XW_2_0_eq hq)
  · exact seg4 (seg_of XW_4_0_eq hq)
def fYW : Nat × Nat → Cond := fun q => .methodLink (cS q.1) q.2 Lib.Math.min.name
def YW_3_0 : List (Nat × Nat) := [(6, 52), (16, 304), (11, 236)]
set_option maxRecDepth 100000 in
theorem YW_3_0_eq : YW_3_0.map fYW = ([34, 160, 218] : List Nat).filterMap (fun i => tables_1_3[i]?) := rfl
def YW_4_0 : List (Nat × Nat) := [(10, 47), (1, 40), (5, 76)]
set_option maxRecDepth 100000 in
theorem YW_4_0_eq : YW_4_0.map fYW = ([56, 93, 156] : List Nat).filterMap (fun i => tables_1_4[i]?) := rfl
def YW : List (Nat × Nat) := YW_3_0 ++ YW_4_0
theorem YW_in {q : Nat × Nat} (hq : q ∈ YW) : fYW q ∈ lw_tbl := by
  unfold YW at hq
  simp only [List.mem_append] at hq
  rcases hq with hq | hq
  · exact seg3 (seg_of YW_3_0_eq hq)
  · exact seg4 (seg_of YW_4_0_eq hq)
def fCW : Nat × Nat × Nat → Cond := fun q => .classLink (cS q.1) q.2.1 (cS q.2.2)
def CW_1_0 : List (Nat × Nat × Nat) := [(13, 7, 11), (11, 7, 7), (7, 9, 2), (7, 18, 1), (7, 25, 3), (7, 36, 9), (11, 24, 6), (11, 31, 0)]
set_option maxRecDepth 100000 in
theorem CW_1_0_eq : CW_1_0.map fCW = ([22, 30, 36, 69, 94, 159, 189, 236] : List Nat).filterMap (fun i => tables_1_1[i]?) := rfl
def CW_2_0 : List (Nat × Nat × Nat) := [(11, 38, 5), (11, 51, 10), (11, 60, 8), (11, 69, 4)]
set_option maxRecDepth 100000 in
theorem CW_2_0_eq : CW_2_0.map fCW = ([24, 51, 67, 119] : List Nat).filterMap (fun i => tables_1_2[i]?) := rfl
def CW_3_0 : List (Nat × Nat × Nat) := [(6, 44, 9)]
set_option maxRecDepth 100000 in
theorem CW_3_0_eq : CW_3_0.map fCW = ([148] : List Nat).filterMap (fun i => tables_1_3[i]?) := rfl
def CW_5_0 : List (Nat × Nat × Nat) := [(13, 10, 12)]
set_option maxRecDepth 100000 in
theorem CW_5_0_eq : CW_5_0.map fCW = ([102] : List Nat).filterMap (fun i => tables_1_5[i]?) := rfl
def CW : List (Nat × Nat × Nat) := CW_1_0 ++ CW_2_0 ++ CW_3_0 ++ CW_5_0
theorem CW_in {q : Nat × Nat × Nat} (hq : q ∈ CW) : fCW q ∈ lw_tbl := by
  unfold CW at hq
  simp only [List.mem_append] at hq
  rcases hq with ((hq | hq) | hq) | hq
  · exact seg1 (seg_of CW_1_0_eq hq)
  · exact seg2 (seg_of CW_2_0_eq hq)
  · exact seg3 (seg_of CW_3_0_eq hq)
  · exact seg5 (seg_of CW_5_0_eq hq)
def fKW : Nat × Nat × Int → Cond := fun q => .constant (cS q.1) q.2.1 (Int32.ofInt q.2.2)
def KW_4_0 : List (Nat × Nat × Int) := [(11, 329, 1000000)]
set_option maxRecDepth 100000 in
theorem KW_4_0_eq : KW_4_0.map fKW = ([8] : List Nat).filterMap (fun i => tables_1_4[i]?) := rfl
def KW_5_0 : List (Nat × Nat × Int) := [(15, 265, 1431655765), (15, 266, 858993459), (15, 267, 252645135), (8, 169, 1000003), (12, 62, 96025)]
set_option maxRecDepth 100000 in
theorem KW_5_0_eq : KW_5_0.map fKW = ([31, 32, 33, 63, 108] : List Nat).filterMap (fun i => tables_1_5[i]?) := rfl
def KW_6_0 : List (Nat × Nat × Int) := [(12, 138, 1000000)]
set_option maxRecDepth 100000 in
theorem KW_6_0_eq : KW_6_0.map fKW = ([84] : List Nat).filterMap (fun i => tables_1_6[i]?) := rfl
def KW : List (Nat × Nat × Int) := KW_4_0 ++ KW_5_0 ++ KW_6_0
theorem KW_in {q : Nat × Nat × Int} (hq : q ∈ KW) : fKW q ∈ lw_tbl := by
  unfold KW at hq
  simp only [List.mem_append] at hq
  rcases hq with (hq | hq) | hq
  · exact seg4 (seg_of KW_4_0_eq hq)
  · exact seg5 (seg_of KW_5_0_eq hq)
  · exact seg6 (seg_of KW_6_0_eq hq)
def fJW : Nat × Nat × Int → Cond := fun q => .constantLong (cS q.1) q.2.1 (Int64.ofInt q.2.2)
def JW_3_0 : List (Nat × Nat × Int) := [(0, 51, 1000000000), (0, 53, -1000000000)]
set_option maxRecDepth 100000 in
theorem JW_3_0_eq : JW_3_0.map fJW = ([213, 214] : List Nat).filterMap (fun i => tables_1_3[i]?) := rfl
def JW_4_0 : List (Nat × Nat × Int) := [(4, 17, 1000000000), (11, 203, -1), (11, 205, 100)]
set_option maxRecDepth 100000 in
theorem JW_4_0_eq : JW_4_0.map fJW = ([4, 21, 22] : List Nat).filterMap (fun i => tables_1_4[i]?) := rfl
def JW_6_0 : List (Nat × Nat × Int) := [(12, 205, 1000000000), (12, 207, -1000000000), (12, 268, 100000000)]
set_option maxRecDepth 100000 in
theorem JW_6_0_eq : JW_6_0.map fJW = ([184, 185, 228] : List Nat).filterMap (fun i => tables_1_6[i]?) := rfl
def JW_7_0 : List (Nat × Nat × Int) := [(12, 293, -1), (12, 295, 100), (12, 346, 1103), (12, 351, 12345), (12, 353, 1000003), (12, 364, 2)]
set_option maxRecDepth 100000 in
theorem JW_7_0_eq : JW_7_0.map fJW = ([0, 1, 141, 142, 143, 152] : List Nat).filterMap (fun i => tables_1_7[i]?) := rfl
def JW : List (Nat × Nat × Int) := JW_3_0 ++ JW_4_0 ++ JW_6_0 ++ JW_7_0
theorem JW_in {q : Nat × Nat × Int} (hq : q ∈ JW) : fJW q ∈ lw_tbl := by
  unfold JW at hq
  simp only [List.mem_append] at hq
  rcases hq with ((hq | hq) | hq) | hq
  · exact seg3 (seg_of JW_3_0_eq hq)
  · exact seg4 (seg_of JW_4_0_eq hq)
  · exact seg6 (seg_of JW_6_0_eq hq)
  · exact seg7 (seg_of JW_7_0_eq hq)
def fQW : Nat → Cond := fun M => .code (yM M) (bM M) (lM M) (rM M)
def QW_1_0 : List (Nat) := [5, 9, 20, 37, 58, 86]
set_option maxRecDepth 100000 in
theorem QW_1_0_eq : QW_1_0.map fQW = ([73, 40, 98, 193, 34, 26] : List Nat).filterMap (fun i => tables_1_1[i]?) := rfl
def QW_2_0 : List (Nat) := [0, 11, 12, 13, 14, 15, 28, 32, 61, 62, 79, 87, 88, 89, 90, 125, 129, 130, 131, 133, 134, 135]
set_option maxRecDepth 100000 in
theorem QW_2_0_eq : QW_2_0.map fQW = ([0, 209, 193, 218, 231, 226, 124, 28, 71, 201, 55, 173, 205, 214, 235, 179, 176, 182, 238, 186, 189, 197] : List Nat).filterMap (fun i => tables_1_2[i]?) := rfl
def QW_3_0 : List (Nat) := [1, 2, 3, 4, 16, 29, 38, 39, 40, 41, 42, 43, 44, 45, 46, 47, 48, 49, 50, 51, 52, 53, 54, 55, 56, 57, 60, 78, 91, 92, 93, 94, 95, 96, 97, 126, 128, 132, 137, 138, 263, 265]
set_option maxRecDepth 100000 in
theorem QW_3_0_eq : QW_3_0.map fQW = ([197, 204, 208, 212, 237, 233, 9, 13, 25, 33, 115, 40, 43, 99, 47, 119, 147, 103, 131, 135, 139, 143, 107, 127, 123, 111, 188, 166, 5, 17, 21, 29, 180, 184, 222, 225, 217, 1, 193, 229, 200, 152] : List Nat).filterMap (fun i => tables_1_3[i]?) := rfl
def QW_4_0 : List (Nat) := [7, 8, 17, 18, 19, 22, 23, 24, 25, 26, 30, 31, 33, 34, 35, 36, 63, 64, 65, 66, 67, 68, 69, 71, 80, 81, 82, 83, 84, 85, 98, 99, 100, 101, 102, 103, 104, 105, 106, 107, 108, 109, 110, 111, 112, 113, 114, 127, 136, 139, 140, 141, 142, 262, 264]
set_option maxRecDepth 100000 in
theorem QW_4_0_eq : QW_4_0.map fQW = ([83, 92, 41, 48, 121, 168, 176, 180, 188, 222, 3, 12, 133, 141, 149, 155, 201, 210, 206, 214, 226, 218, 230, 236, 37, 75, 33, 54, 61, 71, 16, 20, 29, 79, 88, 97, 101, 108, 117, 125, 129, 145, 160, 164, 172, 184, 193, 44, 197, 7, 25, 104, 112, 67, 64] : List Nat).filterMap (fun i => tables_1_4[i]?) := rfl
def QW_5_0 : List (Nat) := [6, 10, 21, 27, 59, 70, 72, 73, 74, 75, 76, 77, 115, 116, 117, 118, 119, 120, 121, 122, 123, 124, 143, 144, 145, 146, 147, 148, 163, 261]
set_option maxRecDepth 100000 in
theorem QW_5_0_eq : QW_5_0.map fQW = ([80, 75, 85, 18, 71, 0, 45, 50, 14, 22, 26, 62, 5, 10, 37, 41, 54, 58, 67, 91, 95, 101, 222, 226, 230, 106, 219, 234, 238, 30] : List Nat).filterMap (fun i => tables_1_5[i]?) := rfl
def QW_6_0 : List (Nat) := [149, 150, 151, 152, 153, 154, 155, 156, 157, 158, 159, 160, 162, 164, 165, 166, 167, 168, 169, 170, 171, 172, 173, 174, 175, 176, 177, 178, 179, 180, 181, 182, 183, 184, 185, 186, 187, 188, 189, 190, 191, 192, 193, 194, 195, 196, 197, 198, 199, 200, 201, 202, 203, 204, 205, 206, 207, 208, 209, 210]
set_option maxRecDepth 100000 in
theorem QW_6_0_eq : QW_6_0.map fQW = ([49, 147, 1, 211, 5, 17, 21, 33, 29, 41, 37, 223, 9, 13, 25, 45, 53, 57, 61, 76, 79, 83, 73, 96, 115, 92, 119, 123, 111, 88, 127, 131, 135, 100, 104, 108, 69, 65, 139, 163, 179, 183, 167, 171, 175, 189, 193, 197, 201, 159, 155, 204, 151, 143, 227, 231, 219, 208, 215, 235] : List Nat).filterMap (fun i => tables_1_6[i]?) := rfl
def QW_6_1 : List (Nat) := [211]
set_option maxRecDepth 100000 in
theorem QW_6_1_eq : QW_6_1.map fQW = ([239] : List Nat).filterMap (fun i => tables_1_6[i]?) := rfl
def QW_7_0 : List (Nat) := [161, 212, 213, 214, 215, 216, 217, 218, 219, 220, 221, 222, 223, 224, 225, 226, 227, 228, 229, 230, 231, 232, 233, 234, 235, 236, 237, 238, 239, 240, 241, 242, 243, 244, 245, 246, 247, 248, 249, 250, 251, 252, 253, 254, 255, 256, 257, 258, 259, 260]
set_option maxRecDepth 100000 in
theorem QW_7_0_eq : QW_7_0.map fQW = ([9, 5, 17, 21, 13, 33, 29, 25, 37, 44, 41, 48, 56, 52, 60, 68, 64, 76, 80, 72, 84, 92, 104, 132, 124, 100, 112, 88, 96, 108, 120, 140, 151, 147, 136, 128, 171, 116, 156, 167, 164, 160, 175, 187, 183, 179, 191, 195, 199, 203] : List Nat).filterMap (fun i => tables_1_7[i]?) := rfl
def QW : List (Nat) := QW_1_0 ++ QW_2_0 ++ QW_3_0 ++ QW_4_0 ++ QW_5_0 ++ QW_6_0 ++ QW_6_1 ++ QW_7_0
theorem QW_in {q : Nat} (hq : q ∈ QW) : fQW q ∈ lw_tbl := by
  unfold QW at hq
  simp only [List.mem_append] at hq
  rcases hq with ((((((hq | hq) | hq) | hq) | hq) | hq) | hq) | hq
  · exact seg1 (seg_of QW_1_0_eq hq)
  · exact seg2 (seg_of QW_2_0_eq hq)
  · exact seg3 (seg_of QW_3_0_eq hq)
  · exact seg4 (seg_of QW_4_0_eq hq)
  · exact seg5 (seg_of QW_5_0_eq hq)
  · exact seg6 (seg_of QW_6_0_eq hq)
  · exact seg6 (seg_of QW_6_1_eq hq)
  · exact seg7 (seg_of QW_7_0_eq hq)
def fSW : Nat → Cond := fun M => .static (yM M)
def SW_2_0 : List (Nat) := [125, 129, 130, 131, 134]
set_option maxRecDepth 100000 in
theorem SW_2_0_eq : SW_2_0.map fSW = ([178, 175, 181, 237, 188] : List Nat).filterMap (fun i => tables_1_2[i]?) := rfl
def SW_3_0 : List (Nat) := [44, 45, 126, 128, 132, 263, 265]
set_option maxRecDepth 100000 in
theorem SW_3_0_eq : SW_3_0.map fSW = ([42, 98, 224, 216, 0, 199, 151] : List Nat).filterMap (fun i => tables_1_3[i]?) := rfl
def SW_4_0 : List (Nat) := [127, 139, 140, 141, 262, 264]
set_option maxRecDepth 100000 in
theorem SW_4_0_eq : SW_4_0.map fSW = ([43, 6, 24, 103, 66, 63] : List Nat).filterMap (fun i => tables_1_4[i]?) := rfl
def SW_5_0 : List (Nat) := [143, 261]
set_option maxRecDepth 100000 in
theorem SW_5_0_eq : SW_5_0.map fSW = ([221, 29] : List Nat).filterMap (fun i => tables_1_5[i]?) := rfl
def SW_6_0 : List (Nat) := [151, 152, 170, 171, 179, 202, 206]
set_option maxRecDepth 100000 in
theorem SW_6_0_eq : SW_6_0.map fSW = ([0, 210, 75, 78, 110, 203, 230] : List Nat).filterMap (fun i => tables_1_6[i]?) := rfl
def SW_7_0 : List (Nat) := [220, 250]
set_option maxRecDepth 100000 in
theorem SW_7_0_eq : SW_7_0.map fSW = ([43, 166] : List Nat).filterMap (fun i => tables_1_7[i]?) := rfl
def SW : List (Nat) := SW_2_0 ++ SW_3_0 ++ SW_4_0 ++ SW_5_0 ++ SW_6_0 ++ SW_7_0
theorem SW_in {q : Nat} (hq : q ∈ SW) : fSW q ∈ lw_tbl := by
  unfold SW at hq
  simp only [List.mem_append] at hq
  rcases hq with ((((hq | hq) | hq) | hq) | hq) | hq
  · exact seg2 (seg_of SW_2_0_eq hq)
  · exact seg3 (seg_of SW_3_0_eq hq)
  · exact seg4 (seg_of SW_4_0_eq hq)
  · exact seg5 (seg_of SW_5_0_eq hq)
  · exact seg6 (seg_of SW_6_0_eq hq)
  · exact seg7 (seg_of SW_7_0_eq hq)
def fIW : Nat → Cond := fun M => .instanceMethod (yM M)
def IW_1_0 : List (Nat) := [0, 5, 9, 20, 37, 58, 86]
set_option maxRecDepth 100000 in
theorem IW_1_0_eq : IW_1_0.map fIW = ([239, 72, 39, 97, 192, 33, 25] : List Nat).filterMap (fun i => tables_1_1[i]?) := rfl
def IW_2_0 : List (Nat) := [11, 12, 13, 14, 15, 28, 32, 61, 62, 79, 87, 88, 89, 90, 133, 135]
set_option maxRecDepth 100000 in
theorem IW_2_0_eq : IW_2_0.map fIW = ([207, 191, 216, 229, 224, 123, 27, 70, 199, 54, 171, 203, 212, 233, 185, 196] : List Nat).filterMap (fun i => tables_1_2[i]?) := rfl
def IW_3_0 : List (Nat) := [1, 2, 3, 4, 16, 29, 38, 39, 40, 41, 42, 43, 46, 47, 48, 49, 50, 51, 52, 53, 54, 55, 56, 57, 60, 78, 91, 92, 93, 94, 95, 96, 97, 137, 138]
set_option maxRecDepth 100000 in
theorem IW_3_0_eq : IW_3_0.map fIW = ([195, 202, 207, 211, 235, 231, 7, 11, 23, 31, 114, 39, 46, 118, 146, 102, 130, 134, 138, 142, 106, 126, 122, 110, 186, 165, 3, 15, 19, 27, 178, 182, 220, 192, 228] : List Nat).filterMap (fun i => tables_1_3[i]?) := rfl
def IW_4_0 : List (Nat) := [7, 8, 17, 18, 19, 22, 23, 24, 25, 26, 30, 31, 33, 34, 35, 36, 63, 64, 65, 66, 67, 68, 69, 70, 71, 80, 81, 82, 83, 84, 85, 98, 99, 100, 101, 102, 103, 104, 105, 106, 107, 108, 109, 110, 111, 112, 113, 114, 136, 142]
set_option maxRecDepth 100000 in
theorem IW_4_0_eq : IW_4_0.map fIW = ([81, 90, 39, 46, 119, 166, 174, 179, 186, 220, 1, 10, 131, 140, 147, 153, 199, 209, 204, 213, 225, 217, 229, 238, 234, 36, 73, 31, 53, 60, 70, 14, 18, 27, 77, 86, 95, 99, 106, 115, 123, 127, 143, 158, 162, 170, 182, 191, 196, 111] : List Nat).filterMap (fun i => tables_1_4[i]?) := rfl
def IW_5_0 : List (Nat) := [6, 10, 21, 27, 59, 72, 73, 74, 75, 76, 77, 115, 116, 117, 118, 119, 120, 121, 122, 123, 124, 144, 145, 146, 147, 148, 163]
set_option maxRecDepth 100000 in
theorem IW_5_0_eq : IW_5_0.map fIW = ([78, 73, 83, 16, 69, 43, 48, 12, 21, 25, 60, 3, 8, 35, 39, 52, 56, 65, 89, 93, 99, 225, 229, 105, 217, 232, 236] : List Nat).filterMap (fun i => tables_1_5[i]?) := rfl
def IW_6_0 : List (Nat) := [149, 150, 153, 154, 155, 156, 157, 158, 159, 160, 162, 164, 165, 166, 167, 168, 169, 172, 173, 174, 175, 176, 177, 178, 180, 181, 182, 183, 184, 185, 186, 187, 188, 189, 190, 191, 192, 193, 194, 195, 196, 197, 198, 199, 200, 201, 203, 204, 205, 207, 208, 209, 210, 211]
set_option maxRecDepth 100000 in
theorem IW_6_0_eq : IW_6_0.map fIW = ([48, 146, 4, 16, 20, 32, 28, 40, 36, 222, 8, 11, 23, 43, 51, 55, 59, 82, 72, 95, 114, 91, 118, 122, 87, 126, 130, 134, 99, 103, 107, 68, 63, 137, 162, 178, 182, 166, 170, 174, 188, 192, 196, 200, 158, 154, 150, 141, 226, 218, 206, 214, 233, 237] : List Nat).filterMap (fun i => tables_1_6[i]?) := rfl
def IW_7_0 : List (Nat) := [161, 212, 213, 214, 215, 216, 217, 218, 219, 221, 222, 223, 224, 225, 226, 227, 228, 229, 230, 231, 232, 233, 234, 235, 236, 237, 238, 239, 240, 241, 242, 243, 244, 245, 246, 247, 248, 249, 251, 252, 253, 254, 255, 256, 257, 258, 259, 260]
set_option maxRecDepth 100000 in
theorem IW_7_0_eq : IW_7_0.map fIW = ([8, 3, 16, 20, 11, 32, 28, 23, 35, 39, 46, 55, 50, 58, 67, 62, 75, 79, 70, 82, 91, 103, 131, 123, 99, 111, 86, 94, 106, 119, 139, 150, 146, 135, 127, 170, 114, 154, 163, 158, 173, 186, 182, 177, 189, 193, 197, 201] : List Nat).filterMap (fun i => tables_1_7[i]?) := rfl
def IW : List (Nat) := IW_1_0 ++ IW_2_0 ++ IW_3_0 ++ IW_4_0 ++ IW_5_0 ++ IW_6_0 ++ IW_7_0
theorem IW_in {q : Nat} (hq : q ∈ IW) : fIW q ∈ lw_tbl := by
  unfold IW at hq
  simp only [List.mem_append] at hq
  rcases hq with (((((hq | hq) | hq) | hq) | hq) | hq) | hq
  · exact seg1 (seg_of IW_1_0_eq hq)
  · exact seg2 (seg_of IW_2_0_eq hq)
  · exact seg3 (seg_of IW_3_0_eq hq)
  · exact seg4 (seg_of IW_4_0_eq hq)
  · exact seg5 (seg_of IW_5_0_eq hq)
  · exact seg6 (seg_of IW_6_0_eq hq)
  · exact seg7 (seg_of IW_7_0_eq hq)
def fEW : Nat → Cond := fun M => .selects (yM M).cls (yM M) (yM M)
def EW_0_0 : List (Nat) := [3, 4, 24, 34, 42, 43, 46, 47, 48, 49, 50, 51, 52, 53, 54, 55, 56, 57, 64, 66, 67, 68, 69, 75, 76, 80, 83, 84, 85, 133, 135, 136, 137, 138, 142, 144, 145, 149, 150, 153, 154, 155, 156, 157, 158, 159, 160, 161, 162, 172, 173, 174, 175, 176, 177, 178, 180, 181, 182, 183]
set_option maxRecDepth 100000 in
theorem EW_0_0_eq : EW_0_0.map fEW = ([17, 18, 26, 25, 7, 2, 3, 8, 15, 4, 11, 12, 13, 14, 5, 10, 9, 6, 28, 29, 31, 30, 32, 33, 34, 20, 21, 22, 23, 0, 1, 27, 16, 19, 24, 35, 36, 45, 61, 37, 39, 40, 42, 41, 44, 43, 77, 79, 38, 48, 47, 51, 55, 50, 56, 57, 49, 58, 59, 60] : List Nat).filterMap (fun i => (k2_sels lw_privs)[i]?) := rfl
def EW_0_1 : List (Nat) := [184, 185, 186, 187, 190, 191, 192, 193, 194, 195, 196, 197, 198, 199, 200, 201, 203, 205, 207, 209, 213, 214, 216, 217, 223, 226, 228, 229, 232, 233, 234, 235, 236, 237, 241, 242, 243, 244, 245, 246, 247, 251, 254, 255]
set_option maxRecDepth 100000 in
theorem EW_0_1_eq : EW_0_1.map fEW = ([52, 53, 54, 46, 65, 69, 70, 66, 67, 68, 71, 72, 73, 74, 64, 63, 62, 78, 76, 75, 80, 81, 83, 82, 84, 85, 86, 87, 88, 90, 95, 93, 89, 91, 92, 97, 99, 98, 96, 94, 101, 100, 103, 102] : List Nat).filterMap (fun i => (k2_sels lw_privs)[i]?) := rfl
def EW_2_0 : List (Nat) := [11, 12, 13, 14, 15, 62, 87, 88, 89, 90]
set_option maxRecDepth 100000 in
theorem EW_2_0_eq : EW_2_0.map fEW = ([208, 192, 217, 230, 225, 200, 172, 204, 213, 234] : List Nat).filterMap (fun i => tables_1_2[i]?) := rfl
def EW_3_0 : List (Nat) := [1, 2, 16, 29, 38, 39, 40, 41, 60, 91, 92, 93, 94, 95, 96, 97]
set_option maxRecDepth 100000 in
theorem EW_3_0_eq : EW_3_0.map fEW = ([196, 203, 236, 232, 8, 12, 24, 32, 187, 4, 16, 20, 28, 179, 183, 221] : List Nat).filterMap (fun i => tables_1_3[i]?) := rfl
def EW_4_0 : List (Nat) := [7, 8, 17, 18, 19, 22, 23, 25, 26, 30, 31, 33, 35, 36, 63, 65, 70, 71, 81, 82, 98, 99, 100, 101, 102, 103, 104, 105, 106, 107, 108, 109, 110, 111, 112, 113, 114]
set_option maxRecDepth 100000 in
theorem EW_4_0_eq : EW_4_0.map fEW = ([82, 91, 40, 47, 120, 167, 175, 187, 221, 2, 11, 132, 148, 154, 200, 205, 239, 235, 74, 32, 15, 19, 28, 78, 87, 96, 100, 107, 116, 124, 128, 144, 159, 163, 171, 183, 192] : List Nat).filterMap (fun i => tables_1_4[i]?) := rfl
def EW_5_0 : List (Nat) := [6, 10, 21, 27, 59, 72, 73, 74, 77, 115, 116, 117, 118, 119, 120, 121, 122, 123, 124, 147, 148, 163]
set_option maxRecDepth 100000 in
theorem EW_5_0_eq : EW_5_0.map fEW = ([79, 74, 84, 17, 70, 44, 49, 13, 61, 4, 9, 36, 40, 53, 57, 66, 90, 94, 100, 218, 233, 237] : List Nat).filterMap (fun i => tables_1_5[i]?) := rfl
def EW_6_0 : List (Nat) := [164, 165, 166, 167, 168, 169, 188, 189, 204, 208, 210, 211]
set_option maxRecDepth 100000 in
theorem EW_6_0_eq : EW_6_0.map fEW = ([12, 24, 44, 52, 56, 60, 64, 138, 142, 207, 234, 238] : List Nat).filterMap (fun i => tables_1_6[i]?) := rfl
def EW_7_0 : List (Nat) := [212, 215, 218, 219, 221, 222, 224, 225, 227, 230, 231, 238, 239, 240, 248, 249, 252, 253, 256, 257, 258, 259, 260]
set_option maxRecDepth 100000 in
theorem EW_7_0_eq : EW_7_0.map fEW = ([4, 12, 24, 36, 40, 47, 51, 59, 63, 71, 83, 87, 95, 107, 115, 155, 159, 174, 178, 190, 194, 198, 202] : List Nat).filterMap (fun i => tables_1_7[i]?) := rfl
def EW : List (Nat) := EW_0_0 ++ EW_0_1 ++ EW_2_0 ++ EW_3_0 ++ EW_4_0 ++ EW_5_0 ++ EW_6_0 ++ EW_7_0
theorem EW_in {q : Nat} (hq : q ∈ EW) : fEW q ∈ lw_tbl := by
  unfold EW at hq
  simp only [List.mem_append] at hq
  rcases hq with ((((((hq | hq) | hq) | hq) | hq) | hq) | hq) | hq
  · exact seg0 (seg_of EW_0_0_eq hq)
  · exact seg0 (seg_of EW_0_1_eq hq)
  · exact seg2 (seg_of EW_2_0_eq hq)
  · exact seg3 (seg_of EW_3_0_eq hq)
  · exact seg4 (seg_of EW_4_0_eq hq)
  · exact seg5 (seg_of EW_5_0_eq hq)
  · exact seg6 (seg_of EW_6_0_eq hq)
  · exact seg7 (seg_of EW_7_0_eq hq)
def fZW : Nat → Cond := fun k => .initialized (cS k)
def ZW_1_0 : List (Nat) := [0, 1, 2, 3, 4, 5, 6, 7, 8, 9, 10, 11, 12, 13, 14, 15, 16, 17, 18]
set_option maxRecDepth 100000 in
theorem ZW_1_0_eq : ZW_1_0.map fZW = ([7, 4, 3, 5, 11, 8, 6, 2, 10, 18, 9, 1, 12, 0, 13, 21, 19, 20, 14] : List Nat).filterMap (fun i => tables_1_1[i]?) := rfl
def ZW : List (Nat) := ZW_1_0
theorem ZW_in {q : Nat} (hq : q ∈ ZW) : fZW q ∈ lw_tbl := by
  unfold ZW at hq
  exact seg1 (seg_of ZW_1_0_eq hq)
def fHW : Nat × Nat → Cond := fun q => .instantiable (cS q.1) q.2
def HW_1_0 : List (Nat × Nat) := [(0, 5), (1, 5), (2, 5), (3, 14), (6, 12), (7, 6), (11, 12)]
set_option maxRecDepth 100000 in
theorem HW_1_0_eq : HW_1_0.map fHW = ([237, 70, 37, 95, 190, 31, 23] : List Nat).filterMap (fun i => tables_1_1[i]?) := rfl
def HW_2_0 : List (Nat × Nat) := [(4, 2), (5, 6), (8, 14), (10, 3)]
set_option maxRecDepth 100000 in
theorem HW_2_0_eq : HW_2_0.map fHW = ([121, 25, 68, 52] : List Nat).filterMap (fun i => tables_1_2[i]?) := rfl
def HW_3_0 : List (Nat × Nat) := [(9, 2)]
set_option maxRecDepth 100000 in
theorem HW_3_0_eq : HW_3_0.map fHW = ([149] : List Nat).filterMap (fun i => tables_1_3[i]?) := rfl
def HW_5_0 : List (Nat × Nat) := [(12, 35)]
set_option maxRecDepth 100000 in
theorem HW_5_0_eq : HW_5_0.map fHW = ([103] : List Nat).filterMap (fun i => tables_1_5[i]?) := rfl
def HW : List (Nat × Nat) := HW_1_0 ++ HW_2_0 ++ HW_3_0 ++ HW_5_0
theorem HW_in {q : Nat × Nat} (hq : q ∈ HW) : fHW q ∈ lw_tbl := by
  unfold HW at hq
  simp only [List.mem_append] at hq
  rcases hq with ((hq | hq) | hq) | hq
  · exact seg1 (seg_of HW_1_0_eq hq)
  · exact seg2 (seg_of HW_2_0_eq hq)
  · exact seg3 (seg_of HW_3_0_eq hq)
  · exact seg5 (seg_of HW_5_0_eq hq)
def fLW : Nat × Nat → Cond := fun q => u_lay (cS q.1) (fT q.1) q.2
def LW_1_0 : List (Nat × Nat) := [(1, 0), (1, 1), (1, 2), (1, 3), (1, 4), (2, 0), (2, 1), (2, 2), (2, 3), (2, 4), (3, 0), (3, 1), (3, 2), (3, 3), (3, 4), (3, 5), (3, 6), (3, 7), (3, 8), (3, 9), (3, 10), (3, 11), (3, 12), (3, 13), (6, 0), (6, 1), (6, 2), (6, 3), (6, 4), (6, 5), (6, 6), (6, 7), (6, 8), (6, 9), (6, 10), (6, 11), (7, 0), (7, 1), (7, 2), (7, 3), (7, 4), (7, 5)]
set_option maxRecDepth 100000 in
theorem LW_1_0_eq : LW_1_0.map fLW = ([83, 85, 87, 89, 91, 57, 59, 61, 63, 65, 130, 132, 134, 136, 138, 140, 142, 144, 146, 148, 150, 152, 154, 156, 209, 211, 213, 215, 217, 219, 221, 223, 225, 227, 229, 231, 175, 177, 179, 181, 183, 185] : List Nat).filterMap (fun i => tables_1_1[i]?) := rfl
def LW_2_0 : List (Nat × Nat) := [(0, 0), (0, 1), (0, 2), (0, 3), (0, 4), (4, 0), (4, 1), (5, 0), (5, 1), (5, 2), (5, 3), (5, 4), (5, 5), (8, 0), (8, 1), (8, 2), (8, 3), (8, 4), (8, 5), (8, 6), (8, 7), (8, 8), (8, 9), (8, 10), (8, 11), (8, 12), (8, 13), (10, 0), (10, 1), (10, 2), (11, 0), (11, 1), (11, 2), (11, 3), (11, 4), (11, 5), (11, 6), (11, 7), (11, 8), (11, 9), (11, 10), (11, 11)]
set_option maxRecDepth 100000 in
theorem LW_2_0_eq : LW_2_0.map fLW = ([13, 15, 17, 19, 21, 128, 130, 38, 40, 42, 44, 46, 48, 90, 92, 94, 96, 98, 100, 102, 104, 106, 108, 110, 112, 114, 116, 60, 62, 64, 145, 147, 149, 151, 153, 155, 157, 159, 161, 163, 165, 167] : List Nat).filterMap (fun i => tables_1_2[i]?) := rfl
def LW_3_0 : List (Nat × Nat) := [(9, 0), (9, 1)]
set_option maxRecDepth 100000 in
theorem LW_3_0_eq : LW_3_0.map fLW = ([172, 174] : List Nat).filterMap (fun i => tables_1_3[i]?) := rfl
def LW_5_0 : List (Nat × Nat) := [(12, 0), (12, 1), (12, 2), (12, 3), (12, 4), (12, 5), (12, 6), (12, 7), (12, 8), (12, 9), (12, 10), (12, 11), (12, 12), (12, 13), (12, 14), (12, 15), (12, 16), (12, 17), (12, 18), (12, 19), (12, 20), (12, 21), (12, 22), (12, 23), (12, 24), (12, 25), (12, 26), (12, 27), (12, 28), (12, 29), (12, 30), (12, 31), (12, 32), (12, 33), (12, 34)]
set_option maxRecDepth 100000 in
theorem LW_5_0_eq : LW_5_0.map fLW = ([144, 146, 148, 150, 152, 154, 156, 158, 160, 162, 164, 166, 168, 170, 172, 174, 176, 178, 180, 182, 184, 186, 188, 190, 192, 194, 196, 198, 200, 202, 204, 206, 208, 210, 212] : List Nat).filterMap (fun i => tables_1_5[i]?) := rfl
def LW : List (Nat × Nat) := LW_1_0 ++ LW_2_0 ++ LW_3_0 ++ LW_5_0
theorem LW_in {q : Nat × Nat} (hq : q ∈ LW) : fLW q ∈ lw_tbl := by
  unfold LW at hq
  simp only [List.mem_append] at hq
  rcases hq with ((hq | hq) | hq) | hq
  · exact seg1 (seg_of LW_1_0_eq hq)
  · exact seg2 (seg_of LW_2_0_eq hq)
  · exact seg3 (seg_of LW_3_0_eq hq)
  · exact seg5 (seg_of LW_5_0_eq hq)
