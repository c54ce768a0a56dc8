theorem l_pos {ws big : List Cond} (ps : List Nat) (h : ws = ps.filterMap (fun i => big[i]?)) : ∀ w ∈ ws, w ∈ big := by
  intro w hw
  rw [h] at hw
  obtain ⟨i, -, hi⟩ := List.mem_filterMap.mp hw
  exact List.mem_of_getElem? hi
theorem l_app {big a b : List Cond} (ha : ∀ w ∈ a, w ∈ big) (hb : ∀ w ∈ b, w ∈ big) : ∀ w ∈ a ++ b, w ∈ big := fun w h => (List.mem_append.mp h).elim (ha w) (hb w)
set_option maxRecDepth 20000 in
theorem lr_1 : ∀ w ∈ wsL_law0_r1, w ∈ lw_tbl := l_pos [92, 93, 62, 1007, 1008, 66, 558, 1342, 94, 95, 96, 97, 98, 99, 100, 101, 65, 126, 127, 128, 129, 130, 148, 131] (by decide +kernel)
set_option maxRecDepth 20000 in
theorem lr_2 : ∀ w ∈ wsL_law0_r2, w ∈ lw_tbl := l_pos [102, 103, 104, 112, 114, 105, 106, 64, 107, 116, 108, 109, 63, 110, 111, 1009, 1010, 1011, 1012, 1016, 1017, 1018, 1019, 1020] (by decide +kernel)
set_option maxRecDepth 20000 in
theorem lr_3 : ∀ w ∈ wsL_law0_r3, w ∈ lw_tbl := l_pos [1122, 1021, 1022, 1024, 1025, 1123, 1026, 1028, 1029, 1030, 1031, 1032, 1033, 1034, 1035, 1036, 1037, 1039, 1040, 1041, 1042, 1043, 1045, 1046] (by decide +kernel)
set_option maxRecDepth 20000 in
theorem lr_4 : ∀ w ∈ wsL_law0_r4, w ∈ lw_tbl := l_pos [1047, 1048, 241, 242, 61, 243, 244, 245, 246, 247, 248, 249, 262, 70, 334, 71, 350, 215, 72, 183, 205, 80, 132, 250] (by decide +kernel)
set_option maxRecDepth 20000 in
theorem lr_5 : ∀ w ∈ wsL_law0_r5, w ∈ lw_tbl := l_pos [251, 252, 253, 254, 255, 256, 257, 258, 259, 260, 261, 153, 154, 155, 156, 115, 352, 353, 354, 355, 357, 359, 368, 370] (by decide +kernel)
set_option maxRecDepth 20000 in
theorem lr_6 : ∀ w ∈ wsL_law0_r6, w ∈ lw_tbl := l_pos [12, 371, 372, 169, 170, 171, 172, 173, 174, 73, 175, 176, 177, 74, 178, 179, 180, 181, 182, 237, 75, 10, 239, 383] (by decide +kernel)
set_option maxRecDepth 20000 in
theorem lr_7 : ∀ w ∈ wsL_law0_r7, w ∈ lw_tbl := l_pos [385, 214, 5, 216, 373, 375, 13, 376, 372, 238, 378, 379, 380, 381, 397, 398, 399, 400, 117, 118, 401, 403, 14, 404] (by decide +kernel)
set_option maxRecDepth 20000 in
theorem lr_8 : ∀ w ∈ wsL_law0_r8, w ∈ lw_tbl := l_pos [405, 407, 15, 408, 409, 411, 16, 412, 459, 417, 77, 418, 460, 413, 414, 76, 415, 416, 419, 420, 421, 422, 423, 424] (by decide +kernel)
set_option maxRecDepth 20000 in
theorem lr_9 : ∀ w ∈ wsL_law0_r9, w ∈ lw_tbl := l_pos [78, 425, 426, 1365, 427, 446, 447, 448, 449, 450, 452, 453, 454, 455, 456, 458, 457, 79, 462, 463, 464, 480, 465, 468] (by decide +kernel)
