theorem l_pos {ws big : List Cond} (ps : List Nat) (h : ws = ps.filterMap (fun i => big[i]?)) : ∀ w ∈ ws, w ∈ big := by
  intro w hw
  rw [h] at hw
  obtain ⟨i, -, hi⟩ := List.mem_filterMap.mp hw
  exact List.mem_of_getElem? hi
theorem l_app {big a b : List Cond} (ha : ∀ w ∈ a, w ∈ big) (hb : ∀ w ∈ b, w ∈ big) : ∀ w ∈ a ++ b, w ∈ big := fun w h => (List.mem_append.mp h).elim (ha w) (hb w)
set_option maxRecDepth 20000 in
theorem lr_1 : ∀ w ∈ wsL_law0_r1, w ∈ lw_tbl := l_pos [72, 73, 43, 128, 939, 385, 57, 386, 74, 75, 76, 77, 78, 79, 80, 81, 46, 106, 107, 108, 109, 110, 111, 82] (by decide +kernel)
set_option maxRecDepth 20000 in
theorem lr_2 : ∀ w ∈ wsL_law0_r2, w ∈ lw_tbl := l_pos [83, 84, 92, 94, 85, 86, 45, 87, 96, 88, 89, 44, 90, 91, 141, 142, 42, 143, 144, 145, 146, 147, 148, 137] (by decide +kernel)
set_option maxRecDepth 20000 in
theorem lr_3 : ∀ w ∈ wsL_law0_r3, w ∈ lw_tbl := l_pos [138, 139, 140, 112, 149, 150, 151, 152, 153, 154, 155, 156, 157, 170, 50, 242, 51, 258, 259, 52, 392, 393, 60, 158] (by decide +kernel)
set_option maxRecDepth 20000 in
theorem lr_4 : ∀ w ∈ wsL_law0_r4, w ∈ lw_tbl := l_pos [159, 160, 161, 162, 163, 164, 165, 166, 167, 168, 169, 133, 134, 135, 136, 95, 261, 262, 263, 264, 266, 268, 277, 279] (by decide +kernel)
set_option maxRecDepth 20000 in
theorem lr_5 : ∀ w ∈ wsL_law0_r5, w ∈ lw_tbl := l_pos [1, 280, 295, 281, 282, 283, 284, 285, 286, 53, 287, 288, 289, 54, 290, 291, 292, 293, 294, 298, 55, 2, 300, 315] (by decide +kernel)
set_option maxRecDepth 20000 in
theorem lr_6 : ∀ w ∈ wsL_law0_r6, w ∈ lw_tbl := l_pos [317, 303, 3, 304, 305, 307, 4, 308, 295, 299, 310, 311, 312, 313, 329, 330, 331, 332, 97, 98, 333, 335, 5, 336] (by decide +kernel)
set_option maxRecDepth 20000 in
theorem lr_7 : ∀ w ∈ wsL_law0_r7, w ∈ lw_tbl := l_pos [337, 339, 6, 340, 341, 343, 7, 344, 390, 349, 350, 391, 345, 346, 56, 347, 348, 351, 352, 353, 354, 355, 356, 58] (by decide +kernel)
set_option maxRecDepth 20000 in
theorem lr_8 : ∀ w ∈ wsL_law0_r8, w ∈ lw_tbl := l_pos [357, 358, 961, 359, 377, 378, 379, 380, 381, 383, 384, 387, 389, 388, 59, 395, 396, 397, 413, 398, 401, 404, 407, 409] (by decide +kernel)
set_option maxRecDepth 20000 in
theorem lr_9 : ∀ w ∈ wsL_law0_r9, w ∈ lw_tbl := l_pos [411, 434, 436, 8, 437, 438, 440, 9, 441, 444, 10, 445, 446, 447, 449, 11, 450, 392, 454, 12, 455, 456, 458, 13] (by decide +kernel)
