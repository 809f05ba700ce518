theorem xin_t {big ws : List Cond} (ps : List Nat) (hp : ws = ps.filterMap (fun i => big[i]?)) : ∀ w ∈ ws, w ∈ big := by
  intro w hw
  rw [hp] at hw
  obtain ⟨i, -, hi⟩ := List.mem_filterMap.mp hw
  exact List.mem_of_getElem? hi
set_option maxRecDepth 20000 in
theorem wsL_law0_r1_t : ∀ w ∈ wsL_law0_r1, w ∈ lw_tbl := xin_t [30, 31, 21, 469, 470, 467, 468, 32, 33, 34, 35, 36, 37, 38, 75, 78, 79, 40, 22, 42, 43, 44, 54, 45] (by decide +kernel)
set_option maxRecDepth 20000 in
theorem wsL_law0_r2_t : ∀ w ∈ wsL_law0_r2, w ∈ lw_tbl := xin_t [361, 362, 20, 363, 426, 364, 365, 366, 367, 76, 368, 369, 370, 371, 372, 373, 374, 375, 81, 376, 377, 378, 379, 82] (by decide +kernel)
set_option maxRecDepth 20000 in
theorem wsL_law0_r3_t : ∀ w ∈ wsL_law0_r3, w ∈ lw_tbl := xin_t [380, 381, 382, 383, 86, 384, 385, 386, 387, 87, 388, 389, 390, 391, 77, 392, 393, 394, 395, 83, 396, 397, 398, 399] (by decide +kernel)
set_option maxRecDepth 20000 in
theorem wsL_law0_r4_t : ∀ w ∈ wsL_law0_r4, w ∈ lw_tbl := xin_t [84, 400, 401, 402, 403, 85, 404, 248, 249, 250, 292, 293, 294, 405, 406, 407, 408, 119, 121, 0, 122, 123, 26, 409] (by decide +kernel)
set_option maxRecDepth 20000 in
theorem wsL_law0_r5_t : ∀ w ∈ wsL_law0_r5, w ∈ lw_tbl := xin_t [410, 411, 412, 210, 212, 2, 213, 413, 414, 415, 416, 417, 418, 419, 420, 421, 422, 423, 424, 425, 427, 428, 429, 430] (by decide +kernel)
set_option maxRecDepth 20000 in
theorem wsL_law0_r6_t : ∀ w ∈ wsL_law0_r6, w ∈ lw_tbl := xin_t [431, 432, 433, 434, 274, 275, 276, 271, 272, 273, 435, 436, 437, 438, 439, 440, 441, 442, 263, 265, 14, 266, 267, 269] (by decide +kernel)
set_option maxRecDepth 20000 in
theorem wsL_law0_r7_t : ∀ w ∈ wsL_law0_r7, w ∈ lw_tbl := xin_t [15, 270, 444, 445, 446, 447, 448, 449, 450, 451, 452, 453, 454, 455, 191, 192, 193, 194, 27, 255, 257, 12, 258, 456] (by decide +kernel)
set_option maxRecDepth 20000 in
theorem wsL_law0_r8_t : ∀ w ∈ wsL_law0_r8, w ∈ lw_tbl := xin_t [458, 18, 459, 460, 462, 19, 463, 464, 465, 466, 115, 116, 117, 118, 214, 216, 3, 217, 218, 220, 4, 221, 80, 222] (by decide +kernel)
set_option maxRecDepth 20000 in
theorem wsL_law0_r9_t : ∀ w ∈ wsL_law0_r9, w ∈ lw_tbl := xin_t [223, 225, 5, 226, 227, 229, 6, 230, 231, 233, 7, 234, 235, 237, 8, 238, 239, 241, 9, 242, 243, 245, 10, 246] (by decide +kernel)
set_option maxRecDepth 20000 in
theorem wsL_law0_r10_t : ∀ w ∈ wsL_law0_r10, w ∈ lw_tbl := xin_t [247, 251, 253, 11, 254, 259, 261, 13, 262, 277, 278, 28, 279, 280, 282, 16, 283, 313, 314, 315, 316, 317, 318, 319] (by decide +kernel)
set_option maxRecDepth 20000 in
theorem wsL_law0_r11_t : ∀ w ∈ wsL_law0_r11, w ∈ lw_tbl := xin_t [295, 296, 297, 298, 299, 300, 301, 302, 303, 304, 305, 306, 310, 311, 312, 307, 308, 309, 284, 285, 286, 287, 320, 321] (by decide +kernel)
set_option maxRecDepth 20000 in
theorem wsL_law0_r12_t : ∀ w ∈ wsL_law0_r12, w ∈ lw_tbl := xin_t [322, 323, 324, 325, 326, 327, 328, 330, 17, 331, 332, 29, 348, 349, 350, 351, 352, 353, 354, 355, 357, 358, 359, 360] (by decide +kernel)
set_option maxRecDepth 20000 in
theorem wsL_law0_r13_t : ∀ w ∈ wsL_law0_r13, w ∈ lw_tbl := xin_t [288, 289, 290, 291] (by decide +kernel)
set_option maxRecDepth 20000 in
theorem wsX10_t : ∀ w ∈ wsX10, w ∈ lw_tbl := xin_t [88, 90, 92, 94, 96, 98, 100, 102, 104, 106, 108, 110, 112] (by decide +kernel)
set_option maxRecDepth 20000 in
theorem wsX00_t : ∀ w ∈ wsX00, w ∈ lw_tbl := xin_t [56, 58, 60, 62, 64, 66, 68, 70, 72] (by decide +kernel)
theorem wsL_law_in0 : ∀ w ∈ wsL_law0, w ∈ lw_tbl := fun w => (fun h => (List.mem_append.mp h).elim (fun h => (List.mem_append.mp h).elim (fun h => (List.mem_append.mp h).elim (fun h => (List.mem_append.mp h).elim (fun h => wsL_law0_r1_t w h) (fun h => (List.mem_append.mp h).elim (fun h => wsL_law0_r2_t w h) (fun h => (List.mem_append.mp h).elim (fun h => wsL_law0_r3_t w h) (fun h => (List.mem_append.mp h).elim (fun h => wsL_law0_r4_t w h) (fun h => (List.mem_append.mp h).elim (fun h => wsL_law0_r5_t w h) (fun h => (List.mem_append.mp h).elim (fun h => wsL_law0_r6_t w h) (fun h => (List.mem_append.mp h).elim (fun h => wsL_law0_r7_t w h) (fun h => (List.mem_append.mp h).elim (fun h => wsL_law0_r8_t w h) (fun h => (List.mem_append.mp h).elim (fun h => wsL_law0_r9_t w h) (fun h => (List.mem_append.mp h).elim (fun h => wsL_law0_r10_t w h) (fun h => (List.mem_append.mp h).elim (fun h => wsL_law0_r11_t w h) (fun h => (List.mem_append.mp h).elim (fun h => wsL_law0_r12_t w h) (fun h => wsL_law0_r13_t w h))))))))))))) (fun h => wsX10_t w h)) (fun h => wsX00_t w h)) (fun h => nomatch h))
set_option maxRecDepth 20000 in
theorem wsL_law_x0 : ∀ w ∈ (vx_atS RX1 109 "java/lang/IndexOutOfBoundsException" ["java/lang/RuntimeException", "java/lang/Exception"]).filter goodWord, w ∈ lw_tbl := xin_t [23, 145, 154, 158, 161, 163, 146, 147, 36, 37, 148, 153, 159, 179, 135, 180, 137, 181, 139, 149, 151, 141, 175, 176, 178, 141, 166, 167, 168, 169, 169, 170, 171, 172, 172, 173, 174, 175, 165, 124, 132, 133, 134, 136, 138, 140, 144, 143, 142] (by decide +kernel)
set_option maxRecDepth 20000 in
theorem wsL_law_x1 : ∀ w ∈ (vx_atS RX1 155 "java/lang/IllegalArgumentException" ["java/lang/RuntimeException", "java/lang/Exception"]).filter goodWord, w ∈ lw_tbl := xin_t [23, 145, 154, 158, 161, 163, 146, 147, 36, 37, 148, 153, 159, 179, 135, 180, 137, 181, 139, 149, 151, 141, 175, 176, 178, 141, 205, 206, 207, 169, 169, 170, 171, 172, 172, 173, 174, 175, 204, 195, 197, 156, 198, 199, 200, 201, 144, 143, 202] (by decide +kernel)
set_option maxRecDepth 20000 in
theorem wsL_law_x2 : ∀ w ∈ (vx_atS RX1 75 "java/lang/IllegalStateException" ["java/lang/RuntimeException", "java/lang/Exception"]).filter goodWord, w ∈ lw_tbl := xin_t [23, 145, 154, 158, 161, 163, 146, 147, 36, 37, 148, 153, 159, 179, 135, 180, 137, 181, 139, 149, 151, 141, 175, 176, 178, 141, 343, 344, 345, 169, 169, 170, 171, 172, 172, 173, 174, 175, 342, 333, 335, 157, 336, 337, 338, 339, 144, 143, 340] (by decide +kernel)
theorem wsL_law_in : ∀ w ∈ wsL_law, w ∈ lw_tbl := fun w h => (List.mem_append.mp h).elim (fun h => (List.mem_append.mp h).elim (fun h => (List.mem_append.mp h).elim (fun h => wsL_law_in0 w h) (fun h => wsL_law_x0 w h)) (fun h => wsL_law_x1 w h)) (fun h => wsL_law_x2 w h)
theorem inlX0 : ∀ w ∈ wsX00, w ∈ wsL_law := fun _ h => List.mem_append_left _ (List.mem_append_left _ (List.mem_append_left _ (List.mem_append_left _ (List.mem_append_right _ h))))
theorem inX0 : ∀ w ∈ wsX00, w ∈ lw_tbl := fun w h => wsL_law_in w (inlX0 w h)
theorem inlX1 : ∀ w ∈ wsX10, w ∈ wsL_law := fun _ h => List.mem_append_left _ (List.mem_append_left _ (List.mem_append_left _ (List.mem_append_left _ (List.mem_append_left _ (List.mem_append_right _ h)))))
theorem inX1 : ∀ w ∈ wsX10, w ∈ lw_tbl := fun w h => wsL_law_in w (inlX1 w h)
theorem inX2 : ∀ w ∈ wsX20, w ∈ lw_tbl := by decide +kernel
theorem inJ9 : ∀ w ∈ wsJ90, w ∈ lw_tbl := by decide +kernel
theorem inJ0 : ∀ w ∈ wsJ00, w ∈ lw_tbl := by decide +kernel
