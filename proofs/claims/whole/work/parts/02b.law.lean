theorem xin_t {big ws : List Cond} (ps : List Nat) (hp : ws = ps.filterMap (fun i => big[i]?)) : ∀ w ∈ ws, w ∈ big := by
  intro w hw
  rw [hp] at hw
  obtain ⟨i, -, hi⟩ := List.mem_filterMap.mp hw
  exact List.mem_of_getElem? hi
set_option maxRecDepth 20000 in
theorem wsL_law0_r1_t : ∀ w ∈ wsL_law0_r1, w ∈ lw_tbl := xin_t [43, 44, 33, 485, 486, 35, 560, 45, 46, 47, 48, 49, 50, 51, 88, 91, 92, 53, 34, 55, 56, 57, 67, 58] (by decide +kernel)
set_option maxRecDepth 20000 in
theorem wsL_law0_r2_t : ∀ w ∈ wsL_law0_r2, w ∈ lw_tbl := xin_t [487, 488, 489, 490, 558, 496, 497, 559, 498, 499, 500, 501, 502, 503, 504, 491, 492, 192, 193, 32, 194, 195, 196, 197] (by decide +kernel)
set_option maxRecDepth 20000 in
theorem wsL_law0_r3_t : ∀ w ∈ wsL_law0_r3, w ∈ lw_tbl := xin_t [198, 199, 200, 201, 203, 2, 204, 205, 39, 273, 274, 275, 276, 40, 136, 138, 1, 139, 89, 292, 294, 4, 295, 94] (by decide +kernel)
set_option maxRecDepth 20000 in
theorem wsL_law0_r4_t : ∀ w ∈ wsL_law0_r4, w ∈ lw_tbl := xin_t [96, 97, 296, 298, 5, 299, 93, 90, 300, 301, 303, 6, 304, 95, 98, 305, 307, 7, 308, 309, 311, 8, 312, 313] (by decide +kernel)
set_option maxRecDepth 20000 in
theorem wsL_law0_r5_t : ∀ w ∈ wsL_law0_r5, w ∈ lw_tbl := xin_t [315, 9, 316, 100, 317, 319, 10, 320, 321, 323, 11, 324, 325, 161, 162, 163, 132, 134, 0, 135, 326, 328, 12, 329] (by decide +kernel)
set_option maxRecDepth 20000 in
theorem wsL_law0_r6_t : ∀ w ∈ wsL_law0_r6, w ∈ lw_tbl := xin_t [330, 332, 13, 333, 348, 349, 41, 350, 99, 334, 336, 14, 337, 338, 340, 15, 341, 342, 343, 344, 345, 346, 347, 351] (by decide +kernel)
set_option maxRecDepth 20000 in
theorem wsL_law0_r7_t : ∀ w ∈ wsL_law0_r7, w ∈ lw_tbl := xin_t [353, 16, 354, 565, 566, 567, 568, 512, 505, 507, 508, 493, 506, 509, 511, 569, 571, 20, 572, 573, 574, 575, 576, 578] (by decide +kernel)
set_option maxRecDepth 20000 in
theorem wsL_law0_r8_t : ∀ w ∈ wsL_law0_r8, w ∈ lw_tbl := xin_t [21, 579, 580, 582, 22, 583, 494, 584, 495, 585, 587, 23, 588, 589, 591, 24, 592, 593, 595, 25, 596, 597, 599, 26] (by decide +kernel)
set_option maxRecDepth 20000 in
theorem wsL_law0_r9_t : ∀ w ∈ wsL_law0_r9, w ∈ lw_tbl := xin_t [600, 601, 603, 27, 604, 510, 605, 607, 28, 608, 609, 611, 29, 612, 613, 615, 30, 616, 561, 562, 563, 564, 355, 356] (by decide +kernel)
set_option maxRecDepth 20000 in
theorem wsL_law0_r10_t : ∀ w ∈ wsL_law0_r10, w ∈ lw_tbl := xin_t [357, 358, 359, 360, 361, 617, 618, 619, 620, 362, 363, 364, 365, 366, 367, 368, 369, 370, 372, 17, 373, 374, 42, 621] (by decide +kernel)
set_option maxRecDepth 20000 in
theorem wsL_law0_r11_t : ∀ w ∈ wsL_law0_r11, w ∈ lw_tbl := xin_t [622, 623, 624, 625, 627, 31, 628, 390, 391, 392, 393, 394, 395, 396, 629, 630, 631, 632, 128, 129, 130, 131, 633, 634] (by decide +kernel)
set_option maxRecDepth 20000 in
theorem wsL_law0_r12_t : ∀ w ∈ wsL_law0_r12, w ∈ lw_tbl := xin_t [635, 636, 397, 398, 399, 400, 401, 402, 403, 637, 638, 639, 640, 405, 406, 407, 408, 409, 410, 411, 641, 642, 643, 644] (by decide +kernel)
set_option maxRecDepth 20000 in
theorem wsL_law0_r13_t : ∀ w ∈ wsL_law0_r13, w ∈ lw_tbl := xin_t [412, 413, 414, 415, 416, 417, 418, 645, 646, 647, 648, 419, 420, 421, 422, 423, 424, 425, 649, 650, 651, 652, 426, 427] (by decide +kernel)
set_option maxRecDepth 20000 in
theorem wsL_law0_r14_t : ∀ w ∈ wsL_law0_r14, w ∈ lw_tbl := xin_t [428, 429, 430, 431, 432, 653, 654, 655, 656, 433, 434, 435, 436, 437, 438, 439, 657, 658, 659, 660, 440, 441, 442, 443] (by decide +kernel)
set_option maxRecDepth 20000 in
theorem wsL_law0_r15_t : ∀ w ∈ wsL_law0_r15, w ∈ lw_tbl := xin_t [444, 445, 446, 447, 661, 662, 663, 664, 665, 448, 449, 450, 451, 452, 453, 454, 666, 667, 668, 669, 455, 456, 457, 458] (by decide +kernel)
set_option maxRecDepth 20000 in
theorem wsL_law0_r16_t : ∀ w ∈ wsL_law0_r16, w ∈ lw_tbl := xin_t [459, 460, 461, 670, 671, 672, 673, 463, 464, 465, 466, 467, 468, 469, 674, 675, 676, 677, 140, 141, 142, 143, 678, 679] (by decide +kernel)
set_option maxRecDepth 20000 in
theorem wsL_law0_r17_t : ∀ w ∈ wsL_law0_r17, w ∈ lw_tbl := xin_t [680, 681, 470, 471, 472, 473, 474, 475, 476, 477, 479, 18, 480, 481, 483, 19, 484, 682, 683, 684, 685, 144, 145, 146] (by decide +kernel)
set_option maxRecDepth 20000 in
theorem wsL_law0_r18_t : ∀ w ∈ wsL_law0_r18, w ∈ lw_tbl := xin_t [147, 686, 687, 688, 689, 148, 149, 150, 151, 690, 691, 692, 693, 152, 153, 154, 155, 694, 695, 696, 697, 156, 157, 158] (by decide +kernel)
set_option maxRecDepth 20000 in
theorem wsL_law0_r19_t : ∀ w ∈ wsL_law0_r19, w ∈ lw_tbl := xin_t [159, 698, 699, 700, 701, 160, 702, 703, 704, 705, 164, 165, 166, 167, 706, 707, 708, 709, 168, 169, 170, 171, 710, 711] (by decide +kernel)
set_option maxRecDepth 20000 in
theorem wsL_law0_r20_t : ∀ w ∈ wsL_law0_r20, w ∈ lw_tbl := xin_t [712, 713, 172, 173, 174, 175, 714, 715, 716, 717, 176, 177, 178, 179, 718, 719, 720, 721, 180, 181, 182, 183, 722, 723] (by decide +kernel)
set_option maxRecDepth 20000 in
theorem wsL_law0_r21_t : ∀ w ∈ wsL_law0_r21, w ∈ lw_tbl := xin_t [724, 725, 184, 185, 186, 187, 726, 727, 728, 729, 188, 189, 190, 191, 730, 731, 732, 733] (by decide +kernel)
set_option maxRecDepth 20000 in
theorem wsX10_t : ∀ w ∈ wsX10, w ∈ lw_tbl := xin_t [101, 103, 105, 107, 109, 111, 113, 115, 117, 119, 121, 123, 125] (by decide +kernel)
set_option maxRecDepth 20000 in
theorem wsX20_t : ∀ w ∈ wsX20, w ∈ lw_tbl := xin_t [513, 515, 517, 519, 521, 523, 525, 527, 529, 531, 533, 535, 537, 539, 541, 543, 545, 547, 549, 551, 553, 555] (by decide +kernel)
set_option maxRecDepth 20000 in
theorem wsX00_t : ∀ w ∈ wsX00, w ∈ lw_tbl := xin_t [69, 71, 73, 75, 77, 79, 81, 83, 85] (by decide +kernel)
theorem wsL_law_in0 : ∀ w ∈ wsL_law0, w ∈ lw_tbl := fun w h => (List.mem_append.mp h).elim (fun h => (List.mem_append.mp h).elim (fun h => (List.mem_append.mp h).elim (fun h => (List.mem_append.mp h).elim (fun h => (List.mem_append.mp h).elim (fun h => wsL_law0_r1_t w h) (fun h => (List.mem_append.mp h).elim (fun h => wsL_law0_r2_t w h) (fun h => (List.mem_append.mp h).elim (fun h => wsL_law0_r3_t w h) (fun h => (List.mem_append.mp h).elim (fun h => wsL_law0_r4_t w h) (fun h => (List.mem_append.mp h).elim (fun h => wsL_law0_r5_t w h) (fun h => (List.mem_append.mp h).elim (fun h => wsL_law0_r6_t w h) (fun h => (List.mem_append.mp h).elim (fun h => wsL_law0_r7_t w h) (fun h => (List.mem_append.mp h).elim (fun h => wsL_law0_r8_t w h) (fun h => (List.mem_append.mp h).elim (fun h => wsL_law0_r9_t w h) (fun h => (List.mem_append.mp h).elim (fun h => wsL_law0_r10_t w h) (fun h => (List.mem_append.mp h).elim (fun h => wsL_law0_r11_t w h) (fun h => (List.mem_append.mp h).elim (fun h => wsL_law0_r12_t w h) (fun h => (List.mem_append.mp h).elim (fun h => wsL_law0_r13_t w h) (fun h => (List.mem_append.mp h).elim (fun h => wsL_law0_r14_t w h) (fun h => (List.mem_append.mp h).elim (fun h => wsL_law0_r15_t w h) (fun h => (List.mem_append.mp h).elim (fun h => wsL_law0_r16_t w h) (fun h => (List.mem_append.mp h).elim (fun h => wsL_law0_r17_t w h) (fun h => (List.mem_append.mp h).elim (fun h => wsL_law0_r18_t w h) (fun h => (List.mem_append.mp h).elim (fun h => wsL_law0_r19_t w h) (fun h => (List.mem_append.mp h).elim (fun h => wsL_law0_r20_t w h) (fun h => wsL_law0_r21_t w h))))))))))))))))))))) (fun h => wsX10_t w h)) (fun h => wsX20_t w h)) (fun h => wsX00_t w h)) (fun h => absurd h List.not_mem_nil)
set_option maxRecDepth 20000 in
theorem wsL_law_x0 : ∀ w ∈ (vx_atS RX1 109 "java/lang/IndexOutOfBoundsException" ["java/lang/RuntimeException", "java/lang/Exception"]).filter goodWord, w ∈ lw_tbl := xin_t [36, 227, 236, 240, 243, 245, 228, 229, 49, 50, 230, 235, 241, 261, 217, 262, 219, 263, 221, 231, 233, 223, 257, 258, 260, 223, 248, 249, 250, 251, 251, 252, 253, 254, 254, 255, 256, 257, 247, 206, 214, 215, 216, 218, 220, 222, 226, 225, 224] (by decide +kernel)
set_option maxRecDepth 20000 in
theorem wsL_law_x1 : ∀ w ∈ (vx_atS RX1 155 "java/lang/IllegalArgumentException" ["java/lang/RuntimeException", "java/lang/Exception"]).filter goodWord, w ∈ lw_tbl := xin_t [36, 227, 236, 240, 243, 245, 228, 229, 49, 50, 230, 235, 241, 261, 217, 262, 219, 263, 221, 231, 233, 223, 257, 258, 260, 223, 287, 288, 289, 251, 251, 252, 253, 254, 254, 255, 256, 257, 286, 277, 279, 238, 280, 281, 282, 283, 226, 225, 284] (by decide +kernel)
set_option maxRecDepth 20000 in
theorem wsL_law_x2 : ∀ w ∈ (vx_atS RX1 75 "java/lang/IllegalStateException" ["java/lang/RuntimeException", "java/lang/Exception"]).filter goodWord, w ∈ lw_tbl := xin_t [36, 227, 236, 240, 243, 245, 228, 229, 49, 50, 230, 235, 241, 261, 217, 262, 219, 263, 221, 231, 233, 223, 257, 258, 260, 223, 385, 386, 387, 251, 251, 252, 253, 254, 254, 255, 256, 257, 384, 375, 377, 239, 378, 379, 380, 381, 226, 225, 382] (by decide +kernel)
theorem wsL_law_in : ∀ w ∈ wsL_law, w ∈ lw_tbl := fun w h => (List.mem_append.mp h).elim (fun h => (List.mem_append.mp h).elim (fun h => (List.mem_append.mp h).elim (fun h => wsL_law_in0 w h) (fun h => wsL_law_x0 w h)) (fun h => wsL_law_x1 w h)) (fun h => wsL_law_x2 w h)
theorem inlX0 : ∀ w ∈ wsX00, w ∈ wsL_law := fun _ h => List.mem_append_left _ (List.mem_append_left _ (List.mem_append_left _ (List.mem_append_left _ (List.mem_append_right _ h))))
theorem inX0 : ∀ w ∈ wsX00, w ∈ lw_tbl := fun w h => wsL_law_in w (inlX0 w h)
theorem inlX1 : ∀ w ∈ wsX10, w ∈ wsL_law := fun _ h => List.mem_append_left _ (List.mem_append_left _ (List.mem_append_left _ (List.mem_append_left _ (List.mem_append_left _ (List.mem_append_left _ (List.mem_append_right _ h))))))
theorem inX1 : ∀ w ∈ wsX10, w ∈ lw_tbl := fun w h => wsL_law_in w (inlX1 w h)
theorem inlX2 : ∀ w ∈ wsX20, w ∈ wsL_law := fun _ h => List.mem_append_left _ (List.mem_append_left _ (List.mem_append_left _ (List.mem_append_left _ (List.mem_append_left _ (List.mem_append_right _ h)))))
theorem inX2 : ∀ w ∈ wsX20, w ∈ lw_tbl := fun w h => wsL_law_in w (inlX2 w h)
theorem inJ9 : ∀ w ∈ wsJ90, w ∈ lw_tbl := by decide +kernel
theorem inJ0 : ∀ w ∈ wsJ00, w ∈ lw_tbl := by decide +kernel
