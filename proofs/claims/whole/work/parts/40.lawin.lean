theorem gx_inP {big ws : List Cond} (ps : List Nat) (h : ws = ps.filterMap (fun i => big[i]?)) : ∀ w ∈ ws, w ∈ big := by
  intro w hw
  rw [h] at hw
  obtain ⟨i, -, hi⟩ := List.mem_filterMap.mp hw
  exact List.mem_of_getElem? hi
set_option maxRecDepth 20000 in
theorem wsL_law_r1_in : ∀ w ∈ wsL_law_r1, w ∈ lw_tbl := gx_inP [50, 51, 40, 601, 602, 48, 52, 53, 54, 55, 56, 57, 58, 59, 41, 129, 130, 42, 305, 157, 136, 43, 306, 307] (by decide +kernel)
set_option maxRecDepth 20000 in
theorem wsL_law_r2_in : ∀ w ∈ wsL_law_r2, w ∈ lw_tbl := gx_inP [159, 160, 44, 308, 262, 263, 47, 309, 310, 311, 60, 61, 62, 63, 64, 65, 66, 67, 68, 70, 73, 76, 80, 84] (by decide +kernel)
set_option maxRecDepth 20000 in
theorem wsL_law_r3_in : ∀ w ∈ wsL_law_r3, w ∈ lw_tbl := gx_inP [85, 87, 93, 96, 103, 100, 131, 132, 133, 134, 149, 135, 150, 137, 138, 139, 140, 148, 141, 142, 158, 161, 162, 163] (by decide +kernel)
set_option maxRecDepth 20000 in
theorem wsL_law_r4_in : ∀ w ∈ wsL_law_r4, w ∈ lw_tbl := gx_inP [164, 228, 165, 166, 45, 229, 197, 198, 46, 230, 226, 232, 234, 236, 167, 168, 169, 170, 171, 199, 200, 201, 202, 203] (by decide +kernel)
set_option maxRecDepth 20000 in
theorem wsL_law_r5_in : ∀ w ∈ wsL_law_r5, w ∈ lw_tbl := gx_inP [204, 205, 206, 207, 208, 209, 227, 264, 265, 266, 267, 272, 273, 268, 274, 270, 275, 277, 278, 269, 271, 603, 604, 605] (by decide +kernel)
set_option maxRecDepth 20000 in
theorem wsL_law_r6_in : ∀ w ∈ wsL_law_r6, w ∈ lw_tbl := gx_inP [606, 612, 613, 614, 615, 696, 617, 619, 621, 622, 623, 628, 629, 630, 635, 607, 609, 22, 610, 632, 327, 328, 329, 330] (by decide +kernel)
set_option maxRecDepth 20000 in
theorem wsL_law_r7_in : ∀ w ∈ wsL_law_r7, w ∈ lw_tbl := gx_inP [331, 332, 333, 334, 335, 336, 337, 338, 697, 698, 699, 700, 616, 611, 701, 702, 703, 339, 340, 341, 342, 343, 344, 345] (by decide +kernel)
set_option maxRecDepth 20000 in
theorem wsL_law_r8_in : ∀ w ∈ wsL_law_r8, w ∈ lw_tbl := gx_inP [346, 347, 348, 349, 350, 704, 705, 706, 707, 351, 352, 353, 354, 355, 356, 357, 358, 708, 709, 710, 711, 359, 360, 361] (by decide +kernel)
set_option maxRecDepth 20000 in
theorem wsL_law_r9_in : ∀ w ∈ wsL_law_r9, w ∈ lw_tbl := gx_inP [362, 363, 364, 365, 366, 712, 713, 714, 715, 367, 368, 369, 370, 371, 373, 0, 374, 375, 376, 377, 378, 242, 379, 381] (by decide +kernel)
set_option maxRecDepth 20000 in
theorem wsL_law_r10_in : ∀ w ∈ wsL_law_r10, w ∈ lw_tbl := gx_inP [1, 382, 238, 240, 383, 384, 385, 386, 179, 174, 180, 181, 387, 389, 2, 390, 172, 177, 391, 392, 393, 394, 395, 396] (by decide +kernel)
set_option maxRecDepth 20000 in
theorem wsL_law_r11_in : ∀ w ∈ wsL_law_r11, w ∈ lw_tbl := gx_inP [398, 3, 399, 400, 402, 4, 403, 404, 405, 406, 407, 408, 410, 5, 411, 412, 413, 414, 415, 416, 417, 419, 6, 420] (by decide +kernel)
set_option maxRecDepth 20000 in
theorem wsL_law_r12_in : ∀ w ∈ wsL_law_r12, w ∈ lw_tbl := gx_inP [421, 422, 49, 423, 424, 425, 426, 427, 428, 429, 431, 7, 432, 433, 434, 435, 436, 437, 438, 439, 440, 441, 442, 443] (by decide +kernel)
set_option maxRecDepth 20000 in
theorem wsL_law_r13_in : ∀ w ∈ wsL_law_r13, w ∈ lw_tbl := gx_inP [445, 8, 446, 447, 448, 449, 450, 451, 452, 453, 454, 455, 456, 458, 9, 459, 460, 716, 717, 718, 719, 618, 624, 625] (by decide +kernel)
set_option maxRecDepth 20000 in
theorem wsL_law_r14_in : ∀ w ∈ wsL_law_r14, w ∈ lw_tbl := gx_inP [631, 626, 720, 722, 23, 723, 627, 620, 724, 726, 24, 727, 728, 730, 25, 731, 732, 734, 26, 735, 736, 738, 27, 739] (by decide +kernel)
set_option maxRecDepth 20000 in
theorem wsL_law_r15_in : ∀ w ∈ wsL_law_r15, w ∈ lw_tbl := gx_inP [740, 742, 28, 743, 744, 746, 29, 747, 748, 750, 30, 751, 461, 462, 463, 464, 752, 753, 754, 755, 465, 466, 467, 468] (by decide +kernel)
set_option maxRecDepth 20000 in
theorem wsL_law_r16_in : ∀ w ∈ wsL_law_r16, w ∈ lw_tbl := gx_inP [469, 470, 471, 472, 473, 474, 475, 476, 477, 756, 757, 758, 759, 478, 479, 480, 481, 482, 483, 484, 485, 486, 487, 488] (by decide +kernel)
set_option maxRecDepth 20000 in
theorem wsL_law_r17_in : ∀ w ∈ wsL_law_r17, w ∈ lw_tbl := gx_inP [489, 490, 491, 492, 493, 494, 495, 496, 497, 499, 10, 500, 501, 502, 503, 504, 760, 761, 762, 763, 764, 766, 31, 767] (by decide +kernel)
set_option maxRecDepth 20000 in
theorem wsL_law_r18_in : ∀ w ∈ wsL_law_r18, w ∈ lw_tbl := gx_inP [505, 506, 507, 508, 768, 769, 770, 771, 509, 510, 511, 512, 772, 773, 774, 775, 513, 514, 515, 516, 517, 776, 777, 778] (by decide +kernel)
set_option maxRecDepth 20000 in
theorem wsL_law_r19_in : ∀ w ∈ wsL_law_r19, w ∈ lw_tbl := gx_inP [779, 780, 781, 782, 783, 518, 519, 520, 521, 784, 522, 523, 524, 525, 526, 527, 528, 529, 281, 530, 532, 11, 533, 279] (by decide +kernel)
set_option maxRecDepth 20000 in
theorem wsL_law_r20_in : ∀ w ∈ wsL_law_r20, w ∈ lw_tbl := gx_inP [280, 283, 534, 535, 536, 537, 539, 12, 540, 541, 542, 543, 544, 545, 546, 548, 13, 549, 550, 552, 14, 553, 554, 555] (by decide +kernel)
set_option maxRecDepth 20000 in
theorem wsL_law_r21_in : ∀ w ∈ wsL_law_r21, w ∈ lw_tbl := gx_inP [556, 557, 558, 560, 15, 561, 562, 563, 565, 16, 566, 567, 569, 17, 570, 571, 573, 18, 574, 575, 577, 19, 578, 579] (by decide +kernel)
set_option maxRecDepth 20000 in
theorem wsL_law_r22_in : ∀ w ∈ wsL_law_r22, w ∈ lw_tbl := gx_inP [581, 20, 582, 583, 584, 585, 586, 587, 589, 21, 590, 591, 592, 593, 594, 595, 596, 785, 786, 787, 788, 633, 634, 636] (by decide +kernel)
set_option maxRecDepth 20000 in
theorem wsL_law_r23_in : ∀ w ∈ wsL_law_r23, w ∈ lw_tbl := gx_inP [789, 791, 32, 792, 793, 795, 33, 796, 797, 799, 34, 800, 801, 803, 35, 804, 805, 807, 36, 808, 809, 811, 37, 812] (by decide +kernel)
set_option maxRecDepth 20000 in
theorem wsL_law_r24_in : ∀ w ∈ wsL_law_r24, w ∈ lw_tbl := gx_inP [637, 638, 813, 815, 38, 816, 597, 598, 599, 600, 817, 818, 819, 820] (by decide +kernel)
set_option maxRecDepth 20000 in
theorem wsX00_in : ∀ w ∈ wsX00, w ∈ lw_tbl := gx_inP [182, 184, 186, 188, 190, 192, 194] (by decide +kernel)
set_option maxRecDepth 20000 in
theorem wsX10_in : ∀ w ∈ wsX10, w ∈ lw_tbl := gx_inP [243, 245, 247, 249, 251, 253, 255, 257, 259] (by decide +kernel)
set_option maxRecDepth 20000 in
theorem wsX20_in : ∀ w ∈ wsX20, w ∈ lw_tbl := gx_inP [143, 145] (by decide +kernel)
set_option maxRecDepth 20000 in
theorem wsX30_in : ∀ w ∈ wsX30, w ∈ lw_tbl := gx_inP [104, 106, 108, 110, 112, 114, 116, 118, 120, 122, 124, 126] (by decide +kernel)
set_option maxRecDepth 20000 in
theorem wsX40_in : ∀ w ∈ wsX40, w ∈ lw_tbl := gx_inP [211, 213, 215, 217, 219, 221, 223] (by decide +kernel)
set_option maxRecDepth 20000 in
theorem wsX50_in : ∀ w ∈ wsX50, w ∈ lw_tbl := gx_inP [152, 154] (by decide +kernel)
set_option maxRecDepth 20000 in
theorem wsX60_in : ∀ w ∈ wsX60, w ∈ lw_tbl := gx_inP [284, 286, 288, 290, 292, 294, 296, 298, 300, 302] (by decide +kernel)
set_option maxRecDepth 20000 in
theorem wsX70_in : ∀ w ∈ wsX70, w ∈ lw_tbl := gx_inP [312, 314, 316, 318, 320, 322, 324] (by decide +kernel)
set_option maxRecDepth 20000 in
theorem wsX80_in : ∀ w ∈ wsX80, w ∈ lw_tbl := gx_inP [639, 641, 643, 645, 647, 649, 651, 653, 655, 657, 659, 661, 663, 665, 667, 669, 671, 673, 675, 677, 679, 681, 683, 685, 687, 689, 691, 693] (by decide +kernel)
theorem gx_apI {big a b : List Cond} (ha : ∀ w ∈ a, w ∈ big) (hb : ∀ w ∈ b, w ∈ big) : ∀ w ∈ a ++ b, w ∈ big := fun w h => (List.mem_append.mp h).elim (ha w) (hb w)
theorem wsL_law_in : ∀ w ∈ wsL_law, w ∈ lw_tbl := (gx_apI (gx_apI (gx_apI (gx_apI (gx_apI (gx_apI (gx_apI (gx_apI (gx_apI (gx_apI (gx_apI wsL_law_r1_in (gx_apI wsL_law_r2_in (gx_apI wsL_law_r3_in (gx_apI wsL_law_r4_in (gx_apI wsL_law_r5_in (gx_apI wsL_law_r6_in (gx_apI wsL_law_r7_in (gx_apI wsL_law_r8_in (gx_apI wsL_law_r9_in (gx_apI wsL_law_r10_in (gx_apI wsL_law_r11_in (gx_apI wsL_law_r12_in (gx_apI wsL_law_r13_in (gx_apI wsL_law_r14_in (gx_apI wsL_law_r15_in (gx_apI wsL_law_r16_in (gx_apI wsL_law_r17_in (gx_apI wsL_law_r18_in (gx_apI wsL_law_r19_in (gx_apI wsL_law_r20_in (gx_apI wsL_law_r21_in (gx_apI wsL_law_r22_in (gx_apI wsL_law_r23_in wsL_law_r24_in))))))))))))))))))))))) wsX70_in) wsX80_in) wsX30_in) wsX50_in) wsX20_in) wsX10_in) wsX60_in) wsX00_in) wsX40_in) (fun w h => absurd h List.not_mem_nil))
theorem inlX0 : ∀ w ∈ wsX00, w ∈ wsL_law := fun _ h => List.mem_append_left _ (List.mem_append_left _ (List.mem_append_right _ h))
theorem inX0 : ∀ w ∈ wsX00, w ∈ lw_tbl := fun w h => wsL_law_in w (inlX0 w h)
theorem inlX1 : ∀ w ∈ wsX10, w ∈ wsL_law := fun _ h => List.mem_append_left _ (List.mem_append_left _ (List.mem_append_left _ (List.mem_append_left _ (List.mem_append_right _ h))))
theorem inX1 : ∀ w ∈ wsX10, w ∈ lw_tbl := fun w h => wsL_law_in w (inlX1 w h)
theorem inlX2 : ∀ w ∈ wsX20, w ∈ wsL_law := fun _ h => List.mem_append_left _ (List.mem_append_left _ (List.mem_append_left _ (List.mem_append_left _ (List.mem_append_left _ (List.mem_append_right _ h)))))
theorem inX2 : ∀ w ∈ wsX20, w ∈ lw_tbl := fun w h => wsL_law_in w (inlX2 w h)
theorem inlX3 : ∀ w ∈ wsX30, w ∈ wsL_law := fun _ h => List.mem_append_left _ (List.mem_append_left _ (List.mem_append_left _ (List.mem_append_left _ (List.mem_append_left _ (List.mem_append_left _ (List.mem_append_left _ (List.mem_append_right _ h)))))))
theorem inX3 : ∀ w ∈ wsX30, w ∈ lw_tbl := fun w h => wsL_law_in w (inlX3 w h)
theorem inlX4 : ∀ w ∈ wsX40, w ∈ wsL_law := fun _ h => List.mem_append_left _ (List.mem_append_right _ h)
theorem inX4 : ∀ w ∈ wsX40, w ∈ lw_tbl := fun w h => wsL_law_in w (inlX4 w h)
theorem inlX5 : ∀ w ∈ wsX50, w ∈ wsL_law := fun _ h => List.mem_append_left _ (List.mem_append_left _ (List.mem_append_left _ (List.mem_append_left _ (List.mem_append_left _ (List.mem_append_left _ (List.mem_append_right _ h))))))
theorem inX5 : ∀ w ∈ wsX50, w ∈ lw_tbl := fun w h => wsL_law_in w (inlX5 w h)
theorem inlX6 : ∀ w ∈ wsX60, w ∈ wsL_law := fun _ h => List.mem_append_left _ (List.mem_append_left _ (List.mem_append_left _ (List.mem_append_right _ h)))
theorem inX6 : ∀ w ∈ wsX60, w ∈ lw_tbl := fun w h => wsL_law_in w (inlX6 w h)
theorem inlX7 : ∀ w ∈ wsX70, w ∈ wsL_law := fun _ h => List.mem_append_left _ (List.mem_append_left _ (List.mem_append_left _ (List.mem_append_left _ (List.mem_append_left _ (List.mem_append_left _ (List.mem_append_left _ (List.mem_append_left _ (List.mem_append_left _ (List.mem_append_right _ h)))))))))
theorem inX7 : ∀ w ∈ wsX70, w ∈ lw_tbl := fun w h => wsL_law_in w (inlX7 w h)
theorem inlX8 : ∀ w ∈ wsX80, w ∈ wsL_law := fun _ h => List.mem_append_left _ (List.mem_append_left _ (List.mem_append_left _ (List.mem_append_left _ (List.mem_append_left _ (List.mem_append_left _ (List.mem_append_left _ (List.mem_append_left _ (List.mem_append_right _ h))))))))
theorem inX8 : ∀ w ∈ wsX80, w ∈ lw_tbl := fun w h => wsL_law_in w (inlX8 w h)
