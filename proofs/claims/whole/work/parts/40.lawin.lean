theorem gx_inP {big ws : List Cond} (ps : List Nat) (h : ws = ps.filterMap (fun i => big[i]?)) : ∀ w ∈ ws, w ∈ big := by
  intro w hw
  rw [h] at hw
  obtain ⟨i, -, hi⟩ := List.mem_filterMap.mp hw
  exact List.mem_of_getElem? hi
set_option maxRecDepth 20000 in
theorem wsL_law_r1_in : ∀ w ∈ wsL_law_r1, w ∈ lw_tbl := gx_inP [51, 52, 41, 603, 604, 49, 53, 54, 55, 56, 57, 58, 59, 60, 42, 131, 132, 43, 307, 159, 138, 44, 308, 309] (by decide +kernel)
set_option maxRecDepth 20000 in
theorem wsL_law_r2_in : ∀ w ∈ wsL_law_r2, w ∈ lw_tbl := gx_inP [161, 162, 45, 310, 264, 265, 48, 311, 312, 313, 61, 62, 63, 64, 65, 66, 67, 68, 73, 75, 78, 81, 85, 89] (by decide +kernel)
set_option maxRecDepth 20000 in
theorem wsL_law_r3_in : ∀ w ∈ wsL_law_r3, w ∈ lw_tbl := gx_inP [90, 92, 98, 101, 105, 69, 71, 0, 72, 133, 134, 135, 136, 151, 137, 152, 139, 140, 141, 142, 150, 143, 144, 160] (by decide +kernel)
set_option maxRecDepth 20000 in
theorem wsL_law_r4_in : ∀ w ∈ wsL_law_r4, w ∈ lw_tbl := gx_inP [163, 164, 165, 166, 230, 167, 168, 46, 231, 199, 200, 47, 232, 228, 234, 236, 238, 169, 170, 171, 172, 173, 201, 202] (by decide +kernel)
set_option maxRecDepth 20000 in
theorem wsL_law_r5_in : ∀ w ∈ wsL_law_r5, w ∈ lw_tbl := gx_inP [203, 204, 205, 206, 207, 208, 209, 210, 211, 229, 266, 267, 268, 269, 274, 275, 270, 276, 272, 277, 279, 280, 271, 273] (by decide +kernel)
set_option maxRecDepth 20000 in
theorem wsL_law_r6_in : ∀ w ∈ wsL_law_r6, w ∈ lw_tbl := gx_inP [605, 606, 607, 608, 614, 615, 616, 617, 698, 619, 621, 623, 624, 625, 630, 631, 632, 637, 609, 611, 23, 612, 634, 329] (by decide +kernel)
set_option maxRecDepth 20000 in
theorem wsL_law_r7_in : ∀ w ∈ wsL_law_r7, w ∈ lw_tbl := gx_inP [330, 331, 332, 333, 334, 335, 336, 337, 338, 339, 340, 699, 700, 701, 702, 618, 613, 703, 704, 705, 341, 342, 343, 344] (by decide +kernel)
set_option maxRecDepth 20000 in
theorem wsL_law_r8_in : ∀ w ∈ wsL_law_r8, w ∈ lw_tbl := gx_inP [345, 346, 347, 348, 349, 350, 351, 352, 706, 707, 708, 709, 353, 354, 355, 356, 357, 358, 359, 360, 710, 711, 712, 713] (by decide +kernel)
set_option maxRecDepth 20000 in
theorem wsL_law_r9_in : ∀ w ∈ wsL_law_r9, w ∈ lw_tbl := gx_inP [361, 362, 363, 364, 365, 366, 367, 368, 714, 715, 716, 717, 369, 370, 371, 372, 373, 375, 1, 376, 377, 378, 379, 380] (by decide +kernel)
set_option maxRecDepth 20000 in
theorem wsL_law_r10_in : ∀ w ∈ wsL_law_r10, w ∈ lw_tbl := gx_inP [244, 381, 383, 2, 384, 240, 242, 385, 386, 387, 388, 181, 176, 182, 183, 389, 391, 3, 392, 174, 179, 393, 394, 395] (by decide +kernel)
set_option maxRecDepth 20000 in
theorem wsL_law_r11_in : ∀ w ∈ wsL_law_r11, w ∈ lw_tbl := gx_inP [396, 397, 398, 400, 4, 401, 402, 404, 5, 405, 406, 407, 408, 409, 410, 412, 6, 413, 414, 415, 416, 417, 418, 419] (by decide +kernel)
set_option maxRecDepth 20000 in
theorem wsL_law_r12_in : ∀ w ∈ wsL_law_r12, w ∈ lw_tbl := gx_inP [421, 7, 422, 423, 424, 50, 425, 426, 427, 428, 429, 430, 431, 433, 8, 434, 435, 436, 437, 438, 439, 440, 441, 442] (by decide +kernel)
set_option maxRecDepth 20000 in
theorem wsL_law_r13_in : ∀ w ∈ wsL_law_r13, w ∈ lw_tbl := gx_inP [443, 444, 445, 447, 9, 448, 449, 450, 451, 452, 453, 454, 455, 456, 457, 458, 460, 10, 461, 462, 718, 719, 720, 721] (by decide +kernel)
set_option maxRecDepth 20000 in
theorem wsL_law_r14_in : ∀ w ∈ wsL_law_r14, w ∈ lw_tbl := gx_inP [620, 626, 627, 633, 628, 722, 724, 24, 725, 629, 622, 726, 728, 25, 729, 730, 732, 26, 733, 734, 736, 27, 737, 738] (by decide +kernel)
set_option maxRecDepth 20000 in
theorem wsL_law_r15_in : ∀ w ∈ wsL_law_r15, w ∈ lw_tbl := gx_inP [740, 28, 741, 742, 744, 29, 745, 746, 748, 30, 749, 750, 752, 31, 753, 463, 464, 465, 466, 754, 755, 756, 757, 467] (by decide +kernel)
set_option maxRecDepth 20000 in
theorem wsL_law_r16_in : ∀ w ∈ wsL_law_r16, w ∈ lw_tbl := gx_inP [468, 469, 470, 471, 472, 473, 474, 475, 476, 477, 478, 479, 758, 759, 760, 761, 480, 481, 482, 483, 484, 485, 486, 487] (by decide +kernel)
set_option maxRecDepth 20000 in
theorem wsL_law_r17_in : ∀ w ∈ wsL_law_r17, w ∈ lw_tbl := gx_inP [488, 489, 490, 491, 492, 493, 494, 495, 496, 497, 498, 499, 501, 11, 502, 503, 504, 505, 506, 762, 763, 764, 765, 766] (by decide +kernel)
set_option maxRecDepth 20000 in
theorem wsL_law_r18_in : ∀ w ∈ wsL_law_r18, w ∈ lw_tbl := gx_inP [768, 32, 769, 507, 508, 509, 510, 770, 771, 772, 773, 511, 512, 513, 514, 774, 775, 776, 777, 515, 516, 517, 518, 519] (by decide +kernel)
set_option maxRecDepth 20000 in
theorem wsL_law_r19_in : ∀ w ∈ wsL_law_r19, w ∈ lw_tbl := gx_inP [778, 779, 780, 781, 782, 783, 784, 785, 520, 521, 522, 523, 786, 524, 525, 526, 527, 528, 529, 530, 531, 283, 532, 534] (by decide +kernel)
set_option maxRecDepth 20000 in
theorem wsL_law_r20_in : ∀ w ∈ wsL_law_r20, w ∈ lw_tbl := gx_inP [12, 535, 281, 282, 285, 536, 537, 538, 539, 541, 13, 542, 543, 544, 545, 546, 547, 548, 550, 14, 551, 552, 554, 15] (by decide +kernel)
set_option maxRecDepth 20000 in
theorem wsL_law_r21_in : ∀ w ∈ wsL_law_r21, w ∈ lw_tbl := gx_inP [555, 556, 557, 558, 559, 560, 562, 16, 563, 564, 565, 567, 17, 568, 569, 571, 18, 572, 573, 575, 19, 576, 577, 579] (by decide +kernel)
set_option maxRecDepth 20000 in
theorem wsL_law_r22_in : ∀ w ∈ wsL_law_r22, w ∈ lw_tbl := gx_inP [20, 580, 581, 583, 21, 584, 585, 586, 587, 588, 589, 591, 22, 592, 593, 594, 595, 596, 597, 598, 787, 788, 789, 790] (by decide +kernel)
set_option maxRecDepth 20000 in
theorem wsL_law_r23_in : ∀ w ∈ wsL_law_r23, w ∈ lw_tbl := gx_inP [635, 636, 638, 791, 793, 33, 794, 795, 797, 34, 798, 799, 801, 35, 802, 803, 805, 36, 806, 807, 809, 37, 810, 811] (by decide +kernel)
set_option maxRecDepth 20000 in
theorem wsL_law_r24_in : ∀ w ∈ wsL_law_r24, w ∈ lw_tbl := gx_inP [813, 38, 814, 639, 640, 815, 817, 39, 818, 599, 600, 601, 602, 819, 820, 821, 822] (by decide +kernel)
set_option maxRecDepth 20000 in
theorem wsX00_in : ∀ w ∈ wsX00, w ∈ lw_tbl := gx_inP [184, 186, 188, 190, 192, 194, 196] (by decide +kernel)
set_option maxRecDepth 20000 in
theorem wsX10_in : ∀ w ∈ wsX10, w ∈ lw_tbl := gx_inP [245, 247, 249, 251, 253, 255, 257, 259, 261] (by decide +kernel)
set_option maxRecDepth 20000 in
theorem wsX20_in : ∀ w ∈ wsX20, w ∈ lw_tbl := gx_inP [145, 147] (by decide +kernel)
set_option maxRecDepth 20000 in
theorem wsX30_in : ∀ w ∈ wsX30, w ∈ lw_tbl := gx_inP [108, 110, 112, 114, 116, 118, 120, 122, 124, 126, 128] (by decide +kernel)
set_option maxRecDepth 20000 in
theorem wsX40_in : ∀ w ∈ wsX40, w ∈ lw_tbl := gx_inP [213, 215, 217, 219, 221, 223, 225] (by decide +kernel)
set_option maxRecDepth 20000 in
theorem wsX50_in : ∀ w ∈ wsX50, w ∈ lw_tbl := gx_inP [154, 156] (by decide +kernel)
set_option maxRecDepth 20000 in
theorem wsX60_in : ∀ w ∈ wsX60, w ∈ lw_tbl := gx_inP [286, 288, 290, 292, 294, 296, 298, 300, 302, 304] (by decide +kernel)
set_option maxRecDepth 20000 in
theorem wsX70_in : ∀ w ∈ wsX70, w ∈ lw_tbl := gx_inP [314, 316, 318, 320, 322, 324, 326] (by decide +kernel)
set_option maxRecDepth 20000 in
theorem wsX80_in : ∀ w ∈ wsX80, w ∈ lw_tbl := gx_inP [641, 643, 645, 647, 649, 651, 653, 655, 657, 659, 661, 663, 665, 667, 669, 671, 673, 675, 677, 679, 681, 683, 685, 687, 689, 691, 693, 695] (by decide +kernel)
theorem gx_apI {big a b : List Cond} (ha : ∀ w ∈ a, w ∈ big) (hb : ∀ w ∈ b, w ∈ big) : ∀ w ∈ a ++ b, w ∈ big := fun w h => (List.mem_append.mp h).elim (ha w) (hb w)
theorem wsL_law_in : ∀ w ∈ wsL_law, w ∈ lw_tbl := (gx_apI (gx_apI (gx_apI (gx_apI (gx_apI (gx_apI (gx_apI (gx_apI (gx_apI (gx_apI (gx_apI wsL_law_r1_in (gx_apI wsL_law_r2_in (gx_apI wsL_law_r3_in (gx_apI wsL_law_r4_in (gx_apI wsL_law_r5_in (gx_apI wsL_law_r6_in (gx_apI wsL_law_r7_in (gx_apI wsL_law_r8_in (gx_apI wsL_law_r9_in (gx_apI wsL_law_r10_in (gx_apI wsL_law_r11_in (gx_apI wsL_law_r12_in (gx_apI wsL_law_r13_in (gx_apI wsL_law_r14_in (gx_apI wsL_law_r15_in (gx_apI wsL_law_r16_in (gx_apI wsL_law_r17_in (gx_apI wsL_law_r18_in (gx_apI wsL_law_r19_in (gx_apI wsL_law_r20_in (gx_apI wsL_law_r21_in (gx_apI wsL_law_r22_in (gx_apI wsL_law_r23_in wsL_law_r24_in))))))))))))))))))))))) wsX70_in) wsX80_in) wsX30_in) wsX50_in) wsX20_in) wsX10_in) wsX60_in) wsX00_in) wsX40_in) (fun w h => absurd h List.not_mem_nil))
theorem inlX0 : ∀ w ∈ wsX00, w ∈ wsL_law := fun _ h => List.mem_append_left _ (List.mem_append_left _ (List.mem_append_right _ h))
theorem inX0 : ∀ w ∈ wsX00, w ∈ lw_tbl := fun w h => wsL_law_in w (inlX0 w h)
theorem inlX1 : ∀ w ∈ wsX10, w ∈ wsL_law := fun _ h => List.mem_append_left _ (List.mem_append_left _ (List.mem_append_left _ (List.mem_append_left _ (List.mem_append_right _ h))))
theorem inX1 : ∀ w ∈ wsX10, w ∈ lw_tbl := fun w h => wsL_law_in w (inlX1 w h)
theorem inlX2 : ∀ w ∈ wsX20, w ∈ wsL_law := fun _ h => List.mem_append_left _ (List.mem_append_left _ (List.mem_append_left _ (List.mem_append_left _ (List.mem_append_left _ (List.mem_append_right _ h)))))
theorem inX2 : ∀ w ∈ wsX20, w ∈ lw_tbl := fun w h => wsL_law_in w (inlX2 w h)
theorem inlX3 : ∀ w ∈ wsX30, w ∈ wsL_law := fun _ h => List.mem_append_left _ (List.mem_append_left _ (List.mem_append_left _ (List.mem_append_left _ (List.mem_append_left _ (List.mem_append_left _ (List.mem_append_left _ (List.mem_append_right _ h)))))))
theorem inX3 : ∀ w ∈ wsX30, w ∈ lw_tbl := fun w h => wsL_law_in w (inlX3 w h)
theorem inlX4 : ∀ w ∈ wsX40, w ∈ wsL_law := fun _ h => List.mem_append_left _ (List.mem_append_right _ h)
theorem inX4 : ∀ w ∈ wsX40, w ∈ lw_tbl := fun w h => wsL_law_in w (inlX4 w h)
theorem inlX5 : ∀ w ∈ wsX50, w ∈ wsL_law := fun _ h => List.mem_append_left _ (List.mem_append_left _ (List.mem_append_left _ (List.mem_append_left _ (List.mem_append_left _ (List.mem_append_left _ (List.mem_append_right _ h))))))
theorem inX5 : ∀ w ∈ wsX50, w ∈ lw_tbl := fun w h => wsL_law_in w (inlX5 w h)
theorem inlX6 : ∀ w ∈ wsX60, w ∈ wsL_law := fun _ h => List.mem_append_left _ (List.mem_append_left _ (List.mem_append_left _ (List.mem_append_right _ h)))
theorem inX6 : ∀ w ∈ wsX60, w ∈ lw_tbl := fun w h => wsL_law_in w (inlX6 w h)
theorem inlX7 : ∀ w ∈ wsX70, w ∈ wsL_law := fun _ h => List.mem_append_left _ (List.mem_append_left _ (List.mem_append_left _ (List.mem_append_left _ (List.mem_append_left _ (List.mem_append_left _ (List.mem_append_left _ (List.mem_append_left _ (List.mem_append_left _ (List.mem_append_right _ h)))))))))
theorem inX7 : ∀ w ∈ wsX70, w ∈ lw_tbl := fun w h => wsL_law_in w (inlX7 w h)
theorem inlX8 : ∀ w ∈ wsX80, w ∈ wsL_law := fun _ h => List.mem_append_left _ (List.mem_append_left _ (List.mem_append_left _ (List.mem_append_left _ (List.mem_append_left _ (List.mem_append_left _ (List.mem_append_left _ (List.mem_append_left _ (List.mem_append_right _ h))))))))
theorem inX8 : ∀ w ∈ wsX80, w ∈ lw_tbl := fun w h => wsL_law_in w (inlX8 w h)
