/-! ===== the law's words are among the tables' words ===== -/
theorem in_r {big : List Cond} (ws : List Cond) (ps : List Nat) (hp : ws = ps.filterMap (fun i => big[i]?)) : ∀ w ∈ ws, w ∈ big := by
  intro w hw
  rw [hp] at hw
  obtain ⟨i, -, hi⟩ := List.mem_filterMap.mp hw
  exact List.mem_of_getElem? hi
theorem in_app {big a b : List Cond} (ha : ∀ w ∈ a, w ∈ big) (hb : ∀ w ∈ b, w ∈ big) : ∀ w ∈ a ++ b, w ∈ big := List.forall_mem_append.mpr ⟨ha, hb⟩
theorem lin_r1 : ∀ w ∈ wsL_law0_r1, w ∈ lw_tbl := in_r _ [51, 52, 40, 598, 599, 43, 870, 53, 54, 55, 56, 57, 58, 59, 182, 119, 183, 120, 184, 185, 186, 187, 61, 41] (by decide +kernel)
theorem lin_r2 : ∀ w ∈ wsL_law0_r2, w ∈ lw_tbl := in_r _ [62, 63, 64, 65, 66, 121, 68, 42, 70, 71, 72, 73, 75, 87, 600, 601, 602, 603, 605, 606, 607, 608, 609, 610] (by decide +kernel)
theorem lin_r3 : ∀ w ∈ wsL_law0_r3, w ∈ lw_tbl := in_r _ [612, 616, 617, 618, 619, 620, 621, 622, 623, 624, 625, 626, 627, 628, 629, 630, 631, 633, 634, 636, 637, 638, 643, 644] (by decide +kernel)
theorem lin_r4 : ∀ w ∈ wsL_law0_r4, w ∈ lw_tbl := in_r _ [347, 348, 39, 349, 350, 351, 352, 353, 354, 355, 360, 47, 436, 48, 124, 126, 128, 356, 358, 13, 359, 428, 429, 430] (by decide +kernel)
theorem lin_r5 : ∀ w ∈ wsL_law0_r5, w ∈ lw_tbl := in_r _ [432, 434, 15, 435, 732, 733, 734, 735, 604, 736, 738, 20, 739, 728, 729, 730, 731, 452, 453, 454, 455, 456, 457, 458] (by decide +kernel)
theorem lin_r6 : ∀ w ∈ wsL_law0_r6, w ∈ lw_tbl := in_r _ [459, 461, 16, 462, 463, 465, 17, 466, 469, 470, 471, 472, 123, 125, 127, 129, 131, 133, 135, 137, 139, 141, 143, 145] (by decide +kernel)
theorem lin_r7 : ∀ w ∈ wsL_law0_r7, w ∈ lw_tbl := in_r _ [147, 149, 473, 474, 475, 476, 77, 79, 81, 83, 85, 89, 91, 94, 740, 741, 742, 743, 744, 746, 21, 747, 477, 478] (by decide +kernel)
theorem lin_r8 : ∀ w ∈ wsL_law0_r8, w ∈ lw_tbl := in_r _ [479, 480, 481, 482, 483, 82, 84, 86, 88, 484, 486, 18, 487, 488, 489, 490, 122, 494, 496, 19, 497, 748, 749, 750] (by decide +kernel)
theorem lin_r9 : ∀ w ∈ wsL_law0_r9, w ∈ lw_tbl := in_r _ [751, 752, 754, 22, 755, 499, 500, 501, 502, 503, 504, 505, 132, 756, 757, 758, 759, 507, 508, 509, 510, 511, 512, 513] (by decide +kernel)
theorem lin_r10 : ∀ w ∈ wsL_law0_r10, w ∈ lw_tbl := in_r _ [78, 192, 516, 517, 518, 519, 760, 761, 762, 763, 632, 520, 521, 522, 523, 524, 525, 526, 136, 138, 764, 765, 766, 767] (by decide +kernel)
theorem lin_r11 : ∀ w ∈ wsL_law0_r11, w ∈ lw_tbl := in_r _ [529, 530, 531, 532, 533, 534, 535, 142, 144, 768, 769, 770, 771, 536, 537, 538, 539, 540, 541, 542, 150, 772, 773, 774] (by decide +kernel)
theorem lin_r12 : ∀ w ∈ wsL_law0_r12, w ∈ lw_tbl := in_r _ [775, 543, 544, 545, 546, 547, 548, 549, 776, 777, 778, 779, 231, 232, 233, 234, 190, 780, 781, 782, 783, 614, 235, 236] (by decide +kernel)
theorem lin_r13 : ∀ w ∈ wsL_law0_r13, w ∈ lw_tbl := in_r _ [237, 238, 191, 188, 189, 193, 239, 241, 0, 242, 243, 245, 1, 246, 130, 247, 248, 249, 250, 252, 253, 254, 255, 256] (by decide +kernel)
theorem lin_r14 : ∀ w ∈ wsL_law0_r14, w ∈ lw_tbl := in_r _ [258, 2, 259, 260, 261, 49, 262, 197, 263, 265, 3, 266, 93, 196, 267, 268, 269, 270, 271, 272, 273, 274, 275, 276] (by decide +kernel)
theorem lin_r15 : ∀ w ∈ wsL_law0_r15, w ∈ lw_tbl := in_r _ [277, 279, 4, 280, 95, 281, 283, 5, 284, 285, 286, 287, 288, 289, 290, 291, 292, 293, 295, 6, 296, 297, 298, 299] (by decide +kernel)
theorem lin_r16 : ∀ w ∈ wsL_law0_r16, w ∈ lw_tbl := in_r _ [300, 92, 301, 303, 7, 304, 305, 306, 195, 307, 309, 8, 310, 90, 311, 313, 9, 314, 76, 80, 194, 74, 315, 316] (by decide +kernel)
theorem lin_r17 : ∀ w ∈ wsL_law0_r17, w ∈ lw_tbl := in_r _ [317, 318, 319, 321, 10, 322, 323, 324, 325, 326, 327, 328, 329, 330, 331, 333, 11, 334, 335, 336, 337, 338, 339, 340] (by decide +kernel)
theorem lin_r18 : ∀ w ∈ wsL_law0_r18, w ∈ lw_tbl := in_r _ [341, 342, 343, 345, 12, 346, 784, 785, 786, 787, 615, 611, 613, 788, 790, 23, 791, 792, 794, 24, 795, 796, 798, 25] (by decide +kernel)
theorem lin_r19 : ∀ w ∈ wsL_law0_r19, w ∈ lw_tbl := in_r _ [799, 800, 802, 26, 803, 804, 806, 27, 807, 808, 809, 810, 812, 28, 813, 814, 816, 29, 817, 642, 818, 820, 30, 821] (by decide +kernel)
theorem lin_r20 : ∀ w ∈ wsL_law0_r20, w ∈ lw_tbl := in_r _ [822, 824, 31, 825, 641, 826, 828, 32, 829, 830, 832, 33, 833, 640, 834, 836, 34, 837, 838, 840, 35, 841, 639, 635] (by decide +kernel)
theorem lin_r21 : ∀ w ∈ wsL_law0_r21, w ∈ lw_tbl := in_r _ [842, 844, 36, 845, 846, 848, 37, 849, 850, 852, 38, 853, 551, 552, 553, 554, 555, 556, 557, 134, 140, 146, 148, 854] (by decide +kernel)
theorem lin_r22 : ∀ w ∈ wsL_law0_r22, w ∈ lw_tbl := in_r _ [855, 856, 857, 559, 560, 561, 562, 563, 564, 565, 858, 859, 860, 861, 566, 567, 568, 569, 570, 571, 572, 573, 574, 50] (by decide +kernel)
theorem lin_r23 : ∀ w ∈ wsL_law0_r23, w ∈ lw_tbl := in_r _ [862, 863, 864, 865, 590, 591, 592, 593, 594, 595, 596, 866, 867, 868, 869] (by decide +kernel)
theorem inX2 : ∀ w ∈ wsX20, w ∈ lw_tbl := in_r _ [198, 200, 202, 204, 206, 208, 210, 212, 214, 216, 218, 220, 222, 224, 226, 228] (by decide +kernel)
theorem inX3 : ∀ w ∈ wsX30, w ∈ lw_tbl := in_r _ [645, 647, 649, 651, 653, 655, 657, 659, 661, 663, 665, 667, 669, 671, 673, 675, 677, 679, 681, 683, 685, 687, 689, 691, 693, 695, 697, 699, 701, 703, 705, 707, 709, 711, 713, 715, 717, 719, 721, 723, 725] (by decide +kernel)
theorem inX1 : ∀ w ∈ wsX10, w ∈ lw_tbl := in_r _ [151, 153, 155, 157, 159, 161, 163, 165, 167, 169, 171, 173, 175, 177, 179] (by decide +kernel)
theorem inX0 : ∀ w ∈ wsX00, w ∈ lw_tbl := in_r _ [96, 98, 100, 102, 104, 106, 108, 110, 112, 114, 116] (by decide +kernel)
theorem wsL_law_in0 : ∀ w ∈ wsL_law0, w ∈ lw_tbl := in_app (in_app (in_app (in_app (in_app (in_app lin_r1 (in_app lin_r2 (in_app lin_r3 (in_app lin_r4 (in_app lin_r5 (in_app lin_r6 (in_app lin_r7 (in_app lin_r8 (in_app lin_r9 (in_app lin_r10 (in_app lin_r11 (in_app lin_r12 (in_app lin_r13 (in_app lin_r14 (in_app lin_r15 (in_app lin_r16 (in_app lin_r17 (in_app lin_r18 (in_app lin_r19 (in_app lin_r20 (in_app lin_r21 (in_app lin_r22 (lin_r23))))))))))))))))))))))) inX2) inX3) inX1) inX0) (fun _ h => absurd h List.not_mem_nil)
theorem wsL_law_x0 : ∀ w ∈ (vx_atS RX2 41 "java/lang/IllegalArgumentException" ["java/lang/RuntimeException", "java/lang/Exception"]).filter goodWord, w ∈ lw_tbl := by decide +kernel
theorem wsL_law_x1 : ∀ w ∈ (vx_atS RX2 57 "java/lang/IllegalStateException" ["java/lang/RuntimeException", "java/lang/Exception"]).filter goodWord, w ∈ lw_tbl := by decide +kernel
theorem wsL_law_x2 : ∀ w ∈ (vx_atS RX2 219 "java/lang/IndexOutOfBoundsException" ["java/lang/RuntimeException", "java/lang/Exception"]).filter goodWord, w ∈ lw_tbl := by decide +kernel
theorem wsL_law_in : ∀ w ∈ wsL_law, w ∈ lw_tbl := in_app (in_app (in_app wsL_law_in0 wsL_law_x0) wsL_law_x1) wsL_law_x2
