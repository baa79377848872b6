theorem mem_ix {big : List Cond} (ws : List Cond) (ps : List Nat) (hp : ws = ps.filterMap (fun i => big[i]?)) : ∀ w ∈ ws, w ∈ big := by
  intro w hw
  rw [hp] at hw
  obtain ⟨i, -, hi⟩ := List.mem_filterMap.mp hw
  exact List.mem_of_getElem? hi
set_option maxRecDepth 20000 in
theorem mi_wsL_law_r1 : ∀ w ∈ wsL_law_r1, w ∈ lw_tbl := mem_ix _ [59, 60, 49, 610, 611, 55, 935, 61, 62, 63, 64, 65, 66, 67, 68, 50, 218, 219, 130, 131, 51, 220, 156, 157] (by decide +kernel)
set_option maxRecDepth 20000 in
theorem mi_wsL_law_r2 : ∀ w ∈ wsL_law_r2, w ∈ lw_tbl := mem_ix _ [52, 221, 175, 176, 53, 222, 193, 223, 195, 54, 224, 225, 70, 71, 72, 129, 73, 75, 77, 79, 90, 93, 99, 102] (by decide +kernel)
set_option maxRecDepth 20000 in
theorem mi_wsL_law_r3 : ∀ w ∈ wsL_law_r3, w ∈ lw_tbl := mem_ix _ [133, 134, 135, 136, 137, 138, 139, 159, 160, 161, 162, 178, 179, 180, 181, 183, 197, 198, 199, 217, 200, 612, 613, 614] (by decide +kernel)
set_option maxRecDepth 20000 in
theorem mi_wsL_law_r4 : ∀ w ∈ wsL_law_r4, w ∈ lw_tbl := mem_ix _ [615, 616, 617, 619, 623, 624, 626, 628, 629, 632, 633, 634, 635, 246, 247, 248, 249, 83, 250, 251, 252, 253, 254, 255] (by decide +kernel)
set_option maxRecDepth 20000 in
theorem mi_wsL_law_r5 : ∀ w ∈ wsL_law_r5, w ∈ lw_tbl := mem_ix _ [256, 84, 86, 257, 258, 259, 260, 141, 677, 678, 679, 680, 681, 688, 682, 683, 684, 685, 686, 687, 689, 691, 23, 692] (by decide +kernel)
set_option maxRecDepth 20000 in
theorem mi_wsL_law_r6 : ∀ w ∈ wsL_law_r6, w ∈ lw_tbl := mem_ix _ [625, 261, 262, 263, 264, 74, 76, 78, 81, 265, 267, 0, 268, 269, 270, 271, 272, 273, 274, 275, 276, 278, 279, 56] (by decide +kernel)
set_option maxRecDepth 20000 in
theorem mi_wsL_law_r7 : ∀ w ∈ wsL_law_r7, w ∈ lw_tbl := mem_ix _ [280, 96, 277, 693, 694, 695, 696, 701, 697, 699, 24, 700, 702, 704, 25, 705, 706, 708, 26, 709, 710, 712, 27, 713] (by decide +kernel)
set_option maxRecDepth 20000 in
theorem mi_wsL_law_r8 : ∀ w ∈ wsL_law_r8, w ∈ lw_tbl := mem_ix _ [714, 716, 28, 717, 281, 282, 283, 284, 718, 719, 720, 721, 285, 286, 287, 288, 92, 95, 722, 723, 724, 725, 289, 290] (by decide +kernel)
set_option maxRecDepth 20000 in
theorem mi_wsL_law_r9 : ∀ w ∈ wsL_law_r9, w ∈ lw_tbl := mem_ix _ [291, 292, 293, 294, 295, 296, 163, 742, 743, 744, 745, 746, 747, 620, 297, 298, 299, 300, 101, 301, 302, 303, 304, 164] (by decide +kernel)
set_option maxRecDepth 20000 in
theorem mi_wsL_law_r10 : ∀ w ∈ wsL_law_r10, w ∈ lw_tbl := mem_ix _ [165, 91, 94, 85, 305, 306, 307, 308, 309, 311, 1, 312, 313, 315, 2, 316, 317, 319, 3, 320, 321, 323, 4, 324] (by decide +kernel)
set_option maxRecDepth 20000 in
theorem mi_wsL_law_r11 : ∀ w ∈ wsL_law_r11, w ∈ lw_tbl := mem_ix _ [325, 327, 5, 328, 82, 88, 329, 331, 6, 332, 333, 334, 335, 336, 338, 7, 339, 340, 342, 8, 343, 344, 345, 346] (by decide +kernel)
set_option maxRecDepth 20000 in
theorem mi_wsL_law_r12 : ∀ w ∈ wsL_law_r12, w ∈ lw_tbl := mem_ix _ [347, 348, 349, 350, 351, 352, 353, 355, 354, 57, 748, 749, 750, 751, 621, 622, 752, 754, 32, 755, 756, 758, 33, 759] (by decide +kernel)
set_option maxRecDepth 20000 in
theorem mi_wsL_law_r13 : ∀ w ∈ wsL_law_r13, w ∈ lw_tbl := mem_ix _ [760, 762, 34, 763, 764, 766, 35, 767, 768, 770, 36, 771, 772, 774, 37, 775, 776, 777, 356, 357, 358, 359, 98, 89] (by decide +kernel)
set_option maxRecDepth 20000 in
theorem mi_wsL_law_r14 : ∀ w ∈ wsL_law_r14, w ∈ lw_tbl := mem_ix _ [142, 360, 361, 362, 363, 364, 365, 366, 367, 726, 727, 728, 729, 730, 732, 29, 733, 734, 736, 30, 737, 738, 740, 31] (by decide +kernel)
set_option maxRecDepth 20000 in
theorem mi_wsL_law_r15 : ∀ w ∈ wsL_law_r15, w ∈ lw_tbl := mem_ix _ [741, 368, 369, 370, 371, 372, 374, 9, 375, 376, 377, 378, 379, 80, 140, 380, 87, 97, 100, 381, 382, 383, 384, 385] (by decide +kernel)
set_option maxRecDepth 20000 in
theorem mi_wsL_law_r16 : ∀ w ∈ wsL_law_r16, w ∈ lw_tbl := mem_ix _ [386, 387, 778, 779, 780, 781, 782, 783, 785, 38, 786, 787, 789, 39, 790, 388, 389, 390, 391, 392, 393, 394, 395, 396] (by decide +kernel)
set_option maxRecDepth 20000 in
theorem mi_wsL_law_r17 : ∀ w ∈ wsL_law_r17, w ∈ lw_tbl := mem_ix _ [397, 398, 103, 399, 401, 10, 402, 403, 404, 405, 406, 791, 792, 793, 794, 795, 796, 797, 798, 799, 801, 40, 802, 618] (by decide +kernel)
set_option maxRecDepth 20000 in
theorem mi_wsL_law_r18 : ∀ w ∈ wsL_law_r18, w ∈ lw_tbl := mem_ix _ [803, 805, 41, 806, 407, 408, 409, 410, 807, 808, 809, 810, 411, 412, 413, 414, 811, 812, 813, 814, 415, 416, 417, 418] (by decide +kernel)
set_option maxRecDepth 20000 in
theorem mi_wsL_law_r19 : ∀ w ∈ wsL_law_r19, w ∈ lw_tbl := mem_ix _ [419, 420, 421, 422, 423, 424, 425, 426, 815, 816, 817, 818, 819, 820, 821, 822, 427, 428, 429, 430, 431, 432, 433, 434] (by decide +kernel)
set_option maxRecDepth 20000 in
theorem mi_wsL_law_r20 : ∀ w ∈ wsL_law_r20, w ∈ lw_tbl := mem_ix _ [823, 824, 825, 826, 435, 436, 437, 438, 827, 828, 829, 830, 439, 440, 441, 442, 443, 444, 445, 446, 448, 11, 449, 831] (by decide +kernel)
set_option maxRecDepth 20000 in
theorem mi_wsL_law_r21 : ∀ w ∈ wsL_law_r21, w ∈ lw_tbl := mem_ix _ [832, 833, 834, 835, 836, 838, 42, 839, 840, 842, 43, 843, 844, 846, 44, 847, 450, 451, 452, 453, 848, 849, 850, 851] (by decide +kernel)
set_option maxRecDepth 20000 in
theorem mi_wsL_law_r22 : ∀ w ∈ wsL_law_r22, w ∈ lw_tbl := mem_ix _ [454, 455, 456, 457, 458, 459, 460, 461, 463, 12, 464, 465, 467, 13, 468, 852, 853, 854, 855, 627, 856, 858, 45, 859] (by decide +kernel)
set_option maxRecDepth 20000 in
theorem mi_wsL_law_r23 : ∀ w ∈ wsL_law_r23, w ∈ lw_tbl := mem_ix _ [469, 470, 471, 472, 860, 861, 862, 863, 473, 474, 475, 476, 477, 478, 58, 479, 480, 481, 482, 864, 865, 866, 867, 868] (by decide +kernel)
set_option maxRecDepth 20000 in
theorem mi_wsL_law_r24 : ∀ w ∈ wsL_law_r24, w ∈ lw_tbl := mem_ix _ [869, 870, 871, 483, 484, 485, 486, 184, 487, 489, 14, 490, 491, 492, 493, 494, 495, 185, 496, 498, 15, 499, 182, 500] (by decide +kernel)
set_option maxRecDepth 20000 in
theorem mi_wsL_law_r25 : ∀ w ∈ wsL_law_r25, w ∈ lw_tbl := mem_ix _ [501, 502, 503, 504, 505, 506, 507, 508, 509, 511, 16, 512, 872, 873, 874, 875, 876, 878, 46, 879, 880, 881, 882, 513] (by decide +kernel)
set_option maxRecDepth 20000 in
theorem mi_wsL_law_r26 : ∀ w ∈ wsL_law_r26, w ∈ lw_tbl := mem_ix _ [514, 515, 516, 883, 884, 885, 886, 517, 518, 519, 520, 532, 521, 523, 17, 524, 525, 527, 18, 528, 529, 530, 531, 887] (by decide +kernel)
set_option maxRecDepth 20000 in
theorem mi_wsL_law_r27 : ∀ w ∈ wsL_law_r27, w ∈ lw_tbl := mem_ix _ [888, 889, 890, 891, 533, 534, 535, 536, 226, 537, 538, 539, 540, 892, 893, 894, 895, 630, 631, 541, 542, 543, 544, 896] (by decide +kernel)
set_option maxRecDepth 20000 in
theorem mi_wsL_law_r28 : ∀ w ∈ wsL_law_r28, w ∈ lw_tbl := mem_ix _ [897, 898, 899, 545, 546, 547, 548, 549, 550, 551, 552, 553, 554, 555, 556, 557, 558, 202, 204, 559, 560, 561, 562, 206] (by decide +kernel)
set_option maxRecDepth 20000 in
theorem mi_wsL_law_r29 : ∀ w ∈ wsL_law_r29, w ∈ lw_tbl := mem_ix _ [563, 565, 19, 566, 201, 567, 569, 20, 570, 571, 573, 21, 574, 900, 901, 902, 903, 904, 905, 906, 907, 908, 909, 910] (by decide +kernel)
set_option maxRecDepth 20000 in
theorem mi_wsL_law_r30 : ∀ w ∈ wsL_law_r30, w ∈ lw_tbl := mem_ix _ [911, 913, 47, 914, 575, 576, 577, 578, 579, 580, 581, 582, 583, 585, 22, 586, 915, 916, 917, 918, 587, 588, 589, 590] (by decide +kernel)
set_option maxRecDepth 20000 in
theorem mi_wsL_law_r31 : ∀ w ∈ wsL_law_r31, w ∈ lw_tbl := mem_ix _ [591, 592, 593, 594, 595, 919, 920, 921, 922, 596, 597, 598, 599, 203, 207, 923, 924, 925, 926, 600, 601, 602, 603, 927] (by decide +kernel)
set_option maxRecDepth 20000 in
theorem mi_wsL_law_r32 : ∀ w ∈ wsL_law_r32, w ∈ lw_tbl := mem_ix _ [928, 929, 930, 604, 605, 606, 607, 205, 609, 608, 931, 932, 933, 934] (by decide +kernel)
set_option maxRecDepth 20000 in
theorem mi_wsX50 : ∀ w ∈ wsX50, w ∈ lw_tbl := mem_ix _ [227, 229, 231, 233, 235, 237, 239, 241, 243] (by decide +kernel)
set_option maxRecDepth 20000 in
theorem mi_wsX60 : ∀ w ∈ wsX60, w ∈ lw_tbl := mem_ix _ [636, 638, 640, 642, 644, 646, 648, 650, 652, 654, 656, 658, 660, 662, 664, 666, 668, 670, 672, 674] (by decide +kernel)
set_option maxRecDepth 20000 in
theorem mi_wsX10 : ∀ w ∈ wsX10, w ∈ lw_tbl := mem_ix _ [104, 106, 108, 110, 112, 114, 116, 118, 120, 122, 124, 126] (by decide +kernel)
set_option maxRecDepth 20000 in
theorem mi_wsX00 : ∀ w ∈ wsX00, w ∈ lw_tbl := mem_ix _ [143, 145, 147, 149, 151, 153] (by decide +kernel)
set_option maxRecDepth 20000 in
theorem mi_wsX40 : ∀ w ∈ wsX40, w ∈ lw_tbl := mem_ix _ [166, 168, 170, 172] (by decide +kernel)
set_option maxRecDepth 20000 in
theorem mi_wsX20 : ∀ w ∈ wsX20, w ∈ lw_tbl := mem_ix _ [186, 188, 190] (by decide +kernel)
set_option maxRecDepth 20000 in
theorem mi_wsX30 : ∀ w ∈ wsX30, w ∈ lw_tbl := mem_ix _ [208, 210, 212, 214] (by decide +kernel)
theorem wsL_law_in : ∀ w ∈ wsL_law, w ∈ lw_tbl := by
  unfold wsL_law
  exact (List.forall_mem_append.mpr ⟨(List.forall_mem_append.mpr ⟨(List.forall_mem_append.mpr ⟨(List.forall_mem_append.mpr ⟨(List.forall_mem_append.mpr ⟨(List.forall_mem_append.mpr ⟨(List.forall_mem_append.mpr ⟨(List.forall_mem_append.mpr ⟨(List.forall_mem_append.mpr ⟨mi_wsL_law_r1, (List.forall_mem_append.mpr ⟨mi_wsL_law_r2, (List.forall_mem_append.mpr ⟨mi_wsL_law_r3, (List.forall_mem_append.mpr ⟨mi_wsL_law_r4, (List.forall_mem_append.mpr ⟨mi_wsL_law_r5, (List.forall_mem_append.mpr ⟨mi_wsL_law_r6, (List.forall_mem_append.mpr ⟨mi_wsL_law_r7, (List.forall_mem_append.mpr ⟨mi_wsL_law_r8, (List.forall_mem_append.mpr ⟨mi_wsL_law_r9, (List.forall_mem_append.mpr ⟨mi_wsL_law_r10, (List.forall_mem_append.mpr ⟨mi_wsL_law_r11, (List.forall_mem_append.mpr ⟨mi_wsL_law_r12, (List.forall_mem_append.mpr ⟨mi_wsL_law_r13, (List.forall_mem_append.mpr ⟨mi_wsL_law_r14, (List.forall_mem_append.mpr ⟨mi_wsL_law_r15, (List.forall_mem_append.mpr ⟨mi_wsL_law_r16, (List.forall_mem_append.mpr ⟨mi_wsL_law_r17, (List.forall_mem_append.mpr ⟨mi_wsL_law_r18, (List.forall_mem_append.mpr ⟨mi_wsL_law_r19, (List.forall_mem_append.mpr ⟨mi_wsL_law_r20, (List.forall_mem_append.mpr ⟨mi_wsL_law_r21, (List.forall_mem_append.mpr ⟨mi_wsL_law_r22, (List.forall_mem_append.mpr ⟨mi_wsL_law_r23, (List.forall_mem_append.mpr ⟨mi_wsL_law_r24, (List.forall_mem_append.mpr ⟨mi_wsL_law_r25, (List.forall_mem_append.mpr ⟨mi_wsL_law_r26, (List.forall_mem_append.mpr ⟨mi_wsL_law_r27, (List.forall_mem_append.mpr ⟨mi_wsL_law_r28, (List.forall_mem_append.mpr ⟨mi_wsL_law_r29, (List.forall_mem_append.mpr ⟨mi_wsL_law_r30, (List.forall_mem_append.mpr ⟨mi_wsL_law_r31, mi_wsL_law_r32⟩)⟩)⟩)⟩)⟩)⟩)⟩)⟩)⟩)⟩)⟩)⟩)⟩)⟩)⟩)⟩)⟩)⟩)⟩)⟩)⟩)⟩)⟩)⟩)⟩)⟩)⟩)⟩)⟩)⟩)⟩), mi_wsX50⟩), mi_wsX60⟩), mi_wsX10⟩), mi_wsX00⟩), mi_wsX40⟩), mi_wsX20⟩), mi_wsX30⟩), (fun w h => by simp [] at h)⟩)
theorem inlX0 : ∀ w ∈ wsX00, w ∈ wsL_law := fun _ h => List.mem_append_left _ (List.mem_append_left _ (List.mem_append_left _ (List.mem_append_left _ (List.mem_append_right _ h))))
theorem inX0 : ∀ w ∈ wsX00, w ∈ lw_tbl := fun w h => wsL_law_in w (inlX0 w h)
theorem inlX1 : ∀ w ∈ wsX10, w ∈ wsL_law := fun _ h => List.mem_append_left _ (List.mem_append_left _ (List.mem_append_left _ (List.mem_append_left _ (List.mem_append_left _ (List.mem_append_right _ h)))))
theorem inX1 : ∀ w ∈ wsX10, w ∈ lw_tbl := fun w h => wsL_law_in w (inlX1 w h)
theorem inlX2 : ∀ w ∈ wsX20, w ∈ wsL_law := fun _ h => List.mem_append_left _ (List.mem_append_left _ (List.mem_append_right _ h))
theorem inX2 : ∀ w ∈ wsX20, w ∈ lw_tbl := fun w h => wsL_law_in w (inlX2 w h)
theorem inlX3 : ∀ w ∈ wsX30, w ∈ wsL_law := fun _ h => List.mem_append_left _ (List.mem_append_right _ h)
theorem inX3 : ∀ w ∈ wsX30, w ∈ lw_tbl := fun w h => wsL_law_in w (inlX3 w h)
theorem inlX4 : ∀ w ∈ wsX40, w ∈ wsL_law := fun _ h => List.mem_append_left _ (List.mem_append_left _ (List.mem_append_left _ (List.mem_append_right _ h)))
theorem inX4 : ∀ w ∈ wsX40, w ∈ lw_tbl := fun w h => wsL_law_in w (inlX4 w h)
theorem inlX5 : ∀ w ∈ wsX50, w ∈ wsL_law := fun _ h => List.mem_append_left _ (List.mem_append_left _ (List.mem_append_left _ (List.mem_append_left _ (List.mem_append_left _ (List.mem_append_left _ (List.mem_append_left _ (List.mem_append_right _ h)))))))
theorem inX5 : ∀ w ∈ wsX50, w ∈ lw_tbl := fun w h => wsL_law_in w (inlX5 w h)
theorem inlX6 : ∀ w ∈ wsX60, w ∈ wsL_law := fun _ h => List.mem_append_left _ (List.mem_append_left _ (List.mem_append_left _ (List.mem_append_left _ (List.mem_append_left _ (List.mem_append_left _ (List.mem_append_right _ h))))))
theorem inX6 : ∀ w ∈ wsX60, w ∈ lw_tbl := fun w h => wsL_law_in w (inlX6 w h)
theorem inJ6 : ∀ w ∈ wsJ60, w ∈ lw_tbl := by decide +kernel
theorem inJ9 : ∀ w ∈ wsJ90, w ∈ lw_tbl := by decide +kernel
theorem inJ10 : ∀ w ∈ wsJ100, w ∈ lw_tbl := by decide +kernel
