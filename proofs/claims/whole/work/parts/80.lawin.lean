theorem mem_places {big : List Cond} (ws : List Cond) (ps : List Nat) (hp : ws = ps.filterMap (fun i => big[i]?)) : ∀ w ∈ ws, w ∈ big := by
  intro w hw
  rw [hp] at hw
  obtain ⟨i, -, hi⟩ := List.mem_filterMap.mp hw
  exact List.mem_of_getElem? hi
set_option maxRecDepth 20000 in
theorem wl_r1 : ∀ w ∈ wsL_law0_r1, w ∈ lw_tbl := mem_places _ [53, 54, 37, 757, 758, 43, 1054, 1055, 55, 56, 57, 58, 59, 60, 61, 62, 38, 213, 87, 88, 39, 214, 123, 124] (by decide +kernel)
set_option maxRecDepth 20000 in
theorem wl_r2 : ∀ w ∈ wsL_law0_r2, w ∈ lw_tbl := mem_places _ [40, 215, 142, 143, 41, 216, 63, 64, 65, 66, 85, 70, 86, 72, 75, 67, 89, 90, 91, 92, 95, 97, 100, 103] (by decide +kernel)
set_option maxRecDepth 20000 in
theorem wl_r3 : ∀ w ∈ wsL_law0_r3, w ∈ lw_tbl := mem_places _ [104, 105, 102, 126, 127, 128, 129, 131, 133, 144, 145, 146, 147, 169, 171, 173, 175, 177, 179, 181, 148, 149, 42, 184] (by decide +kernel)
set_option maxRecDepth 20000 in
theorem wl_r4 : ∀ w ∈ wsL_law0_r4, w ∈ lw_tbl := mem_places _ [185, 182, 183, 151, 152, 153, 156, 157, 759, 760, 761, 762, 764, 765, 766, 768, 769, 770, 771, 772, 773, 774, 775, 778] (by decide +kernel)
set_option maxRecDepth 20000 in
theorem wl_r5 : ∀ w ∈ wsL_law0_r5, w ∈ lw_tbl := mem_places _ [779, 780, 781, 782, 783, 784, 273, 274, 36, 275, 276, 277, 278, 279, 280, 281, 355, 48, 68, 282, 284, 0, 285, 286] (by decide +kernel)
set_option maxRecDepth 20000 in
theorem wl_r6 : ∀ w ∈ wsL_law0_r6, w ∈ lw_tbl := mem_places _ [47, 371, 372, 373, 374, 834, 835, 836, 837, 763, 838, 840, 16, 841, 842, 843, 844, 845, 847, 17, 848, 830, 831, 832] (by decide +kernel)
set_option maxRecDepth 20000 in
theorem wl_r7 : ∀ w ∈ wsL_law0_r7, w ∈ lw_tbl := mem_places _ [833, 375, 376, 377, 378, 379, 380, 381, 73, 849, 850, 851, 852, 226, 227, 228, 229, 853, 854, 855, 856, 382, 383, 384] (by decide +kernel)
set_option maxRecDepth 20000 in
theorem wl_r8 : ∀ w ∈ wsL_law0_r8, w ∈ lw_tbl := mem_places _ [385, 386, 387, 388, 71, 857, 858, 859, 860, 389, 390, 391, 392, 393, 394, 395, 396, 397, 398, 399, 861, 862, 863, 864] (by decide +kernel)
set_option maxRecDepth 20000 in
theorem wl_r9 : ∀ w ∈ wsL_law0_r9, w ∈ lw_tbl := mem_places _ [865, 867, 18, 868, 400, 401, 402, 403, 404, 405, 406, 869, 870, 871, 872, 407, 408, 409, 410, 411, 412, 413, 414, 420] (by decide +kernel)
set_option maxRecDepth 20000 in
theorem wl_r10 : ∀ w ∈ wsL_law0_r10, w ∈ lw_tbl := mem_places _ [49, 94, 415, 417, 2, 418, 436, 437, 438, 439, 442, 443, 444, 445, 93, 873, 874, 875, 876, 767, 877, 878, 879, 880] (by decide +kernel)
set_option maxRecDepth 20000 in
theorem wl_r11 : ∀ w ∈ wsL_law0_r11, w ∈ lw_tbl := mem_places _ [882, 19, 883, 446, 447, 448, 449, 450, 451, 452, 99, 453, 455, 3, 456, 460, 461, 462, 463, 165, 167, 464, 465, 466] (by decide +kernel)
set_option maxRecDepth 20000 in
theorem wl_r12 : ∀ w ∈ wsL_law0_r12, w ∈ lw_tbl := mem_places _ [467, 271, 272, 884, 885, 886, 887, 776, 888, 890, 20, 891, 230, 231, 232, 233, 892, 893, 894, 895, 469, 470, 471, 472] (by decide +kernel)
set_option maxRecDepth 20000 in
theorem wl_r13 : ∀ w ∈ wsL_law0_r13, w ∈ lw_tbl := mem_places _ [473, 474, 475, 476, 477, 478, 479, 480, 481, 896, 897, 898, 899, 900, 902, 21, 903, 482, 483, 484, 485, 486, 487, 488] (by decide +kernel)
set_option maxRecDepth 20000 in
theorem wl_r14 : ∀ w ∈ wsL_law0_r14, w ∈ lw_tbl := mem_places _ [489, 490, 491, 492, 69, 74, 493, 494, 495, 50, 496, 497, 498, 499, 904, 905, 906, 907, 908, 910, 22, 911, 912, 913] (by decide +kernel)
set_option maxRecDepth 20000 in
theorem wl_r15 : ∀ w ∈ wsL_law0_r15, w ∈ lw_tbl := mem_places _ [914, 500, 501, 502, 503, 504, 505, 506, 507, 515, 51, 508, 509, 510, 511, 512, 513, 514, 915, 916, 917, 918, 919, 920] (by decide +kernel)
set_option maxRecDepth 20000 in
theorem wl_r16 : ∀ w ∈ wsL_law0_r16, w ∈ lw_tbl := mem_places _ [921, 531, 532, 533, 534, 535, 536, 537, 538, 539, 540, 541, 542, 543, 545, 4, 546, 547, 548, 549, 550, 551, 922, 923] (by decide +kernel)
set_option maxRecDepth 20000 in
theorem wl_r17 : ∀ w ∈ wsL_law0_r17, w ∈ lw_tbl := mem_places _ [924, 925, 926, 928, 23, 929, 552, 553, 554, 555, 556, 557, 558, 562, 563, 564, 565, 930, 931, 932, 933, 566, 567, 568] (by decide +kernel)
set_option maxRecDepth 20000 in
theorem wl_r18 : ∀ w ∈ wsL_law0_r18, w ∈ lw_tbl := mem_places _ [569, 570, 571, 572, 166, 573, 574, 575, 576, 155, 96, 577, 578, 580, 5, 581, 266, 267, 268, 269, 98, 582, 584, 6] (by decide +kernel)
set_option maxRecDepth 20000 in
theorem wl_r19 : ∀ w ∈ wsL_law0_r19, w ∈ lw_tbl := mem_places _ [585, 587, 101, 588, 589, 52, 590, 586, 591, 592, 593, 595, 7, 596, 132, 134, 597, 599, 8, 600, 601, 602, 603, 604] (by decide +kernel)
set_option maxRecDepth 20000 in
theorem wl_r20 : ∀ w ∈ wsL_law0_r20, w ∈ lw_tbl := mem_places _ [605, 606, 607, 154, 608, 610, 9, 611, 612, 613, 614, 615, 616, 618, 10, 619, 130, 934, 935, 936, 937, 777, 938, 940] (by decide +kernel)
set_option maxRecDepth 20000 in
theorem wl_r21 : ∀ w ∈ wsL_law0_r21, w ∈ lw_tbl := mem_places _ [24, 941, 946, 947, 942, 944, 25, 945, 948, 950, 26, 951, 952, 954, 27, 955, 956, 958, 28, 959, 960, 962, 29, 963] (by decide +kernel)
set_option maxRecDepth 20000 in
theorem wl_r22 : ∀ w ∈ wsL_law0_r22, w ∈ lw_tbl := mem_places _ [234, 235, 236, 237, 238, 239, 240, 241, 964, 965, 966, 967, 620, 621, 622, 623, 624, 625, 626, 627, 629, 11, 630, 968] (by decide +kernel)
set_option maxRecDepth 20000 in
theorem wl_r23 : ∀ w ∈ wsL_law0_r23, w ∈ lw_tbl := mem_places _ [969, 970, 971, 972, 974, 30, 975, 632, 633, 634, 635, 636, 637, 638, 168, 976, 977, 978, 979, 639, 640, 641, 642, 643] (by decide +kernel)
set_option maxRecDepth 20000 in
theorem wl_r24 : ∀ w ∈ wsL_law0_r24, w ∈ lw_tbl := mem_places _ [644, 645, 170, 646, 648, 12, 649, 980, 981, 982, 983, 984, 986, 31, 987, 651, 652, 653, 654, 655, 656, 657, 172, 988] (by decide +kernel)
set_option maxRecDepth 20000 in
theorem wl_r25 : ∀ w ∈ wsL_law0_r25, w ∈ lw_tbl := mem_places _ [989, 990, 991, 658, 659, 660, 661, 662, 663, 664, 174, 992, 993, 994, 995, 665, 666, 667, 668, 669, 670, 671, 176, 996] (by decide +kernel)
set_option maxRecDepth 20000 in
theorem wl_r26 : ∀ w ∈ wsL_law0_r26, w ∈ lw_tbl := mem_places _ [997, 998, 999, 672, 673, 674, 675, 676, 677, 678, 679, 1000, 1001, 1002, 1003, 680, 681, 682, 683, 684, 685, 686, 178, 687] (by decide +kernel)
set_option maxRecDepth 20000 in
theorem wl_r27 : ∀ w ∈ wsL_law0_r27, w ∈ lw_tbl := mem_places _ [689, 13, 690, 692, 1004, 1005, 1006, 1007, 1008, 1010, 32, 1011, 693, 694, 695, 696, 697, 698, 699, 180, 1012, 1013, 1014, 1015] (by decide +kernel)
set_option maxRecDepth 20000 in
theorem wl_r28 : ∀ w ∈ wsL_law0_r28, w ∈ lw_tbl := mem_places _ [700, 701, 702, 703, 704, 705, 706, 708, 709, 710, 711, 1016, 1017, 1018, 1019, 1020, 1022, 33, 1023, 712, 713, 714, 715, 716] (by decide +kernel)
set_option maxRecDepth 20000 in
theorem wl_r29 : ∀ w ∈ wsL_law0_r29, w ∈ lw_tbl := mem_places _ [717, 718, 1024, 1025, 1026, 1027, 719, 720, 721, 722, 723, 724, 725, 726, 727, 728, 729, 1028, 1029, 1030, 1031, 1032, 1034, 34] (by decide +kernel)
set_option maxRecDepth 20000 in
theorem wl_r30 : ∀ w ∈ wsL_law0_r30, w ∈ lw_tbl := mem_places _ [1035, 730, 731, 732, 733, 734, 735, 736, 1036, 1037, 1038, 1039, 737, 738, 739, 740, 741, 742, 743, 744, 745, 746, 747, 748] (by decide +kernel)
set_option maxRecDepth 20000 in
theorem wl_r31 : ∀ w ∈ wsL_law0_r31, w ∈ lw_tbl := mem_places _ [750, 14, 751, 752, 753, 755, 15, 756, 1040, 1041, 1042, 1043, 1044, 1046, 35, 1047, 242, 243, 244, 245, 246, 247, 248, 249] (by decide +kernel)
set_option maxRecDepth 20000 in
theorem wl_r32 : ∀ w ∈ wsL_law0_r32, w ∈ lw_tbl := mem_places _ [250, 252, 253, 254, 255, 256, 257, 258, 259, 261, 262, 263, 264, 1048, 1049, 1050, 1051, 1052, 1053] (by decide +kernel)
set_option maxRecDepth 20000 in
theorem wl_X5 : ∀ w ∈ wsX50, w ∈ lw_tbl := mem_places _ [217, 219, 221, 223] (by decide +kernel)
set_option maxRecDepth 20000 in
theorem wl_X6 : ∀ w ∈ wsX60, w ∈ lw_tbl := mem_places _ [785, 787, 789, 791, 793, 795, 797, 799, 801, 803, 805, 807, 809, 811, 813, 815, 817, 819, 821, 823, 825, 827] (by decide +kernel)
set_option maxRecDepth 20000 in
theorem wl_X0 : ∀ w ∈ wsX00, w ∈ lw_tbl := mem_places _ [76, 78, 80, 82] (by decide +kernel)
set_option maxRecDepth 20000 in
theorem wl_X2 : ∀ w ∈ wsX20, w ∈ lw_tbl := mem_places _ [106, 108, 110, 112, 114, 116, 118, 120] (by decide +kernel)
set_option maxRecDepth 20000 in
theorem wl_X1 : ∀ w ∈ wsX10, w ∈ lw_tbl := mem_places _ [135, 137, 139] (by decide +kernel)
set_option maxRecDepth 20000 in
theorem wl_X3 : ∀ w ∈ wsX30, w ∈ lw_tbl := mem_places _ [186, 188, 190, 192, 194, 196, 198, 200, 202, 204, 206, 208, 210] (by decide +kernel)
set_option maxRecDepth 20000 in
theorem wl_X4 : ∀ w ∈ wsX40, w ∈ lw_tbl := mem_places _ [158, 160, 162] (by decide +kernel)
set_option maxRecDepth 20000 in
theorem wl_x0 : ∀ w ∈ vx_atS RX5 53 "java/lang/IllegalStateException" ["java/lang/RuntimeException", "java/lang/Exception"], w ∈ lw_tbl := mem_places _ [44, 308, 317, 322, 325, 327, 309, 310, 59, 60, 311, 316, 323, 343, 298, 344, 300, 345, 302, 312, 314, 304, 339, 340, 342, 304, 366, 367, 368, 333, 290, 333, 334, 335, 336, 292, 336, 337, 338, 339, 294, 365, 356, 357, 358, 320, 359, 360, 361, 362, 307, 306, 363] (by decide +kernel)
set_option maxRecDepth 20000 in
theorem wl_x1 : ∀ w ∈ vx_atS RX5 189 "java/lang/IndexOutOfBoundsException" ["java/lang/RuntimeException", "java/lang/Exception"], w ∈ lw_tbl := mem_places _ [44, 308, 317, 322, 325, 327, 309, 310, 59, 60, 311, 316, 323, 343, 298, 344, 300, 345, 302, 312, 314, 304, 339, 340, 342, 304, 330, 331, 332, 333, 290, 333, 334, 335, 336, 292, 336, 337, 338, 339, 294, 329, 287, 288, 295, 296, 297, 299, 301, 303, 307, 306, 305] (by decide +kernel)
set_option maxRecDepth 20000 in
theorem wl_x2 : ∀ w ∈ vx_atS RX5 79 "java/lang/IllegalArgumentException" ["java/lang/RuntimeException", "java/lang/Exception"], w ∈ lw_tbl := mem_places _ [44, 308, 317, 322, 325, 327, 309, 310, 59, 60, 311, 316, 323, 343, 298, 344, 300, 345, 302, 312, 314, 304, 339, 340, 342, 304, 431, 432, 433, 333, 290, 333, 334, 335, 336, 292, 336, 337, 338, 339, 294, 430, 421, 422, 423, 319, 424, 425, 426, 427, 307, 306, 428] (by decide +kernel)
set_option maxRecDepth 20000 in
theorem wl_x3 : ∀ w ∈ vn_at, w ∈ lw_tbl := mem_places _ [44, 308, 317, 322, 325, 327, 309, 310, 59, 60, 311, 316, 323, 343, 298, 344, 300, 345, 302, 312, 314, 304, 339, 340, 342, 304, 526, 527, 528, 333, 290, 333, 334, 335, 336, 292, 336, 337, 338, 339, 294, 525, 516, 517, 518, 321, 519, 520, 521, 522, 307, 306, 523] (by decide +kernel)
theorem wsL_law_in0 : ∀ w ∈ wsL_law0, w ∈ lw_tbl := fun w h => (List.mem_append.mp h).elim (fun h => (List.mem_append.mp h).elim (fun h => (List.mem_append.mp h).elim (fun h => (List.mem_append.mp h).elim (fun h => (List.mem_append.mp h).elim (fun h => (List.mem_append.mp h).elim (fun h => (List.mem_append.mp h).elim (fun h => (List.mem_append.mp h).elim (fun h => (List.mem_append.mp h).elim (fun h => wl_r1 w h) (fun h => (List.mem_append.mp h).elim (fun h => wl_r2 w h) (fun h => (List.mem_append.mp h).elim (fun h => wl_r3 w h) (fun h => (List.mem_append.mp h).elim (fun h => wl_r4 w h) (fun h => (List.mem_append.mp h).elim (fun h => wl_r5 w h) (fun h => (List.mem_append.mp h).elim (fun h => wl_r6 w h) (fun h => (List.mem_append.mp h).elim (fun h => wl_r7 w h) (fun h => (List.mem_append.mp h).elim (fun h => wl_r8 w h) (fun h => (List.mem_append.mp h).elim (fun h => wl_r9 w h) (fun h => (List.mem_append.mp h).elim (fun h => wl_r10 w h) (fun h => (List.mem_append.mp h).elim (fun h => wl_r11 w h) (fun h => (List.mem_append.mp h).elim (fun h => wl_r12 w h) (fun h => (List.mem_append.mp h).elim (fun h => wl_r13 w h) (fun h => (List.mem_append.mp h).elim (fun h => wl_r14 w h) (fun h => (List.mem_append.mp h).elim (fun h => wl_r15 w h) (fun h => (List.mem_append.mp h).elim (fun h => wl_r16 w h) (fun h => (List.mem_append.mp h).elim (fun h => wl_r17 w h) (fun h => (List.mem_append.mp h).elim (fun h => wl_r18 w h) (fun h => (List.mem_append.mp h).elim (fun h => wl_r19 w h) (fun h => (List.mem_append.mp h).elim (fun h => wl_r20 w h) (fun h => (List.mem_append.mp h).elim (fun h => wl_r21 w h) (fun h => (List.mem_append.mp h).elim (fun h => wl_r22 w h) (fun h => (List.mem_append.mp h).elim (fun h => wl_r23 w h) (fun h => (List.mem_append.mp h).elim (fun h => wl_r24 w h) (fun h => (List.mem_append.mp h).elim (fun h => wl_r25 w h) (fun h => (List.mem_append.mp h).elim (fun h => wl_r26 w h) (fun h => (List.mem_append.mp h).elim (fun h => wl_r27 w h) (fun h => (List.mem_append.mp h).elim (fun h => wl_r28 w h) (fun h => (List.mem_append.mp h).elim (fun h => wl_r29 w h) (fun h => (List.mem_append.mp h).elim (fun h => wl_r30 w h) (fun h => (List.mem_append.mp h).elim (fun h => wl_r31 w h) (fun h => wl_r32 w h)))))))))))))))))))))))))))))))) (fun h => wl_X5 w h)) (fun h => wl_X6 w h)) (fun h => wl_X0 w h)) (fun h => wl_X2 w h)) (fun h => wl_X1 w h)) (fun h => wl_X3 w h)) (fun h => wl_X4 w h)) (fun h => absurd h List.not_mem_nil)
theorem wsL_law_in : ∀ w ∈ wsL_law, w ∈ lw_tbl := fun w h => (List.mem_append.mp h).elim (fun h => (List.mem_append.mp h).elim (fun h => (List.mem_append.mp h).elim (fun h => (List.mem_append.mp h).elim (fun h => wsL_law_in0 w h) (fun h => wl_x0 w (List.mem_filter.mp h).1)) (fun h => wl_x1 w (List.mem_filter.mp h).1)) (fun h => wl_x2 w (List.mem_filter.mp h).1)) (fun h => wl_x3 w (List.mem_filter.mp h).1)
