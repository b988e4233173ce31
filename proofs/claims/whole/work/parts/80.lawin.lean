theorem mem_places {big : List Cond} (ws : List Cond) (ps : List Nat) (hp : ws = ps.filterMap (fun i => big[i]?)) : ∀ w ∈ ws, w ∈ big := by
  intro w hw
  rw [hp] at hw
  obtain ⟨i, -, hi⟩ := List.mem_filterMap.mp hw
  exact List.mem_of_getElem? hi
set_option maxRecDepth 20000 in
theorem wl_r1 : ∀ w ∈ wsL_law0_r1, w ∈ lw_tbl := mem_places _ [53, 54, 37, 757, 758, 43, 1054, 1055, 55, 56, 57, 58, 59, 60, 61, 62, 38, 214, 88, 89, 39, 215, 124, 125] (by decide +kernel)
set_option maxRecDepth 20000 in
theorem wl_r2 : ∀ w ∈ wsL_law0_r2, w ∈ lw_tbl := mem_places _ [40, 216, 143, 144, 41, 217, 63, 64, 65, 66, 86, 70, 87, 73, 76, 67, 90, 91, 92, 93, 96, 98, 101, 104] (by decide +kernel)
set_option maxRecDepth 20000 in
theorem wl_r3 : ∀ w ∈ wsL_law0_r3, w ∈ lw_tbl := mem_places _ [105, 106, 103, 127, 128, 129, 130, 132, 134, 145, 146, 147, 148, 170, 172, 174, 176, 178, 180, 182, 149, 150, 42, 185] (by decide +kernel)
set_option maxRecDepth 20000 in
theorem wl_r4 : ∀ w ∈ wsL_law0_r4, w ∈ lw_tbl := mem_places _ [186, 183, 184, 152, 153, 154, 157, 158, 759, 760, 761, 762, 764, 765, 766, 768, 769, 770, 771, 772, 773, 774, 775, 778] (by decide +kernel)
set_option maxRecDepth 20000 in
theorem wl_r5 : ∀ w ∈ wsL_law0_r5, w ∈ lw_tbl := mem_places _ [779, 780, 781, 782, 783, 784, 274, 275, 36, 276, 277, 278, 279, 280, 281, 282, 356, 48, 68, 283, 285, 0, 286, 287] (by decide +kernel)
set_option maxRecDepth 20000 in
theorem wl_r6 : ∀ w ∈ wsL_law0_r6, w ∈ lw_tbl := mem_places _ [47, 372, 373, 374, 375, 834, 835, 836, 837, 763, 838, 840, 16, 841, 842, 843, 844, 845, 847, 17, 848, 830, 831, 832] (by decide +kernel)
set_option maxRecDepth 20000 in
theorem wl_r7 : ∀ w ∈ wsL_law0_r7, w ∈ lw_tbl := mem_places _ [833, 376, 377, 378, 379, 380, 381, 382, 74, 849, 850, 851, 852, 227, 228, 229, 230, 853, 854, 855, 856, 383, 384, 385] (by decide +kernel)
set_option maxRecDepth 20000 in
theorem wl_r8 : ∀ w ∈ wsL_law0_r8, w ∈ lw_tbl := mem_places _ [386, 387, 388, 389, 71, 857, 858, 859, 860, 390, 391, 392, 393, 394, 395, 396, 397, 398, 399, 400, 861, 862, 863, 864] (by decide +kernel)
set_option maxRecDepth 20000 in
theorem wl_r9 : ∀ w ∈ wsL_law0_r9, w ∈ lw_tbl := mem_places _ [865, 867, 18, 868, 401, 402, 403, 404, 405, 406, 407, 869, 870, 871, 872, 408, 409, 410, 411, 412, 413, 414, 415, 421] (by decide +kernel)
set_option maxRecDepth 20000 in
theorem wl_r10 : ∀ w ∈ wsL_law0_r10, w ∈ lw_tbl := mem_places _ [49, 95, 416, 418, 2, 419, 437, 438, 439, 440, 443, 444, 445, 446, 94, 873, 874, 875, 876, 767, 877, 878, 879, 880] (by decide +kernel)
set_option maxRecDepth 20000 in
theorem wl_r11 : ∀ w ∈ wsL_law0_r11, w ∈ lw_tbl := mem_places _ [882, 19, 883, 447, 448, 449, 450, 451, 452, 453, 100, 454, 456, 3, 457, 461, 462, 463, 464, 166, 168, 465, 466, 467] (by decide +kernel)
set_option maxRecDepth 20000 in
theorem wl_r12 : ∀ w ∈ wsL_law0_r12, w ∈ lw_tbl := mem_places _ [468, 272, 273, 884, 885, 886, 887, 776, 888, 890, 20, 891, 231, 232, 233, 234, 892, 893, 894, 895, 470, 471, 472, 473] (by decide +kernel)
set_option maxRecDepth 20000 in
theorem wl_r13 : ∀ w ∈ wsL_law0_r13, w ∈ lw_tbl := mem_places _ [474, 475, 476, 477, 478, 479, 480, 72, 896, 897, 898, 899, 900, 902, 21, 903, 481, 482, 483, 484, 485, 486, 487, 488] (by decide +kernel)
set_option maxRecDepth 20000 in
theorem wl_r14 : ∀ w ∈ wsL_law0_r14, w ∈ lw_tbl := mem_places _ [489, 490, 491, 69, 75, 492, 493, 494, 495, 50, 496, 497, 498, 499, 904, 905, 906, 907, 908, 910, 22, 911, 912, 913] (by decide +kernel)
set_option maxRecDepth 20000 in
theorem wl_r15 : ∀ w ∈ wsL_law0_r15, w ∈ lw_tbl := mem_places _ [914, 500, 501, 502, 503, 504, 505, 506, 507, 515, 51, 508, 509, 510, 511, 512, 513, 514, 915, 916, 917, 918, 919, 920] (by decide +kernel)
set_option maxRecDepth 20000 in
theorem wl_r16 : ∀ w ∈ wsL_law0_r16, w ∈ lw_tbl := mem_places _ [921, 531, 532, 533, 534, 535, 536, 537, 538, 539, 540, 541, 542, 543, 545, 4, 546, 547, 548, 549, 550, 551, 922, 923] (by decide +kernel)
set_option maxRecDepth 20000 in
theorem wl_r17 : ∀ w ∈ wsL_law0_r17, w ∈ lw_tbl := mem_places _ [924, 925, 926, 928, 23, 929, 552, 553, 554, 555, 556, 557, 558, 562, 563, 564, 565, 930, 931, 932, 933, 566, 567, 568] (by decide +kernel)
set_option maxRecDepth 20000 in
theorem wl_r18 : ∀ w ∈ wsL_law0_r18, w ∈ lw_tbl := mem_places _ [569, 570, 571, 572, 167, 573, 574, 575, 576, 156, 97, 577, 578, 580, 5, 581, 267, 268, 269, 270, 99, 582, 584, 6] (by decide +kernel)
set_option maxRecDepth 20000 in
theorem wl_r19 : ∀ w ∈ wsL_law0_r19, w ∈ lw_tbl := mem_places _ [585, 587, 102, 588, 589, 52, 590, 586, 591, 592, 593, 595, 7, 596, 133, 135, 597, 599, 8, 600, 601, 602, 603, 604] (by decide +kernel)
set_option maxRecDepth 20000 in
theorem wl_r20 : ∀ w ∈ wsL_law0_r20, w ∈ lw_tbl := mem_places _ [605, 606, 607, 155, 608, 610, 9, 611, 612, 613, 614, 615, 616, 618, 10, 619, 131, 934, 935, 936, 937, 777, 938, 940] (by decide +kernel)
set_option maxRecDepth 20000 in
theorem wl_r21 : ∀ w ∈ wsL_law0_r21, w ∈ lw_tbl := mem_places _ [24, 941, 946, 947, 942, 944, 25, 945, 948, 950, 26, 951, 952, 954, 27, 955, 956, 958, 28, 959, 960, 962, 29, 963] (by decide +kernel)
set_option maxRecDepth 20000 in
theorem wl_r22 : ∀ w ∈ wsL_law0_r22, w ∈ lw_tbl := mem_places _ [235, 236, 237, 238, 239, 240, 241, 242, 964, 965, 966, 967, 620, 621, 622, 623, 624, 625, 626, 627, 629, 11, 630, 968] (by decide +kernel)
set_option maxRecDepth 20000 in
theorem wl_r23 : ∀ w ∈ wsL_law0_r23, w ∈ lw_tbl := mem_places _ [969, 970, 971, 972, 974, 30, 975, 632, 633, 634, 635, 636, 637, 638, 169, 976, 977, 978, 979, 639, 640, 641, 642, 643] (by decide +kernel)
set_option maxRecDepth 20000 in
theorem wl_r24 : ∀ w ∈ wsL_law0_r24, w ∈ lw_tbl := mem_places _ [644, 645, 171, 646, 648, 12, 649, 980, 981, 982, 983, 984, 986, 31, 987, 651, 652, 653, 654, 655, 656, 657, 173, 988] (by decide +kernel)
set_option maxRecDepth 20000 in
theorem wl_r25 : ∀ w ∈ wsL_law0_r25, w ∈ lw_tbl := mem_places _ [989, 990, 991, 658, 659, 660, 661, 662, 663, 664, 175, 992, 993, 994, 995, 665, 666, 667, 668, 669, 670, 671, 177, 996] (by decide +kernel)
set_option maxRecDepth 20000 in
theorem wl_r26 : ∀ w ∈ wsL_law0_r26, w ∈ lw_tbl := mem_places _ [997, 998, 999, 672, 673, 674, 675, 676, 677, 678, 679, 1000, 1001, 1002, 1003, 680, 681, 682, 683, 684, 685, 686, 179, 687] (by decide +kernel)
set_option maxRecDepth 20000 in
theorem wl_r27 : ∀ w ∈ wsL_law0_r27, w ∈ lw_tbl := mem_places _ [689, 13, 690, 692, 1004, 1005, 1006, 1007, 1008, 1010, 32, 1011, 693, 694, 695, 696, 697, 698, 699, 181, 1012, 1013, 1014, 1015] (by decide +kernel)
set_option maxRecDepth 20000 in
theorem wl_r28 : ∀ w ∈ wsL_law0_r28, w ∈ lw_tbl := mem_places _ [700, 701, 702, 703, 704, 705, 706, 708, 709, 710, 711, 1016, 1017, 1018, 1019, 1020, 1022, 33, 1023, 712, 713, 714, 715, 716] (by decide +kernel)
set_option maxRecDepth 20000 in
theorem wl_r29 : ∀ w ∈ wsL_law0_r29, w ∈ lw_tbl := mem_places _ [717, 718, 1024, 1025, 1026, 1027, 719, 720, 721, 722, 723, 724, 725, 726, 727, 728, 729, 1028, 1029, 1030, 1031, 1032, 1034, 34] (by decide +kernel)
set_option maxRecDepth 20000 in
theorem wl_r30 : ∀ w ∈ wsL_law0_r30, w ∈ lw_tbl := mem_places _ [1035, 730, 731, 732, 733, 734, 735, 736, 1036, 1037, 1038, 1039, 737, 738, 739, 740, 741, 742, 743, 744, 745, 746, 747, 748] (by decide +kernel)
set_option maxRecDepth 20000 in
theorem wl_r31 : ∀ w ∈ wsL_law0_r31, w ∈ lw_tbl := mem_places _ [750, 14, 751, 752, 753, 755, 15, 756, 1040, 1041, 1042, 1043, 1044, 1046, 35, 1047, 243, 244, 245, 246, 247, 248, 249, 250] (by decide +kernel)
set_option maxRecDepth 20000 in
theorem wl_r32 : ∀ w ∈ wsL_law0_r32, w ∈ lw_tbl := mem_places _ [251, 253, 254, 255, 256, 257, 258, 259, 260, 262, 263, 264, 265, 1048, 1049, 1050, 1051, 1052, 1053] (by decide +kernel)
set_option maxRecDepth 20000 in
theorem wl_X5 : ∀ w ∈ wsX50, w ∈ lw_tbl := mem_places _ [218, 220, 222, 224] (by decide +kernel)
set_option maxRecDepth 20000 in
theorem wl_X6 : ∀ w ∈ wsX60, w ∈ lw_tbl := mem_places _ [785, 787, 789, 791, 793, 795, 797, 799, 801, 803, 805, 807, 809, 811, 813, 815, 817, 819, 821, 823, 825, 827] (by decide +kernel)
set_option maxRecDepth 20000 in
theorem wl_X0 : ∀ w ∈ wsX00, w ∈ lw_tbl := mem_places _ [77, 79, 81, 83] (by decide +kernel)
set_option maxRecDepth 20000 in
theorem wl_X2 : ∀ w ∈ wsX20, w ∈ lw_tbl := mem_places _ [107, 109, 111, 113, 115, 117, 119, 121] (by decide +kernel)
set_option maxRecDepth 20000 in
theorem wl_X1 : ∀ w ∈ wsX10, w ∈ lw_tbl := mem_places _ [136, 138, 140] (by decide +kernel)
set_option maxRecDepth 20000 in
theorem wl_X3 : ∀ w ∈ wsX30, w ∈ lw_tbl := mem_places _ [187, 189, 191, 193, 195, 197, 199, 201, 203, 205, 207, 209, 211] (by decide +kernel)
set_option maxRecDepth 20000 in
theorem wl_X4 : ∀ w ∈ wsX40, w ∈ lw_tbl := mem_places _ [159, 161, 163] (by decide +kernel)
set_option maxRecDepth 20000 in
theorem wl_x0 : ∀ w ∈ vx_atS RX5 53 "java/lang/IllegalStateException" ["java/lang/RuntimeException", "java/lang/Exception"], w ∈ lw_tbl := mem_places _ [44, 309, 318, 323, 326, 328, 310, 311, 59, 60, 312, 317, 324, 344, 299, 345, 301, 346, 303, 313, 315, 305, 340, 341, 343, 305, 367, 368, 369, 334, 291, 334, 335, 336, 337, 293, 337, 338, 339, 340, 295, 366, 357, 358, 359, 321, 360, 361, 362, 363, 308, 307, 364] (by decide +kernel)
set_option maxRecDepth 20000 in
theorem wl_x1 : ∀ w ∈ vx_atS RX5 189 "java/lang/IndexOutOfBoundsException" ["java/lang/RuntimeException", "java/lang/Exception"], w ∈ lw_tbl := mem_places _ [44, 309, 318, 323, 326, 328, 310, 311, 59, 60, 312, 317, 324, 344, 299, 345, 301, 346, 303, 313, 315, 305, 340, 341, 343, 305, 331, 332, 333, 334, 291, 334, 335, 336, 337, 293, 337, 338, 339, 340, 295, 330, 288, 289, 296, 297, 298, 300, 302, 304, 308, 307, 306] (by decide +kernel)
set_option maxRecDepth 20000 in
theorem wl_x2 : ∀ w ∈ vx_atS RX5 79 "java/lang/IllegalArgumentException" ["java/lang/RuntimeException", "java/lang/Exception"], w ∈ lw_tbl := mem_places _ [44, 309, 318, 323, 326, 328, 310, 311, 59, 60, 312, 317, 324, 344, 299, 345, 301, 346, 303, 313, 315, 305, 340, 341, 343, 305, 432, 433, 434, 334, 291, 334, 335, 336, 337, 293, 337, 338, 339, 340, 295, 431, 422, 423, 424, 320, 425, 426, 427, 428, 308, 307, 429] (by decide +kernel)
set_option maxRecDepth 20000 in
theorem wl_x3 : ∀ w ∈ vn_at, w ∈ lw_tbl := mem_places _ [44, 309, 318, 323, 326, 328, 310, 311, 59, 60, 312, 317, 324, 344, 299, 345, 301, 346, 303, 313, 315, 305, 340, 341, 343, 305, 526, 527, 528, 334, 291, 334, 335, 336, 337, 293, 337, 338, 339, 340, 295, 525, 516, 517, 518, 322, 519, 520, 521, 522, 308, 307, 523] (by decide +kernel)
theorem wsL_law_in0 : ∀ w ∈ wsL_law0, w ∈ lw_tbl := fun w h => (List.mem_append.mp h).elim (fun h => (List.mem_append.mp h).elim (fun h => (List.mem_append.mp h).elim (fun h => (List.mem_append.mp h).elim (fun h => (List.mem_append.mp h).elim (fun h => (List.mem_append.mp h).elim (fun h => (List.mem_append.mp h).elim (fun h => (List.mem_append.mp h).elim (fun h => (List.mem_append.mp h).elim (fun h => wl_r1 w h) (fun h => (List.mem_append.mp h).elim (fun h => wl_r2 w h) (fun h => (List.mem_append.mp h).elim (fun h => wl_r3 w h) (fun h => (List.mem_append.mp h).elim (fun h => wl_r4 w h) (fun h => (List.mem_append.mp h).elim (fun h => wl_r5 w h) (fun h => (List.mem_append.mp h).elim (fun h => wl_r6 w h) (fun h => (List.mem_append.mp h).elim (fun h => wl_r7 w h) (fun h => (List.mem_append.mp h).elim (fun h => wl_r8 w h) (fun h => (List.mem_append.mp h).elim (fun h => wl_r9 w h) (fun h => (List.mem_append.mp h).elim (fun h => wl_r10 w h) (fun h => (List.mem_append.mp h).elim (fun h => wl_r11 w h) (fun h => (List.mem_append.mp h).elim (fun h => wl_r12 w h) (fun h => (List.mem_append.mp h).elim (fun h => wl_r13 w h) (fun h => (List.mem_append.mp h).elim (fun h => wl_r14 w h) (fun h => (List.mem_append.mp h).elim (fun h => wl_r15 w h) (fun h => (List.mem_append.mp h).elim (fun h => wl_r16 w h) (fun h => (List.mem_append.mp h).elim (fun h => wl_r17 w h) (fun h => (List.mem_append.mp h).elim (fun h => wl_r18 w h) (fun h => (List.mem_append.mp h).elim (fun h => wl_r19 w h) (fun h => (List.mem_append.mp h).elim (fun h => wl_r20 w h) (fun h => (List.mem_append.mp h).elim (fun h => wl_r21 w h) (fun h => (List.mem_append.mp h).elim (fun h => wl_r22 w h) (fun h => (List.mem_append.mp h).elim (fun h => wl_r23 w h) (fun h => (List.mem_append.mp h).elim (fun h => wl_r24 w h) (fun h => (List.mem_append.mp h).elim (fun h => wl_r25 w h) (fun h => (List.mem_append.mp h).elim (fun h => wl_r26 w h) (fun h => (List.mem_append.mp h).elim (fun h => wl_r27 w h) (fun h => (List.mem_append.mp h).elim (fun h => wl_r28 w h) (fun h => (List.mem_append.mp h).elim (fun h => wl_r29 w h) (fun h => (List.mem_append.mp h).elim (fun h => wl_r30 w h) (fun h => (List.mem_append.mp h).elim (fun h => wl_r31 w h) (fun h => wl_r32 w h)))))))))))))))))))))))))))))))) (fun h => wl_X5 w h)) (fun h => wl_X6 w h)) (fun h => wl_X0 w h)) (fun h => wl_X2 w h)) (fun h => wl_X1 w h)) (fun h => wl_X3 w h)) (fun h => wl_X4 w h)) (fun h => absurd h List.not_mem_nil)
theorem wsL_law_in : ∀ w ∈ wsL_law, w ∈ lw_tbl := fun w h => (List.mem_append.mp h).elim (fun h => (List.mem_append.mp h).elim (fun h => (List.mem_append.mp h).elim (fun h => (List.mem_append.mp h).elim (fun h => wsL_law_in0 w h) (fun h => wl_x0 w (List.mem_filter.mp h).1)) (fun h => wl_x1 w (List.mem_filter.mp h).1)) (fun h => wl_x2 w (List.mem_filter.mp h).1)) (fun h => wl_x3 w (List.mem_filter.mp h).1)
