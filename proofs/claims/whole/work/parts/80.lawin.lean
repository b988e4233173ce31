theorem mem_places {big : List Cond} (ws : List Cond) (ps : List Nat) (hp : ws = ps.filterMap (fun i => big[i]?)) : ∀ w ∈ ws, w ∈ big := by
  intro w hw
  rw [hp] at hw
  obtain ⟨i, -, hi⟩ := List.mem_filterMap.mp hw
  exact List.mem_of_getElem? hi
set_option maxRecDepth 20000 in
theorem wl_r1 : ∀ w ∈ wsL_law0_r1, w ∈ lw_tbl := mem_places _ [53, 54, 37, 754, 755, 43, 1051, 1052, 55, 56, 57, 58, 59, 60, 61, 62, 38, 213, 87, 88, 39, 214, 123, 124] (by decide +kernel)
set_option maxRecDepth 20000 in
theorem wl_r2 : ∀ w ∈ wsL_law0_r2, w ∈ lw_tbl := mem_places _ [40, 215, 142, 143, 41, 216, 63, 64, 65, 66, 85, 70, 86, 72, 75, 67, 89, 90, 91, 92, 95, 97, 100, 103] (by decide +kernel)
set_option maxRecDepth 20000 in
theorem wl_r3 : ∀ w ∈ wsL_law0_r3, w ∈ lw_tbl := mem_places _ [104, 105, 102, 126, 127, 128, 129, 131, 133, 144, 145, 146, 147, 169, 171, 173, 175, 177, 179, 181, 148, 149, 42, 184] (by decide +kernel)
set_option maxRecDepth 20000 in
theorem wl_r4 : ∀ w ∈ wsL_law0_r4, w ∈ lw_tbl := mem_places _ [185, 182, 183, 151, 152, 153, 156, 157, 756, 757, 758, 759, 761, 762, 763, 765, 766, 767, 768, 769, 770, 771, 772, 775] (by decide +kernel)
set_option maxRecDepth 20000 in
theorem wl_r5 : ∀ w ∈ wsL_law0_r5, w ∈ lw_tbl := mem_places _ [776, 777, 778, 779, 780, 781, 273, 274, 36, 275, 276, 277, 278, 279, 280, 281, 355, 48, 68, 282, 284, 0, 285, 286] (by decide +kernel)
set_option maxRecDepth 20000 in
theorem wl_r6 : ∀ w ∈ wsL_law0_r6, w ∈ lw_tbl := mem_places _ [47, 371, 372, 373, 374, 831, 832, 833, 834, 760, 835, 837, 16, 838, 839, 840, 841, 842, 844, 17, 845, 827, 828, 829] (by decide +kernel)
set_option maxRecDepth 20000 in
theorem wl_r7 : ∀ w ∈ wsL_law0_r7, w ∈ lw_tbl := mem_places _ [830, 375, 376, 377, 378, 379, 380, 381, 73, 846, 847, 848, 849, 226, 227, 228, 229, 850, 851, 852, 853, 382, 383, 384] (by decide +kernel)
set_option maxRecDepth 20000 in
theorem wl_r8 : ∀ w ∈ wsL_law0_r8, w ∈ lw_tbl := mem_places _ [385, 386, 387, 388, 71, 854, 855, 856, 857, 389, 390, 391, 392, 393, 394, 395, 396, 397, 398, 399, 858, 859, 860, 861] (by decide +kernel)
set_option maxRecDepth 20000 in
theorem wl_r9 : ∀ w ∈ wsL_law0_r9, w ∈ lw_tbl := mem_places _ [862, 864, 18, 865, 400, 401, 402, 403, 404, 405, 406, 866, 867, 868, 869, 407, 408, 409, 410, 411, 412, 413, 414, 420] (by decide +kernel)
set_option maxRecDepth 20000 in
theorem wl_r10 : ∀ w ∈ wsL_law0_r10, w ∈ lw_tbl := mem_places _ [49, 94, 415, 417, 2, 418, 436, 437, 438, 439, 442, 443, 444, 445, 93, 870, 871, 872, 873, 764, 874, 875, 876, 877] (by decide +kernel)
set_option maxRecDepth 20000 in
theorem wl_r11 : ∀ w ∈ wsL_law0_r11, w ∈ lw_tbl := mem_places _ [879, 19, 880, 446, 447, 448, 449, 450, 451, 452, 99, 453, 455, 3, 456, 460, 461, 462, 463, 165, 167, 464, 465, 466] (by decide +kernel)
set_option maxRecDepth 20000 in
theorem wl_r12 : ∀ w ∈ wsL_law0_r12, w ∈ lw_tbl := mem_places _ [467, 271, 272, 881, 882, 883, 884, 773, 885, 887, 20, 888, 230, 231, 232, 233, 889, 890, 891, 892, 469, 470, 471, 472] (by decide +kernel)
set_option maxRecDepth 20000 in
theorem wl_r13 : ∀ w ∈ wsL_law0_r13, w ∈ lw_tbl := mem_places _ [473, 474, 475, 476, 477, 478, 479, 480, 481, 893, 894, 895, 896, 897, 899, 21, 900, 482, 483, 484, 485, 486, 487, 488] (by decide +kernel)
set_option maxRecDepth 20000 in
theorem wl_r14 : ∀ w ∈ wsL_law0_r14, w ∈ lw_tbl := mem_places _ [489, 490, 491, 492, 69, 74, 493, 494, 495, 50, 496, 497, 498, 499, 901, 902, 903, 904, 905, 907, 22, 908, 909, 910] (by decide +kernel)
set_option maxRecDepth 20000 in
theorem wl_r15 : ∀ w ∈ wsL_law0_r15, w ∈ lw_tbl := mem_places _ [911, 500, 501, 502, 503, 504, 505, 506, 507, 515, 51, 508, 509, 510, 511, 512, 513, 514, 912, 913, 914, 915, 916, 917] (by decide +kernel)
set_option maxRecDepth 20000 in
theorem wl_r16 : ∀ w ∈ wsL_law0_r16, w ∈ lw_tbl := mem_places _ [918, 531, 532, 533, 534, 535, 536, 537, 538, 539, 540, 541, 542, 543, 545, 4, 546, 547, 548, 549, 550, 551, 919, 920] (by decide +kernel)
set_option maxRecDepth 20000 in
theorem wl_r17 : ∀ w ∈ wsL_law0_r17, w ∈ lw_tbl := mem_places _ [921, 922, 923, 925, 23, 926, 552, 553, 554, 555, 556, 557, 558, 562, 563, 564, 565, 927, 928, 929, 930, 566, 567, 568] (by decide +kernel)
set_option maxRecDepth 20000 in
theorem wl_r18 : ∀ w ∈ wsL_law0_r18, w ∈ lw_tbl := mem_places _ [569, 570, 571, 572, 166, 573, 574, 575, 576, 155, 96, 577, 578, 580, 5, 581, 266, 267, 268, 269, 98, 582, 584, 6] (by decide +kernel)
set_option maxRecDepth 20000 in
theorem wl_r19 : ∀ w ∈ wsL_law0_r19, w ∈ lw_tbl := mem_places _ [585, 587, 101, 588, 589, 52, 590, 586, 591, 592, 593, 595, 7, 596, 132, 134, 597, 599, 8, 600, 601, 602, 603, 604] (by decide +kernel)
set_option maxRecDepth 20000 in
theorem wl_r20 : ∀ w ∈ wsL_law0_r20, w ∈ lw_tbl := mem_places _ [154, 605, 607, 9, 608, 609, 610, 611, 612, 613, 615, 10, 616, 130, 931, 932, 933, 934, 774, 935, 937, 24, 938, 943] (by decide +kernel)
set_option maxRecDepth 20000 in
theorem wl_r21 : ∀ w ∈ wsL_law0_r21, w ∈ lw_tbl := mem_places _ [944, 939, 941, 25, 942, 945, 947, 26, 948, 949, 951, 27, 952, 953, 955, 28, 956, 957, 959, 29, 960, 234, 235, 236] (by decide +kernel)
set_option maxRecDepth 20000 in
theorem wl_r22 : ∀ w ∈ wsL_law0_r22, w ∈ lw_tbl := mem_places _ [237, 238, 239, 240, 241, 961, 962, 963, 964, 617, 618, 619, 620, 621, 622, 623, 624, 626, 11, 627, 965, 966, 967, 968] (by decide +kernel)
set_option maxRecDepth 20000 in
theorem wl_r23 : ∀ w ∈ wsL_law0_r23, w ∈ lw_tbl := mem_places _ [969, 971, 30, 972, 629, 630, 631, 632, 633, 634, 635, 168, 973, 974, 975, 976, 636, 637, 638, 639, 640, 641, 642, 170] (by decide +kernel)
set_option maxRecDepth 20000 in
theorem wl_r24 : ∀ w ∈ wsL_law0_r24, w ∈ lw_tbl := mem_places _ [643, 645, 12, 646, 977, 978, 979, 980, 981, 983, 31, 984, 648, 649, 650, 651, 652, 653, 654, 172, 985, 986, 987, 988] (by decide +kernel)
set_option maxRecDepth 20000 in
theorem wl_r25 : ∀ w ∈ wsL_law0_r25, w ∈ lw_tbl := mem_places _ [655, 656, 657, 658, 659, 660, 661, 174, 989, 990, 991, 992, 662, 663, 664, 665, 666, 667, 668, 176, 993, 994, 995, 996] (by decide +kernel)
set_option maxRecDepth 20000 in
theorem wl_r26 : ∀ w ∈ wsL_law0_r26, w ∈ lw_tbl := mem_places _ [669, 670, 671, 672, 673, 674, 675, 676, 997, 998, 999, 1000, 677, 678, 679, 680, 681, 682, 683, 178, 684, 686, 13, 687] (by decide +kernel)
set_option maxRecDepth 20000 in
theorem wl_r27 : ∀ w ∈ wsL_law0_r27, w ∈ lw_tbl := mem_places _ [689, 1001, 1002, 1003, 1004, 1005, 1007, 32, 1008, 690, 691, 692, 693, 694, 695, 696, 180, 1009, 1010, 1011, 1012, 697, 698, 699] (by decide +kernel)
set_option maxRecDepth 20000 in
theorem wl_r28 : ∀ w ∈ wsL_law0_r28, w ∈ lw_tbl := mem_places _ [700, 701, 702, 703, 705, 706, 707, 708, 1013, 1014, 1015, 1016, 1017, 1019, 33, 1020, 709, 710, 711, 712, 713, 714, 715, 1021] (by decide +kernel)
set_option maxRecDepth 20000 in
theorem wl_r29 : ∀ w ∈ wsL_law0_r29, w ∈ lw_tbl := mem_places _ [1022, 1023, 1024, 716, 717, 718, 719, 720, 721, 722, 723, 724, 725, 726, 1025, 1026, 1027, 1028, 1029, 1031, 34, 1032, 727, 728] (by decide +kernel)
set_option maxRecDepth 20000 in
theorem wl_r30 : ∀ w ∈ wsL_law0_r30, w ∈ lw_tbl := mem_places _ [729, 730, 731, 732, 733, 1033, 1034, 1035, 1036, 734, 735, 736, 737, 738, 739, 740, 741, 742, 743, 744, 745, 747, 14, 748] (by decide +kernel)
set_option maxRecDepth 20000 in
theorem wl_r31 : ∀ w ∈ wsL_law0_r31, w ∈ lw_tbl := mem_places _ [749, 750, 752, 15, 753, 1037, 1038, 1039, 1040, 1041, 1043, 35, 1044, 242, 243, 244, 245, 246, 247, 248, 249, 250, 252, 253] (by decide +kernel)
set_option maxRecDepth 20000 in
theorem wl_r32 : ∀ w ∈ wsL_law0_r32, w ∈ lw_tbl := mem_places _ [254, 255, 256, 257, 258, 259, 261, 262, 263, 264, 1045, 1046, 1047, 1048, 1049, 1050] (by decide +kernel)
set_option maxRecDepth 20000 in
theorem wl_X5 : ∀ w ∈ wsX50, w ∈ lw_tbl := mem_places _ [217, 219, 221, 223] (by decide +kernel)
set_option maxRecDepth 20000 in
theorem wl_X6 : ∀ w ∈ wsX60, w ∈ lw_tbl := mem_places _ [782, 784, 786, 788, 790, 792, 794, 796, 798, 800, 802, 804, 806, 808, 810, 812, 814, 816, 818, 820, 822, 824] (by decide +kernel)
set_option maxRecDepth 20000 in
theorem wl_X0 : ∀ w ∈ wsX00, w ∈ lw_tbl := mem_places _ [76, 78, 80, 82] (by decide +kernel)
set_option maxRecDepth 20000 in
theorem wl_X2 : ∀ w ∈ wsX20, w ∈ lw_tbl := mem_places _ [106, 108, 110, 112, 114, 116, 118, 120] (by decide +kernel)
set_option maxRecDepth 20000 in
theorem wl_X1 : ∀ w ∈ wsX10, w ∈ lw_tbl := mem_places _ [135, 137, 139] (by decide +kernel)
set_option maxRecDepth 20000 in
theorem wl_X3 : ∀ w ∈ wsX30, w ∈ lw_tbl := mem_places _ [186, 188, 190, 192, 194, 196, 198, 200, 202, 204, 206, 208, 210] (by decide +kernel)
set_option maxRecDepth 20000 in
theorem wl_X4 : ∀ w ∈ wsX40, w ∈ lw_tbl := mem_places _ [158, 160, 162] (by decide +kernel)
set_option maxRecDepth 20000 in
theorem wl_x0 : ∀ w ∈ vx_atS RX5 53 "java/lang/IllegalStateException" ["java/lang/RuntimeException", "java/lang/Exception"], w ∈ lw_tbl := mem_places _ [44, 308, 317, 322, 325, 327, 309, 310, 59, 60, 311, 316, 323, 343, 298, 344, 300, 345, 302, 312, 314, 304, 339, 340, 342, 304, 366, 367, 368, 333, 290, 333, 334, 335, 336, 292, 336, 337, 338, 339, 294, 365, 356, 357, 358, 320, 359, 360, 361, 362, 307, 306, 363] (by decide +kernel)
set_option maxRecDepth 20000 in
theorem wl_x1 : ∀ w ∈ vx_atS RX5 189 "java/lang/IndexOutOfBoundsException" ["java/lang/RuntimeException", "java/lang/Exception"], w ∈ lw_tbl := mem_places _ [44, 308, 317, 322, 325, 327, 309, 310, 59, 60, 311, 316, 323, 343, 298, 344, 300, 345, 302, 312, 314, 304, 339, 340, 342, 304, 330, 331, 332, 333, 290, 333, 334, 335, 336, 292, 336, 337, 338, 339, 294, 329, 287, 288, 295, 296, 297, 299, 301, 303, 307, 306, 305] (by decide +kernel)
set_option maxRecDepth 20000 in
theorem wl_x2 : ∀ w ∈ vx_atS RX5 79 "java/lang/IllegalArgumentException" ["java/lang/RuntimeException", "java/lang/Exception"], w ∈ lw_tbl := mem_places _ [44, 308, 317, 322, 325, 327, 309, 310, 59, 60, 311, 316, 323, 343, 298, 344, 300, 345, 302, 312, 314, 304, 339, 340, 342, 304, 431, 432, 433, 333, 290, 333, 334, 335, 336, 292, 336, 337, 338, 339, 294, 430, 421, 422, 423, 319, 424, 425, 426, 427, 307, 306, 428] (by decide +kernel)
set_option maxRecDepth 20000 in
theorem wl_x3 : ∀ w ∈ vn_at, w ∈ lw_tbl := mem_places _ [44, 308, 317, 322, 325, 327, 309, 310, 59, 60, 311, 316, 323, 343, 298, 344, 300, 345, 302, 312, 314, 304, 339, 340, 342, 304, 526, 527, 528, 333, 290, 333, 334, 335, 336, 292, 336, 337, 338, 339, 294, 525, 516, 517, 518, 321, 519, 520, 521, 522, 307, 306, 523] (by decide +kernel)
theorem wsL_law_in0 : ∀ w ∈ wsL_law0, w ∈ lw_tbl := fun w h => (List.mem_append.mp h).elim (fun h => (List.mem_append.mp h).elim (fun h => (List.mem_append.mp h).elim (fun h => (List.mem_append.mp h).elim (fun h => (List.mem_append.mp h).elim (fun h => (List.mem_append.mp h).elim (fun h => (List.mem_append.mp h).elim (fun h => (List.mem_append.mp h).elim (fun h => (List.mem_append.mp h).elim (fun h => wl_r1 w h) (fun h => (List.mem_append.mp h).elim (fun h => wl_r2 w h) (fun h => (List.mem_append.mp h).elim (fun h => wl_r3 w h) (fun h => (List.mem_append.mp h).elim (fun h => wl_r4 w h) (fun h => (List.mem_append.mp h).elim (fun h => wl_r5 w h) (fun h => (List.mem_append.mp h).elim (fun h => wl_r6 w h) (fun h => (List.mem_append.mp h).elim (fun h => wl_r7 w h) (fun h => (List.mem_append.mp h).elim (fun h => wl_r8 w h) (fun h => (List.mem_append.mp h).elim (fun h => wl_r9 w h) (fun h => (List.mem_append.mp h).elim (fun h => wl_r10 w h) (fun h => (List.mem_append.mp h).elim (fun h => wl_r11 w h) (fun h => (List.mem_append.mp h).elim (fun h => wl_r12 w h) (fun h => (List.mem_append.mp h).elim (fun h => wl_r13 w h) (fun h => (List.mem_append.mp h).elim (fun h => wl_r14 w h) (fun h => (List.mem_append.mp h).elim (fun h => wl_r15 w h) (fun h => (List.mem_append.mp h).elim (fun h => wl_r16 w h) (fun h => (List.mem_append.mp h).elim (fun h => wl_r17 w h) (fun h => (List.mem_append.mp h).elim (fun h => wl_r18 w h) (fun h => (List.mem_append.mp h).elim (fun h => wl_r19 w h) (fun h => (List.mem_append.mp h).elim (fun h => wl_r20 w h) (fun h => (List.mem_append.mp h).elim (fun h => wl_r21 w h) (fun h => (List.mem_append.mp h).elim (fun h => wl_r22 w h) (fun h => (List.mem_append.mp h).elim (fun h => wl_r23 w h) (fun h => (List.mem_append.mp h).elim (fun h => wl_r24 w h) (fun h => (List.mem_append.mp h).elim (fun h => wl_r25 w h) (fun h => (List.mem_append.mp h).elim (fun h => wl_r26 w h) (fun h => (List.mem_append.mp h).elim (fun h => wl_r27 w h) (fun h => (List.mem_append.mp h).elim (fun h => wl_r28 w h) (fun h => (List.mem_append.mp h).elim (fun h => wl_r29 w h) (fun h => (List.mem_append.mp h).elim (fun h => wl_r30 w h) (fun h => (List.mem_append.mp h).elim (fun h => wl_r31 w h) (fun h => wl_r32 w h)))))))))))))))))))))))))))))))) (fun h => wl_X5 w h)) (fun h => wl_X6 w h)) (fun h => wl_X0 w h)) (fun h => wl_X2 w h)) (fun h => wl_X1 w h)) (fun h => wl_X3 w h)) (fun h => wl_X4 w h)) (fun h => absurd h List.not_mem_nil)
theorem wsL_law_in : ∀ w ∈ wsL_law, w ∈ lw_tbl := fun w h => (List.mem_append.mp h).elim (fun h => (List.mem_append.mp h).elim (fun h => (List.mem_append.mp h).elim (fun h => (List.mem_append.mp h).elim (fun h => wsL_law_in0 w h) (fun h => wl_x0 w (List.mem_filter.mp h).1)) (fun h => wl_x1 w (List.mem_filter.mp h).1)) (fun h => wl_x2 w (List.mem_filter.mp h).1)) (fun h => wl_x3 w (List.mem_filter.mp h).1)
