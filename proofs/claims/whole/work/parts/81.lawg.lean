theorem inlX0 : ∀ w ∈ wsX00, w ∈ wsL_law := fun _ h => List.mem_append_left _ (List.mem_append_left _ (List.mem_append_left _ (List.mem_append_left _ (List.mem_append_left _ (List.mem_append_left _ (List.mem_append_left _ (List.mem_append_left _ (List.mem_append_left _ (List.mem_append_right _ h)))))))))
theorem inlX1 : ∀ w ∈ wsX10, w ∈ wsL_law := fun _ h => List.mem_append_left _ (List.mem_append_left _ (List.mem_append_left _ (List.mem_append_left _ (List.mem_append_left _ (List.mem_append_left _ (List.mem_append_left _ (List.mem_append_right _ h)))))))
theorem inlX2 : ∀ w ∈ wsX20, w ∈ wsL_law := fun _ h => List.mem_append_left _ (List.mem_append_left _ (List.mem_append_left _ (List.mem_append_left _ (List.mem_append_left _ (List.mem_append_left _ (List.mem_append_left _ (List.mem_append_left _ (List.mem_append_right _ h))))))))
theorem inlX3 : ∀ w ∈ wsX30, w ∈ wsL_law := fun _ h => List.mem_append_left _ (List.mem_append_left _ (List.mem_append_left _ (List.mem_append_left _ (List.mem_append_left _ (List.mem_append_left _ (List.mem_append_right _ h))))))
theorem inlX4 : ∀ w ∈ wsX40, w ∈ wsL_law := fun _ h => List.mem_append_left _ (List.mem_append_left _ (List.mem_append_left _ (List.mem_append_left _ (List.mem_append_left _ (List.mem_append_right _ h)))))
theorem inlX5 : ∀ w ∈ wsX50, w ∈ wsL_law := fun _ h => List.mem_append_left _ (List.mem_append_left _ (List.mem_append_left _ (List.mem_append_left _ (List.mem_append_left _ (List.mem_append_left _ (List.mem_append_left _ (List.mem_append_left _ (List.mem_append_left _ (List.mem_append_left _ (List.mem_append_left _ (List.mem_append_right _ h)))))))))))
theorem inlX6 : ∀ w ∈ wsX60, w ∈ wsL_law := fun _ h => List.mem_append_left _ (List.mem_append_left _ (List.mem_append_left _ (List.mem_append_left _ (List.mem_append_left _ (List.mem_append_left _ (List.mem_append_left _ (List.mem_append_left _ (List.mem_append_left _ (List.mem_append_left _ (List.mem_append_right _ h))))))))))
set_option maxRecDepth 20000 in
theorem ggL_law_X5_init : GoodIn wsL_law wsX5_init := goodIn_r _ [10, 11, 12, 13, 14, 15, 16, 17, 18, 19, 20, 21, 22, 23, 24, 25, 26, 27, 28, 29, 30, 31, 32, 33, 34, 35, 36, 37, 38, 39, 40, 41, 42, 43, 44, 45, 46, 47, 48, 49, 50, 51, 52, 53, 54, 55, 56, 57, 58, 59, 60, 61, 62, 63, 64, 65, 66, 67, 68, 69, 70, 71, 72, 73, 74, 75, 76, 77, 78, 79, 789, 790, 791, 792, 763, 764, 765, 766, 793, 794, 795, 796, 797, 798, 799, 800, 801, 802, 803, 804, 805, 806, 807, 808, 809, 810, 811, 812, 813, 814, 815, 816, 817, 818, 819] (by decide +kernel) (by decide +kernel)
set_option maxRecDepth 20000 in
theorem gL_law_X5_init : GoodIn wsL_law (wsX5_init) := ggL_law_X5_init
set_option maxRecDepth 20000 in
theorem ggL_law_X6_init : GoodIn wsL_law wsX6_init := goodIn_r _ [82, 83, 12, 13, 84, 34, 85, 36, 86, 87, 88, 89, 90, 91, 92, 93, 94, 95, 96, 97, 98, 99, 100, 101, 767, 768, 769, 770, 771, 772, 773, 774, 775, 776, 777, 778, 779, 780, 781, 782, 783, 784, 785, 786, 787, 788] (by decide +kernel) (by decide +kernel)
set_option maxRecDepth 20000 in
theorem gL_law_X6_init : GoodIn wsL_law (wsX6_init) := ggL_law_X6_init
set_option maxRecDepth 20000 in
theorem ggL_law_L_addClass : GoodIn wsL_law wsL_addClass := goodIn_ca (goodIn_ca (goodIn_r _ [105, 106, 107, 108, 109, 110, 2, 111, 112, 113, 17, 114, 115, 116, 117, 118, 119, 120, 121, 122, 123, 16, 124, 39, 35, 38, 763, 764, 765, 766, 789, 790, 791, 792] (by decide +kernel) (by decide +kernel)) (goodIn_sub (fun _ h => List.mem_append_left _ (List.mem_append_left _ (List.mem_append_left _ (List.mem_append_right _ h)))) (by decide +kernel))) (goodIn_sub (fun _ h => List.mem_append_left _ (List.mem_append_left _ (List.mem_append_right _ h))) (by decide +kernel))
set_option maxRecDepth 20000 in
theorem gL_law_L_addClass : GoodIn wsL_law (va_wsS RL 113 yL_addClass wsL_addClass) := goodIn_app (goodIn_of _ (by decide +kernel)) ggL_law_L_addClass
set_option maxRecDepth 20000 in
theorem ggL_law_X6_addClass : GoodIn wsL_law wsX6_addClass := goodIn_r _ [128, 129, 84, 85, 86, 130, 131, 132, 5, 133, 134, 135, 136, 137, 138, 139, 140, 767, 768, 769, 770, 771, 772, 773, 774, 775, 776, 777, 778, 779, 780, 781, 782, 783, 784, 785, 786, 787, 788] (by decide +kernel) (by decide +kernel)
set_option maxRecDepth 20000 in
theorem gL_law_X6_addClass : GoodIn wsL_law (wsV RL 118 RX6 yX6_addClass wsX6_addClass) := goodIn_app (goodIn_of _ (by decide +kernel)) ggL_law_X6_addClass
set_option maxRecDepth 20000 in
theorem ggL_law_X6_thrown : GoodIn wsL_law wsX6_thrown := goodIn_r _ [144, 129, 767, 768, 769, 770, 771, 772, 773, 774, 775, 776, 777, 778, 779, 780, 781, 782, 783, 784, 785, 786, 787, 788] (by decide +kernel) (by decide +kernel)
set_option maxRecDepth 20000 in
theorem gL_law_X6_thrown : GoodIn wsL_law (wsV RL 119 RX6 yX6_thrown wsX6_thrown) := goodIn_app (goodIn_of _ (by decide +kernel)) ggL_law_X6_thrown
set_option maxRecDepth 20000 in
theorem ggL_law_L_setLive : GoodIn wsL_law wsL_setLive := goodIn_ca (goodIn_r _ [147, 106, 148, 149, 150, 2, 151, 17, 152, 115, 116, 117, 118, 119, 120, 114, 763, 764, 765, 766, 789, 790, 791, 792] (by decide +kernel) (by decide +kernel)) (goodIn_sub (fun _ h => List.mem_append_left _ (List.mem_append_left _ (List.mem_append_right _ h))) (by decide +kernel))
set_option maxRecDepth 20000 in
theorem gL_law_L_setLive : GoodIn wsL_law (va_wsS RL 122 yL_setLive wsL_setLive) := goodIn_app (goodIn_of _ (by decide +kernel)) ggL_law_L_setLive
set_option maxRecDepth 20000 in
theorem ggL_law_X6_setLive : GoodIn wsL_law wsX6_setLive := goodIn_r _ [156, 129, 86, 130, 131, 132, 5, 133, 84, 134, 135, 136, 767, 768, 769, 770, 771, 772, 773, 774, 775, 776, 777, 778, 779, 780, 781, 782, 783, 784, 785, 786, 787, 788] (by decide +kernel) (by decide +kernel)
set_option maxRecDepth 20000 in
theorem gL_law_X6_setLive : GoodIn wsL_law (wsV RL 125 RX6 yX6_setLive wsX6_setLive) := goodIn_app (goodIn_of _ (by decide +kernel)) ggL_law_X6_setLive
set_option maxRecDepth 20000 in
theorem ggL_law_X5_classCount : GoodIn wsL_law wsX5_classCount := goodIn_r _ [160, 17, 114, 763, 764, 765, 766, 789, 790, 791, 792] (by decide +kernel) (by decide +kernel)
set_option maxRecDepth 20000 in
theorem gL_law_X5_classCount : GoodIn wsL_law (wsV RL 126 RX5 yX5_classCount wsX5_classCount) := goodIn_app (goodIn_of _ (by decide +kernel)) ggL_law_X5_classCount
set_option maxRecDepth 20000 in
theorem ggL_law_X6_classCount : GoodIn wsL_law wsX6_classCount := goodIn_r _ [164, 129, 84, 767, 768, 769, 770, 771, 772, 773, 774, 775, 776, 777, 778, 779, 780, 781, 782, 783, 784, 785, 786, 787, 788] (by decide +kernel) (by decide +kernel)
set_option maxRecDepth 20000 in
theorem gL_law_X6_classCount : GoodIn wsL_law (wsV RL 129 RX6 yX6_classCount wsX6_classCount) := goodIn_app (goodIn_of _ (by decide +kernel)) ggL_law_X6_classCount
set_option maxRecDepth 20000 in
theorem ggL_law_L_parent : GoodIn wsL_law wsL_parent := goodIn_ca (goodIn_r _ [167, 106, 168, 169, 170, 2, 171, 17, 172, 115, 116, 117, 118, 119, 120, 114, 763, 764, 765, 766, 789, 790, 791, 792] (by decide +kernel) (by decide +kernel)) (goodIn_sub (fun _ h => List.mem_append_left _ (List.mem_append_left _ (List.mem_append_right _ h))) (by decide +kernel))
set_option maxRecDepth 20000 in
theorem gL_law_L_parent : GoodIn wsL_law (va_wsS RL 130 yL_parent wsL_parent) := goodIn_app (goodIn_of _ (by decide +kernel)) ggL_law_L_parent
set_option maxRecDepth 20000 in
theorem ggL_law_X6_parent : GoodIn wsL_law wsX6_parent := goodIn_r _ [176, 129, 85, 130, 131, 132, 5, 133, 84, 134, 135, 136, 137, 138, 139, 140, 767, 768, 769, 770, 771, 772, 773, 774, 775, 776, 777, 778, 779, 780, 781, 782, 783, 784, 785, 786, 787, 788] (by decide +kernel) (by decide +kernel)
set_option maxRecDepth 20000 in
theorem gL_law_X6_parent : GoodIn wsL_law (wsV RL 132 RX6 yX6_parent wsX6_parent) := goodIn_app (goodIn_of _ (by decide +kernel)) ggL_law_X6_parent
set_option maxRecDepth 20000 in
theorem ggL_law_L_isBelow : GoodIn wsL_law wsL_isBelow := goodIn_ca (goodIn_r _ [179, 106, 180, 181, 182, 2, 183, 17, 115, 116, 117, 118, 119, 120, 114, 184, 185, 186, 16, 187, 38, 763, 764, 765, 766, 789, 790, 791, 792] (by decide +kernel) (by decide +kernel)) (goodIn_sub (fun _ h => List.mem_append_left _ (List.mem_append_left _ (List.mem_append_right _ h))) (by decide +kernel))
set_option maxRecDepth 20000 in
theorem gL_law_L_isBelow : GoodIn wsL_law (va_wsS RL 133 yL_isBelow wsL_isBelow) := goodIn_app (goodIn_of _ (by decide +kernel)) ggL_law_L_isBelow
set_option maxRecDepth 20000 in
theorem ggL_law_X6_isBelow : GoodIn wsL_law wsX6_isBelow := goodIn_r _ [191, 129, 130, 131, 132, 5, 133, 84, 134, 135, 136, 192, 193, 194, 195, 85, 767, 768, 769, 770, 771, 772, 773, 774, 775, 776, 777, 778, 779, 780, 781, 782, 783, 784, 785, 786, 787, 788] (by decide +kernel) (by decide +kernel)
set_option maxRecDepth 20000 in
theorem gL_law_X6_isBelow : GoodIn wsL_law (wsV RL 136 RX6 yX6_isBelow wsX6_isBelow) := goodIn_app (goodIn_of _ (by decide +kernel)) ggL_law_X6_isBelow
set_option maxRecDepth 20000 in
theorem ggL_law_L_liveBelow : GoodIn wsL_law wsL_liveBelow := goodIn_ca (goodIn_r _ [198, 106, 199, 200, 201, 2, 202, 17, 114, 152, 115, 116, 117, 118, 119, 120, 184, 185, 186, 16, 187, 38, 763, 764, 765, 766, 789, 790, 791, 792] (by decide +kernel) (by decide +kernel)) (goodIn_sub (fun _ h => List.mem_append_left _ (List.mem_append_left _ (List.mem_append_right _ h))) (by decide +kernel))
set_option maxRecDepth 20000 in
theorem gL_law_L_liveBelow : GoodIn wsL_law (va_wsS RL 137 yL_liveBelow wsL_liveBelow) := goodIn_app (goodIn_of _ (by decide +kernel)) ggL_law_L_liveBelow
set_option maxRecDepth 20000 in
theorem ggL_law_X6_liveBelow : GoodIn wsL_law wsX6_liveBelow := goodIn_r _ [206, 129, 84, 86, 130, 131, 132, 5, 133, 134, 135, 136, 137, 138, 139, 140, 192, 193, 194, 195, 85, 767, 768, 769, 770, 771, 772, 773, 774, 775, 776, 777, 778, 779, 780, 781, 782, 783, 784, 785, 786, 787, 788] (by decide +kernel) (by decide +kernel)
set_option maxRecDepth 20000 in
theorem gL_law_X6_liveBelow : GoodIn wsL_law (wsV RL 139 RX6 yX6_liveBelow wsX6_liveBelow) := goodIn_app (goodIn_of _ (by decide +kernel)) ggL_law_X6_liveBelow
set_option maxRecDepth 20000 in
theorem ggL_law_L_addMethod : GoodIn wsL_law wsL_addMethod := goodIn_ca (goodIn_ca (goodIn_ca (goodIn_r _ [209, 106, 210, 107, 211, 212, 213, 2, 214, 215, 216, 112, 113, 21, 217, 115, 116, 117, 118, 119, 120, 17, 114, 218, 219, 220, 221, 222, 223, 224, 20, 225, 49, 226, 227, 228, 229, 230, 44, 763, 764, 765, 766, 793, 794, 795, 796, 797, 798, 799, 800, 789, 790, 791, 792] (by decide +kernel) (by decide +kernel)) (goodIn_sub (fun _ h => List.mem_append_left _ (List.mem_append_right _ h)) (by decide +kernel))) (goodIn_sub (fun _ h => List.mem_append_left _ (List.mem_append_left _ (List.mem_append_left _ (List.mem_append_right _ h)))) (by decide +kernel))) (goodIn_sub (fun _ h => List.mem_append_left _ (List.mem_append_left _ (List.mem_append_right _ h))) (by decide +kernel))
set_option maxRecDepth 20000 in
theorem gL_law_L_addMethod : GoodIn wsL_law (va_wsS RL 140 yL_addMethod wsL_addMethod) := goodIn_app (goodIn_of _ (by decide +kernel)) ggL_law_L_addMethod
set_option maxRecDepth 20000 in
theorem ggL_law_X6_addMethod : GoodIn wsL_law wsX6_addMethod := goodIn_r _ [234, 129, 235, 87, 88, 89, 90, 130, 131, 132, 5, 133, 84, 134, 135, 136, 236, 237, 238, 137, 138, 139, 140, 239, 240, 241, 242, 767, 768, 769, 770, 771, 772, 773, 774, 775, 776, 777, 778, 779, 780, 781, 782, 783, 784, 785, 786, 787, 788] (by decide +kernel) (by decide +kernel)
set_option maxRecDepth 20000 in
theorem gL_law_X6_addMethod : GoodIn wsL_law (wsV RL 143 RX6 yX6_addMethod wsX6_addMethod) := goodIn_app (goodIn_of _ (by decide +kernel)) ggL_law_X6_addMethod
set_option maxRecDepth 20000 in
theorem ggL_law_L_addCall : GoodIn wsL_law wsL_addCall := goodIn_ca (goodIn_ca (goodIn_ca (goodIn_r _ [245, 106, 210, 107, 246, 247, 248, 2, 249, 215, 216, 112, 113, 21, 250, 29, 251, 252, 253, 254, 119, 120, 217, 115, 116, 117, 118, 17, 114, 218, 219, 220, 221, 255, 256, 257, 28, 258, 259, 260, 261, 262, 263, 20, 264, 45, 47, 48, 46, 265, 266, 763, 764, 765, 766, 793, 794, 795, 796, 797, 798, 799, 800, 789, 790, 791, 792, 804, 805, 806, 807, 808, 809, 810, 811, 812, 813, 814, 815, 816] (by decide +kernel) (by decide +kernel)) (goodIn_sub (fun _ h => List.mem_append_left _ (List.mem_append_right _ h)) (by decide +kernel))) (goodIn_sub (fun _ h => List.mem_append_left _ (List.mem_append_left _ (List.mem_append_left _ (List.mem_append_right _ h)))) (by decide +kernel))) (goodIn_sub (fun _ h => List.mem_append_left _ (List.mem_append_left _ (List.mem_append_right _ h))) (by decide +kernel))
set_option maxRecDepth 20000 in
theorem gL_law_L_addCall : GoodIn wsL_law (va_wsS RL 144 yL_addCall wsL_addCall) := goodIn_app (goodIn_of _ (by decide +kernel)) ggL_law_L_addCall
set_option maxRecDepth 20000 in
theorem ggL_law_X6_addCall : GoodIn wsL_law wsX6_addCall := goodIn_r _ [270, 129, 90, 91, 271, 272, 273, 274, 5, 275, 235, 134, 135, 136, 130, 131, 132, 133, 84, 236, 237, 238, 137, 138, 139, 140, 767, 768, 769, 770, 771, 772, 773, 774, 775, 776, 777, 778, 779, 780, 781, 782, 783, 784, 785, 786, 787, 788] (by decide +kernel) (by decide +kernel)
set_option maxRecDepth 20000 in
theorem gL_law_X6_addCall : GoodIn wsL_law (wsV RL 147 RX6 yX6_addCall wsX6_addCall) := goodIn_app (goodIn_of _ (by decide +kernel)) ggL_law_X6_addCall
set_option maxRecDepth 20000 in
theorem ggL_law_X5_methodCount : GoodIn wsL_law wsX5_methodCount := goodIn_r _ [279, 21, 217, 763, 764, 765, 766, 793, 794, 795, 796, 797, 798, 799, 800] (by decide +kernel) (by decide +kernel)
set_option maxRecDepth 20000 in
theorem gL_law_X5_methodCount : GoodIn wsL_law (wsV RL 148 RX5 yX5_methodCount wsX5_methodCount) := goodIn_app (goodIn_of _ (by decide +kernel)) ggL_law_X5_methodCount
set_option maxRecDepth 20000 in
theorem ggL_law_X6_methodCount : GoodIn wsL_law wsX6_methodCount := goodIn_r _ [283, 129, 235, 767, 768, 769, 770, 771, 772, 773, 774, 775, 776, 777, 778, 779, 780, 781, 782, 783, 784, 785, 786, 787, 788] (by decide +kernel) (by decide +kernel)
set_option maxRecDepth 20000 in
theorem gL_law_X6_methodCount : GoodIn wsL_law (wsV RL 151 RX6 yX6_methodCount wsX6_methodCount) := goodIn_app (goodIn_of _ (by decide +kernel)) ggL_law_X6_methodCount
set_option maxRecDepth 20000 in
theorem ggL_law_L_found : GoodIn wsL_law wsL_found := goodIn_ca (goodIn_r _ [286, 106, 287, 288, 289, 2, 290, 21, 115, 116, 117, 118, 119, 120, 17, 114, 218, 219, 220, 221, 291, 292, 293, 20, 294, 49, 50, 295, 763, 764, 765, 766, 789, 790, 791, 792, 793, 794, 795, 796, 797, 798, 799, 800] (by decide +kernel) (by decide +kernel)) (goodIn_sub (fun _ h => List.mem_append_left _ (List.mem_append_left _ (List.mem_append_right _ h))) (by decide +kernel))
set_option maxRecDepth 20000 in
theorem gL_law_L_found : GoodIn wsL_law (va_wsS RL 152 yL_found wsL_found) := goodIn_app (goodIn_of _ (by decide +kernel)) ggL_law_L_found
set_option maxRecDepth 20000 in
theorem ggL_law_X6_found : GoodIn wsL_law wsX6_found := goodIn_r _ [299, 129, 130, 131, 132, 5, 133, 84, 134, 135, 136, 236, 237, 238, 300, 301, 302, 303, 85, 239, 240, 241, 242, 235, 87, 88, 137, 138, 139, 140, 767, 768, 769, 770, 771, 772, 773, 774, 775, 776, 777, 778, 779, 780, 781, 782, 783, 784, 785, 786, 787, 788] (by decide +kernel) (by decide +kernel)
set_option maxRecDepth 20000 in
theorem gL_law_X6_found : GoodIn wsL_law (wsV RL 154 RX6 yX6_found wsX6_found) := goodIn_app (goodIn_of _ (by decide +kernel)) ggL_law_X6_found
set_option maxRecDepth 20000 in
theorem ggL_law_L_targetCount : GoodIn wsL_law wsL_targetCount := goodIn_ca (goodIn_r _ [306, 106, 307, 308, 309, 2, 310, 21, 115, 116, 117, 118, 119, 120, 17, 114, 218, 219, 220, 221, 311, 312, 313, 20, 314, 50, 315, 316, 317, 185, 186, 16, 187, 38, 318, 292, 293, 294, 49, 295, 319, 320, 321, 322, 323, 324, 325, 763, 764, 765, 766, 789, 790, 791, 792, 793, 794, 795, 796, 797, 798, 799, 800] (by decide +kernel) (by decide +kernel)) (goodIn_sub (fun _ h => List.mem_append_left _ (List.mem_append_left _ (List.mem_append_right _ h))) (by decide +kernel))
set_option maxRecDepth 20000 in
theorem gL_law_L_targetCount : GoodIn wsL_law (va_wsS RL 155 yL_targetCount wsL_targetCount) := goodIn_app (goodIn_of _ (by decide +kernel)) ggL_law_L_targetCount
set_option maxRecDepth 20000 in
theorem ggL_law_X6_targetCount : GoodIn wsL_law wsX6_targetCount := goodIn_r _ [329, 129, 130, 131, 132, 5, 133, 84, 134, 135, 136, 236, 237, 238, 330, 331, 332, 333, 86, 192, 193, 194, 195, 85, 300, 301, 302, 303, 239, 240, 241, 242, 235, 87, 88, 334, 335, 336, 137, 138, 139, 140, 767, 768, 769, 770, 771, 772, 773, 774, 775, 776, 777, 778, 779, 780, 781, 782, 783, 784, 785, 786, 787, 788] (by decide +kernel) (by decide +kernel)
set_option maxRecDepth 20000 in
theorem gL_law_X6_targetCount : GoodIn wsL_law (wsV RL 157 RX6 yX6_targetCount wsX6_targetCount) := goodIn_app (goodIn_of _ (by decide +kernel)) ggL_law_X6_targetCount
set_option maxRecDepth 20000 in
theorem ggL_law_L_target : GoodIn wsL_law wsL_target := goodIn_ca (goodIn_ca (goodIn_r _ [339, 106, 340, 341, 342, 343, 2, 344, 345, 346, 21, 115, 116, 117, 118, 119, 120, 17, 114, 218, 219, 220, 221, 311, 312, 313, 20, 314, 50, 315, 316, 317, 185, 186, 16, 187, 38, 318, 292, 293, 294, 49, 295, 347, 348, 349, 350, 230, 351, 352, 353, 763, 764, 765, 766, 789, 790, 791, 792, 793, 794, 795, 796, 797, 798, 799, 800] (by decide +kernel) (by decide +kernel)) (goodIn_sub (fun _ h => List.mem_append_right _ h) (by decide +kernel))) (goodIn_sub (fun _ h => List.mem_append_left _ (List.mem_append_left _ (List.mem_append_right _ h))) (by decide +kernel))
set_option maxRecDepth 20000 in
theorem gL_law_L_target : GoodIn wsL_law (va_wsS RL 158 yL_target wsL_target) := goodIn_app (goodIn_of _ (by decide +kernel)) ggL_law_L_target
set_option maxRecDepth 20000 in
theorem ggL_law_X6_target : GoodIn wsL_law wsX6_target := goodIn_r _ [357, 129, 130, 131, 132, 5, 133, 84, 134, 135, 136, 236, 237, 238, 137, 138, 139, 140, 330, 331, 332, 333, 86, 192, 193, 194, 195, 85, 300, 301, 302, 303, 239, 240, 241, 242, 235, 87, 88, 358, 359, 360, 767, 768, 769, 770, 771, 772, 773, 774, 775, 776, 777, 778, 779, 780, 781, 782, 783, 784, 785, 786, 787, 788] (by decide +kernel) (by decide +kernel)
set_option maxRecDepth 20000 in
theorem gL_law_X6_target : GoodIn wsL_law (wsV RL 160 RX6 yX6_target wsX6_target) := goodIn_app (goodIn_of _ (by decide +kernel)) ggL_law_X6_target
set_option maxRecDepth 20000 in
theorem ggL_law_L_reached : GoodIn wsL_law wsL_reached := goodIn_ca (goodIn_r _ [363, 106, 364, 365, 366, 2, 367, 21, 251, 252, 253, 254, 119, 120, 217, 368, 369, 370, 20, 371, 230, 372, 348, 349, 350, 351, 352, 353, 373, 374, 375, 376, 45, 377, 378, 379, 380, 47, 48, 265, 266, 381, 312, 313, 314, 50, 315, 316, 317, 185, 186, 16, 187, 38, 318, 292, 293, 294, 49, 295, 763, 764, 765, 766, 793, 794, 795, 796, 797, 798, 799, 800, 789, 790, 791, 792] (by decide +kernel) (by decide +kernel)) (goodIn_sub (fun _ h => List.mem_append_left _ (List.mem_append_left _ (List.mem_append_right _ h))) (by decide +kernel))
set_option maxRecDepth 20000 in
theorem gL_law_L_reached : GoodIn wsL_law (va_wsS RL 161 yL_reached wsL_reached) := goodIn_app (goodIn_of _ (by decide +kernel)) ggL_law_L_reached
set_option maxRecDepth 20000 in
theorem ggL_law_X6_reached : GoodIn wsL_law wsX6_reached := goodIn_r _ [385, 129, 235, 90, 272, 273, 274, 5, 275, 134, 135, 136, 137, 138, 139, 140, 386, 387, 388, 389, 91, 330, 331, 332, 333, 84, 86, 192, 193, 194, 195, 85, 300, 301, 302, 303, 239, 240, 241, 242, 87, 88, 767, 768, 769, 770, 771, 772, 773, 774, 775, 776, 777, 778, 779, 780, 781, 782, 783, 784, 785, 786, 787, 788] (by decide +kernel) (by decide +kernel)
set_option maxRecDepth 20000 in
theorem gL_law_X6_reached : GoodIn wsL_law (wsV RL 163 RX6 yX6_reached wsX6_reached) := goodIn_app (goodIn_of _ (by decide +kernel)) ggL_law_X6_reached
set_option maxRecDepth 20000 in
theorem ggL_law_L_setLimits : GoodIn wsL_law wsL_setLimits := goodIn_ca (goodIn_r _ [392, 210, 393, 394, 395, 2, 396, 215, 216, 29, 25, 255, 256, 257, 28, 258, 259, 260, 397, 398, 399, 24, 400, 54, 55, 56, 763, 764, 765, 766, 804, 805, 806, 807, 808, 809, 810, 811, 812, 813, 814, 815, 816, 801, 802, 803] (by decide +kernel) (by decide +kernel)) (goodIn_sub (fun _ h => List.mem_append_left _ (List.mem_append_right _ h)) (by decide +kernel))
set_option maxRecDepth 20000 in
theorem gL_law_L_setLimits : GoodIn wsL_law (va_wsS RL 164 yL_setLimits wsL_setLimits) := goodIn_app (goodIn_of _ (by decide +kernel)) ggL_law_L_setLimits
set_option maxRecDepth 20000 in
theorem ggL_law_X6_setLimits : GoodIn wsL_law wsX6_setLimits := goodIn_r _ [404, 129, 92, 93, 94, 271, 134, 135, 5, 136, 137, 138, 139, 140, 767, 768, 769, 770, 771, 772, 773, 774, 775, 776, 777, 778, 779, 780, 781, 782, 783, 784, 785, 786, 787, 788] (by decide +kernel) (by decide +kernel)
set_option maxRecDepth 20000 in
theorem gL_law_X6_setLimits : GoodIn wsL_law (wsV RL 166 RX6 yX6_setLimits wsX6_setLimits) := goodIn_app (goodIn_of _ (by decide +kernel)) ggL_law_X6_setLimits
set_option maxRecDepth 20000 in
theorem ggL_law_L_plan : GoodIn wsL_law wsL_plan := goodIn_ca (goodIn_r _ [407, 106, 408, 409, 410, 2, 411, 29, 412, 251, 252, 253, 254, 119, 120, 21, 217, 413, 414, 415, 28, 416, 71, 417, 67, 65, 73, 418, 64, 66, 419, 256, 257, 258, 259, 260, 420, 421, 422, 423, 61, 62, 63, 424, 425, 426, 427, 428, 429, 430, 431, 432, 433, 434, 435, 436, 437, 438, 265, 266, 439, 378, 379, 20, 380, 47, 48, 381, 312, 313, 314, 50, 315, 316, 317, 185, 186, 16, 187, 38, 318, 292, 293, 294, 49, 295, 440, 348, 349, 350, 230, 351, 352, 353, 441, 320, 321, 322, 323, 324, 325, 442, 443, 444, 445, 74, 446, 447, 448, 449, 450, 451, 452, 453, 454, 455, 456, 457, 70, 458, 459, 78, 79, 460, 461, 462, 463, 464, 465, 466, 467, 468, 469, 470, 471, 472, 763, 764, 765, 766, 804, 805, 806, 807, 808, 809, 810, 811, 812, 813, 814, 815, 816, 793, 794, 795, 796, 797, 798, 799, 800, 817, 818, 819, 789, 790, 791, 792, 801, 802, 803] (by decide +kernel) (by decide +kernel)) (goodIn_sub (fun _ h => List.mem_append_left _ (List.mem_append_left _ (List.mem_append_right _ h))) (by decide +kernel))
set_option maxRecDepth 20000 in
theorem gL_law_L_plan : GoodIn wsL_law (va_wsS RL 167 yL_plan wsL_plan) := goodIn_app (goodIn_of _ (by decide +kernel)) ggL_law_L_plan
set_option maxRecDepth 20000 in
theorem ggL_law_X6_plan : GoodIn wsL_law wsX6_plan := goodIn_r _ [476, 129, 477, 271, 100, 89, 92, 101, 98, 272, 273, 274, 5, 275, 235, 134, 135, 136, 137, 138, 139, 140, 478, 479, 480, 481, 95, 99, 96, 97, 90, 482, 483, 436, 437, 438, 94, 93, 484, 485, 486, 487, 386, 387, 388, 389, 91, 330, 331, 332, 333, 84, 86, 192, 193, 194, 195, 85, 300, 301, 302, 303, 239, 240, 241, 242, 87, 88, 334, 335, 336, 358, 359, 360, 488, 489, 490, 491, 492, 493, 494, 495, 496, 497, 498, 499, 500, 501, 502, 503, 767, 768, 769, 770, 771, 772, 773, 774, 775, 776, 777, 778, 779, 780, 781, 782, 783, 784, 785, 786, 787, 788] (by decide +kernel) (by decide +kernel)
set_option maxRecDepth 20000 in
theorem gL_law_X6_plan : GoodIn wsL_law (wsV RL 169 RX6 yX6_plan wsX6_plan) := goodIn_app (goodIn_of _ (by decide +kernel)) ggL_law_X6_plan
set_option maxRecDepth 20000 in
theorem ggL_law_X5_hasPlan : GoodIn wsL_law wsX5_hasPlan := goodIn_r _ [507, 29, 508, 509, 510, 28, 511, 259, 763, 764, 765, 766, 804, 805, 806, 807, 808, 809, 810, 811, 812, 813, 814, 815, 816] (by decide +kernel) (by decide +kernel)
set_option maxRecDepth 20000 in
theorem gL_law_X5_hasPlan : GoodIn wsL_law (wsV RL 170 RX5 yX5_hasPlan wsX5_hasPlan) := goodIn_app (goodIn_of _ (by decide +kernel)) ggL_law_X5_hasPlan
set_option maxRecDepth 20000 in
theorem ggL_law_X6_hasPlan : GoodIn wsL_law wsX6_hasPlan := goodIn_r _ [515, 129, 271, 767, 768, 769, 770, 771, 772, 773, 774, 775, 776, 777, 778, 779, 780, 781, 782, 783, 784, 785, 786, 787, 788] (by decide +kernel) (by decide +kernel)
set_option maxRecDepth 20000 in
theorem gL_law_X6_hasPlan : GoodIn wsL_law (wsV RL 174 RX6 yX6_hasPlan wsX6_hasPlan) := goodIn_app (goodIn_of _ (by decide +kernel)) ggL_law_X6_hasPlan
set_option maxRecDepth 20000 in
theorem ggL_law_L_nodeCount : GoodIn wsL_law wsL_nodeCount := goodIn_ca (goodIn_r _ [518, 107, 519, 520, 521, 2, 522, 29, 412, 523, 524, 525, 526, 112, 113, 508, 509, 510, 28, 511, 259, 763, 764, 765, 766, 804, 805, 806, 807, 808, 809, 810, 811, 812, 813, 814, 815, 816] (by decide +kernel) (by decide +kernel)) (goodIn_sub (fun _ h => List.mem_append_left _ (List.mem_append_left _ (List.mem_append_left _ (List.mem_append_right _ h)))) (by decide +kernel))
set_option maxRecDepth 20000 in
theorem gL_law_L_nodeCount : GoodIn wsL_law (va_wsS RL 175 yL_nodeCount wsL_nodeCount) := goodIn_app (goodIn_of _ (by decide +kernel)) ggL_law_L_nodeCount
set_option maxRecDepth 20000 in
theorem ggL_law_X6_nodeCount : GoodIn wsL_law wsX6_nodeCount := goodIn_r _ [530, 477, 531, 532, 533, 5, 534, 271, 129, 767, 768, 769, 770, 771, 772, 773, 774, 775, 776, 777, 778, 779, 780, 781, 782, 783, 784, 785, 786, 787, 788] (by decide +kernel) (by decide +kernel)
set_option maxRecDepth 20000 in
theorem gL_law_X6_nodeCount : GoodIn wsL_law (wsV RL 178 RX6 yX6_nodeCount wsX6_nodeCount) := goodIn_app (goodIn_of _ (by decide +kernel)) ggL_law_X6_nodeCount
set_option maxRecDepth 20000 in
theorem ggL_law_L_size : GoodIn wsL_law wsL_size := goodIn_ca (goodIn_r _ [537, 107, 538, 539, 540, 2, 541, 29, 542, 523, 524, 525, 526, 112, 113, 508, 509, 510, 28, 511, 259, 763, 764, 765, 766, 804, 805, 806, 807, 808, 809, 810, 811, 812, 813, 814, 815, 816] (by decide +kernel) (by decide +kernel)) (goodIn_sub (fun _ h => List.mem_append_left _ (List.mem_append_left _ (List.mem_append_left _ (List.mem_append_right _ h)))) (by decide +kernel))
set_option maxRecDepth 20000 in
theorem gL_law_L_size : GoodIn wsL_law (va_wsS RL 179 yL_size wsL_size) := goodIn_app (goodIn_of _ (by decide +kernel)) ggL_law_L_size
set_option maxRecDepth 20000 in
theorem ggL_law_X6_size : GoodIn wsL_law wsX6_size := goodIn_r _ [546, 531, 532, 533, 5, 534, 271, 129, 500, 501, 502, 503, 477, 89, 95, 767, 768, 769, 770, 771, 772, 773, 774, 775, 776, 777, 778, 779, 780, 781, 782, 783, 784, 785, 786, 787, 788] (by decide +kernel) (by decide +kernel)
set_option maxRecDepth 20000 in
theorem gL_law_X6_size : GoodIn wsL_law (wsV RL 181 RX6 yX6_size wsX6_size) := goodIn_app (goodIn_of _ (by decide +kernel)) ggL_law_X6_size
set_option maxRecDepth 20000 in
theorem ggL_law_L_method : GoodIn wsL_law wsL_method := goodIn_ca (goodIn_ca (goodIn_r _ [549, 107, 106, 550, 551, 552, 2, 553, 29, 554, 555, 556, 557, 558, 119, 120, 412, 523, 524, 525, 526, 112, 113, 508, 509, 510, 28, 511, 259, 763, 764, 765, 766, 804, 805, 806, 807, 808, 809, 810, 811, 812, 813, 814, 815, 816] (by decide +kernel) (by decide +kernel)) (goodIn_sub (fun _ h => List.mem_append_left _ (List.mem_append_left _ (List.mem_append_right _ h))) (by decide +kernel))) (goodIn_sub (fun _ h => List.mem_append_left _ (List.mem_append_left _ (List.mem_append_left _ (List.mem_append_right _ h)))) (by decide +kernel))
set_option maxRecDepth 20000 in
theorem gL_law_L_method : GoodIn wsL_law (va_wsS RL 182 yL_method wsL_method) := goodIn_app (goodIn_of _ (by decide +kernel)) ggL_law_L_method
set_option maxRecDepth 20000 in
theorem ggL_law_X6_method : GoodIn wsL_law wsX6_method := goodIn_r _ [562, 95, 563, 564, 565, 5, 566, 271, 477, 129, 134, 135, 136, 767, 768, 769, 770, 771, 772, 773, 774, 775, 776, 777, 778, 779, 780, 781, 782, 783, 784, 785, 786, 787, 788] (by decide +kernel) (by decide +kernel)
set_option maxRecDepth 20000 in
theorem gL_law_X6_method : GoodIn wsL_law (wsV RL 184 RX6 yX6_method wsX6_method) := goodIn_app (goodIn_of _ (by decide +kernel)) ggL_law_X6_method
set_option maxRecDepth 20000 in
theorem ggL_law_L_parentNode : GoodIn wsL_law wsL_parentNode := goodIn_ca (goodIn_ca (goodIn_r _ [569, 107, 106, 570, 571, 572, 2, 573, 29, 574, 555, 556, 557, 558, 119, 120, 412, 523, 524, 525, 526, 112, 113, 508, 509, 510, 28, 511, 259, 763, 764, 765, 766, 804, 805, 806, 807, 808, 809, 810, 811, 812, 813, 814, 815, 816] (by decide +kernel) (by decide +kernel)) (goodIn_sub (fun _ h => List.mem_append_left _ (List.mem_append_left _ (List.mem_append_right _ h))) (by decide +kernel))) (goodIn_sub (fun _ h => List.mem_append_left _ (List.mem_append_left _ (List.mem_append_left _ (List.mem_append_right _ h)))) (by decide +kernel))
set_option maxRecDepth 20000 in
theorem gL_law_L_parentNode : GoodIn wsL_law (va_wsS RL 185 yL_parentNode wsL_parentNode) := goodIn_app (goodIn_of _ (by decide +kernel)) ggL_law_L_parentNode
set_option maxRecDepth 20000 in
theorem ggL_law_X6_parentNode : GoodIn wsL_law wsX6_parentNode := goodIn_r _ [578, 96, 563, 564, 565, 5, 566, 271, 477, 129, 134, 135, 136, 767, 768, 769, 770, 771, 772, 773, 774, 775, 776, 777, 778, 779, 780, 781, 782, 783, 784, 785, 786, 787, 788] (by decide +kernel) (by decide +kernel)
set_option maxRecDepth 20000 in
theorem gL_law_X6_parentNode : GoodIn wsL_law (wsV RL 187 RX6 yX6_parentNode wsX6_parentNode) := goodIn_app (goodIn_of _ (by decide +kernel)) ggL_law_X6_parentNode
set_option maxRecDepth 20000 in
theorem ggL_law_L_siteOf : GoodIn wsL_law wsL_siteOf := goodIn_ca (goodIn_ca (goodIn_r _ [581, 107, 106, 582, 583, 584, 2, 585, 29, 586, 555, 556, 557, 558, 119, 120, 412, 523, 524, 525, 526, 112, 113, 508, 509, 510, 28, 511, 259, 763, 764, 765, 766, 804, 805, 806, 807, 808, 809, 810, 811, 812, 813, 814, 815, 816] (by decide +kernel) (by decide +kernel)) (goodIn_sub (fun _ h => List.mem_append_left _ (List.mem_append_left _ (List.mem_append_right _ h))) (by decide +kernel))) (goodIn_sub (fun _ h => List.mem_append_left _ (List.mem_append_left _ (List.mem_append_left _ (List.mem_append_right _ h)))) (by decide +kernel))
set_option maxRecDepth 20000 in
theorem gL_law_L_siteOf : GoodIn wsL_law (va_wsS RL 188 yL_siteOf wsL_siteOf) := goodIn_app (goodIn_of _ (by decide +kernel)) ggL_law_L_siteOf
set_option maxRecDepth 20000 in
theorem ggL_law_X6_siteOf : GoodIn wsL_law wsX6_siteOf := goodIn_r _ [590, 97, 563, 564, 565, 5, 566, 271, 477, 129, 134, 135, 136, 767, 768, 769, 770, 771, 772, 773, 774, 775, 776, 777, 778, 779, 780, 781, 782, 783, 784, 785, 786, 787, 788] (by decide +kernel) (by decide +kernel)
set_option maxRecDepth 20000 in
theorem gL_law_X6_siteOf : GoodIn wsL_law (wsV RL 190 RX6 yX6_siteOf wsX6_siteOf) := goodIn_app (goodIn_of _ (by decide +kernel)) ggL_law_X6_siteOf
set_option maxRecDepth 20000 in
theorem ggL_law_L_depth : GoodIn wsL_law wsL_depth := goodIn_ca (goodIn_ca (goodIn_r _ [593, 107, 106, 594, 595, 596, 2, 597, 29, 598, 555, 556, 557, 558, 119, 120, 412, 523, 524, 525, 526, 112, 113, 508, 509, 510, 28, 511, 259, 763, 764, 765, 766, 804, 805, 806, 807, 808, 809, 810, 811, 812, 813, 814, 815, 816] (by decide +kernel) (by decide +kernel)) (goodIn_sub (fun _ h => List.mem_append_left _ (List.mem_append_left _ (List.mem_append_right _ h))) (by decide +kernel))) (goodIn_sub (fun _ h => List.mem_append_left _ (List.mem_append_left _ (List.mem_append_left _ (List.mem_append_right _ h)))) (by decide +kernel))
set_option maxRecDepth 20000 in
theorem gL_law_L_depth : GoodIn wsL_law (va_wsS RL 191 yL_depth wsL_depth) := goodIn_app (goodIn_of _ (by decide +kernel)) ggL_law_L_depth
set_option maxRecDepth 20000 in
theorem ggL_law_X6_depth : GoodIn wsL_law wsX6_depth := goodIn_r _ [602, 98, 563, 564, 565, 5, 566, 271, 477, 129, 134, 135, 136, 767, 768, 769, 770, 771, 772, 773, 774, 775, 776, 777, 778, 779, 780, 781, 782, 783, 784, 785, 786, 787, 788] (by decide +kernel) (by decide +kernel)
set_option maxRecDepth 20000 in
theorem gL_law_X6_depth : GoodIn wsL_law (wsV RL 193 RX6 yX6_depth wsX6_depth) := goodIn_app (goodIn_of _ (by decide +kernel)) ggL_law_X6_depth
set_option maxRecDepth 20000 in
theorem ggL_law_L_siteCount : GoodIn wsL_law wsL_siteCount := goodIn_ca (goodIn_ca (goodIn_r _ [605, 107, 106, 606, 607, 608, 2, 609, 29, 555, 556, 557, 558, 119, 120, 412, 523, 524, 525, 526, 112, 113, 508, 509, 510, 28, 511, 259, 610, 425, 426, 427, 73, 428, 61, 763, 764, 765, 766, 804, 805, 806, 807, 808, 809, 810, 811, 812, 813, 814, 815, 816, 793, 794, 795, 796, 797, 798, 799, 800] (by decide +kernel) (by decide +kernel)) (goodIn_sub (fun _ h => List.mem_append_left _ (List.mem_append_left _ (List.mem_append_right _ h))) (by decide +kernel))) (goodIn_sub (fun _ h => List.mem_append_left _ (List.mem_append_left _ (List.mem_append_left _ (List.mem_append_right _ h)))) (by decide +kernel))
set_option maxRecDepth 20000 in
theorem gL_law_L_siteCount : GoodIn wsL_law (va_wsS RL 194 yL_siteCount wsL_siteCount) := goodIn_app (goodIn_of _ (by decide +kernel)) ggL_law_L_siteCount
set_option maxRecDepth 20000 in
theorem ggL_law_X6_siteCount : GoodIn wsL_law wsX6_siteCount := goodIn_r _ [614, 90, 95, 563, 564, 565, 5, 566, 271, 477, 129, 134, 135, 136, 767, 768, 769, 770, 771, 772, 773, 774, 775, 776, 777, 778, 779, 780, 781, 782, 783, 784, 785, 786, 787, 788] (by decide +kernel) (by decide +kernel)
set_option maxRecDepth 20000 in
theorem gL_law_X6_siteCount : GoodIn wsL_law (wsV RL 196 RX6 yX6_siteCount wsX6_siteCount) := goodIn_app (goodIn_of _ (by decide +kernel)) ggL_law_X6_siteCount
set_option maxRecDepth 20000 in
theorem ggL_law_L_verdict : GoodIn wsL_law wsL_verdict := goodIn_ca (goodIn_ca (goodIn_r _ [617, 107, 106, 618, 619, 620, 2, 621, 29, 622, 623, 624, 625, 626, 119, 120, 555, 556, 557, 558, 412, 523, 524, 525, 526, 112, 113, 508, 509, 510, 28, 511, 259, 610, 425, 426, 427, 73, 428, 61, 627, 265, 266, 763, 764, 765, 766, 804, 805, 806, 807, 808, 809, 810, 811, 812, 813, 814, 815, 816, 793, 794, 795, 796, 797, 798, 799, 800] (by decide +kernel) (by decide +kernel)) (goodIn_sub (fun _ h => List.mem_append_left _ (List.mem_append_left _ (List.mem_append_right _ h))) (by decide +kernel))) (goodIn_sub (fun _ h => List.mem_append_left _ (List.mem_append_left _ (List.mem_append_left _ (List.mem_append_right _ h)))) (by decide +kernel))
set_option maxRecDepth 20000 in
theorem gL_law_L_verdict : GoodIn wsL_law (va_wsS RL 197 yL_verdict wsL_verdict) := goodIn_app (goodIn_of _ (by decide +kernel)) ggL_law_L_verdict
set_option maxRecDepth 20000 in
theorem ggL_law_X6_verdict : GoodIn wsL_law wsX6_verdict := goodIn_r _ [631, 100, 632, 633, 634, 5, 635, 90, 95, 129, 563, 564, 565, 566, 271, 477, 134, 135, 136, 767, 768, 769, 770, 771, 772, 773, 774, 775, 776, 777, 778, 779, 780, 781, 782, 783, 784, 785, 786, 787, 788] (by decide +kernel) (by decide +kernel)
set_option maxRecDepth 20000 in
theorem gL_law_X6_verdict : GoodIn wsL_law (wsV RL 199 RX6 yX6_verdict wsX6_verdict) := goodIn_app (goodIn_of _ (by decide +kernel)) ggL_law_X6_verdict
set_option maxRecDepth 20000 in
theorem ggL_law_L_weight : GoodIn wsL_law wsL_weight := goodIn_ca (goodIn_ca (goodIn_r _ [638, 107, 106, 639, 640, 641, 2, 642, 29, 643, 623, 624, 625, 626, 119, 120, 555, 556, 557, 558, 412, 523, 524, 525, 526, 112, 113, 508, 509, 510, 28, 511, 259, 610, 425, 426, 427, 73, 428, 61, 627, 265, 266, 763, 764, 765, 766, 804, 805, 806, 807, 808, 809, 810, 811, 812, 813, 814, 815, 816, 793, 794, 795, 796, 797, 798, 799, 800] (by decide +kernel) (by decide +kernel)) (goodIn_sub (fun _ h => List.mem_append_left _ (List.mem_append_left _ (List.mem_append_right _ h))) (by decide +kernel))) (goodIn_sub (fun _ h => List.mem_append_left _ (List.mem_append_left _ (List.mem_append_left _ (List.mem_append_right _ h)))) (by decide +kernel))
set_option maxRecDepth 20000 in
theorem gL_law_L_weight : GoodIn wsL_law (va_wsS RL 200 yL_weight wsL_weight) := goodIn_app (goodIn_of _ (by decide +kernel)) ggL_law_L_weight
set_option maxRecDepth 20000 in
theorem ggL_law_X6_weight : GoodIn wsL_law wsX6_weight := goodIn_r _ [647, 101, 632, 633, 634, 5, 635, 90, 95, 129, 563, 564, 565, 566, 271, 477, 134, 135, 136, 767, 768, 769, 770, 771, 772, 773, 774, 775, 776, 777, 778, 779, 780, 781, 782, 783, 784, 785, 786, 787, 788] (by decide +kernel) (by decide +kernel)
set_option maxRecDepth 20000 in
theorem gL_law_X6_weight : GoodIn wsL_law (wsV RL 202 RX6 yX6_weight wsX6_weight) := goodIn_app (goodIn_of _ (by decide +kernel)) ggL_law_X6_weight
set_option maxRecDepth 20000 in
theorem ggL_law_L_weightOf : GoodIn wsL_law wsL_weightOf := goodIn_ca (goodIn_ca (goodIn_r _ [650, 107, 106, 651, 652, 653, 2, 654, 119, 120, 29, 523, 524, 525, 526, 112, 113, 508, 509, 510, 28, 511, 259, 655, 656, 657, 658, 65, 66, 424, 425, 426, 427, 73, 428, 61, 265, 266, 763, 764, 765, 766, 804, 805, 806, 807, 808, 809, 810, 811, 812, 813, 814, 815, 816, 793, 794, 795, 796, 797, 798, 799, 800] (by decide +kernel) (by decide +kernel)) (goodIn_sub (fun _ h => List.mem_append_left _ (List.mem_append_left _ (List.mem_append_right _ h))) (by decide +kernel))) (goodIn_sub (fun _ h => List.mem_append_left _ (List.mem_append_left _ (List.mem_append_left _ (List.mem_append_right _ h)))) (by decide +kernel))
set_option maxRecDepth 20000 in
theorem gL_law_L_weightOf : GoodIn wsL_law (va_wsS RL 203 yL_weightOf wsL_weightOf) := goodIn_app (goodIn_of _ (by decide +kernel)) ggL_law_L_weightOf
set_option maxRecDepth 20000 in
theorem ggL_law_X6_weightOf : GoodIn wsL_law wsX6_weightOf := goodIn_r _ [662, 271, 129, 134, 135, 5, 136, 663, 664, 665, 666, 477, 90, 95, 100, 101, 767, 768, 769, 770, 771, 772, 773, 774, 775, 776, 777, 778, 779, 780, 781, 782, 783, 784, 785, 786, 787, 788] (by decide +kernel) (by decide +kernel)
set_option maxRecDepth 20000 in
theorem gL_law_X6_weightOf : GoodIn wsL_law (wsV RL 205 RX6 yX6_weightOf wsX6_weightOf) := goodIn_app (goodIn_of _ (by decide +kernel)) ggL_law_X6_weightOf
set_option maxRecDepth 20000 in
theorem ggL_law_L_share : GoodIn wsL_law wsL_share := goodIn_ca (goodIn_r _ [669, 107, 670, 671, 672, 2, 673, 29, 523, 524, 525, 526, 112, 113, 508, 509, 510, 28, 511, 259, 655, 656, 657, 658, 65, 66, 424, 425, 426, 427, 73, 428, 61, 265, 266, 763, 764, 765, 766, 804, 805, 806, 807, 808, 809, 810, 811, 812, 813, 814, 815, 816, 793, 794, 795, 796, 797, 798, 799, 800] (by decide +kernel) (by decide +kernel)) (goodIn_sub (fun _ h => List.mem_append_left _ (List.mem_append_left _ (List.mem_append_left _ (List.mem_append_right _ h)))) (by decide +kernel))
set_option maxRecDepth 20000 in
theorem gL_law_L_share : GoodIn wsL_law (va_wsS RL 206 yL_share wsL_share) := goodIn_app (goodIn_of _ (by decide +kernel)) ggL_law_L_share
set_option maxRecDepth 20000 in
theorem ggL_law_X6_share : GoodIn wsL_law wsX6_share := goodIn_r _ [677, 531, 532, 533, 5, 534, 271, 129, 663, 664, 665, 666, 477, 90, 95, 100, 101, 767, 768, 769, 770, 771, 772, 773, 774, 775, 776, 777, 778, 779, 780, 781, 782, 783, 784, 785, 786, 787, 788] (by decide +kernel) (by decide +kernel)
set_option maxRecDepth 20000 in
theorem gL_law_X6_share : GoodIn wsL_law (wsV RL 209 RX6 yX6_share wsX6_share) := goodIn_app (goodIn_of _ (by decide +kernel)) ggL_law_X6_share
set_option maxRecDepth 20000 in
theorem ggL_law_L_holds : GoodIn wsL_law wsL_holds := goodIn_ca (goodIn_ca (goodIn_r _ [680, 107, 106, 681, 682, 683, 2, 684, 29, 555, 556, 557, 558, 119, 120, 412, 523, 524, 525, 526, 112, 113, 508, 509, 510, 28, 511, 259, 685, 686, 687, 688, 62, 73, 61, 63, 439, 378, 379, 20, 380, 47, 48, 265, 266, 381, 312, 313, 314, 50, 315, 316, 317, 185, 186, 16, 187, 38, 318, 292, 293, 294, 49, 295, 763, 764, 765, 766, 804, 805, 806, 807, 808, 809, 810, 811, 812, 813, 814, 815, 816, 793, 794, 795, 796, 797, 798, 799, 800, 789, 790, 791, 792] (by decide +kernel) (by decide +kernel)) (goodIn_sub (fun _ h => List.mem_append_left _ (List.mem_append_left _ (List.mem_append_right _ h))) (by decide +kernel))) (goodIn_sub (fun _ h => List.mem_append_left _ (List.mem_append_left _ (List.mem_append_left _ (List.mem_append_right _ h)))) (by decide +kernel))
set_option maxRecDepth 20000 in
theorem gL_law_L_holds : GoodIn wsL_law (va_wsS RL 210 yL_holds wsL_holds) := goodIn_app (goodIn_of _ (by decide +kernel)) ggL_law_L_holds
set_option maxRecDepth 20000 in
theorem ggL_law_X6_holds : GoodIn wsL_law wsX6_holds := goodIn_r _ [692, 563, 564, 565, 5, 566, 271, 477, 129, 134, 135, 136, 693, 694, 695, 696, 96, 97, 95, 484, 485, 486, 487, 386, 387, 388, 389, 91, 330, 331, 332, 333, 84, 86, 192, 193, 194, 195, 85, 300, 301, 302, 303, 239, 240, 241, 242, 235, 87, 88, 767, 768, 769, 770, 771, 772, 773, 774, 775, 776, 777, 778, 779, 780, 781, 782, 783, 784, 785, 786, 787, 788] (by decide +kernel) (by decide +kernel)
set_option maxRecDepth 20000 in
theorem gL_law_X6_holds : GoodIn wsL_law (wsV RL 212 RX6 yX6_holds wsX6_holds) := goodIn_app (goodIn_of _ (by decide +kernel)) ggL_law_X6_holds
set_option maxRecDepth 20000 in
theorem ggL_law_L_firstBroken : GoodIn wsL_law wsL_firstBroken := goodIn_ca (goodIn_r _ [699, 107, 700, 701, 702, 2, 703, 29, 412, 523, 524, 525, 526, 112, 113, 508, 509, 510, 28, 511, 259, 685, 686, 687, 688, 62, 73, 61, 63, 439, 378, 379, 20, 380, 47, 48, 265, 266, 381, 312, 313, 314, 50, 315, 316, 317, 185, 186, 16, 187, 38, 318, 292, 293, 294, 49, 295, 763, 764, 765, 766, 804, 805, 806, 807, 808, 809, 810, 811, 812, 813, 814, 815, 816, 793, 794, 795, 796, 797, 798, 799, 800, 789, 790, 791, 792] (by decide +kernel) (by decide +kernel)) (goodIn_sub (fun _ h => List.mem_append_left _ (List.mem_append_left _ (List.mem_append_left _ (List.mem_append_right _ h)))) (by decide +kernel))
set_option maxRecDepth 20000 in
theorem gL_law_L_firstBroken : GoodIn wsL_law (va_wsS RL 213 yL_firstBroken wsL_firstBroken) := goodIn_app (goodIn_of _ (by decide +kernel)) ggL_law_L_firstBroken
set_option maxRecDepth 20000 in
theorem ggL_law_X6_firstBroken : GoodIn wsL_law wsX6_firstBroken := goodIn_r _ [707, 477, 531, 532, 533, 5, 534, 271, 129, 693, 694, 695, 696, 96, 97, 95, 484, 485, 486, 487, 386, 387, 388, 389, 91, 330, 331, 332, 333, 84, 86, 192, 193, 194, 195, 85, 300, 301, 302, 303, 239, 240, 241, 242, 235, 87, 88, 767, 768, 769, 770, 771, 772, 773, 774, 775, 776, 777, 778, 779, 780, 781, 782, 783, 784, 785, 786, 787, 788] (by decide +kernel) (by decide +kernel)
set_option maxRecDepth 20000 in
theorem gL_law_X6_firstBroken : GoodIn wsL_law (wsV RL 215 RX6 yX6_firstBroken wsX6_firstBroken) := goodIn_app (goodIn_of _ (by decide +kernel)) ggL_law_X6_firstBroken
set_option maxRecDepth 20000 in
theorem ggL_law_L_prune : GoodIn wsL_law wsL_prune := goodIn_ca (goodIn_r _ [710, 107, 711, 712, 713, 2, 714, 29, 412, 523, 524, 525, 526, 112, 113, 508, 509, 510, 28, 511, 259, 715, 716, 717, 718, 260, 72, 73, 418, 61, 719, 720, 721, 722, 62, 65, 63, 723, 686, 687, 688, 439, 378, 379, 20, 380, 47, 48, 265, 266, 381, 312, 313, 314, 50, 315, 316, 317, 185, 186, 16, 187, 38, 318, 292, 293, 294, 49, 295, 724, 725, 726, 727, 64, 66, 424, 425, 426, 427, 428, 763, 764, 765, 766, 804, 805, 806, 807, 808, 809, 810, 811, 812, 813, 814, 815, 816, 793, 794, 795, 796, 797, 798, 799, 800, 789, 790, 791, 792] (by decide +kernel) (by decide +kernel)) (goodIn_sub (fun _ h => List.mem_append_left _ (List.mem_append_left _ (List.mem_append_left _ (List.mem_append_right _ h)))) (by decide +kernel))
set_option maxRecDepth 20000 in
theorem gL_law_L_prune : GoodIn wsL_law (va_wsS RL 216 yL_prune wsL_prune) := goodIn_app (goodIn_of _ (by decide +kernel)) ggL_law_L_prune
set_option maxRecDepth 20000 in
theorem ggL_law_X6_prune : GoodIn wsL_law wsX6_prune := goodIn_r _ [731, 34, 477, 96, 100, 97, 531, 532, 533, 5, 534, 271, 129, 693, 694, 695, 696, 95, 484, 485, 486, 487, 386, 387, 388, 389, 91, 330, 331, 332, 333, 84, 86, 192, 193, 194, 195, 85, 300, 301, 302, 303, 239, 240, 241, 242, 235, 87, 88, 732, 733, 734, 735, 99, 98, 101, 767, 768, 769, 770, 771, 772, 773, 774, 775, 776, 777, 778, 779, 780, 781, 782, 783, 784, 785, 786, 787, 788] (by decide +kernel) (by decide +kernel)
set_option maxRecDepth 20000 in
theorem gL_law_X6_prune : GoodIn wsL_law (wsV RL 218 RX6 yX6_prune wsX6_prune) := goodIn_app (goodIn_of _ (by decide +kernel)) ggL_law_X6_prune
set_option maxRecDepth 20000 in
theorem ggL_law_X5_digest : GoodIn wsL_law wsX5_digest := goodIn_r _ [739, 17, 740, 21, 217, 25, 29, 741, 742, 743, 16, 744, 39, 35, 37, 745, 2, 746, 747, 748, 749, 750, 751, 24, 752, 54, 55, 56, 508, 509, 510, 28, 511, 259, 753, 754, 755, 756, 61, 62, 65, 66, 424, 425, 426, 427, 73, 428, 265, 266, 763, 764, 765, 766, 793, 794, 795, 796, 797, 798, 799, 800, 789, 790, 791, 792, 801, 802, 803, 804, 805, 806, 807, 808, 809, 810, 811, 812, 813, 814, 815, 816] (by decide +kernel) (by decide +kernel)
set_option maxRecDepth 20000 in
theorem gL_law_X5_digest : GoodIn wsL_law (wsV RL 219 RX5 yX5_digest wsX5_digest) := goodIn_app (goodIn_of _ (by decide +kernel)) ggL_law_X5_digest
set_option maxRecDepth 20000 in
theorem ggL_law_X6_digest : GoodIn wsL_law wsX6_digest := goodIn_r _ [760, 129, 761, 84, 762, 85, 86, 235, 92, 93, 94, 271, 477, 95, 96, 90, 100, 101, 767, 768, 769, 770, 771, 772, 773, 774, 775, 776, 777, 778, 779, 780, 781, 782, 783, 784, 785, 786, 787, 788] (by decide +kernel) (by decide +kernel)
set_option maxRecDepth 20000 in
theorem gL_law_X6_digest : GoodIn wsL_law (wsV RL 223 RX6 yX6_digest wsX6_digest) := goodIn_app (goodIn_of _ (by decide +kernel)) ggL_law_X6_digest
