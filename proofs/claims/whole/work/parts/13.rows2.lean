set_option maxRecDepth 20000 in
theorem gX5_checkNode_X5_checkPlan : GoodIn wsX5_checkNode (wsV RX5 150 RX5 yX5_checkPlan wsX5_checkPlan) := goodIn_app (goodIn_of _ (by decide +kernel)) ggX5_checkNode_X5_checkPlan
theorem dX5_checkNode_0 : decode cX5_checkNode 0 = .ok (.aload_n 0, 1) := by decide +kernel
theorem dX5_checkNode_1 : decode cX5_checkNode 1 = .ok (.invokevirtual 150, 3) := by decide +kernel
theorem dX5_checkNode_4 : decode cX5_checkNode 4 = .ok (.iload_n 1, 1) := by decide +kernel
theorem dX5_checkNode_5 : decode cX5_checkNode 5 = .ok (.ifCond .lt 14, 3) := by decide +kernel
theorem dX5_checkNode_8 : decode cX5_checkNode 8 = .ok (.iload_n 1, 1) := by decide +kernel
theorem dX5_checkNode_9 : decode cX5_checkNode 9 = .ok (.aload_n 0, 1) := by decide +kernel
theorem dX5_checkNode_10 : decode cX5_checkNode 10 = .ok (.getfield 37, 3) := by decide +kernel
theorem dX5_checkNode_13 : decode cX5_checkNode 13 = .ok (.getfield 145, 3) := by decide +kernel
theorem dX5_checkNode_16 : decode cX5_checkNode 16 = .ok (.if_icmp .lt 13, 3) := by decide +kernel
theorem dX5_checkNode_19 : decode cX5_checkNode 19 = .ok (.new 185, 3) := by decide +kernel
theorem dX5_checkNode_22 : decode cX5_checkNode 22 = .ok (.dup, 1) := by decide +kernel
theorem dX5_checkNode_23 : decode cX5_checkNode 23 = .ok (.ldc 221, 2) := by decide +kernel
theorem dX5_checkNode_25 : decode cX5_checkNode 25 = .ok (.invokespecial 189, 3) := by decide +kernel
theorem dX5_checkNode_28 : decode cX5_checkNode 28 = .ok (.athrow, 1) := by decide +kernel
theorem dX5_checkNode_29 : decode cX5_checkNode 29 = .ok (.return_, 1) := by decide +kernel
set_option maxRecDepth 20000 in
theorem ggX5_checkSite_X5_checkNode : GoodIn wsX5_checkSite wsX5_checkNode := goodIn_ca (goodIn_ca (goodIn_r _ [8, 1, 2, 3, 9, 10, 11, 12, 7, 13, 14, 15, 16, 17, 18, 19, 20, 21, 29, 30, 31, 32, 33, 34, 35, 36, 37, 38, 39, 40, 41, 42, 43, 44, 45] (by decide +kernel) (by decide +kernel)) (goodIn_sub (fun _ h => List.mem_cons_of_mem _ (List.mem_append_left _ (List.mem_append_right _ h))) (by decide +kernel))) (goodIn_sub (fun _ h => List.mem_cons_of_mem _ (List.mem_append_right _ h)) (by decide +kernel))
set_option maxRecDepth 20000 in
theorem gX5_checkSite_X5_checkNode : GoodIn wsX5_checkSite (wsV RX5 156 RX5 yX5_checkNode wsX5_checkNode) := goodIn_app (goodIn_of _ (by decide +kernel)) ggX5_checkSite_X5_checkNode
set_option maxRecDepth 20000 in
theorem ggX5_checkSite_X3_sitesAt : GoodIn wsX5_checkSite wsX3_sitesAt := goodIn_r _ [25, 26, 27, 28, 33, 34, 35, 36, 37, 38, 39, 40, 41, 42, 43, 44, 45, 46, 47, 48, 49, 50, 51, 52, 53] (by decide +kernel) (by decide +kernel)
set_option maxRecDepth 20000 in
theorem gX5_checkSite_X3_sitesAt : GoodIn wsX5_checkSite (wsV RX5 169 RX3 yX3_sitesAt wsX3_sitesAt) := goodIn_app (goodIn_of _ (by decide +kernel)) ggX5_checkSite_X3_sitesAt
theorem dX5_checkSite_0 : decode cX5_checkSite 0 = .ok (.aload_n 0, 1) := by decide +kernel
theorem dX5_checkSite_1 : decode cX5_checkSite 1 = .ok (.iload_n 1, 1) := by decide +kernel
theorem dX5_checkSite_2 : decode cX5_checkSite 2 = .ok (.invokevirtual 156, 3) := by decide +kernel
theorem dX5_checkSite_5 : decode cX5_checkSite 5 = .ok (.iload_n 2, 1) := by decide +kernel
theorem dX5_checkSite_6 : decode cX5_checkSite 6 = .ok (.ifCond .lt 15, 3) := by decide +kernel
theorem dX5_checkSite_9 : decode cX5_checkSite 9 = .ok (.iload_n 2, 1) := by decide +kernel
theorem dX5_checkSite_10 : decode cX5_checkSite 10 = .ok (.aload_n 0, 1) := by decide +kernel
theorem dX5_checkSite_11 : decode cX5_checkSite 11 = .ok (.getfield 37, 3) := by decide +kernel
theorem dX5_checkSite_14 : decode cX5_checkSite 14 = .ok (.iload_n 1, 1) := by decide +kernel
theorem dX5_checkSite_15 : decode cX5_checkSite 15 = .ok (.invokevirtual 169, 3) := by decide +kernel
theorem dX5_checkSite_18 : decode cX5_checkSite 18 = .ok (.if_icmp .lt 13, 3) := by decide +kernel
theorem dX5_checkSite_21 : decode cX5_checkSite 21 = .ok (.new 185, 3) := by decide +kernel
theorem dX5_checkSite_24 : decode cX5_checkSite 24 = .ok (.dup, 1) := by decide +kernel
theorem dX5_checkSite_25 : decode cX5_checkSite 25 = .ok (.ldc 223, 2) := by decide +kernel
theorem dX5_checkSite_27 : decode cX5_checkSite 27 = .ok (.invokespecial 189, 3) := by decide +kernel
theorem dX5_checkSite_30 : decode cX5_checkSite 30 = .ok (.athrow, 1) := by decide +kernel
theorem dX5_checkSite_31 : decode cX5_checkSite 31 = .ok (.return_, 1) := by decide +kernel
theorem dX5_slot_0 : decode cX5_slot 0 = .ok (.iload_n 0, 1) := by decide +kernel
theorem dX5_slot_1 : decode cX5_slot 1 = .ok (.bipush 8, 2) := by decide +kernel
theorem dX5_slot_3 : decode cX5_slot 3 = .ok (.imul, 1) := by decide +kernel
theorem dX5_slot_4 : decode cX5_slot 4 = .ok (.iload_n 1, 1) := by decide +kernel
theorem dX5_slot_5 : decode cX5_slot 5 = .ok (.iadd, 1) := by decide +kernel
theorem dX5_slot_6 : decode cX5_slot 6 = .ok (.ireturn, 1) := by decide +kernel
theorem dX5_mix_0 : decode cX5_mix 0 = .ok (.lload_n 0, 1) := by decide +kernel
theorem dX5_mix_1 : decode cX5_mix 1 = .ok (.ldc2_w 225, 3) := by decide +kernel
theorem dX5_mix_4 : decode cX5_mix 4 = .ok (.lmul, 1) := by decide +kernel
theorem dX5_mix_5 : decode cX5_mix 5 = .ok (.iload_n 2, 1) := by decide +kernel
theorem dX5_mix_6 : decode cX5_mix 6 = .ok (.i2l, 1) := by decide +kernel
theorem dX5_mix_7 : decode cX5_mix 7 = .ok (.ladd, 1) := by decide +kernel
theorem dX5_mix_8 : decode cX5_mix 8 = .ok (.lreturn, 1) := by decide +kernel
theorem dX6_init_0 : decode cX6_init 0 = .ok (.aload_n 0, 1) := by decide +kernel
theorem dX6_init_1 : decode cX6_init 1 = .ok (.invokespecial 1, 3) := by decide +kernel
theorem dX6_init_4 : decode cX6_init 4 = .ok (.aload_n 0, 1) := by decide +kernel
theorem dX6_init_5 : decode cX6_init 5 = .ok (.iconst 1, 1) := by decide +kernel
theorem dX6_init_6 : decode cX6_init 6 = .ok (.putfield 7, 3) := by decide +kernel
theorem dX6_init_9 : decode cX6_init 9 = .ok (.aload_n 0, 1) := by decide +kernel
theorem dX6_init_10 : decode cX6_init 10 = .ok (.bipush 16, 2) := by decide +kernel
theorem dX6_init_12 : decode cX6_init 12 = .ok (.newarray .int, 2) := by decide +kernel
theorem dX6_init_14 : decode cX6_init 14 = .ok (.putfield 13, 3) := by decide +kernel
theorem dX6_init_17 : decode cX6_init 17 = .ok (.aload_n 0, 1) := by decide +kernel
theorem dX6_init_18 : decode cX6_init 18 = .ok (.bipush 16, 2) := by decide +kernel
theorem dX6_init_20 : decode cX6_init 20 = .ok (.newarray .boolean, 2) := by decide +kernel
theorem dX6_init_22 : decode cX6_init 22 = .ok (.putfield 17, 3) := by decide +kernel
theorem dX6_init_25 : decode cX6_init 25 = .ok (.aload_n 0, 1) := by decide +kernel
theorem dX6_init_26 : decode cX6_init 26 = .ok (.bipush 30, 2) := by decide +kernel
theorem dX6_init_28 : decode cX6_init 28 = .ok (.newarray .int, 2) := by decide +kernel
theorem dX6_init_30 : decode cX6_init 30 = .ok (.putfield 21, 3) := by decide +kernel
theorem dX6_init_33 : decode cX6_init 33 = .ok (.aload_n 0, 1) := by decide +kernel
theorem dX6_init_34 : decode cX6_init 34 = .ok (.bipush 30, 2) := by decide +kernel
theorem dX6_init_36 : decode cX6_init 36 = .ok (.newarray .int, 2) := by decide +kernel
theorem dX6_init_38 : decode cX6_init 38 = .ok (.putfield 24, 3) := by decide +kernel
theorem dX6_init_41 : decode cX6_init 41 = .ok (.aload_n 0, 1) := by decide +kernel
theorem dX6_init_42 : decode cX6_init 42 = .ok (.bipush 30, 2) := by decide +kernel
theorem dX6_init_44 : decode cX6_init 44 = .ok (.newarray .int, 2) := by decide +kernel
theorem dX6_init_46 : decode cX6_init 46 = .ok (.putfield 27, 3) := by decide +kernel
theorem dX6_init_49 : decode cX6_init 49 = .ok (.aload_n 0, 1) := by decide +kernel
theorem dX6_init_50 : decode cX6_init 50 = .ok (.bipush 30, 2) := by decide +kernel
theorem dX6_init_52 : decode cX6_init 52 = .ok (.newarray .int, 2) := by decide +kernel
theorem dX6_init_54 : decode cX6_init 54 = .ok (.putfield 30, 3) := by decide +kernel
theorem dX6_init_57 : decode cX6_init 57 = .ok (.aload_n 0, 1) := by decide +kernel
theorem dX6_init_58 : decode cX6_init 58 = .ok (.sipush 720, 3) := by decide +kernel
theorem dX6_init_61 : decode cX6_init 61 = .ok (.newarray .int, 2) := by decide +kernel
theorem dX6_init_63 : decode cX6_init 63 = .ok (.putfield 33, 3) := by decide +kernel
theorem dX6_init_66 : decode cX6_init 66 = .ok (.aload_n 0, 1) := by decide +kernel
theorem dX6_init_67 : decode cX6_init 67 = .ok (.sipush 200, 3) := by decide +kernel
theorem dX6_init_70 : decode cX6_init 70 = .ok (.putfield 36, 3) := by decide +kernel
theorem dX6_init_73 : decode cX6_init 73 = .ok (.aload_n 0, 1) := by decide +kernel
theorem dX6_init_74 : decode cX6_init 74 = .ok (.iconst 4, 1) := by decide +kernel
theorem dX6_init_75 : decode cX6_init 75 = .ok (.putfield 39, 3) := by decide +kernel
theorem dX6_init_78 : decode cX6_init 78 = .ok (.aload_n 0, 1) := by decide +kernel
theorem dX6_init_79 : decode cX6_init 79 = .ok (.iconst 1, 1) := by decide +kernel
theorem dX6_init_80 : decode cX6_init 80 = .ok (.putfield 42, 3) := by decide +kernel
theorem dX6_init_83 : decode cX6_init 83 = .ok (.aload_n 0, 1) := by decide +kernel
theorem dX6_init_84 : decode cX6_init 84 = .ok (.bipush 50, 2) := by decide +kernel
theorem dX6_init_86 : decode cX6_init 86 = .ok (.newarray .int, 2) := by decide +kernel
theorem dX6_init_88 : decode cX6_init 88 = .ok (.putfield 45, 3) := by decide +kernel
theorem dX6_init_91 : decode cX6_init 91 = .ok (.aload_n 0, 1) := by decide +kernel
theorem dX6_init_92 : decode cX6_init 92 = .ok (.bipush 50, 2) := by decide +kernel
theorem dX6_init_94 : decode cX6_init 94 = .ok (.newarray .int, 2) := by decide +kernel
theorem dX6_init_96 : decode cX6_init 96 = .ok (.putfield 48, 3) := by decide +kernel
theorem dX6_init_99 : decode cX6_init 99 = .ok (.aload_n 0, 1) := by decide +kernel
theorem dX6_init_100 : decode cX6_init 100 = .ok (.bipush 50, 2) := by decide +kernel
theorem dX6_init_102 : decode cX6_init 102 = .ok (.newarray .int, 2) := by decide +kernel
theorem dX6_init_104 : decode cX6_init 104 = .ok (.putfield 51, 3) := by decide +kernel
theorem dX6_init_107 : decode cX6_init 107 = .ok (.aload_n 0, 1) := by decide +kernel
theorem dX6_init_108 : decode cX6_init 108 = .ok (.bipush 50, 2) := by decide +kernel
theorem dX6_init_110 : decode cX6_init 110 = .ok (.newarray .int, 2) := by decide +kernel
theorem dX6_init_112 : decode cX6_init 112 = .ok (.putfield 54, 3) := by decide +kernel
theorem dX6_init_115 : decode cX6_init 115 = .ok (.aload_n 0, 1) := by decide +kernel
theorem dX6_init_116 : decode cX6_init 116 = .ok (.bipush 50, 2) := by decide +kernel
theorem dX6_init_118 : decode cX6_init 118 = .ok (.newarray .int, 2) := by decide +kernel
theorem dX6_init_120 : decode cX6_init 120 = .ok (.putfield 57, 3) := by decide +kernel
theorem dX6_init_123 : decode cX6_init 123 = .ok (.aload_n 0, 1) := by decide +kernel
theorem dX6_init_124 : decode cX6_init 124 = .ok (.sipush 400, 3) := by decide +kernel
theorem dX6_init_127 : decode cX6_init 127 = .ok (.newarray .int, 2) := by decide +kernel
theorem dX6_init_129 : decode cX6_init 129 = .ok (.putfield 60, 3) := by decide +kernel
theorem dX6_init_132 : decode cX6_init 132 = .ok (.aload_n 0, 1) := by decide +kernel
theorem dX6_init_133 : decode cX6_init 133 = .ok (.sipush 400, 3) := by decide +kernel
theorem dX6_init_136 : decode cX6_init 136 = .ok (.newarray .int, 2) := by decide +kernel
theorem dX6_init_138 : decode cX6_init 138 = .ok (.putfield 63, 3) := by decide +kernel
theorem dX6_init_141 : decode cX6_init 141 = .ok (.aload_n 0, 1) := by decide +kernel
theorem dX6_init_142 : decode cX6_init 142 = .ok (.getfield 13, 3) := by decide +kernel
theorem dX6_init_145 : decode cX6_init 145 = .ok (.iconst 0, 1) := by decide +kernel
theorem dX6_init_146 : decode cX6_init 146 = .ok (.iconst (-1), 1) := by decide +kernel
theorem dX6_init_147 : decode cX6_init 147 = .ok (.iastore, 1) := by decide +kernel
theorem dX6_init_148 : decode cX6_init 148 = .ok (.return_, 1) := by decide +kernel
theorem dX6_thrown_0 : decode cX6_thrown 0 = .ok (.aload_n 0, 1) := by decide +kernel
theorem dX6_thrown_1 : decode cX6_thrown 1 = .ok (.getfield 66, 3) := by decide +kernel
theorem dX6_thrown_4 : decode cX6_thrown 4 = .ok (.ireturn, 1) := by decide +kernel
theorem dX6_no_0 : decode cX6_no 0 = .ok (.aload_n 0, 1) := by decide +kernel
theorem dX6_no_1 : decode cX6_no 1 = .ok (.iload_n 1, 1) := by decide +kernel
theorem dX6_no_2 : decode cX6_no 2 = .ok (.putfield 66, 3) := by decide +kernel
theorem dX6_no_5 : decode cX6_no 5 = .ok (.iconst 0, 1) := by decide +kernel
theorem dX6_no_6 : decode cX6_no 6 = .ok (.ireturn, 1) := by decide +kernel
theorem dX6_isIn_0 : decode cX6_isIn 0 = .ok (.iload_n 0, 1) := by decide +kernel
theorem dX6_isIn_1 : decode cX6_isIn 1 = .ok (.iload_n 1, 1) := by decide +kernel
theorem dX6_isIn_2 : decode cX6_isIn 2 = .ok (.if_icmp .lt 12, 3) := by decide +kernel
theorem dX6_isIn_5 : decode cX6_isIn 5 = .ok (.iload_n 0, 1) := by decide +kernel
theorem dX6_isIn_6 : decode cX6_isIn 6 = .ok (.iload_n 2, 1) := by decide +kernel
theorem dX6_isIn_7 : decode cX6_isIn 7 = .ok (.if_icmp .gt 7, 3) := by decide +kernel
theorem dX6_isIn_10 : decode cX6_isIn 10 = .ok (.iconst 1, 1) := by decide +kernel
theorem dX6_isIn_11 : decode cX6_isIn 11 = .ok (.goto 4, 3) := by decide +kernel
theorem dX6_isIn_14 : decode cX6_isIn 14 = .ok (.iconst 0, 1) := by decide +kernel
theorem dX6_isIn_15 : decode cX6_isIn 15 = .ok (.ireturn, 1) := by decide +kernel
set_option maxRecDepth 20000 in
theorem ggX6_isClass_X6_isIn : GoodIn wsX6_isClass wsX6_isIn := goodIn_r _ [5] (by decide +kernel) (by decide +kernel)
set_option maxRecDepth 20000 in
theorem gX6_isClass_X6_isIn : GoodIn wsX6_isClass (va_wsS RX6 69 yX6_isIn wsX6_isIn) := goodIn_app (goodIn_of _ (by decide +kernel)) ggX6_isClass_X6_isIn
theorem dX6_isClass_0 : decode cX6_isClass 0 = .ok (.iload_n 1, 1) := by decide +kernel
theorem dX6_isClass_1 : decode cX6_isClass 1 = .ok (.iconst 0, 1) := by decide +kernel
theorem dX6_isClass_2 : decode cX6_isClass 2 = .ok (.aload_n 0, 1) := by decide +kernel
theorem dX6_isClass_3 : decode cX6_isClass 3 = .ok (.getfield 7, 3) := by decide +kernel
theorem dX6_isClass_6 : decode cX6_isClass 6 = .ok (.iconst 1, 1) := by decide +kernel
theorem dX6_isClass_7 : decode cX6_isClass 7 = .ok (.isub, 1) := by decide +kernel
theorem dX6_isClass_8 : decode cX6_isClass 8 = .ok (.invokestatic 69, 3) := by decide +kernel
theorem dX6_isClass_11 : decode cX6_isClass 11 = .ok (.ireturn, 1) := by decide +kernel
set_option maxRecDepth 20000 in
theorem ggX6_isMethod_X6_isIn : GoodIn wsX6_isMethod wsX6_isIn := goodIn_r _ [5] (by decide +kernel) (by decide +kernel)
set_option maxRecDepth 20000 in
theorem gX6_isMethod_X6_isIn : GoodIn wsX6_isMethod (va_wsS RX6 69 yX6_isIn wsX6_isIn) := goodIn_app (goodIn_of _ (by decide +kernel)) ggX6_isMethod_X6_isIn
theorem dX6_isMethod_0 : decode cX6_isMethod 0 = .ok (.iload_n 1, 1) := by decide +kernel
theorem dX6_isMethod_1 : decode cX6_isMethod 1 = .ok (.iconst 0, 1) := by decide +kernel
theorem dX6_isMethod_2 : decode cX6_isMethod 2 = .ok (.aload_n 0, 1) := by decide +kernel
theorem dX6_isMethod_3 : decode cX6_isMethod 3 = .ok (.getfield 73, 3) := by decide +kernel
theorem dX6_isMethod_6 : decode cX6_isMethod 6 = .ok (.iconst 1, 1) := by decide +kernel
theorem dX6_isMethod_7 : decode cX6_isMethod 7 = .ok (.isub, 1) := by decide +kernel
theorem dX6_isMethod_8 : decode cX6_isMethod 8 = .ok (.invokestatic 69, 3) := by decide +kernel
theorem dX6_isMethod_11 : decode cX6_isMethod 11 = .ok (.ireturn, 1) := by decide +kernel
set_option maxRecDepth 20000 in
theorem ggX6_isSelector_X6_isIn : GoodIn wsX6_isSelector wsX6_isIn := goodIn_r _ [4] (by decide +kernel) (by decide +kernel)
set_option maxRecDepth 20000 in
theorem gX6_isSelector_X6_isIn : GoodIn wsX6_isSelector (va_wsS RX6 69 yX6_isIn wsX6_isIn) := goodIn_app (goodIn_of _ (by decide +kernel)) ggX6_isSelector_X6_isIn
theorem dX6_isSelector_0 : decode cX6_isSelector 0 = .ok (.iload_n 0, 1) := by decide +kernel
theorem dX6_isSelector_1 : decode cX6_isSelector 1 = .ok (.iconst 0, 1) := by decide +kernel
theorem dX6_isSelector_2 : decode cX6_isSelector 2 = .ok (.bipush 7, 2) := by decide +kernel
theorem dX6_isSelector_4 : decode cX6_isSelector 4 = .ok (.invokestatic 69, 3) := by decide +kernel
theorem dX6_isSelector_7 : decode cX6_isSelector 7 = .ok (.ireturn, 1) := by decide +kernel
set_option maxRecDepth 20000 in
theorem ggX6_addClass_X6_isClass : GoodIn wsX6_addClass wsX6_isClass := goodIn_r _ [9, 2, 10, 11, 8, 12, 17, 18, 19, 20, 21, 22, 23, 24, 25, 26, 27, 28, 29, 30, 31, 32, 33, 34, 35, 36, 37, 38] (by decide +kernel) (by decide +kernel)
set_option maxRecDepth 20000 in
theorem gX6_addClass_X6_isClass : GoodIn wsX6_addClass (wsV RX6 76 RX6 yX6_isClass wsX6_isClass) := goodIn_app (goodIn_of _ (by decide +kernel)) ggX6_addClass_X6_isClass
set_option maxRecDepth 20000 in
theorem ggX6_addClass_X6_no : GoodIn wsX6_addClass wsX6_no := goodIn_r _ [16, 1, 17, 18, 19, 20, 21, 22, 23, 24, 25, 26, 27, 28, 29, 30, 31, 32, 33, 34, 35, 36, 37, 38] (by decide +kernel) (by decide +kernel)
set_option maxRecDepth 20000 in
theorem gX6_addClass_X6_no : GoodIn wsX6_addClass (wsV RX6 80 RX6 yX6_no wsX6_no) := goodIn_app (goodIn_of _ (by decide +kernel)) ggX6_addClass_X6_no
theorem dX6_addClass_0 : decode cX6_addClass 0 = .ok (.aload_n 0, 1) := by decide +kernel
theorem dX6_addClass_1 : decode cX6_addClass 1 = .ok (.iconst 0, 1) := by decide +kernel
theorem dX6_addClass_2 : decode cX6_addClass 2 = .ok (.putfield 66, 3) := by decide +kernel
theorem dX6_addClass_5 : decode cX6_addClass 5 = .ok (.aload_n 0, 1) := by decide +kernel
theorem dX6_addClass_6 : decode cX6_addClass 6 = .ok (.iload_n 1, 1) := by decide +kernel
theorem dX6_addClass_7 : decode cX6_addClass 7 = .ok (.invokevirtual 76, 3) := by decide +kernel
theorem dX6_addClass_10 : decode cX6_addClass 10 = .ok (.ifCond .ne 9, 3) := by decide +kernel
theorem dX6_addClass_13 : decode cX6_addClass 13 = .ok (.aload_n 0, 1) := by decide +kernel
theorem dX6_addClass_14 : decode cX6_addClass 14 = .ok (.iconst 1, 1) := by decide +kernel
theorem dX6_addClass_15 : decode cX6_addClass 15 = .ok (.invokevirtual 80, 3) := by decide +kernel
theorem dX6_addClass_18 : decode cX6_addClass 18 = .ok (.ireturn, 1) := by decide +kernel
theorem dX6_addClass_19 : decode cX6_addClass 19 = .ok (.aload_n 0, 1) := by decide +kernel
theorem dX6_addClass_20 : decode cX6_addClass 20 = .ok (.getfield 7, 3) := by decide +kernel
theorem dX6_addClass_23 : decode cX6_addClass 23 = .ok (.bipush 16, 2) := by decide +kernel
theorem dX6_addClass_25 : decode cX6_addClass 25 = .ok (.if_icmp .ne 9, 3) := by decide +kernel
theorem dX6_addClass_28 : decode cX6_addClass 28 = .ok (.aload_n 0, 1) := by decide +kernel
theorem dX6_addClass_29 : decode cX6_addClass 29 = .ok (.iconst 2, 1) := by decide +kernel
theorem dX6_addClass_30 : decode cX6_addClass 30 = .ok (.invokevirtual 80, 3) := by decide +kernel
theorem dX6_addClass_33 : decode cX6_addClass 33 = .ok (.ireturn, 1) := by decide +kernel
theorem dX6_addClass_34 : decode cX6_addClass 34 = .ok (.aload_n 0, 1) := by decide +kernel
theorem dX6_addClass_35 : decode cX6_addClass 35 = .ok (.getfield 13, 3) := by decide +kernel
theorem dX6_addClass_38 : decode cX6_addClass 38 = .ok (.aload_n 0, 1) := by decide +kernel
theorem dX6_addClass_39 : decode cX6_addClass 39 = .ok (.getfield 7, 3) := by decide +kernel
theorem dX6_addClass_42 : decode cX6_addClass 42 = .ok (.iload_n 1, 1) := by decide +kernel
theorem dX6_addClass_43 : decode cX6_addClass 43 = .ok (.iastore, 1) := by decide +kernel
theorem dX6_addClass_44 : decode cX6_addClass 44 = .ok (.aload_n 0, 1) := by decide +kernel
theorem dX6_addClass_45 : decode cX6_addClass 45 = .ok (.getfield 17, 3) := by decide +kernel
theorem dX6_addClass_48 : decode cX6_addClass 48 = .ok (.aload_n 0, 1) := by decide +kernel
theorem dX6_addClass_49 : decode cX6_addClass 49 = .ok (.getfield 7, 3) := by decide +kernel
theorem dX6_addClass_52 : decode cX6_addClass 52 = .ok (.iconst 0, 1) := by decide +kernel
theorem dX6_addClass_53 : decode cX6_addClass 53 = .ok (.bastore, 1) := by decide +kernel
theorem dX6_addClass_54 : decode cX6_addClass 54 = .ok (.aload_n 0, 1) := by decide +kernel
theorem dX6_addClass_55 : decode cX6_addClass 55 = .ok (.dup, 1) := by decide +kernel
theorem dX6_addClass_56 : decode cX6_addClass 56 = .ok (.getfield 7, 3) := by decide +kernel
theorem dX6_addClass_59 : decode cX6_addClass 59 = .ok (.iconst 1, 1) := by decide +kernel
theorem dX6_addClass_60 : decode cX6_addClass 60 = .ok (.iadd, 1) := by decide +kernel
theorem dX6_addClass_61 : decode cX6_addClass 61 = .ok (.putfield 7, 3) := by decide +kernel
theorem dX6_addClass_64 : decode cX6_addClass 64 = .ok (.aload_n 0, 1) := by decide +kernel
theorem dX6_addClass_65 : decode cX6_addClass 65 = .ok (.getfield 7, 3) := by decide +kernel
theorem dX6_addClass_68 : decode cX6_addClass 68 = .ok (.iconst 1, 1) := by decide +kernel
theorem dX6_addClass_69 : decode cX6_addClass 69 = .ok (.isub, 1) := by decide +kernel
theorem dX6_addClass_70 : decode cX6_addClass 70 = .ok (.ireturn, 1) := by decide +kernel
set_option maxRecDepth 20000 in
theorem ggX6_setLive_X6_isClass : GoodIn wsX6_setLive wsX6_isClass := goodIn_r _ [7, 8, 9, 10, 6, 11, 12, 13, 14, 15, 16, 17, 18, 19, 20, 21, 22, 23, 24, 25, 26, 27, 28, 29, 30, 31, 32, 33] (by decide +kernel) (by decide +kernel)
set_option maxRecDepth 20000 in
theorem gX6_setLive_X6_isClass : GoodIn wsX6_setLive (wsV RX6 76 RX6 yX6_isClass wsX6_isClass) := goodIn_app (goodIn_of _ (by decide +kernel)) ggX6_setLive_X6_isClass
theorem dX6_setLive_0 : decode cX6_setLive 0 = .ok (.aload_n 0, 1) := by decide +kernel
theorem dX6_setLive_1 : decode cX6_setLive 1 = .ok (.aload_n 0, 1) := by decide +kernel
theorem dX6_setLive_2 : decode cX6_setLive 2 = .ok (.iload_n 1, 1) := by decide +kernel
theorem dX6_setLive_3 : decode cX6_setLive 3 = .ok (.invokevirtual 76, 3) := by decide +kernel
theorem dX6_setLive_6 : decode cX6_setLive 6 = .ok (.ifCond .eq 7, 3) := by decide +kernel
theorem dX6_setLive_9 : decode cX6_setLive 9 = .ok (.iconst 0, 1) := by decide +kernel
theorem dX6_setLive_10 : decode cX6_setLive 10 = .ok (.goto 4, 3) := by decide +kernel
theorem dX6_setLive_13 : decode cX6_setLive 13 = .ok (.iconst 1, 1) := by decide +kernel
theorem dX6_setLive_14 : decode cX6_setLive 14 = .ok (.putfield 66, 3) := by decide +kernel
theorem dX6_setLive_17 : decode cX6_setLive 17 = .ok (.aload_n 0, 1) := by decide +kernel
theorem dX6_setLive_18 : decode cX6_setLive 18 = .ok (.getfield 66, 3) := by decide +kernel
theorem dX6_setLive_21 : decode cX6_setLive 21 = .ok (.ifCond .eq 5, 3) := by decide +kernel
theorem dX6_setLive_24 : decode cX6_setLive 24 = .ok (.iconst 0, 1) := by decide +kernel
theorem dX6_setLive_25 : decode cX6_setLive 25 = .ok (.ireturn, 1) := by decide +kernel
theorem dX6_setLive_26 : decode cX6_setLive 26 = .ok (.aload_n 0, 1) := by decide +kernel
theorem dX6_setLive_27 : decode cX6_setLive 27 = .ok (.getfield 17, 3) := by decide +kernel
theorem dX6_setLive_30 : decode cX6_setLive 30 = .ok (.iload_n 1, 1) := by decide +kernel
theorem dX6_setLive_31 : decode cX6_setLive 31 = .ok (.baload, 1) := by decide +kernel
theorem dX6_setLive_32 : decode cX6_setLive 32 = .ok (.istore_n 3, 1) := by decide +kernel
theorem dX6_setLive_33 : decode cX6_setLive 33 = .ok (.aload_n 0, 1) := by decide +kernel
theorem dX6_setLive_34 : decode cX6_setLive 34 = .ok (.getfield 17, 3) := by decide +kernel
theorem dX6_setLive_37 : decode cX6_setLive 37 = .ok (.iload_n 1, 1) := by decide +kernel
theorem dX6_setLive_38 : decode cX6_setLive 38 = .ok (.iload_n 2, 1) := by decide +kernel
theorem dX6_setLive_39 : decode cX6_setLive 39 = .ok (.bastore, 1) := by decide +kernel
theorem dX6_setLive_40 : decode cX6_setLive 40 = .ok (.iload_n 3, 1) := by decide +kernel
theorem dX6_setLive_41 : decode cX6_setLive 41 = .ok (.ireturn, 1) := by decide +kernel
theorem dX6_classCount_0 : decode cX6_classCount 0 = .ok (.aload_n 0, 1) := by decide +kernel
theorem dX6_classCount_1 : decode cX6_classCount 1 = .ok (.iconst 0, 1) := by decide +kernel
theorem dX6_classCount_2 : decode cX6_classCount 2 = .ok (.putfield 66, 3) := by decide +kernel
theorem dX6_classCount_5 : decode cX6_classCount 5 = .ok (.aload_n 0, 1) := by decide +kernel
theorem dX6_classCount_6 : decode cX6_classCount 6 = .ok (.getfield 7, 3) := by decide +kernel
theorem dX6_classCount_9 : decode cX6_classCount 9 = .ok (.ireturn, 1) := by decide +kernel
set_option maxRecDepth 20000 in
theorem ggX6_parent_X6_isClass : GoodIn wsX6_parent wsX6_isClass := goodIn_r _ [7, 8, 9, 10, 6, 11, 16, 17, 18, 19, 20, 21, 22, 23, 24, 25, 26, 27, 28, 29, 30, 31, 32, 33, 34, 35, 36, 37] (by decide +kernel) (by decide +kernel)
set_option maxRecDepth 20000 in
theorem gX6_parent_X6_isClass : GoodIn wsX6_parent (wsV RX6 76 RX6 yX6_isClass wsX6_isClass) := goodIn_app (goodIn_of _ (by decide +kernel)) ggX6_parent_X6_isClass
set_option maxRecDepth 20000 in
theorem ggX6_parent_X6_no : GoodIn wsX6_parent wsX6_no := goodIn_r _ [15, 1, 16, 17, 18, 19, 20, 21, 22, 23, 24, 25, 26, 27, 28, 29, 30, 31, 32, 33, 34, 35, 36, 37] (by decide +kernel) (by decide +kernel)
set_option maxRecDepth 20000 in
theorem gX6_parent_X6_no : GoodIn wsX6_parent (wsV RX6 80 RX6 yX6_no wsX6_no) := goodIn_app (goodIn_of _ (by decide +kernel)) ggX6_parent_X6_no
theorem dX6_parent_0 : decode cX6_parent 0 = .ok (.aload_n 0, 1) := by decide +kernel
theorem dX6_parent_1 : decode cX6_parent 1 = .ok (.iconst 0, 1) := by decide +kernel
theorem dX6_parent_2 : decode cX6_parent 2 = .ok (.putfield 66, 3) := by decide +kernel
theorem dX6_parent_5 : decode cX6_parent 5 = .ok (.aload_n 0, 1) := by decide +kernel
theorem dX6_parent_6 : decode cX6_parent 6 = .ok (.iload_n 1, 1) := by decide +kernel
theorem dX6_parent_7 : decode cX6_parent 7 = .ok (.invokevirtual 76, 3) := by decide +kernel
theorem dX6_parent_10 : decode cX6_parent 10 = .ok (.ifCond .eq 12, 3) := by decide +kernel
theorem dX6_parent_13 : decode cX6_parent 13 = .ok (.aload_n 0, 1) := by decide +kernel
theorem dX6_parent_14 : decode cX6_parent 14 = .ok (.getfield 13, 3) := by decide +kernel
theorem dX6_parent_17 : decode cX6_parent 17 = .ok (.iload_n 1, 1) := by decide +kernel
theorem dX6_parent_18 : decode cX6_parent 18 = .ok (.iaload, 1) := by decide +kernel
theorem dX6_parent_19 : decode cX6_parent 19 = .ok (.goto 8, 3) := by decide +kernel
theorem dX6_parent_22 : decode cX6_parent 22 = .ok (.aload_n 0, 1) := by decide +kernel
theorem dX6_parent_23 : decode cX6_parent 23 = .ok (.iconst 1, 1) := by decide +kernel
theorem dX6_parent_24 : decode cX6_parent 24 = .ok (.invokevirtual 80, 3) := by decide +kernel
theorem dX6_parent_27 : decode cX6_parent 27 = .ok (.ireturn, 1) := by decide +kernel
theorem dX6_below_0 : decode cX6_below 0 = .ok (.iload_n 1, 1) := by decide +kernel
theorem dX6_below_1 : decode cX6_below 1 = .ok (.istore_n 3, 1) := by decide +kernel
theorem dX6_below_2 : decode cX6_below 2 = .ok (.iload_n 3, 1) := by decide +kernel
theorem dX6_below_3 : decode cX6_below 3 = .ok (.iconst (-1), 1) := by decide +kernel
theorem dX6_below_4 : decode cX6_below 4 = .ok (.if_icmp .eq 18, 3) := by decide +kernel
theorem dX6_below_7 : decode cX6_below 7 = .ok (.iload_n 3, 1) := by decide +kernel
theorem dX6_below_8 : decode cX6_below 8 = .ok (.iload_n 2, 1) := by decide +kernel
theorem dX6_below_9 : decode cX6_below 9 = .ok (.if_icmp .eq 13, 3) := by decide +kernel
theorem dX6_below_12 : decode cX6_below 12 = .ok (.aload_n 0, 1) := by decide +kernel
theorem dX6_below_13 : decode cX6_below 13 = .ok (.getfield 13, 3) := by decide +kernel
theorem dX6_below_16 : decode cX6_below 16 = .ok (.iload_n 3, 1) := by decide +kernel
theorem dX6_below_17 : decode cX6_below 17 = .ok (.iaload, 1) := by decide +kernel
theorem dX6_below_18 : decode cX6_below 18 = .ok (.istore_n 3, 1) := by decide +kernel
theorem dX6_below_19 : decode cX6_below 19 = .ok (.goto (-17), 3) := by decide +kernel
theorem dX6_below_22 : decode cX6_below 22 = .ok (.iload_n 3, 1) := by decide +kernel
theorem dX6_below_23 : decode cX6_below 23 = .ok (.iload_n 2, 1) := by decide +kernel
theorem dX6_below_24 : decode cX6_below 24 = .ok (.if_icmp .ne 7, 3) := by decide +kernel
theorem dX6_below_27 : decode cX6_below 27 = .ok (.iconst 1, 1) := by decide +kernel
theorem dX6_below_28 : decode cX6_below 28 = .ok (.goto 4, 3) := by decide +kernel
theorem dX6_below_31 : decode cX6_below 31 = .ok (.iconst 0, 1) := by decide +kernel
theorem dX6_below_32 : decode cX6_below 32 = .ok (.ireturn, 1) := by decide +kernel
set_option maxRecDepth 20000 in
theorem ggX6_isBelow_X6_isClass : GoodIn wsX6_isBelow wsX6_isClass := goodIn_r _ [6, 7, 8, 9, 5, 10, 16, 17, 18, 19, 20, 21, 22, 23, 24, 25, 26, 27, 28, 29, 30, 31, 32, 33, 34, 35, 36, 37] (by decide +kernel) (by decide +kernel)
set_option maxRecDepth 20000 in
theorem gX6_isBelow_X6_isClass : GoodIn wsX6_isBelow (wsV RX6 76 RX6 yX6_isClass wsX6_isClass) := goodIn_app (goodIn_of _ (by decide +kernel)) ggX6_isBelow_X6_isClass
set_option maxRecDepth 20000 in
theorem ggX6_isBelow_X6_below : GoodIn wsX6_isBelow wsX6_below := goodIn_r _ [14, 15, 16, 17, 18, 19, 20, 21, 22, 23, 24, 25, 26, 27, 28, 29, 30, 31, 32, 33, 34, 35, 36, 37] (by decide +kernel) (by decide +kernel)
set_option maxRecDepth 20000 in
theorem gX6_isBelow_X6_below : GoodIn wsX6_isBelow (wsV RX6 84 RX6 yX6_below wsX6_below) := goodIn_app (goodIn_of _ (by decide +kernel)) ggX6_isBelow_X6_below
theorem dX6_isBelow_0 : decode cX6_isBelow 0 = .ok (.aload_n 0, 1) := by decide +kernel
theorem dX6_isBelow_1 : decode cX6_isBelow 1 = .ok (.aload_n 0, 1) := by decide +kernel
theorem dX6_isBelow_2 : decode cX6_isBelow 2 = .ok (.iload_n 1, 1) := by decide +kernel
theorem dX6_isBelow_3 : decode cX6_isBelow 3 = .ok (.invokevirtual 76, 3) := by decide +kernel
theorem dX6_isBelow_6 : decode cX6_isBelow 6 = .ok (.ifCond .eq 15, 3) := by decide +kernel
theorem dX6_isBelow_9 : decode cX6_isBelow 9 = .ok (.aload_n 0, 1) := by decide +kernel
theorem dX6_isBelow_10 : decode cX6_isBelow 10 = .ok (.iload_n 2, 1) := by decide +kernel
theorem dX6_isBelow_11 : decode cX6_isBelow 11 = .ok (.invokevirtual 76, 3) := by decide +kernel
theorem dX6_isBelow_14 : decode cX6_isBelow 14 = .ok (.ifCond .eq 7, 3) := by decide +kernel
theorem dX6_isBelow_17 : decode cX6_isBelow 17 = .ok (.iconst 0, 1) := by decide +kernel
theorem dX6_isBelow_18 : decode cX6_isBelow 18 = .ok (.goto 4, 3) := by decide +kernel
theorem dX6_isBelow_21 : decode cX6_isBelow 21 = .ok (.iconst 1, 1) := by decide +kernel
theorem dX6_isBelow_22 : decode cX6_isBelow 22 = .ok (.putfield 66, 3) := by decide +kernel
theorem dX6_isBelow_25 : decode cX6_isBelow 25 = .ok (.aload_n 0, 1) := by decide +kernel
theorem dX6_isBelow_26 : decode cX6_isBelow 26 = .ok (.getfield 66, 3) := by decide +kernel
theorem dX6_isBelow_29 : decode cX6_isBelow 29 = .ok (.ifCond .ne 16, 3) := by decide +kernel
theorem dX6_isBelow_32 : decode cX6_isBelow 32 = .ok (.aload_n 0, 1) := by decide +kernel
theorem dX6_isBelow_33 : decode cX6_isBelow 33 = .ok (.iload_n 1, 1) := by decide +kernel
theorem dX6_isBelow_34 : decode cX6_isBelow 34 = .ok (.iload_n 2, 1) := by decide +kernel
theorem dX6_isBelow_35 : decode cX6_isBelow 35 = .ok (.invokevirtual 84, 3) := by decide +kernel
theorem dX6_isBelow_38 : decode cX6_isBelow 38 = .ok (.ifCond .eq 7, 3) := by decide +kernel
theorem dX6_isBelow_41 : decode cX6_isBelow 41 = .ok (.iconst 1, 1) := by decide +kernel
theorem dX6_isBelow_42 : decode cX6_isBelow 42 = .ok (.goto 4, 3) := by decide +kernel
theorem dX6_isBelow_45 : decode cX6_isBelow 45 = .ok (.iconst 0, 1) := by decide +kernel
theorem dX6_isBelow_46 : decode cX6_isBelow 46 = .ok (.ireturn, 1) := by decide +kernel
set_option maxRecDepth 20000 in
theorem ggX6_liveBelow_X6_isClass : GoodIn wsX6_liveBelow wsX6_isClass := goodIn_r _ [8, 2, 9, 10, 7, 11, 21, 22, 23, 24, 25, 26, 27, 28, 29, 30, 31, 32, 33, 34, 35, 36, 37, 38, 39, 40, 41, 42] (by decide +kernel) (by decide +kernel)
set_option maxRecDepth 20000 in
theorem gX6_liveBelow_X6_isClass : GoodIn wsX6_liveBelow (wsV RX6 76 RX6 yX6_isClass wsX6_isClass) := goodIn_app (goodIn_of _ (by decide +kernel)) ggX6_liveBelow_X6_isClass
set_option maxRecDepth 20000 in
theorem ggX6_liveBelow_X6_no : GoodIn wsX6_liveBelow wsX6_no := goodIn_r _ [15, 1, 21, 22, 23, 24, 25, 26, 27, 28, 29, 30, 31, 32, 33, 34, 35, 36, 37, 38, 39, 40, 41, 42] (by decide +kernel) (by decide +kernel)
set_option maxRecDepth 20000 in
theorem gX6_liveBelow_X6_no : GoodIn wsX6_liveBelow (wsV RX6 80 RX6 yX6_no wsX6_no) := goodIn_app (goodIn_of _ (by decide +kernel)) ggX6_liveBelow_X6_no
set_option maxRecDepth 20000 in
theorem ggX6_liveBelow_X6_below : GoodIn wsX6_liveBelow wsX6_below := goodIn_r _ [19, 20, 21, 22, 23, 24, 25, 26, 27, 28, 29, 30, 31, 32, 33, 34, 35, 36, 37, 38, 39, 40, 41, 42] (by decide +kernel) (by decide +kernel)
set_option maxRecDepth 20000 in
theorem gX6_liveBelow_X6_below : GoodIn wsX6_liveBelow (wsV RX6 84 RX6 yX6_below wsX6_below) := goodIn_app (goodIn_of _ (by decide +kernel)) ggX6_liveBelow_X6_below
theorem dX6_liveBelow_0 : decode cX6_liveBelow 0 = .ok (.aload_n 0, 1) := by decide +kernel
theorem dX6_liveBelow_1 : decode cX6_liveBelow 1 = .ok (.iconst 0, 1) := by decide +kernel
theorem dX6_liveBelow_2 : decode cX6_liveBelow 2 = .ok (.putfield 66, 3) := by decide +kernel
theorem dX6_liveBelow_5 : decode cX6_liveBelow 5 = .ok (.aload_n 0, 1) := by decide +kernel
theorem dX6_liveBelow_6 : decode cX6_liveBelow 6 = .ok (.iload_n 1, 1) := by decide +kernel
theorem dX6_liveBelow_7 : decode cX6_liveBelow 7 = .ok (.invokevirtual 76, 3) := by decide +kernel
theorem dX6_liveBelow_10 : decode cX6_liveBelow 10 = .ok (.ifCond .ne 9, 3) := by decide +kernel
theorem dX6_liveBelow_13 : decode cX6_liveBelow 13 = .ok (.aload_n 0, 1) := by decide +kernel
theorem dX6_liveBelow_14 : decode cX6_liveBelow 14 = .ok (.iconst 1, 1) := by decide +kernel
theorem dX6_liveBelow_15 : decode cX6_liveBelow 15 = .ok (.invokevirtual 80, 3) := by decide +kernel
theorem dX6_liveBelow_18 : decode cX6_liveBelow 18 = .ok (.ireturn, 1) := by decide +kernel
theorem dX6_liveBelow_19 : decode cX6_liveBelow 19 = .ok (.iconst 0, 1) := by decide +kernel
theorem dX6_liveBelow_20 : decode cX6_liveBelow 20 = .ok (.istore_n 2, 1) := by decide +kernel
theorem dX6_liveBelow_21 : decode cX6_liveBelow 21 = .ok (.iconst 0, 1) := by decide +kernel
theorem dX6_liveBelow_22 : decode cX6_liveBelow 22 = .ok (.istore_n 3, 1) := by decide +kernel
theorem dX6_liveBelow_23 : decode cX6_liveBelow 23 = .ok (.iload_n 3, 1) := by decide +kernel
theorem dX6_liveBelow_24 : decode cX6_liveBelow 24 = .ok (.aload_n 0, 1) := by decide +kernel
theorem dX6_liveBelow_25 : decode cX6_liveBelow 25 = .ok (.getfield 7, 3) := by decide +kernel
theorem dX6_liveBelow_28 : decode cX6_liveBelow 28 = .ok (.if_icmp .ge 35, 3) := by decide +kernel
theorem dX6_liveBelow_31 : decode cX6_liveBelow 31 = .ok (.iload_n 2, 1) := by decide +kernel
theorem dX6_liveBelow_32 : decode cX6_liveBelow 32 = .ok (.aload_n 0, 1) := by decide +kernel
theorem dX6_liveBelow_33 : decode cX6_liveBelow 33 = .ok (.getfield 17, 3) := by decide +kernel
theorem dX6_liveBelow_36 : decode cX6_liveBelow 36 = .ok (.iload_n 3, 1) := by decide +kernel
theorem dX6_liveBelow_37 : decode cX6_liveBelow 37 = .ok (.baload, 1) := by decide +kernel
theorem dX6_liveBelow_38 : decode cX6_liveBelow 38 = .ok (.ifCond .eq 16, 3) := by decide +kernel
theorem dX6_liveBelow_41 : decode cX6_liveBelow 41 = .ok (.aload_n 0, 1) := by decide +kernel
theorem dX6_liveBelow_42 : decode cX6_liveBelow 42 = .ok (.iload_n 3, 1) := by decide +kernel
theorem dX6_liveBelow_43 : decode cX6_liveBelow 43 = .ok (.iload_n 1, 1) := by decide +kernel
theorem dX6_liveBelow_44 : decode cX6_liveBelow 44 = .ok (.invokevirtual 84, 3) := by decide +kernel
theorem dX6_liveBelow_47 : decode cX6_liveBelow 47 = .ok (.ifCond .eq 7, 3) := by decide +kernel
theorem dX6_liveBelow_50 : decode cX6_liveBelow 50 = .ok (.iconst 1, 1) := by decide +kernel
theorem dX6_liveBelow_51 : decode cX6_liveBelow 51 = .ok (.goto 4, 3) := by decide +kernel
theorem dX6_liveBelow_54 : decode cX6_liveBelow 54 = .ok (.iconst 0, 1) := by decide +kernel
theorem dX6_liveBelow_55 : decode cX6_liveBelow 55 = .ok (.iadd, 1) := by decide +kernel
theorem dX6_liveBelow_56 : decode cX6_liveBelow 56 = .ok (.istore_n 2, 1) := by decide +kernel
theorem dX6_liveBelow_57 : decode cX6_liveBelow 57 = .ok (.iinc 3 1, 3) := by decide +kernel
theorem dX6_liveBelow_60 : decode cX6_liveBelow 60 = .ok (.goto (-37), 3) := by decide +kernel
theorem dX6_liveBelow_63 : decode cX6_liveBelow 63 = .ok (.iload_n 2, 1) := by decide +kernel
theorem dX6_liveBelow_64 : decode cX6_liveBelow 64 = .ok (.ireturn, 1) := by decide +kernel
theorem dX6_own_0 : decode cX6_own 0 = .ok (.iconst 0, 1) := by decide +kernel
theorem dX6_own_1 : decode cX6_own 1 = .ok (.istore_n 3, 1) := by decide +kernel
theorem dX6_own_2 : decode cX6_own 2 = .ok (.iload_n 3, 1) := by decide +kernel
theorem dX6_own_3 : decode cX6_own 3 = .ok (.aload_n 0, 1) := by decide +kernel
theorem dX6_own_4 : decode cX6_own 4 = .ok (.getfield 73, 3) := by decide +kernel
theorem dX6_own_7 : decode cX6_own 7 = .ok (.if_icmp .ge 31, 3) := by decide +kernel
theorem dX6_own_10 : decode cX6_own 10 = .ok (.aload_n 0, 1) := by decide +kernel
theorem dX6_own_11 : decode cX6_own 11 = .ok (.getfield 21, 3) := by decide +kernel
theorem dX6_own_14 : decode cX6_own 14 = .ok (.iload_n 3, 1) := by decide +kernel
theorem dX6_own_15 : decode cX6_own 15 = .ok (.iaload, 1) := by decide +kernel
theorem dX6_own_16 : decode cX6_own 16 = .ok (.iload_n 1, 1) := by decide +kernel
theorem dX6_own_17 : decode cX6_own 17 = .ok (.if_icmp .ne 15, 3) := by decide +kernel
theorem dX6_own_20 : decode cX6_own 20 = .ok (.aload_n 0, 1) := by decide +kernel
theorem dX6_own_21 : decode cX6_own 21 = .ok (.getfield 24, 3) := by decide +kernel
theorem dX6_own_24 : decode cX6_own 24 = .ok (.iload_n 3, 1) := by decide +kernel
theorem dX6_own_25 : decode cX6_own 25 = .ok (.iaload, 1) := by decide +kernel
theorem dX6_own_26 : decode cX6_own 26 = .ok (.iload_n 2, 1) := by decide +kernel
theorem dX6_own_27 : decode cX6_own 27 = .ok (.if_icmp .ne 5, 3) := by decide +kernel
theorem dX6_own_30 : decode cX6_own 30 = .ok (.iload_n 3, 1) := by decide +kernel
theorem dX6_own_31 : decode cX6_own 31 = .ok (.ireturn, 1) := by decide +kernel
theorem dX6_own_32 : decode cX6_own 32 = .ok (.iinc 3 1, 3) := by decide +kernel
theorem dX6_own_35 : decode cX6_own 35 = .ok (.goto (-33), 3) := by decide +kernel
theorem dX6_own_38 : decode cX6_own 38 = .ok (.iconst (-1), 1) := by decide +kernel
theorem dX6_own_39 : decode cX6_own 39 = .ok (.ireturn, 1) := by decide +kernel
set_option maxRecDepth 20000 in
theorem ggX6_find_X6_own : GoodIn wsX6_find wsX6_own := goodIn_r _ [6, 7, 8, 9, 10, 11, 12, 13, 14, 15, 16, 17, 18, 19, 20, 21, 22, 23, 24, 25, 26, 27, 28, 29, 30, 31] (by decide +kernel) (by decide +kernel)
set_option maxRecDepth 20000 in
theorem gX6_find_X6_own : GoodIn wsX6_find (wsV RX6 88 RX6 yX6_own wsX6_own) := goodIn_app (goodIn_of _ (by decide +kernel)) ggX6_find_X6_own
theorem dX6_find_0 : decode cX6_find 0 = .ok (.iload_n 1, 1) := by decide +kernel
theorem dX6_find_1 : decode cX6_find 1 = .ok (.istore_n 3, 1) := by decide +kernel
theorem dX6_find_2 : decode cX6_find 2 = .ok (.iload_n 3, 1) := by decide +kernel
theorem dX6_find_3 : decode cX6_find 3 = .ok (.iconst (-1), 1) := by decide +kernel
theorem dX6_find_4 : decode cX6_find 4 = .ok (.if_icmp .eq 30, 3) := by decide +kernel
theorem dX6_find_7 : decode cX6_find 7 = .ok (.aload_n 0, 1) := by decide +kernel
theorem dX6_find_8 : decode cX6_find 8 = .ok (.iload_n 3, 1) := by decide +kernel
theorem dX6_find_9 : decode cX6_find 9 = .ok (.iload_n 2, 1) := by decide +kernel
theorem dX6_find_10 : decode cX6_find 10 = .ok (.invokevirtual 88, 3) := by decide +kernel
theorem dX6_find_13 : decode cX6_find 13 = .ok (.iconst (-1), 1) := by decide +kernel
theorem dX6_find_14 : decode cX6_find 14 = .ok (.if_icmp .eq 10, 3) := by decide +kernel
theorem dX6_find_17 : decode cX6_find 17 = .ok (.aload_n 0, 1) := by decide +kernel
theorem dX6_find_18 : decode cX6_find 18 = .ok (.iload_n 3, 1) := by decide +kernel
theorem dX6_find_19 : decode cX6_find 19 = .ok (.iload_n 2, 1) := by decide +kernel
theorem dX6_find_20 : decode cX6_find 20 = .ok (.invokevirtual 88, 3) := by decide +kernel
theorem dX6_find_23 : decode cX6_find 23 = .ok (.ireturn, 1) := by decide +kernel
theorem dX6_find_24 : decode cX6_find 24 = .ok (.aload_n 0, 1) := by decide +kernel
theorem dX6_find_25 : decode cX6_find 25 = .ok (.getfield 13, 3) := by decide +kernel
theorem dX6_find_28 : decode cX6_find 28 = .ok (.iload_n 3, 1) := by decide +kernel
theorem dX6_find_29 : decode cX6_find 29 = .ok (.iaload, 1) := by decide +kernel
theorem dX6_find_30 : decode cX6_find 30 = .ok (.istore_n 3, 1) := by decide +kernel
theorem dX6_find_31 : decode cX6_find 31 = .ok (.goto (-29), 3) := by decide +kernel
theorem dX6_find_34 : decode cX6_find 34 = .ok (.iconst (-1), 1) := by decide +kernel
theorem dX6_find_35 : decode cX6_find 35 = .ok (.ireturn, 1) := by decide +kernel
set_option maxRecDepth 20000 in
theorem ggX6_addMethod_X6_isClass : GoodIn wsX6_addMethod wsX6_isClass := goodIn_r _ [11, 12, 13, 14, 10, 15, 27, 28, 29, 30, 31, 32, 33, 34, 35, 36, 37, 38, 39, 40, 41, 42, 43, 44, 45, 46, 47, 48] (by decide +kernel) (by decide +kernel)
set_option maxRecDepth 20000 in
theorem gX6_addMethod_X6_isClass : GoodIn wsX6_addMethod (wsV RX6 76 RX6 yX6_isClass wsX6_isClass) := goodIn_app (goodIn_of _ (by decide +kernel)) ggX6_addMethod_X6_isClass
set_option maxRecDepth 20000 in
theorem ggX6_addMethod_X6_isSelector : GoodIn wsX6_addMethod wsX6_isSelector := goodIn_r _ [18, 13, 14, 10, 15] (by decide +kernel) (by decide +kernel)
set_option maxRecDepth 20000 in
theorem gX6_addMethod_X6_isSelector : GoodIn wsX6_addMethod (va_wsS RX6 92 yX6_isSelector wsX6_isSelector) := goodIn_app (goodIn_of _ (by decide +kernel)) ggX6_addMethod_X6_isSelector
set_option maxRecDepth 20000 in
theorem ggX6_addMethod_X6_no : GoodIn wsX6_addMethod wsX6_no := goodIn_r _ [22, 1, 27, 28, 29, 30, 31, 32, 33, 34, 35, 36, 37, 38, 39, 40, 41, 42, 43, 44, 45, 46, 47, 48] (by decide +kernel) (by decide +kernel)
set_option maxRecDepth 20000 in
theorem gX6_addMethod_X6_no : GoodIn wsX6_addMethod (wsV RX6 80 RX6 yX6_no wsX6_no) := goodIn_app (goodIn_of _ (by decide +kernel)) ggX6_addMethod_X6_no
set_option maxRecDepth 20000 in
theorem ggX6_addMethod_X6_isIn : GoodIn wsX6_addMethod wsX6_isIn := goodIn_r _ [15] (by decide +kernel) (by decide +kernel)
set_option maxRecDepth 20000 in
theorem gX6_addMethod_X6_isIn : GoodIn wsX6_addMethod (va_wsS RX6 69 yX6_isIn wsX6_isIn) := goodIn_app (goodIn_of _ (by decide +kernel)) ggX6_addMethod_X6_isIn
set_option maxRecDepth 20000 in
theorem ggX6_addMethod_X6_own : GoodIn wsX6_addMethod wsX6_own := goodIn_r _ [26, 2, 3, 4, 27, 28, 29, 30, 31, 32, 33, 34, 35, 36, 37, 38, 39, 40, 41, 42, 43, 44, 45, 46, 47, 48] (by decide +kernel) (by decide +kernel)
set_option maxRecDepth 20000 in
theorem gX6_addMethod_X6_own : GoodIn wsX6_addMethod (wsV RX6 88 RX6 yX6_own wsX6_own) := goodIn_app (goodIn_of _ (by decide +kernel)) ggX6_addMethod_X6_own
theorem dX6_addMethod_0 : decode cX6_addMethod 0 = .ok (.aload_n 0, 1) := by decide +kernel
theorem dX6_addMethod_1 : decode cX6_addMethod 1 = .ok (.iconst 0, 1) := by decide +kernel
theorem dX6_addMethod_2 : decode cX6_addMethod 2 = .ok (.putfield 66, 3) := by decide +kernel
theorem dX6_addMethod_5 : decode cX6_addMethod 5 = .ok (.aload_n 0, 1) := by decide +kernel
theorem dX6_addMethod_6 : decode cX6_addMethod 6 = .ok (.iload_n 1, 1) := by decide +kernel
theorem dX6_addMethod_7 : decode cX6_addMethod 7 = .ok (.invokevirtual 76, 3) := by decide +kernel
theorem dX6_addMethod_10 : decode cX6_addMethod 10 = .ok (.ifCond .eq 10, 3) := by decide +kernel
theorem dX6_addMethod_13 : decode cX6_addMethod 13 = .ok (.iload_n 2, 1) := by decide +kernel
theorem dX6_addMethod_14 : decode cX6_addMethod 14 = .ok (.invokestatic 92, 3) := by decide +kernel
theorem dX6_addMethod_17 : decode cX6_addMethod 17 = .ok (.ifCond .ne 9, 3) := by decide +kernel
theorem dX6_addMethod_20 : decode cX6_addMethod 20 = .ok (.aload_n 0, 1) := by decide +kernel
theorem dX6_addMethod_21 : decode cX6_addMethod 21 = .ok (.iconst 1, 1) := by decide +kernel
theorem dX6_addMethod_22 : decode cX6_addMethod 22 = .ok (.invokevirtual 80, 3) := by decide +kernel
theorem dX6_addMethod_25 : decode cX6_addMethod 25 = .ok (.ireturn, 1) := by decide +kernel
theorem dX6_addMethod_26 : decode cX6_addMethod 26 = .ok (.iload_n 3, 1) := by decide +kernel
theorem dX6_addMethod_27 : decode cX6_addMethod 27 = .ok (.iconst 1, 1) := by decide +kernel
theorem dX6_addMethod_28 : decode cX6_addMethod 28 = .ok (.bipush 100, 2) := by decide +kernel
theorem dX6_addMethod_30 : decode cX6_addMethod 30 = .ok (.invokestatic 69, 3) := by decide +kernel
theorem dX6_addMethod_33 : decode cX6_addMethod 33 = .ok (.ifCond .eq 13, 3) := by decide +kernel
theorem dX6_addMethod_36 : decode cX6_addMethod 36 = .ok (.aload_n 0, 1) := by decide +kernel
theorem dX6_addMethod_37 : decode cX6_addMethod 37 = .ok (.iload_n 1, 1) := by decide +kernel
theorem dX6_addMethod_38 : decode cX6_addMethod 38 = .ok (.iload_n 2, 1) := by decide +kernel
theorem dX6_addMethod_39 : decode cX6_addMethod 39 = .ok (.invokevirtual 88, 3) := by decide +kernel
theorem dX6_addMethod_42 : decode cX6_addMethod 42 = .ok (.iconst (-1), 1) := by decide +kernel
theorem dX6_addMethod_43 : decode cX6_addMethod 43 = .ok (.if_icmp .eq 9, 3) := by decide +kernel
theorem dX6_addMethod_46 : decode cX6_addMethod 46 = .ok (.aload_n 0, 1) := by decide +kernel
theorem dX6_addMethod_47 : decode cX6_addMethod 47 = .ok (.iconst 2, 1) := by decide +kernel
theorem dX6_addMethod_48 : decode cX6_addMethod 48 = .ok (.invokevirtual 80, 3) := by decide +kernel
theorem dX6_addMethod_51 : decode cX6_addMethod 51 = .ok (.ireturn, 1) := by decide +kernel
theorem dX6_addMethod_52 : decode cX6_addMethod 52 = .ok (.aload_n 0, 1) := by decide +kernel
theorem dX6_addMethod_53 : decode cX6_addMethod 53 = .ok (.getfield 73, 3) := by decide +kernel
theorem dX6_addMethod_56 : decode cX6_addMethod 56 = .ok (.bipush 30, 2) := by decide +kernel
theorem dX6_addMethod_58 : decode cX6_addMethod 58 = .ok (.if_icmp .ne 9, 3) := by decide +kernel
theorem dX6_addMethod_61 : decode cX6_addMethod 61 = .ok (.aload_n 0, 1) := by decide +kernel
theorem dX6_addMethod_62 : decode cX6_addMethod 62 = .ok (.iconst 3, 1) := by decide +kernel
theorem dX6_addMethod_63 : decode cX6_addMethod 63 = .ok (.invokevirtual 80, 3) := by decide +kernel
theorem dX6_addMethod_66 : decode cX6_addMethod 66 = .ok (.ireturn, 1) := by decide +kernel
theorem dX6_addMethod_67 : decode cX6_addMethod 67 = .ok (.aload_n 0, 1) := by decide +kernel
theorem dX6_addMethod_68 : decode cX6_addMethod 68 = .ok (.getfield 21, 3) := by decide +kernel
theorem dX6_addMethod_71 : decode cX6_addMethod 71 = .ok (.aload_n 0, 1) := by decide +kernel
theorem dX6_addMethod_72 : decode cX6_addMethod 72 = .ok (.getfield 73, 3) := by decide +kernel
theorem dX6_addMethod_75 : decode cX6_addMethod 75 = .ok (.iload_n 1, 1) := by decide +kernel
theorem dX6_addMethod_76 : decode cX6_addMethod 76 = .ok (.iastore, 1) := by decide +kernel
theorem dX6_addMethod_77 : decode cX6_addMethod 77 = .ok (.aload_n 0, 1) := by decide +kernel
theorem dX6_addMethod_78 : decode cX6_addMethod 78 = .ok (.getfield 24, 3) := by decide +kernel
theorem dX6_addMethod_81 : decode cX6_addMethod 81 = .ok (.aload_n 0, 1) := by decide +kernel
theorem dX6_addMethod_82 : decode cX6_addMethod 82 = .ok (.getfield 73, 3) := by decide +kernel
theorem dX6_addMethod_85 : decode cX6_addMethod 85 = .ok (.iload_n 2, 1) := by decide +kernel
theorem dX6_addMethod_86 : decode cX6_addMethod 86 = .ok (.iastore, 1) := by decide +kernel
theorem dX6_addMethod_87 : decode cX6_addMethod 87 = .ok (.aload_n 0, 1) := by decide +kernel
theorem dX6_addMethod_88 : decode cX6_addMethod 88 = .ok (.getfield 27, 3) := by decide +kernel
theorem dX6_addMethod_91 : decode cX6_addMethod 91 = .ok (.aload_n 0, 1) := by decide +kernel
theorem dX6_addMethod_92 : decode cX6_addMethod 92 = .ok (.getfield 73, 3) := by decide +kernel
theorem dX6_addMethod_95 : decode cX6_addMethod 95 = .ok (.iload_n 3, 1) := by decide +kernel
theorem dX6_addMethod_96 : decode cX6_addMethod 96 = .ok (.iastore, 1) := by decide +kernel
theorem dX6_addMethod_97 : decode cX6_addMethod 97 = .ok (.aload_n 0, 1) := by decide +kernel
theorem dX6_addMethod_98 : decode cX6_addMethod 98 = .ok (.getfield 30, 3) := by decide +kernel
theorem dX6_addMethod_101 : decode cX6_addMethod 101 = .ok (.aload_n 0, 1) := by decide +kernel
theorem dX6_addMethod_102 : decode cX6_addMethod 102 = .ok (.getfield 73, 3) := by decide +kernel
theorem dX6_addMethod_105 : decode cX6_addMethod 105 = .ok (.iconst 0, 1) := by decide +kernel
theorem dX6_addMethod_106 : decode cX6_addMethod 106 = .ok (.iastore, 1) := by decide +kernel
theorem dX6_addMethod_107 : decode cX6_addMethod 107 = .ok (.aload_n 0, 1) := by decide +kernel
theorem dX6_addMethod_108 : decode cX6_addMethod 108 = .ok (.dup, 1) := by decide +kernel
theorem dX6_addMethod_109 : decode cX6_addMethod 109 = .ok (.getfield 73, 3) := by decide +kernel
theorem dX6_addMethod_112 : decode cX6_addMethod 112 = .ok (.iconst 1, 1) := by decide +kernel
theorem dX6_addMethod_113 : decode cX6_addMethod 113 = .ok (.iadd, 1) := by decide +kernel
theorem dX6_addMethod_114 : decode cX6_addMethod 114 = .ok (.putfield 73, 3) := by decide +kernel
theorem dX6_addMethod_117 : decode cX6_addMethod 117 = .ok (.aload_n 0, 1) := by decide +kernel
theorem dX6_addMethod_118 : decode cX6_addMethod 118 = .ok (.getfield 73, 3) := by decide +kernel
theorem dX6_addMethod_121 : decode cX6_addMethod 121 = .ok (.iconst 1, 1) := by decide +kernel
theorem dX6_addMethod_122 : decode cX6_addMethod 122 = .ok (.isub, 1) := by decide +kernel
theorem dX6_addMethod_123 : decode cX6_addMethod 123 = .ok (.ireturn, 1) := by decide +kernel
theorem dX6_call_0 : decode cX6_call 0 = .ok (.aload_n 0, 1) := by decide +kernel
theorem dX6_call_1 : decode cX6_call 1 = .ok (.getfield 33, 3) := by decide +kernel
theorem dX6_call_4 : decode cX6_call 4 = .ok (.iconst 3, 1) := by decide +kernel
theorem dX6_call_5 : decode cX6_call 5 = .ok (.bipush 8, 2) := by decide +kernel
theorem dX6_call_7 : decode cX6_call 7 = .ok (.iload_n 1, 1) := by decide +kernel
theorem dX6_call_8 : decode cX6_call 8 = .ok (.imul, 1) := by decide +kernel
theorem dX6_call_9 : decode cX6_call 9 = .ok (.iload_n 2, 1) := by decide +kernel
theorem dX6_call_10 : decode cX6_call 10 = .ok (.iadd, 1) := by decide +kernel
theorem dX6_call_11 : decode cX6_call 11 = .ok (.imul, 1) := by decide +kernel
theorem dX6_call_12 : decode cX6_call 12 = .ok (.iload_n 3, 1) := by decide +kernel
theorem dX6_call_13 : decode cX6_call 13 = .ok (.iadd, 1) := by decide +kernel
theorem dX6_call_14 : decode cX6_call 14 = .ok (.iaload, 1) := by decide +kernel
theorem dX6_call_15 : decode cX6_call 15 = .ok (.ireturn, 1) := by decide +kernel
set_option maxRecDepth 20000 in
theorem ggX6_addCall_X6_isMethod : GoodIn wsX6_addCall wsX6_isMethod := goodIn_r _ [9, 10, 11, 12, 8, 13, 26, 27, 28, 29, 30, 31, 32, 33, 34, 35, 36, 37, 38, 39, 40, 41, 42, 43, 44, 45, 46, 47] (by decide +kernel) (by decide +kernel)
set_option maxRecDepth 20000 in
theorem gX6_addCall_X6_isMethod : GoodIn wsX6_addCall (wsV RX6 95 RX6 yX6_isMethod wsX6_isMethod) := goodIn_app (goodIn_of _ (by decide +kernel)) ggX6_addCall_X6_isMethod
set_option maxRecDepth 20000 in
theorem ggX6_addCall_X6_isClass : GoodIn wsX6_addCall wsX6_isClass := goodIn_r _ [17, 18, 11, 12, 8, 13, 26, 27, 28, 29, 30, 31, 32, 33, 34, 35, 36, 37, 38, 39, 40, 41, 42, 43, 44, 45, 46, 47] (by decide +kernel) (by decide +kernel)
set_option maxRecDepth 20000 in
theorem gX6_addCall_X6_isClass : GoodIn wsX6_addCall (wsV RX6 76 RX6 yX6_isClass wsX6_isClass) := goodIn_app (goodIn_of _ (by decide +kernel)) ggX6_addCall_X6_isClass
set_option maxRecDepth 20000 in
theorem ggX6_addCall_X6_isSelector : GoodIn wsX6_addCall wsX6_isSelector := goodIn_r _ [21, 11, 12, 8, 13] (by decide +kernel) (by decide +kernel)
set_option maxRecDepth 20000 in
theorem gX6_addCall_X6_isSelector : GoodIn wsX6_addCall (va_wsS RX6 92 yX6_isSelector wsX6_isSelector) := goodIn_app (goodIn_of _ (by decide +kernel)) ggX6_addCall_X6_isSelector
set_option maxRecDepth 20000 in
theorem ggX6_addCall_X6_no : GoodIn wsX6_addCall wsX6_no := goodIn_r _ [25, 1, 26, 27, 28, 29, 30, 31, 32, 33, 34, 35, 36, 37, 38, 39, 40, 41, 42, 43, 44, 45, 46, 47] (by decide +kernel) (by decide +kernel)
set_option maxRecDepth 20000 in
theorem gX6_addCall_X6_no : GoodIn wsX6_addCall (wsV RX6 80 RX6 yX6_no wsX6_no) := goodIn_app (goodIn_of _ (by decide +kernel)) ggX6_addCall_X6_no
set_option maxRecDepth 20000 in
theorem ggX6_addCall_X6_isIn : GoodIn wsX6_addCall wsX6_isIn := goodIn_r _ [13] (by decide +kernel) (by decide +kernel)
set_option maxRecDepth 20000 in
theorem gX6_addCall_X6_isIn : GoodIn wsX6_addCall (va_wsS RX6 69 yX6_isIn wsX6_isIn) := goodIn_app (goodIn_of _ (by decide +kernel)) ggX6_addCall_X6_isIn
theorem dX6_addCall_0 : decode cX6_addCall 0 = .ok (.aload_n 0, 1) := by decide +kernel
theorem dX6_addCall_1 : decode cX6_addCall 1 = .ok (.iconst 0, 1) := by decide +kernel
theorem dX6_addCall_2 : decode cX6_addCall 2 = .ok (.putfield 66, 3) := by decide +kernel
theorem dX6_addCall_5 : decode cX6_addCall 5 = .ok (.aload_n 0, 1) := by decide +kernel
theorem dX6_addCall_6 : decode cX6_addCall 6 = .ok (.iload_n 1, 1) := by decide +kernel
theorem dX6_addCall_7 : decode cX6_addCall 7 = .ok (.invokevirtual 95, 3) := by decide +kernel
theorem dX6_addCall_10 : decode cX6_addCall 10 = .ok (.ifCond .eq 18, 3) := by decide +kernel
theorem dX6_addCall_13 : decode cX6_addCall 13 = .ok (.aload_n 0, 1) := by decide +kernel
theorem dX6_addCall_14 : decode cX6_addCall 14 = .ok (.iload_n 2, 1) := by decide +kernel
theorem dX6_addCall_15 : decode cX6_addCall 15 = .ok (.invokevirtual 76, 3) := by decide +kernel
theorem dX6_addCall_18 : decode cX6_addCall 18 = .ok (.ifCond .eq 10, 3) := by decide +kernel
theorem dX6_addCall_21 : decode cX6_addCall 21 = .ok (.iload_n 3, 1) := by decide +kernel
theorem dX6_addCall_22 : decode cX6_addCall 22 = .ok (.invokestatic 92, 3) := by decide +kernel
theorem dX6_addCall_25 : decode cX6_addCall 25 = .ok (.ifCond .ne 9, 3) := by decide +kernel
theorem dX6_addCall_28 : decode cX6_addCall 28 = .ok (.aload_n 0, 1) := by decide +kernel
theorem dX6_addCall_29 : decode cX6_addCall 29 = .ok (.iconst 1, 1) := by decide +kernel
theorem dX6_addCall_30 : decode cX6_addCall 30 = .ok (.invokevirtual 80, 3) := by decide +kernel
theorem dX6_addCall_33 : decode cX6_addCall 33 = .ok (.ireturn, 1) := by decide +kernel
theorem dX6_addCall_34 : decode cX6_addCall 34 = .ok (.iload 4, 2) := by decide +kernel
theorem dX6_addCall_36 : decode cX6_addCall 36 = .ok (.iconst 1, 1) := by decide +kernel
theorem dX6_addCall_37 : decode cX6_addCall 37 = .ok (.bipush 20, 2) := by decide +kernel
theorem dX6_addCall_39 : decode cX6_addCall 39 = .ok (.invokestatic 69, 3) := by decide +kernel
theorem dX6_addCall_42 : decode cX6_addCall 42 = .ok (.ifCond .ne 9, 3) := by decide +kernel
theorem dX6_addCall_45 : decode cX6_addCall 45 = .ok (.aload_n 0, 1) := by decide +kernel
theorem dX6_addCall_46 : decode cX6_addCall 46 = .ok (.iconst 2, 1) := by decide +kernel
theorem dX6_addCall_47 : decode cX6_addCall 47 = .ok (.invokevirtual 80, 3) := by decide +kernel
theorem dX6_addCall_50 : decode cX6_addCall 50 = .ok (.ireturn, 1) := by decide +kernel
theorem dX6_addCall_51 : decode cX6_addCall 51 = .ok (.aload_n 0, 1) := by decide +kernel
theorem dX6_addCall_52 : decode cX6_addCall 52 = .ok (.getfield 30, 3) := by decide +kernel
theorem dX6_addCall_55 : decode cX6_addCall 55 = .ok (.iload_n 1, 1) := by decide +kernel
theorem dX6_addCall_56 : decode cX6_addCall 56 = .ok (.iaload, 1) := by decide +kernel
theorem dX6_addCall_57 : decode cX6_addCall 57 = .ok (.bipush 8, 2) := by decide +kernel
theorem dX6_addCall_59 : decode cX6_addCall 59 = .ok (.if_icmp .ne 9, 3) := by decide +kernel
theorem dX6_addCall_62 : decode cX6_addCall 62 = .ok (.aload_n 0, 1) := by decide +kernel
theorem dX6_addCall_63 : decode cX6_addCall 63 = .ok (.iconst 3, 1) := by decide +kernel
theorem dX6_addCall_64 : decode cX6_addCall 64 = .ok (.invokevirtual 80, 3) := by decide +kernel
theorem dX6_addCall_67 : decode cX6_addCall 67 = .ok (.ireturn, 1) := by decide +kernel
theorem dX6_addCall_68 : decode cX6_addCall 68 = .ok (.iconst 3, 1) := by decide +kernel
theorem dX6_addCall_69 : decode cX6_addCall 69 = .ok (.bipush 8, 2) := by decide +kernel
theorem dX6_addCall_71 : decode cX6_addCall 71 = .ok (.iload_n 1, 1) := by decide +kernel
theorem dX6_addCall_72 : decode cX6_addCall 72 = .ok (.imul, 1) := by decide +kernel
theorem dX6_addCall_73 : decode cX6_addCall 73 = .ok (.aload_n 0, 1) := by decide +kernel
theorem dX6_addCall_74 : decode cX6_addCall 74 = .ok (.getfield 30, 3) := by decide +kernel
theorem dX6_addCall_77 : decode cX6_addCall 77 = .ok (.iload_n 1, 1) := by decide +kernel
theorem dX6_addCall_78 : decode cX6_addCall 78 = .ok (.iaload, 1) := by decide +kernel
theorem dX6_addCall_79 : decode cX6_addCall 79 = .ok (.iadd, 1) := by decide +kernel
theorem dX6_addCall_80 : decode cX6_addCall 80 = .ok (.imul, 1) := by decide +kernel
theorem dX6_addCall_81 : decode cX6_addCall 81 = .ok (.istore 5, 2) := by decide +kernel
theorem dX6_addCall_83 : decode cX6_addCall 83 = .ok (.aload_n 0, 1) := by decide +kernel
theorem dX6_addCall_84 : decode cX6_addCall 84 = .ok (.getfield 33, 3) := by decide +kernel
theorem dX6_addCall_87 : decode cX6_addCall 87 = .ok (.iload 5, 2) := by decide +kernel
theorem dX6_addCall_89 : decode cX6_addCall 89 = .ok (.iload_n 2, 1) := by decide +kernel
theorem dX6_addCall_90 : decode cX6_addCall 90 = .ok (.iastore, 1) := by decide +kernel
theorem dX6_addCall_91 : decode cX6_addCall 91 = .ok (.aload_n 0, 1) := by decide +kernel
theorem dX6_addCall_92 : decode cX6_addCall 92 = .ok (.getfield 33, 3) := by decide +kernel
theorem dX6_addCall_95 : decode cX6_addCall 95 = .ok (.iload 5, 2) := by decide +kernel
theorem dX6_addCall_97 : decode cX6_addCall 97 = .ok (.iconst 1, 1) := by decide +kernel
theorem dX6_addCall_98 : decode cX6_addCall 98 = .ok (.iadd, 1) := by decide +kernel
theorem dX6_addCall_99 : decode cX6_addCall 99 = .ok (.iload_n 3, 1) := by decide +kernel
theorem dX6_addCall_100 : decode cX6_addCall 100 = .ok (.iastore, 1) := by decide +kernel
theorem dX6_addCall_101 : decode cX6_addCall 101 = .ok (.aload_n 0, 1) := by decide +kernel
theorem dX6_addCall_102 : decode cX6_addCall 102 = .ok (.getfield 33, 3) := by decide +kernel
theorem dX6_addCall_105 : decode cX6_addCall 105 = .ok (.iload 5, 2) := by decide +kernel
theorem dX6_addCall_107 : decode cX6_addCall 107 = .ok (.iconst 2, 1) := by decide +kernel
theorem dX6_addCall_108 : decode cX6_addCall 108 = .ok (.iadd, 1) := by decide +kernel
theorem dX6_addCall_109 : decode cX6_addCall 109 = .ok (.iload 4, 2) := by decide +kernel
theorem dX6_addCall_111 : decode cX6_addCall 111 = .ok (.iastore, 1) := by decide +kernel
theorem dX6_addCall_112 : decode cX6_addCall 112 = .ok (.aload_n 0, 1) := by decide +kernel
theorem dX6_addCall_113 : decode cX6_addCall 113 = .ok (.getfield 30, 3) := by decide +kernel
theorem dX6_addCall_116 : decode cX6_addCall 116 = .ok (.iload_n 1, 1) := by decide +kernel
theorem dX6_addCall_117 : decode cX6_addCall 117 = .ok (.dup2, 1) := by decide +kernel
theorem dX6_addCall_118 : decode cX6_addCall 118 = .ok (.iaload, 1) := by decide +kernel
theorem dX6_addCall_119 : decode cX6_addCall 119 = .ok (.iconst 1, 1) := by decide +kernel
theorem dX6_addCall_120 : decode cX6_addCall 120 = .ok (.iadd, 1) := by decide +kernel
theorem dX6_addCall_121 : decode cX6_addCall 121 = .ok (.iastore, 1) := by decide +kernel
theorem dX6_addCall_122 : decode cX6_addCall 122 = .ok (.aload_n 0, 1) := by decide +kernel
theorem dX6_addCall_123 : decode cX6_addCall 123 = .ok (.iconst 0, 1) := by decide +kernel
theorem dX6_addCall_124 : decode cX6_addCall 124 = .ok (.putfield 98, 3) := by decide +kernel
theorem dX6_addCall_127 : decode cX6_addCall 127 = .ok (.aload_n 0, 1) := by decide +kernel
theorem dX6_addCall_128 : decode cX6_addCall 128 = .ok (.getfield 30, 3) := by decide +kernel
theorem dX6_addCall_131 : decode cX6_addCall 131 = .ok (.iload_n 1, 1) := by decide +kernel
theorem dX6_addCall_132 : decode cX6_addCall 132 = .ok (.iaload, 1) := by decide +kernel
theorem dX6_addCall_133 : decode cX6_addCall 133 = .ok (.iconst 1, 1) := by decide +kernel
theorem dX6_addCall_134 : decode cX6_addCall 134 = .ok (.isub, 1) := by decide +kernel
theorem dX6_addCall_135 : decode cX6_addCall 135 = .ok (.ireturn, 1) := by decide +kernel
theorem dX6_methodCount_0 : decode cX6_methodCount 0 = .ok (.aload_n 0, 1) := by decide +kernel
theorem dX6_methodCount_1 : decode cX6_methodCount 1 = .ok (.iconst 0, 1) := by decide +kernel
theorem dX6_methodCount_2 : decode cX6_methodCount 2 = .ok (.putfield 66, 3) := by decide +kernel
theorem dX6_methodCount_5 : decode cX6_methodCount 5 = .ok (.aload_n 0, 1) := by decide +kernel
theorem dX6_methodCount_6 : decode cX6_methodCount 6 = .ok (.getfield 73, 3) := by decide +kernel
theorem dX6_methodCount_9 : decode cX6_methodCount 9 = .ok (.ireturn, 1) := by decide +kernel
set_option maxRecDepth 20000 in
theorem ggX6_found_X6_isClass : GoodIn wsX6_found wsX6_isClass := goodIn_r _ [6, 7, 8, 9, 5, 10, 30, 31, 32, 33, 34, 35, 36, 37, 38, 39, 40, 41, 42, 43, 44, 45, 46, 47, 48, 49, 50, 51] (by decide +kernel) (by decide +kernel)
set_option maxRecDepth 20000 in
theorem gX6_found_X6_isClass : GoodIn wsX6_found (wsV RX6 76 RX6 yX6_isClass wsX6_isClass) := goodIn_app (goodIn_of _ (by decide +kernel)) ggX6_found_X6_isClass
set_option maxRecDepth 20000 in
theorem ggX6_found_X6_isSelector : GoodIn wsX6_found wsX6_isSelector := goodIn_r _ [13, 8, 9, 5, 10] (by decide +kernel) (by decide +kernel)
set_option maxRecDepth 20000 in
theorem gX6_found_X6_isSelector : GoodIn wsX6_found (va_wsS RX6 92 yX6_isSelector wsX6_isSelector) := goodIn_app (goodIn_of _ (by decide +kernel)) ggX6_found_X6_isSelector
set_option maxRecDepth 20000 in
theorem ggX6_found_X6_find : GoodIn wsX6_found wsX6_find := goodIn_r _ [17, 18, 19, 20, 21, 5, 22, 23, 24, 25, 30, 31, 32, 33, 34, 35, 36, 37, 38, 39, 40, 41, 42, 43, 44, 45, 46, 47, 48, 49, 50, 51] (by decide +kernel) (by decide +kernel)
set_option maxRecDepth 20000 in
theorem gX6_found_X6_find : GoodIn wsX6_found (wsV RX6 102 RX6 yX6_find wsX6_find) := goodIn_app (goodIn_of _ (by decide +kernel)) ggX6_found_X6_find
set_option maxRecDepth 20000 in
theorem ggX6_found_X6_no : GoodIn wsX6_found wsX6_no := goodIn_r _ [29, 1, 30, 31, 32, 33, 34, 35, 36, 37, 38, 39, 40, 41, 42, 43, 44, 45, 46, 47, 48, 49, 50, 51] (by decide +kernel) (by decide +kernel)
set_option maxRecDepth 20000 in
theorem gX6_found_X6_no : GoodIn wsX6_found (wsV RX6 80 RX6 yX6_no wsX6_no) := goodIn_app (goodIn_of _ (by decide +kernel)) ggX6_found_X6_no
theorem dX6_found_0 : decode cX6_found 0 = .ok (.aload_n 0, 1) := by decide +kernel
theorem dX6_found_1 : decode cX6_found 1 = .ok (.iconst 0, 1) := by decide +kernel
theorem dX6_found_2 : decode cX6_found 2 = .ok (.putfield 66, 3) := by decide +kernel
theorem dX6_found_5 : decode cX6_found 5 = .ok (.aload_n 0, 1) := by decide +kernel
theorem dX6_found_6 : decode cX6_found 6 = .ok (.iload_n 1, 1) := by decide +kernel
theorem dX6_found_7 : decode cX6_found 7 = .ok (.invokevirtual 76, 3) := by decide +kernel
theorem dX6_found_10 : decode cX6_found 10 = .ok (.ifCond .eq 19, 3) := by decide +kernel
theorem dX6_found_13 : decode cX6_found 13 = .ok (.iload_n 2, 1) := by decide +kernel
theorem dX6_found_14 : decode cX6_found 14 = .ok (.invokestatic 92, 3) := by decide +kernel
theorem dX6_found_17 : decode cX6_found 17 = .ok (.ifCond .eq 12, 3) := by decide +kernel
theorem dX6_found_20 : decode cX6_found 20 = .ok (.aload_n 0, 1) := by decide +kernel
theorem dX6_found_21 : decode cX6_found 21 = .ok (.iload_n 1, 1) := by decide +kernel
theorem dX6_found_22 : decode cX6_found 22 = .ok (.iload_n 2, 1) := by decide +kernel
theorem dX6_found_23 : decode cX6_found 23 = .ok (.invokevirtual 102, 3) := by decide +kernel
theorem dX6_found_26 : decode cX6_found 26 = .ok (.goto 8, 3) := by decide +kernel
theorem dX6_found_29 : decode cX6_found 29 = .ok (.aload_n 0, 1) := by decide +kernel
theorem dX6_found_30 : decode cX6_found 30 = .ok (.iconst 1, 1) := by decide +kernel
theorem dX6_found_31 : decode cX6_found 31 = .ok (.invokevirtual 80, 3) := by decide +kernel
theorem dX6_found_34 : decode cX6_found 34 = .ok (.ireturn, 1) := by decide +kernel
set_option maxRecDepth 20000 in
theorem ggX6_targets_X6_below : GoodIn wsX6_targets wsX6_below := goodIn_r _ [7, 8, 20, 21, 22, 23, 24, 25, 26, 27, 28, 29, 30, 31, 32, 33, 34, 35, 36, 37, 38, 39, 40, 41] (by decide +kernel) (by decide +kernel)
set_option maxRecDepth 20000 in
theorem gX6_targets_X6_below : GoodIn wsX6_targets (wsV RX6 84 RX6 yX6_below wsX6_below) := goodIn_app (goodIn_of _ (by decide +kernel)) ggX6_targets_X6_below
set_option maxRecDepth 20000 in
theorem ggX6_targets_X6_find : GoodIn wsX6_targets wsX6_find := goodIn_r _ [12, 8, 13, 14, 15, 6, 16, 17, 18, 19, 20, 21, 22, 23, 24, 25, 26, 27, 28, 29, 30, 31, 32, 33, 34, 35, 36, 37, 38, 39, 40, 41] (by decide +kernel) (by decide +kernel)
set_option maxRecDepth 20000 in
theorem gX6_targets_X6_find : GoodIn wsX6_targets (wsV RX6 102 RX6 yX6_find wsX6_find) := goodIn_app (goodIn_of _ (by decide +kernel)) ggX6_targets_X6_find
theorem dX6_targets_0 : decode cX6_targets 0 = .ok (.iconst 0, 1) := by decide +kernel
theorem dX6_targets_1 : decode cX6_targets 1 = .ok (.istore_n 3, 1) := by decide +kernel
theorem dX6_targets_2 : decode cX6_targets 2 = .ok (.iconst 0, 1) := by decide +kernel
theorem dX6_targets_3 : decode cX6_targets 3 = .ok (.istore 4, 2) := by decide +kernel
theorem dX6_targets_5 : decode cX6_targets 5 = .ok (.iload 4, 2) := by decide +kernel
theorem dX6_targets_7 : decode cX6_targets 7 = .ok (.aload_n 0, 1) := by decide +kernel
theorem dX6_targets_8 : decode cX6_targets 8 = .ok (.getfield 7, 3) := by decide +kernel
theorem dX6_targets_11 : decode cX6_targets 11 = .ok (.if_icmp .ge 54, 3) := by decide +kernel
theorem dX6_targets_14 : decode cX6_targets 14 = .ok (.aload_n 0, 1) := by decide +kernel
theorem dX6_targets_15 : decode cX6_targets 15 = .ok (.getfield 17, 3) := by decide +kernel
theorem dX6_targets_18 : decode cX6_targets 18 = .ok (.iload 4, 2) := by decide +kernel
theorem dX6_targets_20 : decode cX6_targets 20 = .ok (.baload, 1) := by decide +kernel
theorem dX6_targets_21 : decode cX6_targets 21 = .ok (.ifCond .eq 38, 3) := by decide +kernel
theorem dX6_targets_24 : decode cX6_targets 24 = .ok (.aload_n 0, 1) := by decide +kernel
theorem dX6_targets_25 : decode cX6_targets 25 = .ok (.iload 4, 2) := by decide +kernel
theorem dX6_targets_27 : decode cX6_targets 27 = .ok (.iload_n 1, 1) := by decide +kernel
theorem dX6_targets_28 : decode cX6_targets 28 = .ok (.invokevirtual 84, 3) := by decide +kernel
theorem dX6_targets_31 : decode cX6_targets 31 = .ok (.ifCond .ne 6, 3) := by decide +kernel
theorem dX6_targets_34 : decode cX6_targets 34 = .ok (.goto 25, 3) := by decide +kernel
theorem dX6_targets_37 : decode cX6_targets 37 = .ok (.aload_n 0, 1) := by decide +kernel
theorem dX6_targets_38 : decode cX6_targets 38 = .ok (.iload 4, 2) := by decide +kernel
theorem dX6_targets_40 : decode cX6_targets 40 = .ok (.iload_n 2, 1) := by decide +kernel
theorem dX6_targets_41 : decode cX6_targets 41 = .ok (.invokevirtual 102, 3) := by decide +kernel
theorem dX6_targets_44 : decode cX6_targets 44 = .ok (.istore 5, 2) := by decide +kernel
theorem dX6_targets_46 : decode cX6_targets 46 = .ok (.iload 5, 2) := by decide +kernel
theorem dX6_targets_48 : decode cX6_targets 48 = .ok (.iconst (-1), 1) := by decide +kernel
theorem dX6_targets_49 : decode cX6_targets 49 = .ok (.if_icmp .eq 10, 3) := by decide +kernel
theorem dX6_targets_52 : decode cX6_targets 52 = .ok (.iload_n 3, 1) := by decide +kernel
theorem dX6_targets_53 : decode cX6_targets 53 = .ok (.iconst 1, 1) := by decide +kernel
theorem dX6_targets_54 : decode cX6_targets 54 = .ok (.iload 5, 2) := by decide +kernel
theorem dX6_targets_56 : decode cX6_targets 56 = .ok (.ishl, 1) := by decide +kernel
theorem dX6_targets_57 : decode cX6_targets 57 = .ok (.ior, 1) := by decide +kernel
theorem dX6_targets_58 : decode cX6_targets 58 = .ok (.istore_n 3, 1) := by decide +kernel
theorem dX6_targets_59 : decode cX6_targets 59 = .ok (.iinc 4 1, 3) := by decide +kernel
theorem dX6_targets_62 : decode cX6_targets 62 = .ok (.goto (-57), 3) := by decide +kernel
theorem dX6_targets_65 : decode cX6_targets 65 = .ok (.iload_n 3, 1) := by decide +kernel
theorem dX6_targets_66 : decode cX6_targets 66 = .ok (.ireturn, 1) := by decide +kernel
theorem dX6_bits_0 : decode cX6_bits 0 = .ok (.iconst 0, 1) := by decide +kernel
theorem dX6_bits_1 : decode cX6_bits 1 = .ok (.istore_n 1, 1) := by decide +kernel
theorem dX6_bits_2 : decode cX6_bits 2 = .ok (.iconst 0, 1) := by decide +kernel
theorem dX6_bits_3 : decode cX6_bits 3 = .ok (.istore_n 2, 1) := by decide +kernel
theorem dX6_bits_4 : decode cX6_bits 4 = .ok (.iload_n 2, 1) := by decide +kernel
theorem dX6_bits_5 : decode cX6_bits 5 = .ok (.bipush 30, 2) := by decide +kernel
theorem dX6_bits_7 : decode cX6_bits 7 = .ok (.if_icmp .ge 17, 3) := by decide +kernel
theorem dX6_bits_10 : decode cX6_bits 10 = .ok (.iload_n 1, 1) := by decide +kernel
theorem dX6_bits_11 : decode cX6_bits 11 = .ok (.iload_n 0, 1) := by decide +kernel
theorem dX6_bits_12 : decode cX6_bits 12 = .ok (.iload_n 2, 1) := by decide +kernel
theorem dX6_bits_13 : decode cX6_bits 13 = .ok (.ishr, 1) := by decide +kernel
theorem dX6_bits_14 : decode cX6_bits 14 = .ok (.iconst 1, 1) := by decide +kernel
theorem dX6_bits_15 : decode cX6_bits 15 = .ok (.iand, 1) := by decide +kernel
theorem dX6_bits_16 : decode cX6_bits 16 = .ok (.iadd, 1) := by decide +kernel
theorem dX6_bits_17 : decode cX6_bits 17 = .ok (.istore_n 1, 1) := by decide +kernel
theorem dX6_bits_18 : decode cX6_bits 18 = .ok (.iinc 2 1, 3) := by decide +kernel
theorem dX6_bits_21 : decode cX6_bits 21 = .ok (.goto (-17), 3) := by decide +kernel
theorem dX6_bits_24 : decode cX6_bits 24 = .ok (.iload_n 1, 1) := by decide +kernel
theorem dX6_bits_25 : decode cX6_bits 25 = .ok (.ireturn, 1) := by decide +kernel
theorem dX6_member_0 : decode cX6_member 0 = .ok (.iload_n 1, 1) := by decide +kernel
theorem dX6_member_1 : decode cX6_member 1 = .ok (.istore_n 2, 1) := by decide +kernel
theorem dX6_member_2 : decode cX6_member 2 = .ok (.iconst 0, 1) := by decide +kernel
theorem dX6_member_3 : decode cX6_member 3 = .ok (.istore_n 3, 1) := by decide +kernel
theorem dX6_member_4 : decode cX6_member 4 = .ok (.iload_n 3, 1) := by decide +kernel
theorem dX6_member_5 : decode cX6_member 5 = .ok (.bipush 30, 2) := by decide +kernel
theorem dX6_member_7 : decode cX6_member 7 = .ok (.if_icmp .ge 29, 3) := by decide +kernel
theorem dX6_member_10 : decode cX6_member 10 = .ok (.iload_n 0, 1) := by decide +kernel
theorem dX6_member_11 : decode cX6_member 11 = .ok (.iload_n 3, 1) := by decide +kernel
theorem dX6_member_12 : decode cX6_member 12 = .ok (.ishr, 1) := by decide +kernel
theorem dX6_member_13 : decode cX6_member 13 = .ok (.iconst 1, 1) := by decide +kernel
theorem dX6_member_14 : decode cX6_member 14 = .ok (.iand, 1) := by decide +kernel
theorem dX6_member_15 : decode cX6_member 15 = .ok (.ifCond .ne 6, 3) := by decide +kernel
theorem dX6_member_18 : decode cX6_member 18 = .ok (.goto 12, 3) := by decide +kernel
theorem dX6_member_21 : decode cX6_member 21 = .ok (.iload_n 2, 1) := by decide +kernel
theorem dX6_member_22 : decode cX6_member 22 = .ok (.ifCond .ne 5, 3) := by decide +kernel
theorem dX6_member_25 : decode cX6_member 25 = .ok (.iload_n 3, 1) := by decide +kernel
theorem dX6_member_26 : decode cX6_member 26 = .ok (.ireturn, 1) := by decide +kernel
theorem dX6_member_27 : decode cX6_member 27 = .ok (.iinc 2 (-1), 3) := by decide +kernel
theorem dX6_member_30 : decode cX6_member 30 = .ok (.iinc 3 1, 3) := by decide +kernel
theorem dX6_member_33 : decode cX6_member 33 = .ok (.goto (-29), 3) := by decide +kernel
theorem dX6_member_36 : decode cX6_member 36 = .ok (.iconst (-1), 1) := by decide +kernel
theorem dX6_member_37 : decode cX6_member 37 = .ok (.ireturn, 1) := by decide +kernel
set_option maxRecDepth 20000 in
theorem ggX6_targetCount_X6_isClass : GoodIn wsX6_targetCount wsX6_isClass := goodIn_r _ [6, 7, 8, 9, 5, 10, 42, 43, 44, 45, 46, 47, 48, 49, 50, 51, 52, 53, 54, 55, 56, 57, 58, 59, 60, 61, 62, 63] (by decide +kernel) (by decide +kernel)
set_option maxRecDepth 20000 in
theorem gX6_targetCount_X6_isClass : GoodIn wsX6_targetCount (wsV RX6 76 RX6 yX6_isClass wsX6_isClass) := goodIn_app (goodIn_of _ (by decide +kernel)) ggX6_targetCount_X6_isClass
set_option maxRecDepth 20000 in
theorem ggX6_targetCount_X6_isSelector : GoodIn wsX6_targetCount wsX6_isSelector := goodIn_r _ [13, 8, 9, 5, 10] (by decide +kernel) (by decide +kernel)
set_option maxRecDepth 20000 in
theorem gX6_targetCount_X6_isSelector : GoodIn wsX6_targetCount (va_wsS RX6 92 yX6_isSelector wsX6_isSelector) := goodIn_app (goodIn_of _ (by decide +kernel)) ggX6_targetCount_X6_isSelector
set_option maxRecDepth 20000 in
theorem ggX6_targetCount_X6_targets : GoodIn wsX6_targetCount wsX6_targets := goodIn_r _ [17, 7, 18, 19, 20, 21, 5, 22, 23, 24, 25, 26, 27, 28, 29, 30, 31, 32, 33, 34, 42, 43, 44, 45, 46, 47, 48, 49, 50, 51, 52, 53, 54, 55, 56, 57, 58, 59, 60, 61, 62, 63] (by decide +kernel) (by decide +kernel)
set_option maxRecDepth 20000 in
theorem gX6_targetCount_X6_targets : GoodIn wsX6_targetCount (wsV RX6 105 RX6 yX6_targets wsX6_targets) := goodIn_app (goodIn_of _ (by decide +kernel)) ggX6_targetCount_X6_targets
set_option maxRecDepth 20000 in
theorem ggX6_targetCount_X6_bits : GoodIn wsX6_targetCount wsX6_bits := goodIn_r _ [37] (by decide +kernel) (by decide +kernel)
set_option maxRecDepth 20000 in
theorem gX6_targetCount_X6_bits : GoodIn wsX6_targetCount (va_wsS RX6 108 yX6_bits wsX6_bits) := goodIn_app (goodIn_of _ (by decide +kernel)) ggX6_targetCount_X6_bits
set_option maxRecDepth 20000 in
theorem ggX6_targetCount_X6_no : GoodIn wsX6_targetCount wsX6_no := goodIn_r _ [41, 1, 42, 43, 44, 45, 46, 47, 48, 49, 50, 51, 52, 53, 54, 55, 56, 57, 58, 59, 60, 61, 62, 63] (by decide +kernel) (by decide +kernel)
set_option maxRecDepth 20000 in
theorem gX6_targetCount_X6_no : GoodIn wsX6_targetCount (wsV RX6 80 RX6 yX6_no wsX6_no) := goodIn_app (goodIn_of _ (by decide +kernel)) ggX6_targetCount_X6_no
theorem dX6_targetCount_0 : decode cX6_targetCount 0 = .ok (.aload_n 0, 1) := by decide +kernel
theorem dX6_targetCount_1 : decode cX6_targetCount 1 = .ok (.iconst 0, 1) := by decide +kernel
theorem dX6_targetCount_2 : decode cX6_targetCount 2 = .ok (.putfield 66, 3) := by decide +kernel
theorem dX6_targetCount_5 : decode cX6_targetCount 5 = .ok (.aload_n 0, 1) := by decide +kernel
theorem dX6_targetCount_6 : decode cX6_targetCount 6 = .ok (.iload_n 1, 1) := by decide +kernel
theorem dX6_targetCount_7 : decode cX6_targetCount 7 = .ok (.invokevirtual 76, 3) := by decide +kernel
theorem dX6_targetCount_10 : decode cX6_targetCount 10 = .ok (.ifCond .eq 22, 3) := by decide +kernel
theorem dX6_targetCount_13 : decode cX6_targetCount 13 = .ok (.iload_n 2, 1) := by decide +kernel
theorem dX6_targetCount_14 : decode cX6_targetCount 14 = .ok (.invokestatic 92, 3) := by decide +kernel
theorem dX6_targetCount_17 : decode cX6_targetCount 17 = .ok (.ifCond .eq 15, 3) := by decide +kernel
theorem dX6_targetCount_20 : decode cX6_targetCount 20 = .ok (.aload_n 0, 1) := by decide +kernel
theorem dX6_targetCount_21 : decode cX6_targetCount 21 = .ok (.iload_n 1, 1) := by decide +kernel
theorem dX6_targetCount_22 : decode cX6_targetCount 22 = .ok (.iload_n 2, 1) := by decide +kernel
theorem dX6_targetCount_23 : decode cX6_targetCount 23 = .ok (.invokevirtual 105, 3) := by decide +kernel
theorem dX6_targetCount_26 : decode cX6_targetCount 26 = .ok (.invokestatic 108, 3) := by decide +kernel
theorem dX6_targetCount_29 : decode cX6_targetCount 29 = .ok (.goto 8, 3) := by decide +kernel
theorem dX6_targetCount_32 : decode cX6_targetCount 32 = .ok (.aload_n 0, 1) := by decide +kernel
theorem dX6_targetCount_33 : decode cX6_targetCount 33 = .ok (.iconst 1, 1) := by decide +kernel
theorem dX6_targetCount_34 : decode cX6_targetCount 34 = .ok (.invokevirtual 80, 3) := by decide +kernel
theorem dX6_targetCount_37 : decode cX6_targetCount 37 = .ok (.ireturn, 1) := by decide +kernel
set_option maxRecDepth 20000 in
theorem ggX6_target_X6_isClass : GoodIn wsX6_target wsX6_isClass := goodIn_r _ [6, 7, 8, 9, 5, 10, 42, 43, 44, 45, 46, 47, 48, 49, 50, 51, 52, 53, 54, 55, 56, 57, 58, 59, 60, 61, 62, 63] (by decide +kernel) (by decide +kernel)
set_option maxRecDepth 20000 in
theorem gX6_target_X6_isClass : GoodIn wsX6_target (wsV RX6 76 RX6 yX6_isClass wsX6_isClass) := goodIn_app (goodIn_of _ (by decide +kernel)) ggX6_target_X6_isClass
set_option maxRecDepth 20000 in
theorem ggX6_target_X6_isSelector : GoodIn wsX6_target wsX6_isSelector := goodIn_r _ [13, 8, 9, 5, 10] (by decide +kernel) (by decide +kernel)
set_option maxRecDepth 20000 in
theorem gX6_target_X6_isSelector : GoodIn wsX6_target (va_wsS RX6 92 yX6_isSelector wsX6_isSelector) := goodIn_app (goodIn_of _ (by decide +kernel)) ggX6_target_X6_isSelector
set_option maxRecDepth 20000 in
theorem ggX6_target_X6_no : GoodIn wsX6_target wsX6_no := goodIn_r _ [17, 1, 42, 43, 44, 45, 46, 47, 48, 49, 50, 51, 52, 53, 54, 55, 56, 57, 58, 59, 60, 61, 62, 63] (by decide +kernel) (by decide +kernel)
set_option maxRecDepth 20000 in
theorem gX6_target_X6_no : GoodIn wsX6_target (wsV RX6 80 RX6 yX6_no wsX6_no) := goodIn_app (goodIn_of _ (by decide +kernel)) ggX6_target_X6_no
set_option maxRecDepth 20000 in
theorem ggX6_target_X6_targets : GoodIn wsX6_target wsX6_targets := goodIn_r _ [21, 7, 22, 23, 24, 25, 5, 26, 27, 28, 29, 30, 31, 32, 33, 34, 35, 36, 37, 38, 42, 43, 44, 45, 46, 47, 48, 49, 50, 51, 52, 53, 54, 55, 56, 57, 58, 59, 60, 61, 62, 63] (by decide +kernel) (by decide +kernel)
set_option maxRecDepth 20000 in
theorem gX6_target_X6_targets : GoodIn wsX6_target (wsV RX6 105 RX6 yX6_targets wsX6_targets) := goodIn_app (goodIn_of _ (by decide +kernel)) ggX6_target_X6_targets
set_option maxRecDepth 20000 in
theorem ggX6_target_X6_member : GoodIn wsX6_target wsX6_member := goodIn_r _ [41] (by decide +kernel) (by decide +kernel)
set_option maxRecDepth 20000 in
theorem gX6_target_X6_member : GoodIn wsX6_target (va_wsS RX6 111 yX6_member wsX6_member) := goodIn_app (goodIn_of _ (by decide +kernel)) ggX6_target_X6_member
theorem dX6_target_0 : decode cX6_target 0 = .ok (.aload_n 0, 1) := by decide +kernel
theorem dX6_target_1 : decode cX6_target 1 = .ok (.iconst 0, 1) := by decide +kernel
theorem dX6_target_2 : decode cX6_target 2 = .ok (.putfield 66, 3) := by decide +kernel
theorem dX6_target_5 : decode cX6_target 5 = .ok (.aload_n 0, 1) := by decide +kernel
theorem dX6_target_6 : decode cX6_target 6 = .ok (.iload_n 1, 1) := by decide +kernel
theorem dX6_target_7 : decode cX6_target 7 = .ok (.invokevirtual 76, 3) := by decide +kernel
theorem dX6_target_10 : decode cX6_target 10 = .ok (.ifCond .eq 10, 3) := by decide +kernel
theorem dX6_target_13 : decode cX6_target 13 = .ok (.iload_n 2, 1) := by decide +kernel
theorem dX6_target_14 : decode cX6_target 14 = .ok (.invokestatic 92, 3) := by decide +kernel
theorem dX6_target_17 : decode cX6_target 17 = .ok (.ifCond .ne 9, 3) := by decide +kernel
theorem dX6_target_20 : decode cX6_target 20 = .ok (.aload_n 0, 1) := by decide +kernel
theorem dX6_target_21 : decode cX6_target 21 = .ok (.iconst 1, 1) := by decide +kernel
theorem dX6_target_22 : decode cX6_target 22 = .ok (.invokevirtual 80, 3) := by decide +kernel
theorem dX6_target_25 : decode cX6_target 25 = .ok (.ireturn, 1) := by decide +kernel
theorem dX6_target_26 : decode cX6_target 26 = .ok (.iload_n 3, 1) := by decide +kernel
theorem dX6_target_27 : decode cX6_target 27 = .ok (.ifCond .ge 7, 3) := by decide +kernel
theorem dX6_target_30 : decode cX6_target 30 = .ok (.iconst (-1), 1) := by decide +kernel
theorem dX6_target_31 : decode cX6_target 31 = .ok (.goto 13, 3) := by decide +kernel
theorem dX6_target_34 : decode cX6_target 34 = .ok (.aload_n 0, 1) := by decide +kernel
theorem dX6_target_35 : decode cX6_target 35 = .ok (.iload_n 1, 1) := by decide +kernel
theorem dX6_target_36 : decode cX6_target 36 = .ok (.iload_n 2, 1) := by decide +kernel
theorem dX6_target_37 : decode cX6_target 37 = .ok (.invokevirtual 105, 3) := by decide +kernel
theorem dX6_target_40 : decode cX6_target 40 = .ok (.iload_n 3, 1) := by decide +kernel
theorem dX6_target_41 : decode cX6_target 41 = .ok (.invokestatic 111, 3) := by decide +kernel
theorem dX6_target_44 : decode cX6_target 44 = .ok (.istore 4, 2) := by decide +kernel
theorem dX6_target_46 : decode cX6_target 46 = .ok (.iload 4, 2) := by decide +kernel
theorem dX6_target_48 : decode cX6_target 48 = .ok (.iconst (-1), 1) := by decide +kernel
theorem dX6_target_49 : decode cX6_target 49 = .ok (.if_icmp .ne 11, 3) := by decide +kernel
theorem dX6_target_52 : decode cX6_target 52 = .ok (.aload_n 0, 1) := by decide +kernel
theorem dX6_target_53 : decode cX6_target 53 = .ok (.iconst 2, 1) := by decide +kernel
theorem dX6_target_54 : decode cX6_target 54 = .ok (.invokevirtual 80, 3) := by decide +kernel
theorem dX6_target_57 : decode cX6_target 57 = .ok (.goto 5, 3) := by decide +kernel
theorem dX6_target_60 : decode cX6_target 60 = .ok (.iload 4, 2) := by decide +kernel
theorem dX6_target_62 : decode cX6_target 62 = .ok (.ireturn, 1) := by decide +kernel
set_option maxRecDepth 20000 in
theorem ggX6_reached_X6_isMethod : GoodIn wsX6_reached wsX6_isMethod := goodIn_r _ [8, 2, 9, 10, 7, 11, 42, 43, 44, 45, 46, 47, 48, 49, 50, 51, 52, 53, 54, 55, 56, 57, 58, 59, 60, 61, 62, 63] (by decide +kernel) (by decide +kernel)
set_option maxRecDepth 20000 in
theorem gX6_reached_X6_isMethod : GoodIn wsX6_reached (wsV RX6 95 RX6 yX6_isMethod wsX6_isMethod) := goodIn_app (goodIn_of _ (by decide +kernel)) ggX6_reached_X6_isMethod
set_option maxRecDepth 20000 in
theorem ggX6_reached_X6_no : GoodIn wsX6_reached wsX6_no := goodIn_r _ [15, 1, 42, 43, 44, 45, 46, 47, 48, 49, 50, 51, 52, 53, 54, 55, 56, 57, 58, 59, 60, 61, 62, 63] (by decide +kernel) (by decide +kernel)
set_option maxRecDepth 20000 in
theorem gX6_reached_X6_no : GoodIn wsX6_reached (wsV RX6 80 RX6 yX6_no wsX6_no) := goodIn_app (goodIn_of _ (by decide +kernel)) ggX6_reached_X6_no
set_option maxRecDepth 20000 in
theorem ggX6_reached_X6_call : GoodIn wsX6_reached wsX6_call := goodIn_r _ [19, 20, 42, 43, 44, 45, 46, 47, 48, 49, 50, 51, 52, 53, 54, 55, 56, 57, 58, 59, 60, 61, 62, 63] (by decide +kernel) (by decide +kernel)
set_option maxRecDepth 20000 in
theorem gX6_reached_X6_call : GoodIn wsX6_reached (wsV RX6 114 RX6 yX6_call wsX6_call) := goodIn_app (goodIn_of _ (by decide +kernel)) ggX6_reached_X6_call
set_option maxRecDepth 20000 in
theorem ggX6_reached_X6_targets : GoodIn wsX6_reached wsX6_targets := goodIn_r _ [24, 25, 26, 27, 28, 29, 7, 30, 31, 32, 33, 34, 35, 36, 37, 38, 39, 2, 40, 41, 42, 43, 44, 45, 46, 47, 48, 49, 50, 51, 52, 53, 54, 55, 56, 57, 58, 59, 60, 61, 62, 63] (by decide +kernel) (by decide +kernel)
set_option maxRecDepth 20000 in
theorem gX6_reached_X6_targets : GoodIn wsX6_reached (wsV RX6 105 RX6 yX6_targets wsX6_targets) := goodIn_app (goodIn_of _ (by decide +kernel)) ggX6_reached_X6_targets
theorem dX6_reached_0 : decode cX6_reached 0 = .ok (.aload_n 0, 1) := by decide +kernel
theorem dX6_reached_1 : decode cX6_reached 1 = .ok (.iconst 0, 1) := by decide +kernel
theorem dX6_reached_2 : decode cX6_reached 2 = .ok (.putfield 66, 3) := by decide +kernel
theorem dX6_reached_5 : decode cX6_reached 5 = .ok (.aload_n 0, 1) := by decide +kernel
theorem dX6_reached_6 : decode cX6_reached 6 = .ok (.iload_n 1, 1) := by decide +kernel
theorem dX6_reached_7 : decode cX6_reached 7 = .ok (.invokevirtual 95, 3) := by decide +kernel
theorem dX6_reached_10 : decode cX6_reached 10 = .ok (.ifCond .ne 9, 3) := by decide +kernel
theorem dX6_reached_13 : decode cX6_reached 13 = .ok (.aload_n 0, 1) := by decide +kernel
theorem dX6_reached_14 : decode cX6_reached 14 = .ok (.iconst 1, 1) := by decide +kernel
theorem dX6_reached_15 : decode cX6_reached 15 = .ok (.invokevirtual 80, 3) := by decide +kernel
theorem dX6_reached_18 : decode cX6_reached 18 = .ok (.ireturn, 1) := by decide +kernel
theorem dX6_reached_19 : decode cX6_reached 19 = .ok (.iconst 1, 1) := by decide +kernel
theorem dX6_reached_20 : decode cX6_reached 20 = .ok (.iload_n 1, 1) := by decide +kernel
theorem dX6_reached_21 : decode cX6_reached 21 = .ok (.ishl, 1) := by decide +kernel
theorem dX6_reached_22 : decode cX6_reached 22 = .ok (.istore_n 2, 1) := by decide +kernel
theorem dX6_reached_23 : decode cX6_reached 23 = .ok (.iconst 0, 1) := by decide +kernel
theorem dX6_reached_24 : decode cX6_reached 24 = .ok (.istore_n 3, 1) := by decide +kernel
theorem dX6_reached_25 : decode cX6_reached 25 = .ok (.iload_n 2, 1) := by decide +kernel
theorem dX6_reached_26 : decode cX6_reached 26 = .ok (.iload_n 3, 1) := by decide +kernel
theorem dX6_reached_27 : decode cX6_reached 27 = .ok (.if_icmp .eq 82, 3) := by decide +kernel
theorem dX6_reached_30 : decode cX6_reached 30 = .ok (.iload_n 2, 1) := by decide +kernel
theorem dX6_reached_31 : decode cX6_reached 31 = .ok (.istore_n 3, 1) := by decide +kernel
theorem dX6_reached_32 : decode cX6_reached 32 = .ok (.iconst 0, 1) := by decide +kernel
theorem dX6_reached_33 : decode cX6_reached 33 = .ok (.istore 4, 2) := by decide +kernel
theorem dX6_reached_35 : decode cX6_reached 35 = .ok (.iload 4, 2) := by decide +kernel
theorem dX6_reached_37 : decode cX6_reached 37 = .ok (.aload_n 0, 1) := by decide +kernel
theorem dX6_reached_38 : decode cX6_reached 38 = .ok (.getfield 73, 3) := by decide +kernel
theorem dX6_reached_41 : decode cX6_reached 41 = .ok (.if_icmp .ge 65, 3) := by decide +kernel
theorem dX6_reached_44 : decode cX6_reached 44 = .ok (.iconst 0, 1) := by decide +kernel
theorem dX6_reached_45 : decode cX6_reached 45 = .ok (.istore 5, 2) := by decide +kernel
theorem dX6_reached_47 : decode cX6_reached 47 = .ok (.iload 5, 2) := by decide +kernel
theorem dX6_reached_49 : decode cX6_reached 49 = .ok (.aload_n 0, 1) := by decide +kernel
theorem dX6_reached_50 : decode cX6_reached 50 = .ok (.getfield 30, 3) := by decide +kernel
theorem dX6_reached_53 : decode cX6_reached 53 = .ok (.iload 4, 2) := by decide +kernel
theorem dX6_reached_55 : decode cX6_reached 55 = .ok (.iaload, 1) := by decide +kernel
theorem dX6_reached_56 : decode cX6_reached 56 = .ok (.if_icmp .ge 44, 3) := by decide +kernel
theorem dX6_reached_59 : decode cX6_reached 59 = .ok (.iload_n 2, 1) := by decide +kernel
theorem dX6_reached_60 : decode cX6_reached 60 = .ok (.iload 4, 2) := by decide +kernel
theorem dX6_reached_62 : decode cX6_reached 62 = .ok (.ishr, 1) := by decide +kernel
theorem dX6_reached_63 : decode cX6_reached 63 = .ok (.iconst 1, 1) := by decide +kernel
theorem dX6_reached_64 : decode cX6_reached 64 = .ok (.iand, 1) := by decide +kernel
theorem dX6_reached_65 : decode cX6_reached 65 = .ok (.iconst 1, 1) := by decide +kernel
theorem dX6_reached_66 : decode cX6_reached 66 = .ok (.if_icmp .ne 34, 3) := by decide +kernel
theorem dX6_reached_69 : decode cX6_reached 69 = .ok (.iload_n 2, 1) := by decide +kernel
theorem dX6_reached_70 : decode cX6_reached 70 = .ok (.aload_n 0, 1) := by decide +kernel
theorem dX6_reached_71 : decode cX6_reached 71 = .ok (.aload_n 0, 1) := by decide +kernel
theorem dX6_reached_72 : decode cX6_reached 72 = .ok (.iload 4, 2) := by decide +kernel
theorem dX6_reached_74 : decode cX6_reached 74 = .ok (.iload 5, 2) := by decide +kernel
theorem dX6_reached_76 : decode cX6_reached 76 = .ok (.iconst 0, 1) := by decide +kernel
theorem dX6_reached_77 : decode cX6_reached 77 = .ok (.invokevirtual 114, 3) := by decide +kernel
theorem dX6_reached_80 : decode cX6_reached 80 = .ok (.aload_n 0, 1) := by decide +kernel
theorem dX6_reached_81 : decode cX6_reached 81 = .ok (.iload 4, 2) := by decide +kernel
theorem dX6_reached_83 : decode cX6_reached 83 = .ok (.iload 5, 2) := by decide +kernel
theorem dX6_reached_85 : decode cX6_reached 85 = .ok (.iconst 1, 1) := by decide +kernel
theorem dX6_reached_86 : decode cX6_reached 86 = .ok (.invokevirtual 114, 3) := by decide +kernel
theorem dX6_reached_89 : decode cX6_reached 89 = .ok (.invokevirtual 105, 3) := by decide +kernel
theorem dX6_reached_92 : decode cX6_reached 92 = .ok (.ior, 1) := by decide +kernel
theorem dX6_reached_93 : decode cX6_reached 93 = .ok (.istore_n 2, 1) := by decide +kernel
theorem dX6_reached_94 : decode cX6_reached 94 = .ok (.iinc 5 1, 3) := by decide +kernel
theorem dX6_reached_97 : decode cX6_reached 97 = .ok (.goto (-50), 3) := by decide +kernel
theorem dX6_reached_100 : decode cX6_reached 100 = .ok (.iinc 4 1, 3) := by decide +kernel
theorem dX6_reached_103 : decode cX6_reached 103 = .ok (.goto (-68), 3) := by decide +kernel
theorem dX6_reached_106 : decode cX6_reached 106 = .ok (.goto (-81), 3) := by decide +kernel
theorem dX6_reached_109 : decode cX6_reached 109 = .ok (.iload_n 2, 1) := by decide +kernel
theorem dX6_reached_110 : decode cX6_reached 110 = .ok (.ireturn, 1) := by decide +kernel
set_option maxRecDepth 20000 in
theorem ggX6_setLimits_X6_isIn : GoodIn wsX6_setLimits wsX6_isIn := goodIn_r _ [9] (by decide +kernel) (by decide +kernel)
set_option maxRecDepth 20000 in
theorem gX6_setLimits_X6_isIn : GoodIn wsX6_setLimits (va_wsS RX6 69 yX6_isIn wsX6_isIn) := goodIn_app (goodIn_of _ (by decide +kernel)) ggX6_setLimits_X6_isIn
set_option maxRecDepth 20000 in
theorem ggX6_setLimits_X6_no : GoodIn wsX6_setLimits wsX6_no := goodIn_r _ [13, 1, 14, 15, 16, 17, 18, 19, 20, 21, 22, 23, 24, 25, 26, 27, 28, 29, 30, 31, 32, 33, 34, 35] (by decide +kernel) (by decide +kernel)
set_option maxRecDepth 20000 in
theorem gX6_setLimits_X6_no : GoodIn wsX6_setLimits (wsV RX6 80 RX6 yX6_no wsX6_no) := goodIn_app (goodIn_of _ (by decide +kernel)) ggX6_setLimits_X6_no
theorem dX6_setLimits_0 : decode cX6_setLimits 0 = .ok (.aload_n 0, 1) := by decide +kernel
theorem dX6_setLimits_1 : decode cX6_setLimits 1 = .ok (.iconst 0, 1) := by decide +kernel
theorem dX6_setLimits_2 : decode cX6_setLimits 2 = .ok (.putfield 66, 3) := by decide +kernel
theorem dX6_setLimits_5 : decode cX6_setLimits 5 = .ok (.iload_n 1, 1) := by decide +kernel
theorem dX6_setLimits_6 : decode cX6_setLimits 6 = .ok (.iconst 1, 1) := by decide +kernel
theorem dX6_setLimits_7 : decode cX6_setLimits 7 = .ok (.sipush 5000, 3) := by decide +kernel
theorem dX6_setLimits_10 : decode cX6_setLimits 10 = .ok (.invokestatic 69, 3) := by decide +kernel
theorem dX6_setLimits_13 : decode cX6_setLimits 13 = .ok (.ifCond .eq 22, 3) := by decide +kernel
theorem dX6_setLimits_16 : decode cX6_setLimits 16 = .ok (.iload_n 2, 1) := by decide +kernel
theorem dX6_setLimits_17 : decode cX6_setLimits 17 = .ok (.iconst 0, 1) := by decide +kernel
theorem dX6_setLimits_18 : decode cX6_setLimits 18 = .ok (.bipush 10, 2) := by decide +kernel
theorem dX6_setLimits_20 : decode cX6_setLimits 20 = .ok (.invokestatic 69, 3) := by decide +kernel
theorem dX6_setLimits_23 : decode cX6_setLimits 23 = .ok (.ifCond .eq 12, 3) := by decide +kernel
theorem dX6_setLimits_26 : decode cX6_setLimits 26 = .ok (.iload_n 3, 1) := by decide +kernel
theorem dX6_setLimits_27 : decode cX6_setLimits 27 = .ok (.iconst 0, 1) := by decide +kernel
theorem dX6_setLimits_28 : decode cX6_setLimits 28 = .ok (.iconst 5, 1) := by decide +kernel
theorem dX6_setLimits_29 : decode cX6_setLimits 29 = .ok (.invokestatic 69, 3) := by decide +kernel
theorem dX6_setLimits_32 : decode cX6_setLimits 32 = .ok (.ifCond .ne 17, 3) := by decide +kernel
theorem dX6_setLimits_35 : decode cX6_setLimits 35 = .ok (.aload_n 0, 1) := by decide +kernel
theorem dX6_setLimits_36 : decode cX6_setLimits 36 = .ok (.iconst 1, 1) := by decide +kernel
theorem dX6_setLimits_37 : decode cX6_setLimits 37 = .ok (.invokevirtual 80, 3) := by decide +kernel
theorem dX6_setLimits_40 : decode cX6_setLimits 40 = .ok (.ifCond .le 7, 3) := by decide +kernel
theorem dX6_setLimits_43 : decode cX6_setLimits 43 = .ok (.iconst 1, 1) := by decide +kernel
theorem dX6_setLimits_44 : decode cX6_setLimits 44 = .ok (.goto 4, 3) := by decide +kernel
theorem dX6_setLimits_47 : decode cX6_setLimits 47 = .ok (.iconst 0, 1) := by decide +kernel
theorem dX6_setLimits_48 : decode cX6_setLimits 48 = .ok (.ireturn, 1) := by decide +kernel
theorem dX6_setLimits_49 : decode cX6_setLimits 49 = .ok (.aload_n 0, 1) := by decide +kernel
theorem dX6_setLimits_50 : decode cX6_setLimits 50 = .ok (.getfield 36, 3) := by decide +kernel
theorem dX6_setLimits_53 : decode cX6_setLimits 53 = .ok (.iload_n 1, 1) := by decide +kernel
theorem dX6_setLimits_54 : decode cX6_setLimits 54 = .ok (.if_icmp .ne 19, 3) := by decide +kernel
theorem dX6_setLimits_57 : decode cX6_setLimits 57 = .ok (.aload_n 0, 1) := by decide +kernel
theorem dX6_setLimits_58 : decode cX6_setLimits 58 = .ok (.getfield 39, 3) := by decide +kernel
theorem dX6_setLimits_61 : decode cX6_setLimits 61 = .ok (.iload_n 2, 1) := by decide +kernel
theorem dX6_setLimits_62 : decode cX6_setLimits 62 = .ok (.if_icmp .ne 11, 3) := by decide +kernel
theorem dX6_setLimits_65 : decode cX6_setLimits 65 = .ok (.aload_n 0, 1) := by decide +kernel
theorem dX6_setLimits_66 : decode cX6_setLimits 66 = .ok (.getfield 42, 3) := by decide +kernel
theorem dX6_setLimits_69 : decode cX6_setLimits 69 = .ok (.iload_n 3, 1) := by decide +kernel
theorem dX6_setLimits_70 : decode cX6_setLimits 70 = .ok (.if_icmp .eq 7, 3) := by decide +kernel
theorem dX6_setLimits_73 : decode cX6_setLimits 73 = .ok (.iconst 1, 1) := by decide +kernel
theorem dX6_setLimits_74 : decode cX6_setLimits 74 = .ok (.goto 4, 3) := by decide +kernel
theorem dX6_setLimits_77 : decode cX6_setLimits 77 = .ok (.iconst 0, 1) := by decide +kernel
theorem dX6_setLimits_78 : decode cX6_setLimits 78 = .ok (.istore 4, 2) := by decide +kernel
theorem dX6_setLimits_80 : decode cX6_setLimits 80 = .ok (.aload_n 0, 1) := by decide +kernel
theorem dX6_setLimits_81 : decode cX6_setLimits 81 = .ok (.iload_n 1, 1) := by decide +kernel
theorem dX6_setLimits_82 : decode cX6_setLimits 82 = .ok (.putfield 36, 3) := by decide +kernel
theorem dX6_setLimits_85 : decode cX6_setLimits 85 = .ok (.aload_n 0, 1) := by decide +kernel
theorem dX6_setLimits_86 : decode cX6_setLimits 86 = .ok (.iload_n 2, 1) := by decide +kernel
theorem dX6_setLimits_87 : decode cX6_setLimits 87 = .ok (.putfield 39, 3) := by decide +kernel
theorem dX6_setLimits_90 : decode cX6_setLimits 90 = .ok (.aload_n 0, 1) := by decide +kernel
theorem dX6_setLimits_91 : decode cX6_setLimits 91 = .ok (.iload_n 3, 1) := by decide +kernel
theorem dX6_setLimits_92 : decode cX6_setLimits 92 = .ok (.putfield 42, 3) := by decide +kernel
theorem dX6_setLimits_95 : decode cX6_setLimits 95 = .ok (.aload_n 0, 1) := by decide +kernel
theorem dX6_setLimits_96 : decode cX6_setLimits 96 = .ok (.iconst 0, 1) := by decide +kernel
theorem dX6_setLimits_97 : decode cX6_setLimits 97 = .ok (.putfield 98, 3) := by decide +kernel
theorem dX6_setLimits_100 : decode cX6_setLimits 100 = .ok (.iload 4, 2) := by decide +kernel
theorem dX6_setLimits_102 : decode cX6_setLimits 102 = .ok (.ireturn, 1) := by decide +kernel
set_option maxRecDepth 20000 in
theorem ggX6_targetsOf_X6_call : GoodIn wsX6_targetsOf wsX6_call := goodIn_r _ [6, 7, 30, 31, 32, 33, 34, 35, 36, 37, 38, 39, 40, 41, 42, 43, 44, 45, 46, 47, 48, 49, 50, 51] (by decide +kernel) (by decide +kernel)
set_option maxRecDepth 20000 in
theorem gX6_targetsOf_X6_call : GoodIn wsX6_targetsOf (wsV RX6 114 RX6 yX6_call wsX6_call) := goodIn_app (goodIn_of _ (by decide +kernel)) ggX6_targetsOf_X6_call
set_option maxRecDepth 20000 in
theorem ggX6_targetsOf_X6_targets : GoodIn wsX6_targetsOf wsX6_targets := goodIn_r _ [11, 12, 13, 14, 15, 16, 5, 17, 18, 19, 20, 21, 22, 23, 24, 25, 26, 27, 28, 29, 30, 31, 32, 33, 34, 35, 36, 37, 38, 39, 40, 41, 42, 43, 44, 45, 46, 47, 48, 49, 50, 51] (by decide +kernel) (by decide +kernel)
set_option maxRecDepth 20000 in
theorem gX6_targetsOf_X6_targets : GoodIn wsX6_targetsOf (wsV RX6 105 RX6 yX6_targets wsX6_targets) := goodIn_app (goodIn_of _ (by decide +kernel)) ggX6_targetsOf_X6_targets
theorem dX6_targetsOf_0 : decode cX6_targetsOf 0 = .ok (.aload_n 0, 1) := by decide +kernel
theorem dX6_targetsOf_1 : decode cX6_targetsOf 1 = .ok (.aload_n 0, 1) := by decide +kernel
theorem dX6_targetsOf_2 : decode cX6_targetsOf 2 = .ok (.aload_n 0, 1) := by decide +kernel
theorem dX6_targetsOf_3 : decode cX6_targetsOf 3 = .ok (.getfield 45, 3) := by decide +kernel
theorem dX6_targetsOf_6 : decode cX6_targetsOf 6 = .ok (.iload_n 1, 1) := by decide +kernel
theorem dX6_targetsOf_7 : decode cX6_targetsOf 7 = .ok (.iaload, 1) := by decide +kernel
theorem dX6_targetsOf_8 : decode cX6_targetsOf 8 = .ok (.iload_n 2, 1) := by decide +kernel
theorem dX6_targetsOf_9 : decode cX6_targetsOf 9 = .ok (.iconst 0, 1) := by decide +kernel
theorem dX6_targetsOf_10 : decode cX6_targetsOf 10 = .ok (.invokevirtual 114, 3) := by decide +kernel
theorem dX6_targetsOf_13 : decode cX6_targetsOf 13 = .ok (.aload_n 0, 1) := by decide +kernel
theorem dX6_targetsOf_14 : decode cX6_targetsOf 14 = .ok (.aload_n 0, 1) := by decide +kernel
theorem dX6_targetsOf_15 : decode cX6_targetsOf 15 = .ok (.getfield 45, 3) := by decide +kernel
theorem dX6_targetsOf_18 : decode cX6_targetsOf 18 = .ok (.iload_n 1, 1) := by decide +kernel
theorem dX6_targetsOf_19 : decode cX6_targetsOf 19 = .ok (.iaload, 1) := by decide +kernel
theorem dX6_targetsOf_20 : decode cX6_targetsOf 20 = .ok (.iload_n 2, 1) := by decide +kernel
theorem dX6_targetsOf_21 : decode cX6_targetsOf 21 = .ok (.iconst 1, 1) := by decide +kernel
theorem dX6_targetsOf_22 : decode cX6_targetsOf 22 = .ok (.invokevirtual 114, 3) := by decide +kernel
theorem dX6_targetsOf_25 : decode cX6_targetsOf 25 = .ok (.invokevirtual 105, 3) := by decide +kernel
theorem dX6_targetsOf_28 : decode cX6_targetsOf 28 = .ok (.ireturn, 1) := by decide +kernel
theorem dX6_times_0 : decode cX6_times 0 = .ok (.iconst 0, 1) := by decide +kernel
theorem dX6_times_1 : decode cX6_times 1 = .ok (.istore_n 3, 1) := by decide +kernel
theorem dX6_times_2 : decode cX6_times 2 = .ok (.iload_n 1, 1) := by decide +kernel
theorem dX6_times_3 : decode cX6_times 3 = .ok (.istore 4, 2) := by decide +kernel
theorem dX6_times_5 : decode cX6_times 5 = .ok (.iload 4, 2) := by decide +kernel
theorem dX6_times_7 : decode cX6_times 7 = .ok (.iconst (-1), 1) := by decide +kernel
theorem dX6_times_8 : decode cX6_times 8 = .ok (.if_icmp .eq 34, 3) := by decide +kernel
theorem dX6_times_11 : decode cX6_times 11 = .ok (.iload_n 3, 1) := by decide +kernel
theorem dX6_times_12 : decode cX6_times 12 = .ok (.aload_n 0, 1) := by decide +kernel
theorem dX6_times_13 : decode cX6_times 13 = .ok (.getfield 45, 3) := by decide +kernel
theorem dX6_times_16 : decode cX6_times 16 = .ok (.iload 4, 2) := by decide +kernel
theorem dX6_times_18 : decode cX6_times 18 = .ok (.iaload, 1) := by decide +kernel
theorem dX6_times_19 : decode cX6_times 19 = .ok (.iload_n 2, 1) := by decide +kernel
theorem dX6_times_20 : decode cX6_times 20 = .ok (.if_icmp .ne 7, 3) := by decide +kernel
theorem dX6_times_23 : decode cX6_times 23 = .ok (.iconst 1, 1) := by decide +kernel
theorem dX6_times_24 : decode cX6_times 24 = .ok (.goto 4, 3) := by decide +kernel
theorem dX6_times_27 : decode cX6_times 27 = .ok (.iconst 0, 1) := by decide +kernel
theorem dX6_times_28 : decode cX6_times 28 = .ok (.iadd, 1) := by decide +kernel
theorem dX6_times_29 : decode cX6_times 29 = .ok (.istore_n 3, 1) := by decide +kernel
theorem dX6_times_30 : decode cX6_times 30 = .ok (.aload_n 0, 1) := by decide +kernel
theorem dX6_times_31 : decode cX6_times 31 = .ok (.getfield 48, 3) := by decide +kernel
theorem dX6_times_34 : decode cX6_times 34 = .ok (.iload 4, 2) := by decide +kernel
theorem dX6_times_36 : decode cX6_times 36 = .ok (.iaload, 1) := by decide +kernel
theorem dX6_times_37 : decode cX6_times 37 = .ok (.istore 4, 2) := by decide +kernel
theorem dX6_times_39 : decode cX6_times 39 = .ok (.goto (-34), 3) := by decide +kernel
theorem dX6_times_42 : decode cX6_times 42 = .ok (.iload_n 3, 1) := by decide +kernel
theorem dX6_times_43 : decode cX6_times 43 = .ok (.ireturn, 1) := by decide +kernel
set_option maxRecDepth 20000 in
theorem ggX6_make_X6_targetsOf : GoodIn wsX6_make wsX6_targetsOf := goodIn_r _ [21, 2, 22, 23, 24, 20, 25, 26, 27, 28, 29, 30, 31, 32, 33, 34, 35, 36, 37, 38, 39, 40, 41, 42, 43, 44, 45, 46, 47, 48, 59, 60, 61, 62, 63, 64, 65, 66, 67, 68, 69, 70, 71, 72, 73, 74, 75, 76, 77, 78, 79, 80] (by decide +kernel) (by decide +kernel)
set_option maxRecDepth 20000 in
theorem gX6_make_X6_targetsOf : GoodIn wsX6_make (wsV RX6 121 RX6 yX6_targetsOf wsX6_targetsOf) := goodIn_app (goodIn_of _ (by decide +kernel)) ggX6_make_X6_targetsOf
set_option maxRecDepth 20000 in
theorem ggX6_make_X6_call : GoodIn wsX6_make wsX6_call := goodIn_r _ [25, 26, 59, 60, 61, 62, 63, 64, 65, 66, 67, 68, 69, 70, 71, 72, 73, 74, 75, 76, 77, 78, 79, 80] (by decide +kernel) (by decide +kernel)
set_option maxRecDepth 20000 in
theorem gX6_make_X6_call : GoodIn wsX6_make (wsV RX6 114 RX6 yX6_call wsX6_call) := goodIn_app (goodIn_of _ (by decide +kernel)) ggX6_make_X6_call
set_option maxRecDepth 20000 in
theorem ggX6_make_X6_bits : GoodIn wsX6_make wsX6_bits := goodIn_r _ [51] (by decide +kernel) (by decide +kernel)
set_option maxRecDepth 20000 in
theorem gX6_make_X6_bits : GoodIn wsX6_make (va_wsS RX6 108 yX6_bits wsX6_bits) := goodIn_app (goodIn_of _ (by decide +kernel)) ggX6_make_X6_bits
set_option maxRecDepth 20000 in
theorem ggX6_make_X6_member : GoodIn wsX6_make wsX6_member := goodIn_r _ [54] (by decide +kernel) (by decide +kernel)
set_option maxRecDepth 20000 in
theorem gX6_make_X6_member : GoodIn wsX6_make (va_wsS RX6 111 yX6_member wsX6_member) := goodIn_app (goodIn_of _ (by decide +kernel)) ggX6_make_X6_member
set_option maxRecDepth 20000 in
theorem ggX6_make_X6_times : GoodIn wsX6_make wsX6_times := goodIn_r _ [58, 2, 5, 59, 60, 61, 62, 63, 64, 65, 66, 67, 68, 69, 70, 71, 72, 73, 74, 75, 76, 77, 78, 79, 80] (by decide +kernel) (by decide +kernel)
set_option maxRecDepth 20000 in
theorem gX6_make_X6_times : GoodIn wsX6_make (wsV RX6 130 RX6 yX6_times wsX6_times) := goodIn_app (goodIn_of _ (by decide +kernel)) ggX6_make_X6_times
theorem dX6_make_0 : decode cX6_make 0 = .ok (.aload_n 0, 1) := by decide +kernel
theorem dX6_make_1 : decode cX6_make 1 = .ok (.getfield 118, 3) := by decide +kernel
theorem dX6_make_4 : decode cX6_make 4 = .ok (.istore 6, 2) := by decide +kernel
theorem dX6_make_6 : decode cX6_make 6 = .ok (.aload_n 0, 1) := by decide +kernel
theorem dX6_make_7 : decode cX6_make 7 = .ok (.dup, 1) := by decide +kernel
theorem dX6_make_8 : decode cX6_make 8 = .ok (.getfield 118, 3) := by decide +kernel
theorem dX6_make_11 : decode cX6_make 11 = .ok (.iconst 1, 1) := by decide +kernel
theorem dX6_make_12 : decode cX6_make 12 = .ok (.iadd, 1) := by decide +kernel
theorem dX6_make_13 : decode cX6_make 13 = .ok (.putfield 118, 3) := by decide +kernel
theorem dX6_make_16 : decode cX6_make 16 = .ok (.aload_n 0, 1) := by decide +kernel
theorem dX6_make_17 : decode cX6_make 17 = .ok (.getfield 45, 3) := by decide +kernel
theorem dX6_make_20 : decode cX6_make 20 = .ok (.iload 6, 2) := by decide +kernel
theorem dX6_make_22 : decode cX6_make 22 = .ok (.iload_n 1, 1) := by decide +kernel
theorem dX6_make_23 : decode cX6_make 23 = .ok (.iastore, 1) := by decide +kernel
theorem dX6_make_24 : decode cX6_make 24 = .ok (.aload_n 0, 1) := by decide +kernel
theorem dX6_make_25 : decode cX6_make 25 = .ok (.getfield 57, 3) := by decide +kernel
theorem dX6_make_28 : decode cX6_make 28 = .ok (.iload 6, 2) := by decide +kernel
theorem dX6_make_30 : decode cX6_make 30 = .ok (.iload_n 2, 1) := by decide +kernel
theorem dX6_make_31 : decode cX6_make 31 = .ok (.iastore, 1) := by decide +kernel
theorem dX6_make_32 : decode cX6_make 32 = .ok (.aload_n 0, 1) := by decide +kernel
theorem dX6_make_33 : decode cX6_make 33 = .ok (.getfield 54, 3) := by decide +kernel
theorem dX6_make_36 : decode cX6_make 36 = .ok (.iload 6, 2) := by decide +kernel
theorem dX6_make_38 : decode cX6_make 38 = .ok (.iload_n 3, 1) := by decide +kernel
theorem dX6_make_39 : decode cX6_make 39 = .ok (.iastore, 1) := by decide +kernel
theorem dX6_make_40 : decode cX6_make 40 = .ok (.aload_n 0, 1) := by decide +kernel
theorem dX6_make_41 : decode cX6_make 41 = .ok (.getfield 48, 3) := by decide +kernel
theorem dX6_make_44 : decode cX6_make 44 = .ok (.iload 6, 2) := by decide +kernel
theorem dX6_make_46 : decode cX6_make 46 = .ok (.iload 4, 2) := by decide +kernel
theorem dX6_make_48 : decode cX6_make 48 = .ok (.iastore, 1) := by decide +kernel
theorem dX6_make_49 : decode cX6_make 49 = .ok (.aload_n 0, 1) := by decide +kernel
theorem dX6_make_50 : decode cX6_make 50 = .ok (.getfield 51, 3) := by decide +kernel
theorem dX6_make_53 : decode cX6_make 53 = .ok (.iload 6, 2) := by decide +kernel
theorem dX6_make_55 : decode cX6_make 55 = .ok (.iload 5, 2) := by decide +kernel
theorem dX6_make_57 : decode cX6_make 57 = .ok (.iastore, 1) := by decide +kernel
theorem dX6_make_58 : decode cX6_make 58 = .ok (.iconst 0, 1) := by decide +kernel
theorem dX6_make_59 : decode cX6_make 59 = .ok (.istore 7, 2) := by decide +kernel
theorem dX6_make_61 : decode cX6_make 61 = .ok (.iload 7, 2) := by decide +kernel
theorem dX6_make_63 : decode cX6_make 63 = .ok (.aload_n 0, 1) := by decide +kernel
theorem dX6_make_64 : decode cX6_make 64 = .ok (.getfield 30, 3) := by decide +kernel
theorem dX6_make_67 : decode cX6_make 67 = .ok (.iload_n 1, 1) := by decide +kernel
theorem dX6_make_68 : decode cX6_make 68 = .ok (.iaload, 1) := by decide +kernel
theorem dX6_make_69 : decode cX6_make 69 = .ok (.if_icmp .ge 139, 3) := by decide +kernel
theorem dX6_make_72 : decode cX6_make 72 = .ok (.aload_n 0, 1) := by decide +kernel
theorem dX6_make_73 : decode cX6_make 73 = .ok (.iload 6, 2) := by decide +kernel
theorem dX6_make_75 : decode cX6_make 75 = .ok (.iload 7, 2) := by decide +kernel
theorem dX6_make_77 : decode cX6_make 77 = .ok (.invokevirtual 121, 3) := by decide +kernel
theorem dX6_make_80 : decode cX6_make 80 = .ok (.istore 8, 2) := by decide +kernel
theorem dX6_make_82 : decode cX6_make 82 = .ok (.aload_n 0, 1) := by decide +kernel
theorem dX6_make_83 : decode cX6_make 83 = .ok (.getfield 63, 3) := by decide +kernel
theorem dX6_make_86 : decode cX6_make 86 = .ok (.bipush 8, 2) := by decide +kernel
theorem dX6_make_88 : decode cX6_make 88 = .ok (.iload 6, 2) := by decide +kernel
theorem dX6_make_90 : decode cX6_make 90 = .ok (.imul, 1) := by decide +kernel
theorem dX6_make_91 : decode cX6_make 91 = .ok (.iload 7, 2) := by decide +kernel
theorem dX6_make_93 : decode cX6_make 93 = .ok (.iadd, 1) := by decide +kernel
theorem dX6_make_94 : decode cX6_make 94 = .ok (.ldc 124, 2) := by decide +kernel
theorem dX6_make_96 : decode cX6_make 96 = .ok (.iload_n 2, 1) := by decide +kernel
theorem dX6_make_97 : decode cX6_make 97 = .ok (.aload_n 0, 1) := by decide +kernel
theorem dX6_make_98 : decode cX6_make 98 = .ok (.iload_n 1, 1) := by decide +kernel
theorem dX6_make_99 : decode cX6_make 99 = .ok (.iload 7, 2) := by decide +kernel
theorem dX6_make_101 : decode cX6_make 101 = .ok (.iconst 2, 1) := by decide +kernel
theorem dX6_make_102 : decode cX6_make 102 = .ok (.invokevirtual 114, 3) := by decide +kernel
theorem dX6_make_105 : decode cX6_make 105 = .ok (.imul, 1) := by decide +kernel
theorem dX6_make_106 : decode cX6_make 106 = .ok (.invokestatic 125, 3) := by decide +kernel
theorem dX6_make_109 : decode cX6_make 109 = .ok (.iastore, 1) := by decide +kernel
theorem dX6_make_110 : decode cX6_make 110 = .ok (.iload 8, 2) := by decide +kernel
theorem dX6_make_112 : decode cX6_make 112 = .ok (.invokestatic 108, 3) := by decide +kernel
theorem dX6_make_115 : decode cX6_make 115 = .ok (.iconst 1, 1) := by decide +kernel
theorem dX6_make_116 : decode cX6_make 116 = .ok (.if_icmp .ne 26, 3) := by decide +kernel
theorem dX6_make_119 : decode cX6_make 119 = .ok (.aload_n 0, 1) := by decide +kernel
theorem dX6_make_120 : decode cX6_make 120 = .ok (.iload 6, 2) := by decide +kernel
theorem dX6_make_122 : decode cX6_make 122 = .ok (.iload 8, 2) := by decide +kernel
theorem dX6_make_124 : decode cX6_make 124 = .ok (.iconst 0, 1) := by decide +kernel
theorem dX6_make_125 : decode cX6_make 125 = .ok (.invokestatic 111, 3) := by decide +kernel
theorem dX6_make_128 : decode cX6_make 128 = .ok (.invokevirtual 130, 3) := by decide +kernel
theorem dX6_make_131 : decode cX6_make 131 = .ok (.aload_n 0, 1) := by decide +kernel
theorem dX6_make_132 : decode cX6_make 132 = .ok (.getfield 42, 3) := by decide +kernel
theorem dX6_make_135 : decode cX6_make 135 = .ok (.if_icmp .le 7, 3) := by decide +kernel
theorem dX6_make_138 : decode cX6_make 138 = .ok (.iconst 1, 1) := by decide +kernel
theorem dX6_make_139 : decode cX6_make 139 = .ok (.goto 4, 3) := by decide +kernel
theorem dX6_make_142 : decode cX6_make 142 = .ok (.iconst 0, 1) := by decide +kernel
theorem dX6_make_143 : decode cX6_make 143 = .ok (.istore 9, 2) := by decide +kernel
theorem dX6_make_145 : decode cX6_make 145 = .ok (.aload_n 0, 1) := by decide +kernel
theorem dX6_make_146 : decode cX6_make 146 = .ok (.getfield 60, 3) := by decide +kernel
theorem dX6_make_149 : decode cX6_make 149 = .ok (.bipush 8, 2) := by decide +kernel
theorem dX6_make_151 : decode cX6_make 151 = .ok (.iload 6, 2) := by decide +kernel
theorem dX6_make_153 : decode cX6_make 153 = .ok (.imul, 1) := by decide +kernel
theorem dX6_make_154 : decode cX6_make 154 = .ok (.iload 7, 2) := by decide +kernel
theorem dX6_make_156 : decode cX6_make 156 = .ok (.iadd, 1) := by decide +kernel
theorem dX6_make_157 : decode cX6_make 157 = .ok (.iload 8, 2) := by decide +kernel
theorem dX6_make_159 : decode cX6_make 159 = .ok (.ifCond .ne 7, 3) := by decide +kernel
theorem dX6_make_162 : decode cX6_make 162 = .ok (.iconst 1, 1) := by decide +kernel
theorem dX6_make_163 : decode cX6_make 163 = .ok (.goto 38, 3) := by decide +kernel
theorem dX6_make_166 : decode cX6_make 166 = .ok (.iload 8, 2) := by decide +kernel
theorem dX6_make_168 : decode cX6_make 168 = .ok (.invokestatic 108, 3) := by decide +kernel
theorem dX6_make_171 : decode cX6_make 171 = .ok (.iconst 1, 1) := by decide +kernel
theorem dX6_make_172 : decode cX6_make 172 = .ok (.if_icmp .le 7, 3) := by decide +kernel
theorem dX6_make_175 : decode cX6_make 175 = .ok (.iconst 2, 1) := by decide +kernel
theorem dX6_make_176 : decode cX6_make 176 = .ok (.goto 25, 3) := by decide +kernel
theorem dX6_make_179 : decode cX6_make 179 = .ok (.iload_n 3, 1) := by decide +kernel
theorem dX6_make_180 : decode cX6_make 180 = .ok (.aload_n 0, 1) := by decide +kernel
theorem dX6_make_181 : decode cX6_make 181 = .ok (.getfield 39, 3) := by decide +kernel
theorem dX6_make_184 : decode cX6_make 184 = .ok (.if_icmp .lt 7, 3) := by decide +kernel
theorem dX6_make_187 : decode cX6_make 187 = .ok (.iconst 3, 1) := by decide +kernel
theorem dX6_make_188 : decode cX6_make 188 = .ok (.goto 13, 3) := by decide +kernel
theorem dX6_make_191 : decode cX6_make 191 = .ok (.iload 9, 2) := by decide +kernel
theorem dX6_make_193 : decode cX6_make 193 = .ok (.ifCond .eq 7, 3) := by decide +kernel
theorem dX6_make_196 : decode cX6_make 196 = .ok (.iconst 4, 1) := by decide +kernel
theorem dX6_make_197 : decode cX6_make 197 = .ok (.goto 4, 3) := by decide +kernel
theorem dX6_make_200 : decode cX6_make 200 = .ok (.iconst (-1), 1) := by decide +kernel
theorem dX6_make_201 : decode cX6_make 201 = .ok (.iastore, 1) := by decide +kernel
theorem dX6_make_202 : decode cX6_make 202 = .ok (.iinc 7 1, 3) := by decide +kernel
theorem dX6_make_205 : decode cX6_make 205 = .ok (.goto (-144), 3) := by decide +kernel
theorem dX6_make_208 : decode cX6_make 208 = .ok (.return_, 1) := by decide +kernel
set_option maxRecDepth 20000 in
theorem ggX6_merit_X6_targetsOf : GoodIn wsX6_merit wsX6_targetsOf := goodIn_r _ [7, 8, 9, 10, 11, 6, 12, 13, 14, 15, 16, 17, 18, 19, 20, 21, 22, 23, 24, 25, 26, 27, 28, 29, 30, 31, 32, 33, 34, 35, 39, 40, 41, 42, 43, 44, 45, 46, 47, 48, 49, 50, 51, 52, 53, 54, 55, 56, 57, 58, 59, 60] (by decide +kernel) (by decide +kernel)
set_option maxRecDepth 20000 in
theorem gX6_merit_X6_targetsOf : GoodIn wsX6_merit (wsV RX6 121 RX6 yX6_targetsOf wsX6_targetsOf) := goodIn_app (goodIn_of _ (by decide +kernel)) ggX6_merit_X6_targetsOf
set_option maxRecDepth 20000 in
theorem ggX6_merit_X6_member : GoodIn wsX6_merit wsX6_member := goodIn_r _ [38] (by decide +kernel) (by decide +kernel)
set_option maxRecDepth 20000 in
theorem gX6_merit_X6_member : GoodIn wsX6_merit (va_wsS RX6 111 yX6_member wsX6_member) := goodIn_app (goodIn_of _ (by decide +kernel)) ggX6_merit_X6_member
theorem dX6_merit_0 : decode cX6_merit 0 = .ok (.sipush 1000, 3) := by decide +kernel
theorem dX6_merit_3 : decode cX6_merit 3 = .ok (.aload_n 0, 1) := by decide +kernel
theorem dX6_merit_4 : decode cX6_merit 4 = .ok (.getfield 63, 3) := by decide +kernel
theorem dX6_merit_7 : decode cX6_merit 7 = .ok (.bipush 8, 2) := by decide +kernel
theorem dX6_merit_9 : decode cX6_merit 9 = .ok (.iload_n 1, 1) := by decide +kernel
theorem dX6_merit_10 : decode cX6_merit 10 = .ok (.imul, 1) := by decide +kernel
theorem dX6_merit_11 : decode cX6_merit 11 = .ok (.iload_n 2, 1) := by decide +kernel
theorem dX6_merit_12 : decode cX6_merit 12 = .ok (.iadd, 1) := by decide +kernel
theorem dX6_merit_13 : decode cX6_merit 13 = .ok (.iaload, 1) := by decide +kernel
theorem dX6_merit_14 : decode cX6_merit 14 = .ok (.imul, 1) := by decide +kernel
theorem dX6_merit_15 : decode cX6_merit 15 = .ok (.aload_n 0, 1) := by decide +kernel
theorem dX6_merit_16 : decode cX6_merit 16 = .ok (.getfield 27, 3) := by decide +kernel
theorem dX6_merit_19 : decode cX6_merit 19 = .ok (.aload_n 0, 1) := by decide +kernel
theorem dX6_merit_20 : decode cX6_merit 20 = .ok (.iload_n 1, 1) := by decide +kernel
theorem dX6_merit_21 : decode cX6_merit 21 = .ok (.iload_n 2, 1) := by decide +kernel
theorem dX6_merit_22 : decode cX6_merit 22 = .ok (.invokevirtual 121, 3) := by decide +kernel
theorem dX6_merit_25 : decode cX6_merit 25 = .ok (.iconst 0, 1) := by decide +kernel
theorem dX6_merit_26 : decode cX6_merit 26 = .ok (.invokestatic 111, 3) := by decide +kernel
theorem dX6_merit_29 : decode cX6_merit 29 = .ok (.iaload, 1) := by decide +kernel
theorem dX6_merit_30 : decode cX6_merit 30 = .ok (.idiv, 1) := by decide +kernel
theorem dX6_merit_31 : decode cX6_merit 31 = .ok (.ireturn, 1) := by decide +kernel
set_option maxRecDepth 20000 in
theorem ggX6_best_X6_merit : GoodIn wsX6_best wsX6_merit := goodIn_r _ [9, 10, 11, 12, 13, 14, 8, 15, 3, 16, 17, 18, 19, 20, 21, 22, 23, 24, 25, 26, 27, 28, 29, 30, 31, 32, 33, 34, 35, 36, 37, 38, 39, 40, 41, 42, 43, 44, 45, 46, 47, 48, 49, 50, 51, 52, 53, 54, 55, 56, 57, 58, 59, 60, 61, 62, 63, 64, 65, 66, 67] (by decide +kernel) (by decide +kernel)
set_option maxRecDepth 20000 in
theorem gX6_best_X6_merit : GoodIn wsX6_best (wsV RX6 133 RX6 yX6_merit wsX6_merit) := goodIn_app (goodIn_of _ (by decide +kernel)) ggX6_best_X6_merit
theorem dX6_best_0 : decode cX6_best 0 = .ok (.iconst (-1), 1) := by decide +kernel
theorem dX6_best_1 : decode cX6_best 1 = .ok (.istore_n 1, 1) := by decide +kernel
theorem dX6_best_2 : decode cX6_best 2 = .ok (.iconst 0, 1) := by decide +kernel
theorem dX6_best_3 : decode cX6_best 3 = .ok (.istore_n 2, 1) := by decide +kernel
theorem dX6_best_4 : decode cX6_best 4 = .ok (.iconst 0, 1) := by decide +kernel
theorem dX6_best_5 : decode cX6_best 5 = .ok (.istore_n 3, 1) := by decide +kernel
theorem dX6_best_6 : decode cX6_best 6 = .ok (.iload_n 3, 1) := by decide +kernel
theorem dX6_best_7 : decode cX6_best 7 = .ok (.aload_n 0, 1) := by decide +kernel
theorem dX6_best_8 : decode cX6_best 8 = .ok (.getfield 118, 3) := by decide +kernel
theorem dX6_best_11 : decode cX6_best 11 = .ok (.if_icmp .ge 87, 3) := by decide +kernel
theorem dX6_best_14 : decode cX6_best 14 = .ok (.iconst 0, 1) := by decide +kernel
theorem dX6_best_15 : decode cX6_best 15 = .ok (.istore 4, 2) := by decide +kernel
theorem dX6_best_17 : decode cX6_best 17 = .ok (.iload 4, 2) := by decide +kernel
theorem dX6_best_19 : decode cX6_best 19 = .ok (.aload_n 0, 1) := by decide +kernel
theorem dX6_best_20 : decode cX6_best 20 = .ok (.getfield 30, 3) := by decide +kernel
theorem dX6_best_23 : decode cX6_best 23 = .ok (.aload_n 0, 1) := by decide +kernel
theorem dX6_best_24 : decode cX6_best 24 = .ok (.getfield 45, 3) := by decide +kernel
theorem dX6_best_27 : decode cX6_best 27 = .ok (.iload_n 3, 1) := by decide +kernel
theorem dX6_best_28 : decode cX6_best 28 = .ok (.iaload, 1) := by decide +kernel
theorem dX6_best_29 : decode cX6_best 29 = .ok (.iaload, 1) := by decide +kernel
theorem dX6_best_30 : decode cX6_best 30 = .ok (.if_icmp .ge 62, 3) := by decide +kernel
theorem dX6_best_33 : decode cX6_best 33 = .ok (.aload_n 0, 1) := by decide +kernel
theorem dX6_best_34 : decode cX6_best 34 = .ok (.getfield 60, 3) := by decide +kernel
theorem dX6_best_37 : decode cX6_best 37 = .ok (.bipush 8, 2) := by decide +kernel
theorem dX6_best_39 : decode cX6_best 39 = .ok (.iload_n 3, 1) := by decide +kernel
theorem dX6_best_40 : decode cX6_best 40 = .ok (.imul, 1) := by decide +kernel
theorem dX6_best_41 : decode cX6_best 41 = .ok (.iload 4, 2) := by decide +kernel
theorem dX6_best_43 : decode cX6_best 43 = .ok (.iadd, 1) := by decide +kernel
theorem dX6_best_44 : decode cX6_best 44 = .ok (.iaload, 1) := by decide +kernel
theorem dX6_best_45 : decode cX6_best 45 = .ok (.iconst (-1), 1) := by decide +kernel
theorem dX6_best_46 : decode cX6_best 46 = .ok (.if_icmp .eq 6, 3) := by decide +kernel
theorem dX6_best_49 : decode cX6_best 49 = .ok (.goto 37, 3) := by decide +kernel
theorem dX6_best_52 : decode cX6_best 52 = .ok (.aload_n 0, 1) := by decide +kernel
theorem dX6_best_53 : decode cX6_best 53 = .ok (.iload_n 3, 1) := by decide +kernel
theorem dX6_best_54 : decode cX6_best 54 = .ok (.iload 4, 2) := by decide +kernel
theorem dX6_best_56 : decode cX6_best 56 = .ok (.invokevirtual 133, 3) := by decide +kernel
theorem dX6_best_59 : decode cX6_best 59 = .ok (.istore 5, 2) := by decide +kernel
theorem dX6_best_61 : decode cX6_best 61 = .ok (.iload_n 1, 1) := by decide +kernel
theorem dX6_best_62 : decode cX6_best 62 = .ok (.iconst (-1), 1) := by decide +kernel
theorem dX6_best_63 : decode cX6_best 63 = .ok (.if_icmp .eq 12, 3) := by decide +kernel
theorem dX6_best_66 : decode cX6_best 66 = .ok (.iload 5, 2) := by decide +kernel
theorem dX6_best_68 : decode cX6_best 68 = .ok (.iload_n 2, 1) := by decide +kernel
theorem dX6_best_69 : decode cX6_best 69 = .ok (.if_icmp .gt 6, 3) := by decide +kernel
theorem dX6_best_72 : decode cX6_best 72 = .ok (.goto 14, 3) := by decide +kernel
theorem dX6_best_75 : decode cX6_best 75 = .ok (.bipush 8, 2) := by decide +kernel
theorem dX6_best_77 : decode cX6_best 77 = .ok (.iload_n 3, 1) := by decide +kernel
theorem dX6_best_78 : decode cX6_best 78 = .ok (.imul, 1) := by decide +kernel
theorem dX6_best_79 : decode cX6_best 79 = .ok (.iload 4, 2) := by decide +kernel
theorem dX6_best_81 : decode cX6_best 81 = .ok (.iadd, 1) := by decide +kernel
theorem dX6_best_82 : decode cX6_best 82 = .ok (.istore_n 1, 1) := by decide +kernel
theorem dX6_best_83 : decode cX6_best 83 = .ok (.iload 5, 2) := by decide +kernel
theorem dX6_best_85 : decode cX6_best 85 = .ok (.istore_n 2, 1) := by decide +kernel
theorem dX6_best_86 : decode cX6_best 86 = .ok (.iinc 4 1, 3) := by decide +kernel
theorem dX6_best_89 : decode cX6_best 89 = .ok (.goto (-72), 3) := by decide +kernel
theorem dX6_best_92 : decode cX6_best 92 = .ok (.iinc 3 1, 3) := by decide +kernel
theorem dX6_best_95 : decode cX6_best 95 = .ok (.goto (-89), 3) := by decide +kernel
theorem dX6_best_98 : decode cX6_best 98 = .ok (.iload_n 1, 1) := by decide +kernel
theorem dX6_best_99 : decode cX6_best 99 = .ok (.ireturn, 1) := by decide +kernel
theorem dX6_wholeSize_0 : decode cX6_wholeSize 0 = .ok (.iconst 0, 1) := by decide +kernel
theorem dX6_wholeSize_1 : decode cX6_wholeSize 1 = .ok (.istore_n 1, 1) := by decide +kernel
theorem dX6_wholeSize_2 : decode cX6_wholeSize 2 = .ok (.iconst 0, 1) := by decide +kernel
theorem dX6_wholeSize_3 : decode cX6_wholeSize 3 = .ok (.istore_n 2, 1) := by decide +kernel
theorem dX6_wholeSize_4 : decode cX6_wholeSize 4 = .ok (.iload_n 2, 1) := by decide +kernel
theorem dX6_wholeSize_5 : decode cX6_wholeSize 5 = .ok (.aload_n 0, 1) := by decide +kernel
theorem dX6_wholeSize_6 : decode cX6_wholeSize 6 = .ok (.getfield 118, 3) := by decide +kernel
theorem dX6_wholeSize_9 : decode cX6_wholeSize 9 = .ok (.if_icmp .ge 23, 3) := by decide +kernel
theorem dX6_wholeSize_12 : decode cX6_wholeSize 12 = .ok (.iload_n 1, 1) := by decide +kernel
theorem dX6_wholeSize_13 : decode cX6_wholeSize 13 = .ok (.aload_n 0, 1) := by decide +kernel
theorem dX6_wholeSize_14 : decode cX6_wholeSize 14 = .ok (.getfield 27, 3) := by decide +kernel
theorem dX6_wholeSize_17 : decode cX6_wholeSize 17 = .ok (.aload_n 0, 1) := by decide +kernel
theorem dX6_wholeSize_18 : decode cX6_wholeSize 18 = .ok (.getfield 45, 3) := by decide +kernel
theorem dX6_wholeSize_21 : decode cX6_wholeSize 21 = .ok (.iload_n 2, 1) := by decide +kernel
theorem dX6_wholeSize_22 : decode cX6_wholeSize 22 = .ok (.iaload, 1) := by decide +kernel
theorem dX6_wholeSize_23 : decode cX6_wholeSize 23 = .ok (.iaload, 1) := by decide +kernel
theorem dX6_wholeSize_24 : decode cX6_wholeSize 24 = .ok (.iadd, 1) := by decide +kernel
theorem dX6_wholeSize_25 : decode cX6_wholeSize 25 = .ok (.istore_n 1, 1) := by decide +kernel
theorem dX6_wholeSize_26 : decode cX6_wholeSize 26 = .ok (.iinc 2 1, 3) := by decide +kernel
theorem dX6_wholeSize_29 : decode cX6_wholeSize 29 = .ok (.goto (-25), 3) := by decide +kernel
theorem dX6_wholeSize_32 : decode cX6_wholeSize 32 = .ok (.iload_n 1, 1) := by decide +kernel
theorem dX6_wholeSize_33 : decode cX6_wholeSize 33 = .ok (.ireturn, 1) := by decide +kernel
set_option maxRecDepth 20000 in
theorem ggX6_plan_X6_isMethod : GoodIn wsX6_plan wsX6_isMethod := goodIn_r _ [13, 14, 15, 16, 12, 17, 90, 91, 92, 93, 94, 95, 96, 97, 98, 99, 100, 101, 102, 103, 104, 105, 106, 107, 108, 109, 110, 111] (by decide +kernel) (by decide +kernel)
set_option maxRecDepth 20000 in
theorem gX6_plan_X6_isMethod : GoodIn wsX6_plan (wsV RX6 95 RX6 yX6_isMethod wsX6_isMethod) := goodIn_app (goodIn_of _ (by decide +kernel)) ggX6_plan_X6_isMethod
set_option maxRecDepth 20000 in
theorem ggX6_plan_X6_no : GoodIn wsX6_plan wsX6_no := goodIn_r _ [21, 1, 90, 91, 92, 93, 94, 95, 96, 97, 98, 99, 100, 101, 102, 103, 104, 105, 106, 107, 108, 109, 110, 111] (by decide +kernel) (by decide +kernel)
set_option maxRecDepth 20000 in
theorem gX6_plan_X6_no : GoodIn wsX6_plan (wsV RX6 80 RX6 yX6_no wsX6_no) := goodIn_app (goodIn_of _ (by decide +kernel)) ggX6_plan_X6_no
set_option maxRecDepth 20000 in
theorem ggX6_plan_X6_make : GoodIn wsX6_plan wsX6_make := goodIn_r _ [25, 2, 26, 27, 8, 28, 29, 30, 7, 31, 32, 33, 34, 35, 36, 4, 37, 38, 39, 40, 12, 41, 42, 43, 44, 45, 46, 47, 48, 49, 50, 51, 52, 53, 54, 55, 56, 57, 58, 59, 60, 61, 62, 63, 64, 65, 14, 66, 67, 68, 69, 70, 71, 72, 73, 74, 75, 76, 77, 90, 91, 92, 93, 94, 95, 96, 97, 98, 99, 100, 101, 102, 103, 104, 105, 106, 107, 108, 109, 110, 111] (by decide +kernel) (by decide +kernel)
set_option maxRecDepth 20000 in
theorem gX6_plan_X6_make : GoodIn wsX6_plan (wsV RX6 136 RX6 yX6_make wsX6_make) := goodIn_app (goodIn_of _ (by decide +kernel)) ggX6_plan_X6_make
set_option maxRecDepth 20000 in
theorem ggX6_plan_X6_best : GoodIn wsX6_plan wsX6_best := goodIn_r _ [81, 2, 30, 26, 4, 82, 83, 84, 12, 85, 7, 5, 38, 39, 40, 41, 42, 43, 44, 45, 46, 47, 48, 49, 50, 51, 52, 53, 54, 55, 56, 57, 58, 59, 60, 61, 62, 63, 64, 65, 14, 66, 67, 71, 72, 73, 90, 91, 92, 93, 94, 95, 96, 97, 98, 99, 100, 101, 102, 103, 104, 105, 106, 107, 108, 109, 110, 111] (by decide +kernel) (by decide +kernel)
set_option maxRecDepth 20000 in
theorem gX6_plan_X6_best : GoodIn wsX6_plan (wsV RX6 140 RX6 yX6_best wsX6_best) := goodIn_app (goodIn_of _ (by decide +kernel)) ggX6_plan_X6_best
set_option maxRecDepth 20000 in
theorem ggX6_plan_X6_targetsOf : GoodIn wsX6_plan wsX6_targetsOf := goodIn_r _ [41, 26, 42, 43, 44, 12, 45, 46, 47, 48, 49, 50, 51, 52, 53, 54, 55, 56, 57, 58, 59, 60, 61, 62, 63, 64, 65, 14, 66, 67, 90, 91, 92, 93, 94, 95, 96, 97, 98, 99, 100, 101, 102, 103, 104, 105, 106, 107, 108, 109, 110, 111] (by decide +kernel) (by decide +kernel)
set_option maxRecDepth 20000 in
theorem gX6_plan_X6_targetsOf : GoodIn wsX6_plan (wsV RX6 121 RX6 yX6_targetsOf wsX6_targetsOf) := goodIn_app (goodIn_of _ (by decide +kernel)) ggX6_plan_X6_targetsOf
set_option maxRecDepth 20000 in
theorem ggX6_plan_X6_member : GoodIn wsX6_plan wsX6_member := goodIn_r _ [73] (by decide +kernel) (by decide +kernel)
set_option maxRecDepth 20000 in
theorem gX6_plan_X6_member : GoodIn wsX6_plan (va_wsS RX6 111 yX6_member wsX6_member) := goodIn_app (goodIn_of _ (by decide +kernel)) ggX6_plan_X6_member
set_option maxRecDepth 20000 in
theorem ggX6_plan_X6_wholeSize : GoodIn wsX6_plan wsX6_wholeSize := goodIn_r _ [89, 2, 5, 26, 90, 91, 92, 93, 94, 95, 96, 97, 98, 99, 100, 101, 102, 103, 104, 105, 106, 107, 108, 109, 110, 111] (by decide +kernel) (by decide +kernel)
set_option maxRecDepth 20000 in
theorem gX6_plan_X6_wholeSize : GoodIn wsX6_plan (wsV RX6 144 RX6 yX6_wholeSize wsX6_wholeSize) := goodIn_app (goodIn_of _ (by decide +kernel)) ggX6_plan_X6_wholeSize
theorem dX6_plan_0 : decode cX6_plan 0 = .ok (.aload_n 0, 1) := by decide +kernel
theorem dX6_plan_1 : decode cX6_plan 1 = .ok (.iconst 0, 1) := by decide +kernel
theorem dX6_plan_2 : decode cX6_plan 2 = .ok (.putfield 66, 3) := by decide +kernel
theorem dX6_plan_5 : decode cX6_plan 5 = .ok (.aload_n 0, 1) := by decide +kernel
theorem dX6_plan_6 : decode cX6_plan 6 = .ok (.iload_n 1, 1) := by decide +kernel
theorem dX6_plan_7 : decode cX6_plan 7 = .ok (.invokevirtual 95, 3) := by decide +kernel
theorem dX6_plan_10 : decode cX6_plan 10 = .ok (.ifCond .ne 9, 3) := by decide +kernel
theorem dX6_plan_13 : decode cX6_plan 13 = .ok (.aload_n 0, 1) := by decide +kernel
theorem dX6_plan_14 : decode cX6_plan 14 = .ok (.iconst 1, 1) := by decide +kernel
theorem dX6_plan_15 : decode cX6_plan 15 = .ok (.invokevirtual 80, 3) := by decide +kernel
theorem dX6_plan_18 : decode cX6_plan 18 = .ok (.ireturn, 1) := by decide +kernel
theorem dX6_plan_19 : decode cX6_plan 19 = .ok (.aload_n 0, 1) := by decide +kernel
theorem dX6_plan_20 : decode cX6_plan 20 = .ok (.iconst 0, 1) := by decide +kernel
theorem dX6_plan_21 : decode cX6_plan 21 = .ok (.putfield 118, 3) := by decide +kernel
theorem dX6_plan_24 : decode cX6_plan 24 = .ok (.aload_n 0, 1) := by decide +kernel
theorem dX6_plan_25 : decode cX6_plan 25 = .ok (.iconst 1, 1) := by decide +kernel
theorem dX6_plan_26 : decode cX6_plan 26 = .ok (.putfield 98, 3) := by decide +kernel
theorem dX6_plan_29 : decode cX6_plan 29 = .ok (.aload_n 0, 1) := by decide +kernel
theorem dX6_plan_30 : decode cX6_plan 30 = .ok (.iload_n 1, 1) := by decide +kernel
theorem dX6_plan_31 : decode cX6_plan 31 = .ok (.iconst 1, 1) := by decide +kernel
theorem dX6_plan_32 : decode cX6_plan 32 = .ok (.iconst 0, 1) := by decide +kernel
theorem dX6_plan_33 : decode cX6_plan 33 = .ok (.iconst (-1), 1) := by decide +kernel
theorem dX6_plan_34 : decode cX6_plan 34 = .ok (.iconst (-1), 1) := by decide +kernel
theorem dX6_plan_35 : decode cX6_plan 35 = .ok (.invokevirtual 136, 3) := by decide +kernel
theorem dX6_plan_38 : decode cX6_plan 38 = .ok (.aload_n 0, 1) := by decide +kernel
theorem dX6_plan_39 : decode cX6_plan 39 = .ok (.invokevirtual 140, 3) := by decide +kernel
theorem dX6_plan_42 : decode cX6_plan 42 = .ok (.istore_n 2, 1) := by decide +kernel
theorem dX6_plan_43 : decode cX6_plan 43 = .ok (.iload_n 2, 1) := by decide +kernel
theorem dX6_plan_44 : decode cX6_plan 44 = .ok (.iconst (-1), 1) := by decide +kernel
theorem dX6_plan_45 : decode cX6_plan 45 = .ok (.if_icmp .eq 109, 3) := by decide +kernel
theorem dX6_plan_48 : decode cX6_plan 48 = .ok (.iload_n 2, 1) := by decide +kernel
theorem dX6_plan_49 : decode cX6_plan 49 = .ok (.bipush 8, 2) := by decide +kernel
theorem dX6_plan_51 : decode cX6_plan 51 = .ok (.idiv, 1) := by decide +kernel
theorem dX6_plan_52 : decode cX6_plan 52 = .ok (.istore_n 3, 1) := by decide +kernel
theorem dX6_plan_53 : decode cX6_plan 53 = .ok (.aload_n 0, 1) := by decide +kernel
theorem dX6_plan_54 : decode cX6_plan 54 = .ok (.iload_n 3, 1) := by decide +kernel
theorem dX6_plan_55 : decode cX6_plan 55 = .ok (.iload_n 2, 1) := by decide +kernel
theorem dX6_plan_56 : decode cX6_plan 56 = .ok (.bipush 8, 2) := by decide +kernel
theorem dX6_plan_58 : decode cX6_plan 58 = .ok (.irem, 1) := by decide +kernel
theorem dX6_plan_59 : decode cX6_plan 59 = .ok (.invokevirtual 121, 3) := by decide +kernel
theorem dX6_plan_62 : decode cX6_plan 62 = .ok (.iconst 0, 1) := by decide +kernel
theorem dX6_plan_63 : decode cX6_plan 63 = .ok (.invokestatic 111, 3) := by decide +kernel
theorem dX6_plan_66 : decode cX6_plan 66 = .ok (.istore 4, 2) := by decide +kernel
theorem dX6_plan_68 : decode cX6_plan 68 = .ok (.aload_n 0, 1) := by decide +kernel
theorem dX6_plan_69 : decode cX6_plan 69 = .ok (.getfield 60, 3) := by decide +kernel
theorem dX6_plan_72 : decode cX6_plan 72 = .ok (.iload_n 2, 1) := by decide +kernel
theorem dX6_plan_73 : decode cX6_plan 73 = .ok (.aload_n 0, 1) := by decide +kernel
theorem dX6_plan_74 : decode cX6_plan 74 = .ok (.invokevirtual 144, 3) := by decide +kernel
theorem dX6_plan_77 : decode cX6_plan 77 = .ok (.aload_n 0, 1) := by decide +kernel
theorem dX6_plan_78 : decode cX6_plan 78 = .ok (.getfield 27, 3) := by decide +kernel
theorem dX6_plan_81 : decode cX6_plan 81 = .ok (.iload 4, 2) := by decide +kernel
theorem dX6_plan_83 : decode cX6_plan 83 = .ok (.iaload, 1) := by decide +kernel
theorem dX6_plan_84 : decode cX6_plan 84 = .ok (.iadd, 1) := by decide +kernel
theorem dX6_plan_85 : decode cX6_plan 85 = .ok (.aload_n 0, 1) := by decide +kernel
theorem dX6_plan_86 : decode cX6_plan 86 = .ok (.getfield 36, 3) := by decide +kernel
theorem dX6_plan_89 : decode cX6_plan 89 = .ok (.if_icmp .le 7, 3) := by decide +kernel
theorem dX6_plan_92 : decode cX6_plan 92 = .ok (.iconst 5, 1) := by decide +kernel
theorem dX6_plan_93 : decode cX6_plan 93 = .ok (.goto 18, 3) := by decide +kernel
theorem dX6_plan_96 : decode cX6_plan 96 = .ok (.aload_n 0, 1) := by decide +kernel
theorem dX6_plan_97 : decode cX6_plan 97 = .ok (.getfield 118, 3) := by decide +kernel
theorem dX6_plan_100 : decode cX6_plan 100 = .ok (.bipush 50, 2) := by decide +kernel
theorem dX6_plan_102 : decode cX6_plan 102 = .ok (.if_icmp .ne 8, 3) := by decide +kernel
theorem dX6_plan_105 : decode cX6_plan 105 = .ok (.bipush 6, 2) := by decide +kernel
theorem dX6_plan_107 : decode cX6_plan 107 = .ok (.goto 4, 3) := by decide +kernel
theorem dX6_plan_110 : decode cX6_plan 110 = .ok (.iconst 0, 1) := by decide +kernel
theorem dX6_plan_111 : decode cX6_plan 111 = .ok (.iastore, 1) := by decide +kernel
theorem dX6_plan_112 : decode cX6_plan 112 = .ok (.aload_n 0, 1) := by decide +kernel
theorem dX6_plan_113 : decode cX6_plan 113 = .ok (.getfield 60, 3) := by decide +kernel
theorem dX6_plan_116 : decode cX6_plan 116 = .ok (.iload_n 2, 1) := by decide +kernel
theorem dX6_plan_117 : decode cX6_plan 117 = .ok (.iaload, 1) := by decide +kernel
theorem dX6_plan_118 : decode cX6_plan 118 = .ok (.ifCond .ne 28, 3) := by decide +kernel
theorem dX6_plan_121 : decode cX6_plan 121 = .ok (.aload_n 0, 1) := by decide +kernel
theorem dX6_plan_122 : decode cX6_plan 122 = .ok (.iload 4, 2) := by decide +kernel
theorem dX6_plan_124 : decode cX6_plan 124 = .ok (.aload_n 0, 1) := by decide +kernel
theorem dX6_plan_125 : decode cX6_plan 125 = .ok (.getfield 63, 3) := by decide +kernel
theorem dX6_plan_128 : decode cX6_plan 128 = .ok (.iload_n 2, 1) := by decide +kernel
theorem dX6_plan_129 : decode cX6_plan 129 = .ok (.iaload, 1) := by decide +kernel
theorem dX6_plan_130 : decode cX6_plan 130 = .ok (.aload_n 0, 1) := by decide +kernel
theorem dX6_plan_131 : decode cX6_plan 131 = .ok (.getfield 54, 3) := by decide +kernel
theorem dX6_plan_134 : decode cX6_plan 134 = .ok (.iload_n 3, 1) := by decide +kernel
theorem dX6_plan_135 : decode cX6_plan 135 = .ok (.iaload, 1) := by decide +kernel
theorem dX6_plan_136 : decode cX6_plan 136 = .ok (.iconst 1, 1) := by decide +kernel
theorem dX6_plan_137 : decode cX6_plan 137 = .ok (.iadd, 1) := by decide +kernel
theorem dX6_plan_138 : decode cX6_plan 138 = .ok (.iload_n 3, 1) := by decide +kernel
theorem dX6_plan_139 : decode cX6_plan 139 = .ok (.iload_n 2, 1) := by decide +kernel
theorem dX6_plan_140 : decode cX6_plan 140 = .ok (.bipush 8, 2) := by decide +kernel
theorem dX6_plan_142 : decode cX6_plan 142 = .ok (.irem, 1) := by decide +kernel
theorem dX6_plan_143 : decode cX6_plan 143 = .ok (.invokevirtual 136, 3) := by decide +kernel
theorem dX6_plan_146 : decode cX6_plan 146 = .ok (.aload_n 0, 1) := by decide +kernel
theorem dX6_plan_147 : decode cX6_plan 147 = .ok (.invokevirtual 140, 3) := by decide +kernel
theorem dX6_plan_150 : decode cX6_plan 150 = .ok (.istore_n 2, 1) := by decide +kernel
theorem dX6_plan_151 : decode cX6_plan 151 = .ok (.goto (-108), 3) := by decide +kernel
theorem dX6_plan_154 : decode cX6_plan 154 = .ok (.aload_n 0, 1) := by decide +kernel
theorem dX6_plan_155 : decode cX6_plan 155 = .ok (.getfield 118, 3) := by decide +kernel
theorem dX6_plan_158 : decode cX6_plan 158 = .ok (.ireturn, 1) := by decide +kernel
theorem dX6_hasPlan_0 : decode cX6_hasPlan 0 = .ok (.aload_n 0, 1) := by decide +kernel
theorem dX6_hasPlan_1 : decode cX6_hasPlan 1 = .ok (.iconst 0, 1) := by decide +kernel
theorem dX6_hasPlan_2 : decode cX6_hasPlan 2 = .ok (.putfield 66, 3) := by decide +kernel
theorem dX6_hasPlan_5 : decode cX6_hasPlan 5 = .ok (.aload_n 0, 1) := by decide +kernel
theorem dX6_hasPlan_6 : decode cX6_hasPlan 6 = .ok (.getfield 98, 3) := by decide +kernel
theorem dX6_hasPlan_9 : decode cX6_hasPlan 9 = .ok (.ireturn, 1) := by decide +kernel
theorem dX6_asks_0 : decode cX6_asks 0 = .ok (.aload_n 0, 1) := by decide +kernel
theorem dX6_asks_1 : decode cX6_asks 1 = .ok (.aload_n 0, 1) := by decide +kernel
theorem dX6_asks_2 : decode cX6_asks 2 = .ok (.getfield 98, 3) := by decide +kernel
theorem dX6_asks_5 : decode cX6_asks 5 = .ok (.ifCond .eq 7, 3) := by decide +kernel
theorem dX6_asks_8 : decode cX6_asks 8 = .ok (.iconst 0, 1) := by decide +kernel
theorem dX6_asks_9 : decode cX6_asks 9 = .ok (.goto 4, 3) := by decide +kernel
theorem dX6_asks_12 : decode cX6_asks 12 = .ok (.iconst 1, 1) := by decide +kernel
theorem dX6_asks_13 : decode cX6_asks 13 = .ok (.putfield 66, 3) := by decide +kernel
theorem dX6_asks_16 : decode cX6_asks 16 = .ok (.aload_n 0, 1) := by decide +kernel
theorem dX6_asks_17 : decode cX6_asks 17 = .ok (.getfield 98, 3) := by decide +kernel
theorem dX6_asks_20 : decode cX6_asks 20 = .ok (.ireturn, 1) := by decide +kernel
set_option maxRecDepth 20000 in
theorem ggX6_asks__X6_isIn : GoodIn wsX6_asks_ wsX6_isIn := goodIn_r _ [7] (by decide +kernel) (by decide +kernel)
set_option maxRecDepth 20000 in
theorem gX6_asks__X6_isIn : GoodIn wsX6_asks_ (va_wsS RX6 69 yX6_isIn wsX6_isIn) := goodIn_app (goodIn_of _ (by decide +kernel)) ggX6_asks__X6_isIn
theorem dX6_asks__0 : decode cX6_asks_ 0 = .ok (.aload_n 0, 1) := by decide +kernel
theorem dX6_asks__1 : decode cX6_asks_ 1 = .ok (.aload_n 0, 1) := by decide +kernel
theorem dX6_asks__2 : decode cX6_asks_ 2 = .ok (.getfield 98, 3) := by decide +kernel
theorem dX6_asks__5 : decode cX6_asks_ 5 = .ok (.ifCond .ne 7, 3) := by decide +kernel
theorem dX6_asks__8 : decode cX6_asks_ 8 = .ok (.iconst 1, 1) := by decide +kernel
theorem dX6_asks__9 : decode cX6_asks_ 9 = .ok (.goto 22, 3) := by decide +kernel
theorem dX6_asks__12 : decode cX6_asks_ 12 = .ok (.iload_n 1, 1) := by decide +kernel
theorem dX6_asks__13 : decode cX6_asks_ 13 = .ok (.iconst 0, 1) := by decide +kernel
theorem dX6_asks__14 : decode cX6_asks_ 14 = .ok (.aload_n 0, 1) := by decide +kernel
theorem dX6_asks__15 : decode cX6_asks_ 15 = .ok (.getfield 118, 3) := by decide +kernel
theorem dX6_asks__18 : decode cX6_asks_ 18 = .ok (.iconst 1, 1) := by decide +kernel
theorem dX6_asks__19 : decode cX6_asks_ 19 = .ok (.isub, 1) := by decide +kernel
theorem dX6_asks__20 : decode cX6_asks_ 20 = .ok (.invokestatic 69, 3) := by decide +kernel
theorem dX6_asks__23 : decode cX6_asks_ 23 = .ok (.ifCond .ne 7, 3) := by decide +kernel
theorem dX6_asks__26 : decode cX6_asks_ 26 = .ok (.iconst 2, 1) := by decide +kernel
theorem dX6_asks__27 : decode cX6_asks_ 27 = .ok (.goto 4, 3) := by decide +kernel
theorem dX6_asks__30 : decode cX6_asks_ 30 = .ok (.iconst 0, 1) := by decide +kernel
theorem dX6_asks__31 : decode cX6_asks_ 31 = .ok (.putfield 66, 3) := by decide +kernel
theorem dX6_asks__34 : decode cX6_asks_ 34 = .ok (.aload_n 0, 1) := by decide +kernel
theorem dX6_asks__35 : decode cX6_asks_ 35 = .ok (.getfield 66, 3) := by decide +kernel
theorem dX6_asks__38 : decode cX6_asks_ 38 = .ok (.ifCond .ne 7, 3) := by decide +kernel
theorem dX6_asks__41 : decode cX6_asks_ 41 = .ok (.iconst 1, 1) := by decide +kernel
theorem dX6_asks__42 : decode cX6_asks_ 42 = .ok (.goto 4, 3) := by decide +kernel
theorem dX6_asks__45 : decode cX6_asks_ 45 = .ok (.iconst 0, 1) := by decide +kernel
theorem dX6_asks__46 : decode cX6_asks_ 46 = .ok (.ireturn, 1) := by decide +kernel
set_option maxRecDepth 20000 in
theorem ggX6_asks___X6_asks_ : GoodIn wsX6_asks__ wsX6_asks_ := goodIn_r _ [8, 9, 10, 3, 11, 12, 7, 13, 14, 15, 16, 17, 18, 19, 20, 21, 22, 23, 24, 25, 26, 27, 28, 29, 30, 31, 32, 33, 34, 35] (by decide +kernel) (by decide +kernel)
set_option maxRecDepth 20000 in
theorem gX6_asks___X6_asks_ : GoodIn wsX6_asks__ (wsV RX6 147 RX6 yX6_asks_ wsX6_asks_) := goodIn_app (goodIn_of _ (by decide +kernel)) ggX6_asks___X6_asks_
set_option maxRecDepth 20000 in
theorem ggX6_asks___X6_isIn : GoodIn wsX6_asks__ wsX6_isIn := goodIn_r _ [13] (by decide +kernel) (by decide +kernel)
set_option maxRecDepth 20000 in
theorem gX6_asks___X6_isIn : GoodIn wsX6_asks__ (va_wsS RX6 69 yX6_isIn wsX6_isIn) := goodIn_app (goodIn_of _ (by decide +kernel)) ggX6_asks___X6_isIn
theorem dX6_asks___0 : decode cX6_asks__ 0 = .ok (.aload_n 0, 1) := by decide +kernel
theorem dX6_asks___1 : decode cX6_asks__ 1 = .ok (.iload_n 1, 1) := by decide +kernel
theorem dX6_asks___2 : decode cX6_asks__ 2 = .ok (.invokevirtual 147, 3) := by decide +kernel
theorem dX6_asks___5 : decode cX6_asks__ 5 = .ok (.ifCond .ne 5, 3) := by decide +kernel
theorem dX6_asks___8 : decode cX6_asks__ 8 = .ok (.iconst 0, 1) := by decide +kernel
theorem dX6_asks___9 : decode cX6_asks__ 9 = .ok (.ireturn, 1) := by decide +kernel
theorem dX6_asks___10 : decode cX6_asks__ 10 = .ok (.aload_n 0, 1) := by decide +kernel
theorem dX6_asks___11 : decode cX6_asks__ 11 = .ok (.iload_n 2, 1) := by decide +kernel
theorem dX6_asks___12 : decode cX6_asks__ 12 = .ok (.iconst 0, 1) := by decide +kernel
theorem dX6_asks___13 : decode cX6_asks__ 13 = .ok (.aload_n 0, 1) := by decide +kernel
theorem dX6_asks___14 : decode cX6_asks__ 14 = .ok (.getfield 30, 3) := by decide +kernel
theorem dX6_asks___17 : decode cX6_asks__ 17 = .ok (.aload_n 0, 1) := by decide +kernel
theorem dX6_asks___18 : decode cX6_asks__ 18 = .ok (.getfield 45, 3) := by decide +kernel
theorem dX6_asks___21 : decode cX6_asks__ 21 = .ok (.iload_n 1, 1) := by decide +kernel
theorem dX6_asks___22 : decode cX6_asks__ 22 = .ok (.iaload, 1) := by decide +kernel
theorem dX6_asks___23 : decode cX6_asks__ 23 = .ok (.iaload, 1) := by decide +kernel
theorem dX6_asks___24 : decode cX6_asks__ 24 = .ok (.iconst 1, 1) := by decide +kernel
theorem dX6_asks___25 : decode cX6_asks__ 25 = .ok (.isub, 1) := by decide +kernel
theorem dX6_asks___26 : decode cX6_asks__ 26 = .ok (.invokestatic 69, 3) := by decide +kernel
theorem dX6_asks___29 : decode cX6_asks__ 29 = .ok (.ifCond .eq 7, 3) := by decide +kernel
theorem dX6_asks___32 : decode cX6_asks__ 32 = .ok (.iconst 0, 1) := by decide +kernel
theorem dX6_asks___33 : decode cX6_asks__ 33 = .ok (.goto 4, 3) := by decide +kernel
theorem dX6_asks___36 : decode cX6_asks__ 36 = .ok (.iconst 2, 1) := by decide +kernel
theorem dX6_asks___37 : decode cX6_asks__ 37 = .ok (.putfield 66, 3) := by decide +kernel
theorem dX6_asks___40 : decode cX6_asks__ 40 = .ok (.aload_n 0, 1) := by decide +kernel
theorem dX6_asks___41 : decode cX6_asks__ 41 = .ok (.getfield 66, 3) := by decide +kernel
theorem dX6_asks___44 : decode cX6_asks__ 44 = .ok (.ifCond .ne 7, 3) := by decide +kernel
theorem dX6_asks___47 : decode cX6_asks__ 47 = .ok (.iconst 1, 1) := by decide +kernel
theorem dX6_asks___48 : decode cX6_asks__ 48 = .ok (.goto 4, 3) := by decide +kernel
theorem dX6_asks___51 : decode cX6_asks__ 51 = .ok (.iconst 0, 1) := by decide +kernel
theorem dX6_asks___52 : decode cX6_asks__ 52 = .ok (.ireturn, 1) := by decide +kernel
set_option maxRecDepth 20000 in
theorem ggX6_nodeCount_X6_asks : GoodIn wsX6_nodeCount wsX6_asks := goodIn_r _ [6, 7, 8, 9, 10, 11, 12, 13, 14, 15, 16, 17, 18, 19, 20, 21, 22, 23, 24, 25, 26, 27, 28, 29, 30] (by decide +kernel) (by decide +kernel)
set_option maxRecDepth 20000 in
theorem gX6_nodeCount_X6_asks : GoodIn wsX6_nodeCount (wsV RX6 150 RX6 yX6_asks wsX6_asks) := goodIn_app (goodIn_of _ (by decide +kernel)) ggX6_nodeCount_X6_asks
theorem dX6_nodeCount_0 : decode cX6_nodeCount 0 = .ok (.aload_n 0, 1) := by decide +kernel
theorem dX6_nodeCount_1 : decode cX6_nodeCount 1 = .ok (.invokevirtual 150, 3) := by decide +kernel
theorem dX6_nodeCount_4 : decode cX6_nodeCount 4 = .ok (.ifCond .eq 10, 3) := by decide +kernel
theorem dX6_nodeCount_7 : decode cX6_nodeCount 7 = .ok (.aload_n 0, 1) := by decide +kernel
theorem dX6_nodeCount_8 : decode cX6_nodeCount 8 = .ok (.getfield 118, 3) := by decide +kernel
theorem dX6_nodeCount_11 : decode cX6_nodeCount 11 = .ok (.goto 4, 3) := by decide +kernel
theorem dX6_nodeCount_14 : decode cX6_nodeCount 14 = .ok (.iconst 0, 1) := by decide +kernel
theorem dX6_nodeCount_15 : decode cX6_nodeCount 15 = .ok (.ireturn, 1) := by decide +kernel
set_option maxRecDepth 20000 in
theorem ggX6_size_X6_asks : GoodIn wsX6_size wsX6_asks := goodIn_r _ [5, 6, 7, 15, 16, 17, 18, 19, 20, 21, 22, 23, 24, 25, 26, 27, 28, 29, 30, 31, 32, 33, 34, 35, 36] (by decide +kernel) (by decide +kernel)
set_option maxRecDepth 20000 in
theorem gX6_size_X6_asks : GoodIn wsX6_size (wsV RX6 150 RX6 yX6_asks wsX6_asks) := goodIn_app (goodIn_of _ (by decide +kernel)) ggX6_size_X6_asks
set_option maxRecDepth 20000 in
theorem ggX6_size_X6_wholeSize : GoodIn wsX6_size wsX6_wholeSize := goodIn_r _ [11, 12, 13, 14, 15, 16, 17, 18, 19, 20, 21, 22, 23, 24, 25, 26, 27, 28, 29, 30, 31, 32, 33, 34, 35, 36] (by decide +kernel) (by decide +kernel)
set_option maxRecDepth 20000 in
theorem gX6_size_X6_wholeSize : GoodIn wsX6_size (wsV RX6 144 RX6 yX6_wholeSize wsX6_wholeSize) := goodIn_app (goodIn_of _ (by decide +kernel)) ggX6_size_X6_wholeSize
theorem dX6_size_0 : decode cX6_size 0 = .ok (.aload_n 0, 1) := by decide +kernel
theorem dX6_size_1 : decode cX6_size 1 = .ok (.invokevirtual 150, 3) := by decide +kernel
theorem dX6_size_4 : decode cX6_size 4 = .ok (.ifCond .eq 10, 3) := by decide +kernel
theorem dX6_size_7 : decode cX6_size 7 = .ok (.aload_n 0, 1) := by decide +kernel
theorem dX6_size_8 : decode cX6_size 8 = .ok (.invokevirtual 144, 3) := by decide +kernel
theorem dX6_size_11 : decode cX6_size 11 = .ok (.goto 4, 3) := by decide +kernel
theorem dX6_size_14 : decode cX6_size 14 = .ok (.iconst 0, 1) := by decide +kernel
theorem dX6_size_15 : decode cX6_size 15 = .ok (.ireturn, 1) := by decide +kernel
set_option maxRecDepth 20000 in
theorem ggX6_method_X6_asks_ : GoodIn wsX6_method wsX6_asks_ := goodIn_r _ [6, 7, 8, 9, 10, 11, 5, 12, 13, 14, 15, 16, 17, 18, 19, 20, 21, 22, 23, 24, 25, 26, 27, 28, 29, 30, 31, 32, 33, 34] (by decide +kernel) (by decide +kernel)
set_option maxRecDepth 20000 in
theorem gX6_method_X6_asks_ : GoodIn wsX6_method (wsV RX6 147 RX6 yX6_asks_ wsX6_asks_) := goodIn_app (goodIn_of _ (by decide +kernel)) ggX6_method_X6_asks_
theorem dX6_method_0 : decode cX6_method 0 = .ok (.aload_n 0, 1) := by decide +kernel
theorem dX6_method_1 : decode cX6_method 1 = .ok (.iload_n 1, 1) := by decide +kernel
theorem dX6_method_2 : decode cX6_method 2 = .ok (.invokevirtual 147, 3) := by decide +kernel
theorem dX6_method_5 : decode cX6_method 5 = .ok (.ifCond .eq 12, 3) := by decide +kernel
theorem dX6_method_8 : decode cX6_method 8 = .ok (.aload_n 0, 1) := by decide +kernel
theorem dX6_method_9 : decode cX6_method 9 = .ok (.getfield 45, 3) := by decide +kernel
theorem dX6_method_12 : decode cX6_method 12 = .ok (.iload_n 1, 1) := by decide +kernel
theorem dX6_method_13 : decode cX6_method 13 = .ok (.iaload, 1) := by decide +kernel
theorem dX6_method_14 : decode cX6_method 14 = .ok (.goto 4, 3) := by decide +kernel
theorem dX6_method_17 : decode cX6_method 17 = .ok (.iconst 0, 1) := by decide +kernel
theorem dX6_method_18 : decode cX6_method 18 = .ok (.ireturn, 1) := by decide +kernel
set_option maxRecDepth 20000 in
theorem ggX6_parentNode_X6_asks_ : GoodIn wsX6_parentNode wsX6_asks_ := goodIn_r _ [6, 7, 8, 9, 10, 11, 5, 12, 13, 14, 15, 16, 17, 18, 19, 20, 21, 22, 23, 24, 25, 26, 27, 28, 29, 30, 31, 32, 33, 34] (by decide +kernel) (by decide +kernel)
set_option maxRecDepth 20000 in
theorem gX6_parentNode_X6_asks_ : GoodIn wsX6_parentNode (wsV RX6 147 RX6 yX6_asks_ wsX6_asks_) := goodIn_app (goodIn_of _ (by decide +kernel)) ggX6_parentNode_X6_asks_
theorem dX6_parentNode_0 : decode cX6_parentNode 0 = .ok (.aload_n 0, 1) := by decide +kernel
theorem dX6_parentNode_1 : decode cX6_parentNode 1 = .ok (.iload_n 1, 1) := by decide +kernel
theorem dX6_parentNode_2 : decode cX6_parentNode 2 = .ok (.invokevirtual 147, 3) := by decide +kernel
theorem dX6_parentNode_5 : decode cX6_parentNode 5 = .ok (.ifCond .eq 12, 3) := by decide +kernel
theorem dX6_parentNode_8 : decode cX6_parentNode 8 = .ok (.aload_n 0, 1) := by decide +kernel
theorem dX6_parentNode_9 : decode cX6_parentNode 9 = .ok (.getfield 48, 3) := by decide +kernel
theorem dX6_parentNode_12 : decode cX6_parentNode 12 = .ok (.iload_n 1, 1) := by decide +kernel
theorem dX6_parentNode_13 : decode cX6_parentNode 13 = .ok (.iaload, 1) := by decide +kernel
theorem dX6_parentNode_14 : decode cX6_parentNode 14 = .ok (.goto 4, 3) := by decide +kernel
theorem dX6_parentNode_17 : decode cX6_parentNode 17 = .ok (.iconst 0, 1) := by decide +kernel
theorem dX6_parentNode_18 : decode cX6_parentNode 18 = .ok (.ireturn, 1) := by decide +kernel
set_option maxRecDepth 20000 in
theorem ggX6_siteOf_X6_asks_ : GoodIn wsX6_siteOf wsX6_asks_ := goodIn_r _ [6, 7, 8, 9, 10, 11, 5, 12, 13, 14, 15, 16, 17, 18, 19, 20, 21, 22, 23, 24, 25, 26, 27, 28, 29, 30, 31, 32, 33, 34] (by decide +kernel) (by decide +kernel)
set_option maxRecDepth 20000 in
theorem gX6_siteOf_X6_asks_ : GoodIn wsX6_siteOf (wsV RX6 147 RX6 yX6_asks_ wsX6_asks_) := goodIn_app (goodIn_of _ (by decide +kernel)) ggX6_siteOf_X6_asks_
theorem dX6_siteOf_0 : decode cX6_siteOf 0 = .ok (.aload_n 0, 1) := by decide +kernel
theorem dX6_siteOf_1 : decode cX6_siteOf 1 = .ok (.iload_n 1, 1) := by decide +kernel
theorem dX6_siteOf_2 : decode cX6_siteOf 2 = .ok (.invokevirtual 147, 3) := by decide +kernel
theorem dX6_siteOf_5 : decode cX6_siteOf 5 = .ok (.ifCond .eq 12, 3) := by decide +kernel
theorem dX6_siteOf_8 : decode cX6_siteOf 8 = .ok (.aload_n 0, 1) := by decide +kernel
theorem dX6_siteOf_9 : decode cX6_siteOf 9 = .ok (.getfield 51, 3) := by decide +kernel
theorem dX6_siteOf_12 : decode cX6_siteOf 12 = .ok (.iload_n 1, 1) := by decide +kernel
theorem dX6_siteOf_13 : decode cX6_siteOf 13 = .ok (.iaload, 1) := by decide +kernel
theorem dX6_siteOf_14 : decode cX6_siteOf 14 = .ok (.goto 4, 3) := by decide +kernel
theorem dX6_siteOf_17 : decode cX6_siteOf 17 = .ok (.iconst 0, 1) := by decide +kernel
theorem dX6_siteOf_18 : decode cX6_siteOf 18 = .ok (.ireturn, 1) := by decide +kernel
set_option maxRecDepth 20000 in
theorem ggX6_depth_X6_asks_ : GoodIn wsX6_depth wsX6_asks_ := goodIn_r _ [6, 7, 8, 9, 10, 11, 5, 12, 13, 14, 15, 16, 17, 18, 19, 20, 21, 22, 23, 24, 25, 26, 27, 28, 29, 30, 31, 32, 33, 34] (by decide +kernel) (by decide +kernel)
set_option maxRecDepth 20000 in
theorem gX6_depth_X6_asks_ : GoodIn wsX6_depth (wsV RX6 147 RX6 yX6_asks_ wsX6_asks_) := goodIn_app (goodIn_of _ (by decide +kernel)) ggX6_depth_X6_asks_
theorem dX6_depth_0 : decode cX6_depth 0 = .ok (.aload_n 0, 1) := by decide +kernel
theorem dX6_depth_1 : decode cX6_depth 1 = .ok (.iload_n 1, 1) := by decide +kernel
theorem dX6_depth_2 : decode cX6_depth 2 = .ok (.invokevirtual 147, 3) := by decide +kernel
theorem dX6_depth_5 : decode cX6_depth 5 = .ok (.ifCond .eq 12, 3) := by decide +kernel
theorem dX6_depth_8 : decode cX6_depth 8 = .ok (.aload_n 0, 1) := by decide +kernel
theorem dX6_depth_9 : decode cX6_depth 9 = .ok (.getfield 54, 3) := by decide +kernel
theorem dX6_depth_12 : decode cX6_depth 12 = .ok (.iload_n 1, 1) := by decide +kernel
theorem dX6_depth_13 : decode cX6_depth 13 = .ok (.iaload, 1) := by decide +kernel
theorem dX6_depth_14 : decode cX6_depth 14 = .ok (.goto 4, 3) := by decide +kernel
theorem dX6_depth_17 : decode cX6_depth 17 = .ok (.iconst 0, 1) := by decide +kernel
theorem dX6_depth_18 : decode cX6_depth 18 = .ok (.ireturn, 1) := by decide +kernel
set_option maxRecDepth 20000 in
theorem ggX6_siteCount_X6_asks_ : GoodIn wsX6_siteCount wsX6_asks_ := goodIn_r _ [7, 8, 9, 10, 11, 12, 6, 13, 14, 15, 16, 17, 18, 19, 20, 21, 22, 23, 24, 25, 26, 27, 28, 29, 30, 31, 32, 33, 34, 35] (by decide +kernel) (by decide +kernel)
set_option maxRecDepth 20000 in
theorem gX6_siteCount_X6_asks_ : GoodIn wsX6_siteCount (wsV RX6 147 RX6 yX6_asks_ wsX6_asks_) := goodIn_app (goodIn_of _ (by decide +kernel)) ggX6_siteCount_X6_asks_
theorem dX6_siteCount_0 : decode cX6_siteCount 0 = .ok (.aload_n 0, 1) := by decide +kernel
theorem dX6_siteCount_1 : decode cX6_siteCount 1 = .ok (.iload_n 1, 1) := by decide +kernel
theorem dX6_siteCount_2 : decode cX6_siteCount 2 = .ok (.invokevirtual 147, 3) := by decide +kernel
theorem dX6_siteCount_5 : decode cX6_siteCount 5 = .ok (.ifCond .eq 17, 3) := by decide +kernel
theorem dX6_siteCount_8 : decode cX6_siteCount 8 = .ok (.aload_n 0, 1) := by decide +kernel
theorem dX6_siteCount_9 : decode cX6_siteCount 9 = .ok (.getfield 30, 3) := by decide +kernel
theorem dX6_siteCount_12 : decode cX6_siteCount 12 = .ok (.aload_n 0, 1) := by decide +kernel
theorem dX6_siteCount_13 : decode cX6_siteCount 13 = .ok (.getfield 45, 3) := by decide +kernel
theorem dX6_siteCount_16 : decode cX6_siteCount 16 = .ok (.iload_n 1, 1) := by decide +kernel
theorem dX6_siteCount_17 : decode cX6_siteCount 17 = .ok (.iaload, 1) := by decide +kernel
theorem dX6_siteCount_18 : decode cX6_siteCount 18 = .ok (.iaload, 1) := by decide +kernel
theorem dX6_siteCount_19 : decode cX6_siteCount 19 = .ok (.goto 4, 3) := by decide +kernel
theorem dX6_siteCount_22 : decode cX6_siteCount 22 = .ok (.iconst 0, 1) := by decide +kernel
theorem dX6_siteCount_23 : decode cX6_siteCount 23 = .ok (.ireturn, 1) := by decide +kernel
set_option maxRecDepth 20000 in
theorem ggX6_verdict_X6_asks__ : GoodIn wsX6_verdict wsX6_asks__ := goodIn_r _ [6, 7, 8, 9, 10, 11, 12, 5, 13, 14, 15, 16, 17, 18, 19, 20, 21, 22, 23, 24, 25, 26, 27, 28, 29, 30, 31, 32, 33, 34, 35, 36, 37, 38, 39, 40] (by decide +kernel) (by decide +kernel)
set_option maxRecDepth 20000 in
theorem gX6_verdict_X6_asks__ : GoodIn wsX6_verdict (wsV RX6 153 RX6 yX6_asks__ wsX6_asks__) := goodIn_app (goodIn_of _ (by decide +kernel)) ggX6_verdict_X6_asks__
theorem dX6_verdict_0 : decode cX6_verdict 0 = .ok (.aload_n 0, 1) := by decide +kernel
theorem dX6_verdict_1 : decode cX6_verdict 1 = .ok (.iload_n 1, 1) := by decide +kernel
theorem dX6_verdict_2 : decode cX6_verdict 2 = .ok (.iload_n 2, 1) := by decide +kernel
theorem dX6_verdict_3 : decode cX6_verdict 3 = .ok (.invokevirtual 153, 3) := by decide +kernel
theorem dX6_verdict_6 : decode cX6_verdict 6 = .ok (.ifCond .eq 17, 3) := by decide +kernel
theorem dX6_verdict_9 : decode cX6_verdict 9 = .ok (.aload_n 0, 1) := by decide +kernel
theorem dX6_verdict_10 : decode cX6_verdict 10 = .ok (.getfield 60, 3) := by decide +kernel
theorem dX6_verdict_13 : decode cX6_verdict 13 = .ok (.bipush 8, 2) := by decide +kernel
theorem dX6_verdict_15 : decode cX6_verdict 15 = .ok (.iload_n 1, 1) := by decide +kernel
theorem dX6_verdict_16 : decode cX6_verdict 16 = .ok (.imul, 1) := by decide +kernel
theorem dX6_verdict_17 : decode cX6_verdict 17 = .ok (.iload_n 2, 1) := by decide +kernel
theorem dX6_verdict_18 : decode cX6_verdict 18 = .ok (.iadd, 1) := by decide +kernel
theorem dX6_verdict_19 : decode cX6_verdict 19 = .ok (.iaload, 1) := by decide +kernel
theorem dX6_verdict_20 : decode cX6_verdict 20 = .ok (.goto 4, 3) := by decide +kernel
theorem dX6_verdict_23 : decode cX6_verdict 23 = .ok (.iconst 0, 1) := by decide +kernel
theorem dX6_verdict_24 : decode cX6_verdict 24 = .ok (.ireturn, 1) := by decide +kernel
set_option maxRecDepth 20000 in
theorem ggX6_weight_X6_asks__ : GoodIn wsX6_weight wsX6_asks__ := goodIn_r _ [6, 7, 8, 9, 10, 11, 12, 5, 13, 14, 15, 16, 17, 18, 19, 20, 21, 22, 23, 24, 25, 26, 27, 28, 29, 30, 31, 32, 33, 34, 35, 36, 37, 38, 39, 40] (by decide +kernel) (by decide +kernel)
set_option maxRecDepth 20000 in
theorem gX6_weight_X6_asks__ : GoodIn wsX6_weight (wsV RX6 153 RX6 yX6_asks__ wsX6_asks__) := goodIn_app (goodIn_of _ (by decide +kernel)) ggX6_weight_X6_asks__
theorem dX6_weight_0 : decode cX6_weight 0 = .ok (.aload_n 0, 1) := by decide +kernel
theorem dX6_weight_1 : decode cX6_weight 1 = .ok (.iload_n 1, 1) := by decide +kernel
theorem dX6_weight_2 : decode cX6_weight 2 = .ok (.iload_n 2, 1) := by decide +kernel
theorem dX6_weight_3 : decode cX6_weight 3 = .ok (.invokevirtual 153, 3) := by decide +kernel
theorem dX6_weight_6 : decode cX6_weight 6 = .ok (.ifCond .eq 17, 3) := by decide +kernel
theorem dX6_weight_9 : decode cX6_weight 9 = .ok (.aload_n 0, 1) := by decide +kernel
theorem dX6_weight_10 : decode cX6_weight 10 = .ok (.getfield 63, 3) := by decide +kernel
theorem dX6_weight_13 : decode cX6_weight 13 = .ok (.bipush 8, 2) := by decide +kernel
theorem dX6_weight_15 : decode cX6_weight 15 = .ok (.iload_n 1, 1) := by decide +kernel
theorem dX6_weight_16 : decode cX6_weight 16 = .ok (.imul, 1) := by decide +kernel
theorem dX6_weight_17 : decode cX6_weight 17 = .ok (.iload_n 2, 1) := by decide +kernel
theorem dX6_weight_18 : decode cX6_weight 18 = .ok (.iadd, 1) := by decide +kernel
theorem dX6_weight_19 : decode cX6_weight 19 = .ok (.iaload, 1) := by decide +kernel
theorem dX6_weight_20 : decode cX6_weight 20 = .ok (.goto 4, 3) := by decide +kernel
theorem dX6_weight_23 : decode cX6_weight 23 = .ok (.iconst 0, 1) := by decide +kernel
theorem dX6_weight_24 : decode cX6_weight 24 = .ok (.ireturn, 1) := by decide +kernel
theorem dX6_sum_0 : decode cX6_sum 0 = .ok (.lconst 0, 1) := by decide +kernel
theorem dX6_sum_1 : decode cX6_sum 1 = .ok (.lstore_n 2, 1) := by decide +kernel
theorem dX6_sum_2 : decode cX6_sum 2 = .ok (.iconst 0, 1) := by decide +kernel
theorem dX6_sum_3 : decode cX6_sum 3 = .ok (.istore 4, 2) := by decide +kernel
theorem dX6_sum_5 : decode cX6_sum 5 = .ok (.iload 4, 2) := by decide +kernel
theorem dX6_sum_7 : decode cX6_sum 7 = .ok (.aload_n 0, 1) := by decide +kernel
theorem dX6_sum_8 : decode cX6_sum 8 = .ok (.getfield 118, 3) := by decide +kernel
theorem dX6_sum_11 : decode cX6_sum 11 = .ok (.if_icmp .ge 73, 3) := by decide +kernel
theorem dX6_sum_14 : decode cX6_sum 14 = .ok (.iconst 0, 1) := by decide +kernel
theorem dX6_sum_15 : decode cX6_sum 15 = .ok (.istore 5, 2) := by decide +kernel
theorem dX6_sum_17 : decode cX6_sum 17 = .ok (.iload 5, 2) := by decide +kernel
theorem dX6_sum_19 : decode cX6_sum 19 = .ok (.aload_n 0, 1) := by decide +kernel
theorem dX6_sum_20 : decode cX6_sum 20 = .ok (.getfield 30, 3) := by decide +kernel
theorem dX6_sum_23 : decode cX6_sum 23 = .ok (.aload_n 0, 1) := by decide +kernel
theorem dX6_sum_24 : decode cX6_sum 24 = .ok (.getfield 45, 3) := by decide +kernel
theorem dX6_sum_27 : decode cX6_sum 27 = .ok (.iload 4, 2) := by decide +kernel
theorem dX6_sum_29 : decode cX6_sum 29 = .ok (.iaload, 1) := by decide +kernel
theorem dX6_sum_30 : decode cX6_sum 30 = .ok (.iaload, 1) := by decide +kernel
theorem dX6_sum_31 : decode cX6_sum 31 = .ok (.if_icmp .ge 47, 3) := by decide +kernel
theorem dX6_sum_34 : decode cX6_sum 34 = .ok (.lload_n 2, 1) := by decide +kernel
theorem dX6_sum_35 : decode cX6_sum 35 = .ok (.aload_n 0, 1) := by decide +kernel
theorem dX6_sum_36 : decode cX6_sum 36 = .ok (.getfield 60, 3) := by decide +kernel
theorem dX6_sum_39 : decode cX6_sum 39 = .ok (.bipush 8, 2) := by decide +kernel
theorem dX6_sum_41 : decode cX6_sum 41 = .ok (.iload 4, 2) := by decide +kernel
theorem dX6_sum_43 : decode cX6_sum 43 = .ok (.imul, 1) := by decide +kernel
theorem dX6_sum_44 : decode cX6_sum 44 = .ok (.iload 5, 2) := by decide +kernel
theorem dX6_sum_46 : decode cX6_sum 46 = .ok (.iadd, 1) := by decide +kernel
theorem dX6_sum_47 : decode cX6_sum 47 = .ok (.iaload, 1) := by decide +kernel
theorem dX6_sum_48 : decode cX6_sum 48 = .ok (.iload_n 1, 1) := by decide +kernel
theorem dX6_sum_49 : decode cX6_sum 49 = .ok (.if_icmp .ne 20, 3) := by decide +kernel
theorem dX6_sum_52 : decode cX6_sum 52 = .ok (.aload_n 0, 1) := by decide +kernel
theorem dX6_sum_53 : decode cX6_sum 53 = .ok (.getfield 63, 3) := by decide +kernel
theorem dX6_sum_56 : decode cX6_sum 56 = .ok (.bipush 8, 2) := by decide +kernel
theorem dX6_sum_58 : decode cX6_sum 58 = .ok (.iload 4, 2) := by decide +kernel
theorem dX6_sum_60 : decode cX6_sum 60 = .ok (.imul, 1) := by decide +kernel
theorem dX6_sum_61 : decode cX6_sum 61 = .ok (.iload 5, 2) := by decide +kernel
theorem dX6_sum_63 : decode cX6_sum 63 = .ok (.iadd, 1) := by decide +kernel
theorem dX6_sum_64 : decode cX6_sum 64 = .ok (.iaload, 1) := by decide +kernel
theorem dX6_sum_65 : decode cX6_sum 65 = .ok (.i2l, 1) := by decide +kernel
theorem dX6_sum_66 : decode cX6_sum 66 = .ok (.goto 4, 3) := by decide +kernel
theorem dX6_sum_69 : decode cX6_sum 69 = .ok (.lconst 0, 1) := by decide +kernel
theorem dX6_sum_70 : decode cX6_sum 70 = .ok (.ladd, 1) := by decide +kernel
theorem dX6_sum_71 : decode cX6_sum 71 = .ok (.lstore_n 2, 1) := by decide +kernel
theorem dX6_sum_72 : decode cX6_sum 72 = .ok (.iinc 5 1, 3) := by decide +kernel
theorem dX6_sum_75 : decode cX6_sum 75 = .ok (.goto (-58), 3) := by decide +kernel
theorem dX6_sum_78 : decode cX6_sum 78 = .ok (.iinc 4 1, 3) := by decide +kernel
theorem dX6_sum_81 : decode cX6_sum 81 = .ok (.goto (-76), 3) := by decide +kernel
theorem dX6_sum_84 : decode cX6_sum 84 = .ok (.lload_n 2, 1) := by decide +kernel
theorem dX6_sum_85 : decode cX6_sum 85 = .ok (.lreturn, 1) := by decide +kernel
set_option maxRecDepth 20000 in
theorem ggX6_weightOf_X6_isIn : GoodIn wsX6_weightOf wsX6_isIn := goodIn_r _ [6] (by decide +kernel) (by decide +kernel)
set_option maxRecDepth 20000 in
theorem gX6_weightOf_X6_isIn : GoodIn wsX6_weightOf (va_wsS RX6 69 yX6_isIn wsX6_isIn) := goodIn_app (goodIn_of _ (by decide +kernel)) ggX6_weightOf_X6_isIn
set_option maxRecDepth 20000 in
theorem ggX6_weightOf_X6_sum : GoodIn wsX6_weightOf wsX6_sum := goodIn_r _ [10, 11, 12, 13, 14, 15, 16, 17, 18, 19, 20, 21, 22, 23, 24, 25, 26, 27, 28, 29, 30, 31, 32, 33, 34, 35, 36, 37] (by decide +kernel) (by decide +kernel)
set_option maxRecDepth 20000 in
theorem gX6_weightOf_X6_sum : GoodIn wsX6_weightOf (wsV RX6 155 RX6 yX6_sum wsX6_sum) := goodIn_app (goodIn_of _ (by decide +kernel)) ggX6_weightOf_X6_sum
theorem dX6_weightOf_0 : decode cX6_weightOf 0 = .ok (.aload_n 0, 1) := by decide +kernel
theorem dX6_weightOf_1 : decode cX6_weightOf 1 = .ok (.aload_n 0, 1) := by decide +kernel
theorem dX6_weightOf_2 : decode cX6_weightOf 2 = .ok (.getfield 98, 3) := by decide +kernel
theorem dX6_weightOf_5 : decode cX6_weightOf 5 = .ok (.ifCond .ne 7, 3) := by decide +kernel
theorem dX6_weightOf_8 : decode cX6_weightOf 8 = .ok (.iconst 1, 1) := by decide +kernel
theorem dX6_weightOf_9 : decode cX6_weightOf 9 = .ok (.goto 18, 3) := by decide +kernel
theorem dX6_weightOf_12 : decode cX6_weightOf 12 = .ok (.iload_n 1, 1) := by decide +kernel
theorem dX6_weightOf_13 : decode cX6_weightOf 13 = .ok (.iconst 0, 1) := by decide +kernel
theorem dX6_weightOf_14 : decode cX6_weightOf 14 = .ok (.bipush 7, 2) := by decide +kernel
theorem dX6_weightOf_16 : decode cX6_weightOf 16 = .ok (.invokestatic 69, 3) := by decide +kernel
theorem dX6_weightOf_19 : decode cX6_weightOf 19 = .ok (.ifCond .ne 7, 3) := by decide +kernel
theorem dX6_weightOf_22 : decode cX6_weightOf 22 = .ok (.iconst 2, 1) := by decide +kernel
theorem dX6_weightOf_23 : decode cX6_weightOf 23 = .ok (.goto 4, 3) := by decide +kernel
theorem dX6_weightOf_26 : decode cX6_weightOf 26 = .ok (.iconst 0, 1) := by decide +kernel
theorem dX6_weightOf_27 : decode cX6_weightOf 27 = .ok (.putfield 66, 3) := by decide +kernel
theorem dX6_weightOf_30 : decode cX6_weightOf 30 = .ok (.aload_n 0, 1) := by decide +kernel
theorem dX6_weightOf_31 : decode cX6_weightOf 31 = .ok (.getfield 66, 3) := by decide +kernel
theorem dX6_weightOf_34 : decode cX6_weightOf 34 = .ok (.ifCond .ne 11, 3) := by decide +kernel
theorem dX6_weightOf_37 : decode cX6_weightOf 37 = .ok (.aload_n 0, 1) := by decide +kernel
theorem dX6_weightOf_38 : decode cX6_weightOf 38 = .ok (.iload_n 1, 1) := by decide +kernel
theorem dX6_weightOf_39 : decode cX6_weightOf 39 = .ok (.invokevirtual 155, 3) := by decide +kernel
theorem dX6_weightOf_42 : decode cX6_weightOf 42 = .ok (.goto 4, 3) := by decide +kernel
theorem dX6_weightOf_45 : decode cX6_weightOf 45 = .ok (.lconst 0, 1) := by decide +kernel
theorem dX6_weightOf_46 : decode cX6_weightOf 46 = .ok (.lreturn, 1) := by decide +kernel
set_option maxRecDepth 20000 in
theorem ggX6_share_X6_asks : GoodIn wsX6_share wsX6_asks := goodIn_r _ [5, 6, 7, 17, 18, 19, 20, 21, 22, 23, 24, 25, 26, 27, 28, 29, 30, 31, 32, 33, 34, 35, 36, 37, 38] (by decide +kernel) (by decide +kernel)
set_option maxRecDepth 20000 in
theorem gX6_share_X6_asks : GoodIn wsX6_share (wsV RX6 150 RX6 yX6_asks wsX6_asks) := goodIn_app (goodIn_of _ (by decide +kernel)) ggX6_share_X6_asks
set_option maxRecDepth 20000 in
theorem ggX6_share_X6_sum : GoodIn wsX6_share wsX6_sum := goodIn_r _ [11, 12, 13, 14, 15, 16, 17, 18, 19, 20, 21, 22, 23, 24, 25, 26, 27, 28, 29, 30, 31, 32, 33, 34, 35, 36, 37, 38] (by decide +kernel) (by decide +kernel)
set_option maxRecDepth 20000 in
theorem gX6_share_X6_sum : GoodIn wsX6_share (wsV RX6 155 RX6 yX6_sum wsX6_sum) := goodIn_app (goodIn_of _ (by decide +kernel)) ggX6_share_X6_sum
theorem dX6_share_0 : decode cX6_share 0 = .ok (.aload_n 0, 1) := by decide +kernel
theorem dX6_share_1 : decode cX6_share 1 = .ok (.invokevirtual 150, 3) := by decide +kernel
theorem dX6_share_4 : decode cX6_share 4 = .ok (.ifCond .ne 5, 3) := by decide +kernel
theorem dX6_share_7 : decode cX6_share 7 = .ok (.dconst 0, 1) := by decide +kernel
theorem dX6_share_8 : decode cX6_share 8 = .ok (.dreturn, 1) := by decide +kernel
theorem dX6_share_9 : decode cX6_share 9 = .ok (.lconst 0, 1) := by decide +kernel
theorem dX6_share_10 : decode cX6_share 10 = .ok (.lstore_n 1, 1) := by decide +kernel
theorem dX6_share_11 : decode cX6_share 11 = .ok (.iconst 0, 1) := by decide +kernel
theorem dX6_share_12 : decode cX6_share 12 = .ok (.istore_n 3, 1) := by decide +kernel
theorem dX6_share_13 : decode cX6_share 13 = .ok (.iload_n 3, 1) := by decide +kernel
theorem dX6_share_14 : decode cX6_share 14 = .ok (.bipush 7, 2) := by decide +kernel
theorem dX6_share_16 : decode cX6_share 16 = .ok (.if_icmp .gt 17, 3) := by decide +kernel
theorem dX6_share_19 : decode cX6_share 19 = .ok (.lload_n 1, 1) := by decide +kernel
theorem dX6_share_20 : decode cX6_share 20 = .ok (.aload_n 0, 1) := by decide +kernel
theorem dX6_share_21 : decode cX6_share 21 = .ok (.iload_n 3, 1) := by decide +kernel
theorem dX6_share_22 : decode cX6_share 22 = .ok (.invokevirtual 155, 3) := by decide +kernel
theorem dX6_share_25 : decode cX6_share 25 = .ok (.ladd, 1) := by decide +kernel
theorem dX6_share_26 : decode cX6_share 26 = .ok (.lstore_n 1, 1) := by decide +kernel
theorem dX6_share_27 : decode cX6_share 27 = .ok (.iinc 3 1, 3) := by decide +kernel
theorem dX6_share_30 : decode cX6_share 30 = .ok (.goto (-17), 3) := by decide +kernel
theorem dX6_share_33 : decode cX6_share 33 = .ok (.lload_n 1, 1) := by decide +kernel
theorem dX6_share_34 : decode cX6_share 34 = .ok (.lconst 0, 1) := by decide +kernel
theorem dX6_share_35 : decode cX6_share 35 = .ok (.lcmp, 1) := by decide +kernel
theorem dX6_share_36 : decode cX6_share 36 = .ok (.ifCond .ne 7, 3) := by decide +kernel
theorem dX6_share_39 : decode cX6_share 39 = .ok (.dconst 1, 1) := by decide +kernel
theorem dX6_share_40 : decode cX6_share 40 = .ok (.goto 12, 3) := by decide +kernel
theorem dX6_share_43 : decode cX6_share 43 = .ok (.aload_n 0, 1) := by decide +kernel
theorem dX6_share_44 : decode cX6_share 44 = .ok (.iconst 0, 1) := by decide +kernel
theorem dX6_share_45 : decode cX6_share 45 = .ok (.invokevirtual 155, 3) := by decide +kernel
theorem dX6_share_48 : decode cX6_share 48 = .ok (.l2d, 1) := by decide +kernel
theorem dX6_share_49 : decode cX6_share 49 = .ok (.lload_n 1, 1) := by decide +kernel
theorem dX6_share_50 : decode cX6_share 50 = .ok (.l2d, 1) := by decide +kernel
theorem dX6_share_51 : decode cX6_share 51 = .ok (.ddiv, 1) := by decide +kernel
theorem dX6_share_52 : decode cX6_share 52 = .ok (.dreturn, 1) := by decide +kernel
set_option maxRecDepth 20000 in
theorem ggX6_isHolding_X6_targetsOf : GoodIn wsX6_isHolding wsX6_targetsOf := goodIn_r _ [8, 3, 9, 10, 11, 7, 12, 13, 14, 15, 16, 17, 18, 19, 20, 21, 22, 23, 24, 25, 26, 27, 28, 29, 30, 31, 32, 33, 34, 35, 36, 37, 38, 39, 40, 41, 42, 43, 44, 45, 46, 47, 48, 49, 50, 51, 52, 53, 54, 55, 56, 57] (by decide +kernel) (by decide +kernel)
set_option maxRecDepth 20000 in
theorem gX6_isHolding_X6_targetsOf : GoodIn wsX6_isHolding (wsV RX6 121 RX6 yX6_targetsOf wsX6_targetsOf) := goodIn_app (goodIn_of _ (by decide +kernel)) ggX6_isHolding_X6_targetsOf
theorem dX6_isHolding_0 : decode cX6_isHolding 0 = .ok (.iload_n 1, 1) := by decide +kernel
theorem dX6_isHolding_1 : decode cX6_isHolding 1 = .ok (.ifCond .eq 30, 3) := by decide +kernel
theorem dX6_isHolding_4 : decode cX6_isHolding 4 = .ok (.aload_n 0, 1) := by decide +kernel
theorem dX6_isHolding_5 : decode cX6_isHolding 5 = .ok (.aload_n 0, 1) := by decide +kernel
theorem dX6_isHolding_6 : decode cX6_isHolding 6 = .ok (.getfield 48, 3) := by decide +kernel
theorem dX6_isHolding_9 : decode cX6_isHolding 9 = .ok (.iload_n 1, 1) := by decide +kernel
theorem dX6_isHolding_10 : decode cX6_isHolding 10 = .ok (.iaload, 1) := by decide +kernel
theorem dX6_isHolding_11 : decode cX6_isHolding 11 = .ok (.aload_n 0, 1) := by decide +kernel
theorem dX6_isHolding_12 : decode cX6_isHolding 12 = .ok (.getfield 51, 3) := by decide +kernel
theorem dX6_isHolding_15 : decode cX6_isHolding 15 = .ok (.iload_n 1, 1) := by decide +kernel
theorem dX6_isHolding_16 : decode cX6_isHolding 16 = .ok (.iaload, 1) := by decide +kernel
theorem dX6_isHolding_17 : decode cX6_isHolding 17 = .ok (.invokevirtual 121, 3) := by decide +kernel
theorem dX6_isHolding_20 : decode cX6_isHolding 20 = .ok (.iconst 1, 1) := by decide +kernel
theorem dX6_isHolding_21 : decode cX6_isHolding 21 = .ok (.aload_n 0, 1) := by decide +kernel
theorem dX6_isHolding_22 : decode cX6_isHolding 22 = .ok (.getfield 45, 3) := by decide +kernel
theorem dX6_isHolding_25 : decode cX6_isHolding 25 = .ok (.iload_n 1, 1) := by decide +kernel
theorem dX6_isHolding_26 : decode cX6_isHolding 26 = .ok (.iaload, 1) := by decide +kernel
theorem dX6_isHolding_27 : decode cX6_isHolding 27 = .ok (.ishl, 1) := by decide +kernel
theorem dX6_isHolding_28 : decode cX6_isHolding 28 = .ok (.if_icmp .ne 7, 3) := by decide +kernel
theorem dX6_isHolding_31 : decode cX6_isHolding 31 = .ok (.iconst 1, 1) := by decide +kernel
theorem dX6_isHolding_32 : decode cX6_isHolding 32 = .ok (.goto 4, 3) := by decide +kernel
theorem dX6_isHolding_35 : decode cX6_isHolding 35 = .ok (.iconst 0, 1) := by decide +kernel
theorem dX6_isHolding_36 : decode cX6_isHolding 36 = .ok (.ireturn, 1) := by decide +kernel
set_option maxRecDepth 20000 in
theorem ggX6_holds_X6_asks_ : GoodIn wsX6_holds wsX6_asks_ := goodIn_r _ [5, 6, 7, 8, 9, 10, 4, 11, 50, 51, 52, 53, 54, 55, 56, 57, 58, 59, 60, 61, 62, 63, 64, 65, 66, 67, 68, 69, 70, 71] (by decide +kernel) (by decide +kernel)
set_option maxRecDepth 20000 in
theorem gX6_holds_X6_asks_ : GoodIn wsX6_holds (wsV RX6 147 RX6 yX6_asks_ wsX6_asks_) := goodIn_app (goodIn_of _ (by decide +kernel)) ggX6_holds_X6_asks_
set_option maxRecDepth 20000 in
theorem ggX6_holds_X6_isHolding : GoodIn wsX6_holds wsX6_isHolding := goodIn_r _ [15, 16, 17, 18, 19, 20, 21, 4, 22, 23, 24, 25, 26, 27, 28, 29, 30, 31, 32, 33, 34, 35, 36, 37, 38, 39, 40, 41, 42, 43, 44, 45, 46, 47, 48, 49, 50, 51, 52, 53, 54, 55, 56, 57, 58, 59, 60, 61, 62, 63, 64, 65, 66, 67, 68, 69, 70, 71] (by decide +kernel) (by decide +kernel)
set_option maxRecDepth 20000 in
theorem gX6_holds_X6_isHolding : GoodIn wsX6_holds (wsV RX6 159 RX6 yX6_isHolding wsX6_isHolding) := goodIn_app (goodIn_of _ (by decide +kernel)) ggX6_holds_X6_isHolding
theorem dX6_holds_0 : decode cX6_holds 0 = .ok (.aload_n 0, 1) := by decide +kernel
theorem dX6_holds_1 : decode cX6_holds 1 = .ok (.iload_n 1, 1) := by decide +kernel
theorem dX6_holds_2 : decode cX6_holds 2 = .ok (.invokevirtual 147, 3) := by decide +kernel
theorem dX6_holds_5 : decode cX6_holds 5 = .ok (.ifCond .eq 15, 3) := by decide +kernel
theorem dX6_holds_8 : decode cX6_holds 8 = .ok (.aload_n 0, 1) := by decide +kernel
theorem dX6_holds_9 : decode cX6_holds 9 = .ok (.iload_n 1, 1) := by decide +kernel
theorem dX6_holds_10 : decode cX6_holds 10 = .ok (.invokevirtual 159, 3) := by decide +kernel
theorem dX6_holds_13 : decode cX6_holds 13 = .ok (.ifCond .eq 7, 3) := by decide +kernel
theorem dX6_holds_16 : decode cX6_holds 16 = .ok (.iconst 1, 1) := by decide +kernel
theorem dX6_holds_17 : decode cX6_holds 17 = .ok (.goto 4, 3) := by decide +kernel
theorem dX6_holds_20 : decode cX6_holds 20 = .ok (.iconst 0, 1) := by decide +kernel
theorem dX6_holds_21 : decode cX6_holds 21 = .ok (.ireturn, 1) := by decide +kernel
set_option maxRecDepth 20000 in
theorem ggX6_firstBroken_X6_asks : GoodIn wsX6_firstBroken wsX6_asks := goodIn_r _ [6, 7, 8, 47, 48, 49, 50, 51, 52, 53, 54, 55, 56, 57, 58, 59, 60, 61, 62, 63, 64, 65, 66, 67, 68] (by decide +kernel) (by decide +kernel)
set_option maxRecDepth 20000 in
theorem gX6_firstBroken_X6_asks : GoodIn wsX6_firstBroken (wsV RX6 150 RX6 yX6_asks wsX6_asks) := goodIn_app (goodIn_of _ (by decide +kernel)) ggX6_firstBroken_X6_asks
set_option maxRecDepth 20000 in
theorem ggX6_firstBroken_X6_isHolding : GoodIn wsX6_firstBroken wsX6_isHolding := goodIn_r _ [12, 13, 14, 15, 16, 17, 18, 5, 19, 20, 21, 22, 23, 24, 25, 26, 27, 28, 29, 30, 31, 32, 33, 34, 35, 36, 37, 38, 39, 40, 41, 42, 43, 44, 45, 46, 47, 48, 49, 50, 51, 52, 53, 54, 55, 56, 57, 58, 59, 60, 61, 62, 63, 64, 65, 66, 67, 68] (by decide +kernel) (by decide +kernel)
set_option maxRecDepth 20000 in
theorem gX6_firstBroken_X6_isHolding : GoodIn wsX6_firstBroken (wsV RX6 159 RX6 yX6_isHolding wsX6_isHolding) := goodIn_app (goodIn_of _ (by decide +kernel)) ggX6_firstBroken_X6_isHolding
theorem dX6_firstBroken_0 : decode cX6_firstBroken 0 = .ok (.aload_n 0, 1) := by decide +kernel
theorem dX6_firstBroken_1 : decode cX6_firstBroken 1 = .ok (.invokevirtual 150, 3) := by decide +kernel
theorem dX6_firstBroken_4 : decode cX6_firstBroken 4 = .ok (.ifCond .ne 5, 3) := by decide +kernel
theorem dX6_firstBroken_7 : decode cX6_firstBroken 7 = .ok (.iconst 0, 1) := by decide +kernel
theorem dX6_firstBroken_8 : decode cX6_firstBroken 8 = .ok (.ireturn, 1) := by decide +kernel
theorem dX6_firstBroken_9 : decode cX6_firstBroken 9 = .ok (.iconst 0, 1) := by decide +kernel
theorem dX6_firstBroken_10 : decode cX6_firstBroken 10 = .ok (.istore_n 1, 1) := by decide +kernel
theorem dX6_firstBroken_11 : decode cX6_firstBroken 11 = .ok (.iload_n 1, 1) := by decide +kernel
theorem dX6_firstBroken_12 : decode cX6_firstBroken 12 = .ok (.aload_n 0, 1) := by decide +kernel
theorem dX6_firstBroken_13 : decode cX6_firstBroken 13 = .ok (.getfield 118, 3) := by decide +kernel
theorem dX6_firstBroken_16 : decode cX6_firstBroken 16 = .ok (.if_icmp .ge 19, 3) := by decide +kernel
theorem dX6_firstBroken_19 : decode cX6_firstBroken 19 = .ok (.aload_n 0, 1) := by decide +kernel
theorem dX6_firstBroken_20 : decode cX6_firstBroken 20 = .ok (.iload_n 1, 1) := by decide +kernel
theorem dX6_firstBroken_21 : decode cX6_firstBroken 21 = .ok (.invokevirtual 159, 3) := by decide +kernel
theorem dX6_firstBroken_24 : decode cX6_firstBroken 24 = .ok (.ifCond .ne 5, 3) := by decide +kernel
theorem dX6_firstBroken_27 : decode cX6_firstBroken 27 = .ok (.iload_n 1, 1) := by decide +kernel
theorem dX6_firstBroken_28 : decode cX6_firstBroken 28 = .ok (.ireturn, 1) := by decide +kernel
theorem dX6_firstBroken_29 : decode cX6_firstBroken 29 = .ok (.iinc 1 1, 3) := by decide +kernel
theorem dX6_firstBroken_32 : decode cX6_firstBroken 32 = .ok (.goto (-21), 3) := by decide +kernel
theorem dX6_firstBroken_35 : decode cX6_firstBroken 35 = .ok (.iconst (-1), 1) := by decide +kernel
theorem dX6_firstBroken_36 : decode cX6_firstBroken 36 = .ok (.ireturn, 1) := by decide +kernel
set_option maxRecDepth 20000 in
theorem ggX6_prune_X6_asks : GoodIn wsX6_prune wsX6_asks := goodIn_r _ [10, 11, 12, 56, 57, 58, 59, 60, 61, 62, 63, 64, 65, 66, 67, 68, 69, 70, 71, 72, 73, 74, 75, 76, 77] (by decide +kernel) (by decide +kernel)
set_option maxRecDepth 20000 in
theorem gX6_prune_X6_asks : GoodIn wsX6_prune (wsV RX6 150 RX6 yX6_asks wsX6_asks) := goodIn_app (goodIn_of _ (by decide +kernel)) ggX6_prune_X6_asks
set_option maxRecDepth 20000 in
theorem ggX6_prune_X6_isHolding : GoodIn wsX6_prune wsX6_isHolding := goodIn_r _ [16, 3, 5, 17, 18, 19, 20, 9, 21, 22, 23, 24, 25, 26, 27, 28, 29, 30, 31, 32, 33, 34, 35, 36, 37, 38, 39, 40, 41, 42, 43, 44, 45, 46, 47, 48, 56, 57, 58, 59, 60, 61, 62, 63, 64, 65, 66, 67, 68, 69, 70, 71, 72, 73, 74, 75, 76, 77] (by decide +kernel) (by decide +kernel)
set_option maxRecDepth 20000 in
theorem gX6_prune_X6_isHolding : GoodIn wsX6_prune (wsV RX6 159 RX6 yX6_isHolding wsX6_isHolding) := goodIn_app (goodIn_of _ (by decide +kernel)) ggX6_prune_X6_isHolding
set_option maxRecDepth 20000 in
theorem ggX6_prune_X6_move : GoodIn wsX6_prune wsX6_move := goodIn_r _ [52, 17, 53, 54, 5, 3, 4, 55, 56, 57, 58, 59, 60, 61, 62, 63, 64, 65, 66, 67, 68, 69, 70, 71, 72, 73, 74, 75, 76, 77] (by decide +kernel) (by decide +kernel)
set_option maxRecDepth 20000 in
theorem gX6_prune_X6_move : GoodIn wsX6_prune (wsV RX6 162 RX6 yX6_move wsX6_move) := goodIn_app (goodIn_of _ (by decide +kernel)) ggX6_prune_X6_move
theorem dX6_prune_0 : decode cX6_prune 0 = .ok (.aload_n 0, 1) := by decide +kernel
theorem dX6_prune_1 : decode cX6_prune 1 = .ok (.invokevirtual 150, 3) := by decide +kernel
theorem dX6_prune_4 : decode cX6_prune 4 = .ok (.ifCond .ne 5, 3) := by decide +kernel
theorem dX6_prune_7 : decode cX6_prune 7 = .ok (.iconst 0, 1) := by decide +kernel
theorem dX6_prune_8 : decode cX6_prune 8 = .ok (.ireturn, 1) := by decide +kernel
theorem dX6_prune_9 : decode cX6_prune 9 = .ok (.bipush 50, 2) := by decide +kernel
theorem dX6_prune_11 : decode cX6_prune 11 = .ok (.newarray .int, 2) := by decide +kernel
theorem dX6_prune_13 : decode cX6_prune 13 = .ok (.astore_n 1, 1) := by decide +kernel
theorem dX6_prune_14 : decode cX6_prune 14 = .ok (.iconst 0, 1) := by decide +kernel
theorem dX6_prune_15 : decode cX6_prune 15 = .ok (.istore_n 2, 1) := by decide +kernel
theorem dX6_prune_16 : decode cX6_prune 16 = .ok (.iconst 0, 1) := by decide +kernel
theorem dX6_prune_17 : decode cX6_prune 17 = .ok (.istore_n 3, 1) := by decide +kernel
theorem dX6_prune_18 : decode cX6_prune 18 = .ok (.iload_n 3, 1) := by decide +kernel
theorem dX6_prune_19 : decode cX6_prune 19 = .ok (.aload_n 0, 1) := by decide +kernel
theorem dX6_prune_20 : decode cX6_prune 20 = .ok (.getfield 118, 3) := by decide +kernel
theorem dX6_prune_23 : decode cX6_prune 23 = .ok (.if_icmp .ge 66, 3) := by decide +kernel
theorem dX6_prune_26 : decode cX6_prune 26 = .ok (.iload_n 3, 1) := by decide +kernel
theorem dX6_prune_27 : decode cX6_prune 27 = .ok (.ifCond .eq 23, 3) := by decide +kernel
theorem dX6_prune_30 : decode cX6_prune 30 = .ok (.aload_n 0, 1) := by decide +kernel
theorem dX6_prune_31 : decode cX6_prune 31 = .ok (.iload_n 3, 1) := by decide +kernel
theorem dX6_prune_32 : decode cX6_prune 32 = .ok (.invokevirtual 159, 3) := by decide +kernel
theorem dX6_prune_35 : decode cX6_prune 35 = .ok (.ifCond .eq 19, 3) := by decide +kernel
theorem dX6_prune_38 : decode cX6_prune 38 = .ok (.aload_n 1, 1) := by decide +kernel
theorem dX6_prune_39 : decode cX6_prune 39 = .ok (.aload_n 0, 1) := by decide +kernel
theorem dX6_prune_40 : decode cX6_prune 40 = .ok (.getfield 48, 3) := by decide +kernel
theorem dX6_prune_43 : decode cX6_prune 43 = .ok (.iload_n 3, 1) := by decide +kernel
theorem dX6_prune_44 : decode cX6_prune 44 = .ok (.iaload, 1) := by decide +kernel
theorem dX6_prune_45 : decode cX6_prune 45 = .ok (.iaload, 1) := by decide +kernel
theorem dX6_prune_46 : decode cX6_prune 46 = .ok (.iconst (-1), 1) := by decide +kernel
theorem dX6_prune_47 : decode cX6_prune 47 = .ok (.if_icmp .eq 7, 3) := by decide +kernel
theorem dX6_prune_50 : decode cX6_prune 50 = .ok (.iconst 1, 1) := by decide +kernel
theorem dX6_prune_51 : decode cX6_prune 51 = .ok (.goto 4, 3) := by decide +kernel
theorem dX6_prune_54 : decode cX6_prune 54 = .ok (.iconst 0, 1) := by decide +kernel
theorem dX6_prune_55 : decode cX6_prune 55 = .ok (.istore 4, 2) := by decide +kernel
theorem dX6_prune_57 : decode cX6_prune 57 = .ok (.aload_n 1, 1) := by decide +kernel
theorem dX6_prune_58 : decode cX6_prune 58 = .ok (.iload_n 3, 1) := by decide +kernel
theorem dX6_prune_59 : decode cX6_prune 59 = .ok (.iload 4, 2) := by decide +kernel
theorem dX6_prune_61 : decode cX6_prune 61 = .ok (.ifCond .eq 7, 3) := by decide +kernel
theorem dX6_prune_64 : decode cX6_prune 64 = .ok (.iload_n 2, 1) := by decide +kernel
theorem dX6_prune_65 : decode cX6_prune 65 = .ok (.goto 4, 3) := by decide +kernel
theorem dX6_prune_68 : decode cX6_prune 68 = .ok (.iconst (-1), 1) := by decide +kernel
theorem dX6_prune_69 : decode cX6_prune 69 = .ok (.iastore, 1) := by decide +kernel
theorem dX6_prune_70 : decode cX6_prune 70 = .ok (.iload_n 2, 1) := by decide +kernel
theorem dX6_prune_71 : decode cX6_prune 71 = .ok (.iload 4, 2) := by decide +kernel
theorem dX6_prune_73 : decode cX6_prune 73 = .ok (.ifCond .eq 7, 3) := by decide +kernel
theorem dX6_prune_76 : decode cX6_prune 76 = .ok (.iconst 1, 1) := by decide +kernel
theorem dX6_prune_77 : decode cX6_prune 77 = .ok (.goto 4, 3) := by decide +kernel
theorem dX6_prune_80 : decode cX6_prune 80 = .ok (.iconst 0, 1) := by decide +kernel
theorem dX6_prune_81 : decode cX6_prune 81 = .ok (.iadd, 1) := by decide +kernel
theorem dX6_prune_82 : decode cX6_prune 82 = .ok (.istore_n 2, 1) := by decide +kernel
theorem dX6_prune_83 : decode cX6_prune 83 = .ok (.iinc 3 1, 3) := by decide +kernel
theorem dX6_prune_86 : decode cX6_prune 86 = .ok (.goto (-68), 3) := by decide +kernel
theorem dX6_prune_89 : decode cX6_prune 89 = .ok (.iconst 1, 1) := by decide +kernel
theorem dX6_prune_90 : decode cX6_prune 90 = .ok (.istore_n 3, 1) := by decide +kernel
theorem dX6_prune_91 : decode cX6_prune 91 = .ok (.iload_n 3, 1) := by decide +kernel
theorem dX6_prune_92 : decode cX6_prune 92 = .ok (.aload_n 0, 1) := by decide +kernel
theorem dX6_prune_93 : decode cX6_prune 93 = .ok (.getfield 118, 3) := by decide +kernel
theorem dX6_prune_96 : decode cX6_prune 96 = .ok (.if_icmp .ge 39, 3) := by decide +kernel
theorem dX6_prune_99 : decode cX6_prune 99 = .ok (.aload_n 1, 1) := by decide +kernel
theorem dX6_prune_100 : decode cX6_prune 100 = .ok (.iload_n 3, 1) := by decide +kernel
theorem dX6_prune_101 : decode cX6_prune 101 = .ok (.iaload, 1) := by decide +kernel
theorem dX6_prune_102 : decode cX6_prune 102 = .ok (.iconst (-1), 1) := by decide +kernel
theorem dX6_prune_103 : decode cX6_prune 103 = .ok (.if_icmp .ne 26, 3) := by decide +kernel
theorem dX6_prune_106 : decode cX6_prune 106 = .ok (.aload_n 0, 1) := by decide +kernel
theorem dX6_prune_107 : decode cX6_prune 107 = .ok (.getfield 60, 3) := by decide +kernel
theorem dX6_prune_110 : decode cX6_prune 110 = .ok (.bipush 8, 2) := by decide +kernel
theorem dX6_prune_112 : decode cX6_prune 112 = .ok (.aload_n 0, 1) := by decide +kernel
theorem dX6_prune_113 : decode cX6_prune 113 = .ok (.getfield 48, 3) := by decide +kernel
theorem dX6_prune_116 : decode cX6_prune 116 = .ok (.iload_n 3, 1) := by decide +kernel
theorem dX6_prune_117 : decode cX6_prune 117 = .ok (.iaload, 1) := by decide +kernel
theorem dX6_prune_118 : decode cX6_prune 118 = .ok (.imul, 1) := by decide +kernel
theorem dX6_prune_119 : decode cX6_prune 119 = .ok (.aload_n 0, 1) := by decide +kernel
theorem dX6_prune_120 : decode cX6_prune 120 = .ok (.getfield 51, 3) := by decide +kernel
theorem dX6_prune_123 : decode cX6_prune 123 = .ok (.iload_n 3, 1) := by decide +kernel
theorem dX6_prune_124 : decode cX6_prune 124 = .ok (.iaload, 1) := by decide +kernel
theorem dX6_prune_125 : decode cX6_prune 125 = .ok (.iadd, 1) := by decide +kernel
theorem dX6_prune_126 : decode cX6_prune 126 = .ok (.bipush 7, 2) := by decide +kernel
theorem dX6_prune_128 : decode cX6_prune 128 = .ok (.iastore, 1) := by decide +kernel
theorem dX6_prune_129 : decode cX6_prune 129 = .ok (.iinc 3 1, 3) := by decide +kernel
theorem dX6_prune_132 : decode cX6_prune 132 = .ok (.goto (-41), 3) := by decide +kernel
theorem dX6_prune_135 : decode cX6_prune 135 = .ok (.iconst 0, 1) := by decide +kernel
theorem dX6_prune_136 : decode cX6_prune 136 = .ok (.istore_n 3, 1) := by decide +kernel
theorem dX6_prune_137 : decode cX6_prune 137 = .ok (.iload_n 3, 1) := by decide +kernel
theorem dX6_prune_138 : decode cX6_prune 138 = .ok (.aload_n 0, 1) := by decide +kernel
theorem dX6_prune_139 : decode cX6_prune 139 = .ok (.getfield 118, 3) := by decide +kernel
theorem dX6_prune_142 : decode cX6_prune 142 = .ok (.if_icmp .ge 25, 3) := by decide +kernel
theorem dX6_prune_145 : decode cX6_prune 145 = .ok (.aload_n 1, 1) := by decide +kernel
theorem dX6_prune_146 : decode cX6_prune 146 = .ok (.iload_n 3, 1) := by decide +kernel
theorem dX6_prune_147 : decode cX6_prune 147 = .ok (.iaload, 1) := by decide +kernel
theorem dX6_prune_148 : decode cX6_prune 148 = .ok (.iconst (-1), 1) := by decide +kernel
theorem dX6_prune_149 : decode cX6_prune 149 = .ok (.if_icmp .eq 12, 3) := by decide +kernel
theorem dX6_prune_152 : decode cX6_prune 152 = .ok (.aload_n 0, 1) := by decide +kernel
theorem dX6_prune_153 : decode cX6_prune 153 = .ok (.iload_n 3, 1) := by decide +kernel
theorem dX6_prune_154 : decode cX6_prune 154 = .ok (.aload_n 1, 1) := by decide +kernel
theorem dX6_prune_155 : decode cX6_prune 155 = .ok (.iload_n 3, 1) := by decide +kernel
theorem dX6_prune_156 : decode cX6_prune 156 = .ok (.iaload, 1) := by decide +kernel
theorem dX6_prune_157 : decode cX6_prune 157 = .ok (.aload_n 1, 1) := by decide +kernel
theorem dX6_prune_158 : decode cX6_prune 158 = .ok (.invokevirtual 162, 3) := by decide +kernel
theorem dX6_prune_161 : decode cX6_prune 161 = .ok (.iinc 3 1, 3) := by decide +kernel
theorem dX6_prune_164 : decode cX6_prune 164 = .ok (.goto (-27), 3) := by decide +kernel
theorem dX6_prune_167 : decode cX6_prune 167 = .ok (.aload_n 0, 1) := by decide +kernel
theorem dX6_prune_168 : decode cX6_prune 168 = .ok (.getfield 118, 3) := by decide +kernel
theorem dX6_prune_171 : decode cX6_prune 171 = .ok (.iload_n 2, 1) := by decide +kernel
theorem dX6_prune_172 : decode cX6_prune 172 = .ok (.isub, 1) := by decide +kernel
theorem dX6_prune_173 : decode cX6_prune 173 = .ok (.istore_n 3, 1) := by decide +kernel
theorem dX6_prune_174 : decode cX6_prune 174 = .ok (.aload_n 0, 1) := by decide +kernel
theorem dX6_prune_175 : decode cX6_prune 175 = .ok (.iload_n 2, 1) := by decide +kernel
theorem dX6_prune_176 : decode cX6_prune 176 = .ok (.putfield 118, 3) := by decide +kernel
theorem dX6_prune_179 : decode cX6_prune 179 = .ok (.iload_n 3, 1) := by decide +kernel
theorem dX6_prune_180 : decode cX6_prune 180 = .ok (.ireturn, 1) := by decide +kernel
theorem dX6_move_0 : decode cX6_move 0 = .ok (.aload_n 0, 1) := by decide +kernel
theorem dX6_move_1 : decode cX6_move 1 = .ok (.getfield 45, 3) := by decide +kernel
theorem dX6_move_4 : decode cX6_move 4 = .ok (.iload_n 2, 1) := by decide +kernel
theorem dX6_move_5 : decode cX6_move 5 = .ok (.aload_n 0, 1) := by decide +kernel
theorem dX6_move_6 : decode cX6_move 6 = .ok (.getfield 45, 3) := by decide +kernel
theorem dX6_move_9 : decode cX6_move 9 = .ok (.iload_n 1, 1) := by decide +kernel
theorem dX6_move_10 : decode cX6_move 10 = .ok (.iaload, 1) := by decide +kernel
theorem dX6_move_11 : decode cX6_move 11 = .ok (.iastore, 1) := by decide +kernel
theorem dX6_move_12 : decode cX6_move 12 = .ok (.aload_n 0, 1) := by decide +kernel
theorem dX6_move_13 : decode cX6_move 13 = .ok (.getfield 57, 3) := by decide +kernel
theorem dX6_move_16 : decode cX6_move 16 = .ok (.iload_n 2, 1) := by decide +kernel
theorem dX6_move_17 : decode cX6_move 17 = .ok (.aload_n 0, 1) := by decide +kernel
theorem dX6_move_18 : decode cX6_move 18 = .ok (.getfield 57, 3) := by decide +kernel
theorem dX6_move_21 : decode cX6_move 21 = .ok (.iload_n 1, 1) := by decide +kernel
theorem dX6_move_22 : decode cX6_move 22 = .ok (.iaload, 1) := by decide +kernel
theorem dX6_move_23 : decode cX6_move 23 = .ok (.iastore, 1) := by decide +kernel
theorem dX6_move_24 : decode cX6_move 24 = .ok (.aload_n 0, 1) := by decide +kernel
theorem dX6_move_25 : decode cX6_move 25 = .ok (.getfield 54, 3) := by decide +kernel
theorem dX6_move_28 : decode cX6_move 28 = .ok (.iload_n 2, 1) := by decide +kernel
theorem dX6_move_29 : decode cX6_move 29 = .ok (.aload_n 0, 1) := by decide +kernel
theorem dX6_move_30 : decode cX6_move 30 = .ok (.getfield 54, 3) := by decide +kernel
theorem dX6_move_33 : decode cX6_move 33 = .ok (.iload_n 1, 1) := by decide +kernel
theorem dX6_move_34 : decode cX6_move 34 = .ok (.iaload, 1) := by decide +kernel
theorem dX6_move_35 : decode cX6_move 35 = .ok (.iastore, 1) := by decide +kernel
theorem dX6_move_36 : decode cX6_move 36 = .ok (.aload_n 0, 1) := by decide +kernel
theorem dX6_move_37 : decode cX6_move 37 = .ok (.getfield 51, 3) := by decide +kernel
theorem dX6_move_40 : decode cX6_move 40 = .ok (.iload_n 2, 1) := by decide +kernel
theorem dX6_move_41 : decode cX6_move 41 = .ok (.aload_n 0, 1) := by decide +kernel
theorem dX6_move_42 : decode cX6_move 42 = .ok (.getfield 51, 3) := by decide +kernel
theorem dX6_move_45 : decode cX6_move 45 = .ok (.iload_n 1, 1) := by decide +kernel
theorem dX6_move_46 : decode cX6_move 46 = .ok (.iaload, 1) := by decide +kernel
theorem dX6_move_47 : decode cX6_move 47 = .ok (.iastore, 1) := by decide +kernel
theorem dX6_move_48 : decode cX6_move 48 = .ok (.aload_n 0, 1) := by decide +kernel
theorem dX6_move_49 : decode cX6_move 49 = .ok (.getfield 48, 3) := by decide +kernel
theorem dX6_move_52 : decode cX6_move 52 = .ok (.iload_n 2, 1) := by decide +kernel
theorem dX6_move_53 : decode cX6_move 53 = .ok (.iload_n 1, 1) := by decide +kernel
theorem dX6_move_54 : decode cX6_move 54 = .ok (.ifCond .ne 7, 3) := by decide +kernel
theorem dX6_move_57 : decode cX6_move 57 = .ok (.iconst (-1), 1) := by decide +kernel
theorem dX6_move_58 : decode cX6_move 58 = .ok (.goto 11, 3) := by decide +kernel
theorem dX6_move_61 : decode cX6_move 61 = .ok (.aload_n 3, 1) := by decide +kernel
theorem dX6_move_62 : decode cX6_move 62 = .ok (.aload_n 0, 1) := by decide +kernel
theorem dX6_move_63 : decode cX6_move 63 = .ok (.getfield 48, 3) := by decide +kernel
theorem dX6_move_66 : decode cX6_move 66 = .ok (.iload_n 1, 1) := by decide +kernel
theorem dX6_move_67 : decode cX6_move 67 = .ok (.iaload, 1) := by decide +kernel
theorem dX6_move_68 : decode cX6_move 68 = .ok (.iaload, 1) := by decide +kernel
theorem dX6_move_69 : decode cX6_move 69 = .ok (.iastore, 1) := by decide +kernel
theorem dX6_move_70 : decode cX6_move 70 = .ok (.iconst 0, 1) := by decide +kernel
theorem dX6_move_71 : decode cX6_move 71 = .ok (.istore 4, 2) := by decide +kernel
theorem dX6_move_73 : decode cX6_move 73 = .ok (.iload 4, 2) := by decide +kernel
theorem dX6_move_75 : decode cX6_move 75 = .ok (.bipush 8, 2) := by decide +kernel
theorem dX6_move_77 : decode cX6_move 77 = .ok (.if_icmp .ge 57, 3) := by decide +kernel
theorem dX6_move_80 : decode cX6_move 80 = .ok (.aload_n 0, 1) := by decide +kernel
theorem dX6_move_81 : decode cX6_move 81 = .ok (.getfield 60, 3) := by decide +kernel
theorem dX6_move_84 : decode cX6_move 84 = .ok (.bipush 8, 2) := by decide +kernel
theorem dX6_move_86 : decode cX6_move 86 = .ok (.iload_n 2, 1) := by decide +kernel
theorem dX6_move_87 : decode cX6_move 87 = .ok (.imul, 1) := by decide +kernel
theorem dX6_move_88 : decode cX6_move 88 = .ok (.iload 4, 2) := by decide +kernel
theorem dX6_move_90 : decode cX6_move 90 = .ok (.iadd, 1) := by decide +kernel
theorem dX6_move_91 : decode cX6_move 91 = .ok (.aload_n 0, 1) := by decide +kernel
theorem dX6_move_92 : decode cX6_move 92 = .ok (.getfield 60, 3) := by decide +kernel
theorem dX6_move_95 : decode cX6_move 95 = .ok (.bipush 8, 2) := by decide +kernel
theorem dX6_move_97 : decode cX6_move 97 = .ok (.iload_n 1, 1) := by decide +kernel
theorem dX6_move_98 : decode cX6_move 98 = .ok (.imul, 1) := by decide +kernel
theorem dX6_move_99 : decode cX6_move 99 = .ok (.iload 4, 2) := by decide +kernel
theorem dX6_move_101 : decode cX6_move 101 = .ok (.iadd, 1) := by decide +kernel
theorem dX6_move_102 : decode cX6_move 102 = .ok (.iaload, 1) := by decide +kernel
theorem dX6_move_103 : decode cX6_move 103 = .ok (.iastore, 1) := by decide +kernel
theorem dX6_move_104 : decode cX6_move 104 = .ok (.aload_n 0, 1) := by decide +kernel
theorem dX6_move_105 : decode cX6_move 105 = .ok (.getfield 63, 3) := by decide +kernel
theorem dX6_move_108 : decode cX6_move 108 = .ok (.bipush 8, 2) := by decide +kernel
theorem dX6_move_110 : decode cX6_move 110 = .ok (.iload_n 2, 1) := by decide +kernel
theorem dX6_move_111 : decode cX6_move 111 = .ok (.imul, 1) := by decide +kernel
theorem dX6_move_112 : decode cX6_move 112 = .ok (.iload 4, 2) := by decide +kernel
theorem dX6_move_114 : decode cX6_move 114 = .ok (.iadd, 1) := by decide +kernel
theorem dX6_move_115 : decode cX6_move 115 = .ok (.aload_n 0, 1) := by decide +kernel
theorem dX6_move_116 : decode cX6_move 116 = .ok (.getfield 63, 3) := by decide +kernel
theorem dX6_move_119 : decode cX6_move 119 = .ok (.bipush 8, 2) := by decide +kernel
theorem dX6_move_121 : decode cX6_move 121 = .ok (.iload_n 1, 1) := by decide +kernel
theorem dX6_move_122 : decode cX6_move 122 = .ok (.imul, 1) := by decide +kernel
theorem dX6_move_123 : decode cX6_move 123 = .ok (.iload 4, 2) := by decide +kernel
theorem dX6_move_125 : decode cX6_move 125 = .ok (.iadd, 1) := by decide +kernel
theorem dX6_move_126 : decode cX6_move 126 = .ok (.iaload, 1) := by decide +kernel
theorem dX6_move_127 : decode cX6_move 127 = .ok (.iastore, 1) := by decide +kernel
theorem dX6_move_128 : decode cX6_move 128 = .ok (.iinc 4 1, 3) := by decide +kernel
theorem dX6_move_131 : decode cX6_move 131 = .ok (.goto (-58), 3) := by decide +kernel
theorem dX6_move_134 : decode cX6_move 134 = .ok (.return_, 1) := by decide +kernel
theorem dX6_digest_0 : decode cX6_digest 0 = .ok (.aload_n 0, 1) := by decide +kernel
theorem dX6_digest_1 : decode cX6_digest 1 = .ok (.iconst 0, 1) := by decide +kernel
theorem dX6_digest_2 : decode cX6_digest 2 = .ok (.putfield 66, 3) := by decide +kernel
theorem dX6_digest_5 : decode cX6_digest 5 = .ok (.ldc2_w 166, 3) := by decide +kernel
theorem dX6_digest_8 : decode cX6_digest 8 = .ok (.aload_n 0, 1) := by decide +kernel
theorem dX6_digest_9 : decode cX6_digest 9 = .ok (.getfield 7, 3) := by decide +kernel
theorem dX6_digest_12 : decode cX6_digest 12 = .ok (.i2l, 1) := by decide +kernel
theorem dX6_digest_13 : decode cX6_digest 13 = .ok (.ladd, 1) := by decide +kernel
theorem dX6_digest_14 : decode cX6_digest 14 = .ok (.lstore_n 1, 1) := by decide +kernel
theorem dX6_digest_15 : decode cX6_digest 15 = .ok (.iconst 0, 1) := by decide +kernel
theorem dX6_digest_16 : decode cX6_digest 16 = .ok (.istore_n 3, 1) := by decide +kernel
theorem dX6_digest_17 : decode cX6_digest 17 = .ok (.iload_n 3, 1) := by decide +kernel
theorem dX6_digest_18 : decode cX6_digest 18 = .ok (.aload_n 0, 1) := by decide +kernel
theorem dX6_digest_19 : decode cX6_digest 19 = .ok (.getfield 7, 3) := by decide +kernel
theorem dX6_digest_22 : decode cX6_digest 22 = .ok (.if_icmp .ge 42, 3) := by decide +kernel
theorem dX6_digest_25 : decode cX6_digest 25 = .ok (.lload_n 1, 1) := by decide +kernel
theorem dX6_digest_26 : decode cX6_digest 26 = .ok (.ldc2_w 168, 3) := by decide +kernel
theorem dX6_digest_29 : decode cX6_digest 29 = .ok (.lmul, 1) := by decide +kernel
theorem dX6_digest_30 : decode cX6_digest 30 = .ok (.aload_n 0, 1) := by decide +kernel
theorem dX6_digest_31 : decode cX6_digest 31 = .ok (.getfield 13, 3) := by decide +kernel
theorem dX6_digest_34 : decode cX6_digest 34 = .ok (.iload_n 3, 1) := by decide +kernel
theorem dX6_digest_35 : decode cX6_digest 35 = .ok (.iaload, 1) := by decide +kernel
theorem dX6_digest_36 : decode cX6_digest 36 = .ok (.i2l, 1) := by decide +kernel
theorem dX6_digest_37 : decode cX6_digest 37 = .ok (.ladd, 1) := by decide +kernel
theorem dX6_digest_38 : decode cX6_digest 38 = .ok (.ldc2_w 168, 3) := by decide +kernel
theorem dX6_digest_41 : decode cX6_digest 41 = .ok (.lmul, 1) := by decide +kernel
theorem dX6_digest_42 : decode cX6_digest 42 = .ok (.aload_n 0, 1) := by decide +kernel
theorem dX6_digest_43 : decode cX6_digest 43 = .ok (.getfield 17, 3) := by decide +kernel
theorem dX6_digest_46 : decode cX6_digest 46 = .ok (.iload_n 3, 1) := by decide +kernel
theorem dX6_digest_47 : decode cX6_digest 47 = .ok (.baload, 1) := by decide +kernel
theorem dX6_digest_48 : decode cX6_digest 48 = .ok (.ifCond .eq 7, 3) := by decide +kernel
theorem dX6_digest_51 : decode cX6_digest 51 = .ok (.lconst 1, 1) := by decide +kernel
theorem dX6_digest_52 : decode cX6_digest 52 = .ok (.goto 4, 3) := by decide +kernel
theorem dX6_digest_55 : decode cX6_digest 55 = .ok (.lconst 0, 1) := by decide +kernel
theorem dX6_digest_56 : decode cX6_digest 56 = .ok (.ladd, 1) := by decide +kernel
theorem dX6_digest_57 : decode cX6_digest 57 = .ok (.lstore_n 1, 1) := by decide +kernel
theorem dX6_digest_58 : decode cX6_digest 58 = .ok (.iinc 3 1, 3) := by decide +kernel
theorem dX6_digest_61 : decode cX6_digest 61 = .ok (.goto (-44), 3) := by decide +kernel
theorem dX6_digest_64 : decode cX6_digest 64 = .ok (.lload_n 1, 1) := by decide +kernel
theorem dX6_digest_65 : decode cX6_digest 65 = .ok (.ldc2_w 168, 3) := by decide +kernel
theorem dX6_digest_68 : decode cX6_digest 68 = .ok (.lmul, 1) := by decide +kernel
theorem dX6_digest_69 : decode cX6_digest 69 = .ok (.aload_n 0, 1) := by decide +kernel
theorem dX6_digest_70 : decode cX6_digest 70 = .ok (.getfield 73, 3) := by decide +kernel
theorem dX6_digest_73 : decode cX6_digest 73 = .ok (.i2l, 1) := by decide +kernel
theorem dX6_digest_74 : decode cX6_digest 74 = .ok (.ladd, 1) := by decide +kernel
theorem dX6_digest_75 : decode cX6_digest 75 = .ok (.ldc2_w 168, 3) := by decide +kernel
theorem dX6_digest_78 : decode cX6_digest 78 = .ok (.lmul, 1) := by decide +kernel
theorem dX6_digest_79 : decode cX6_digest 79 = .ok (.aload_n 0, 1) := by decide +kernel
theorem dX6_digest_80 : decode cX6_digest 80 = .ok (.getfield 36, 3) := by decide +kernel
theorem dX6_digest_83 : decode cX6_digest 83 = .ok (.i2l, 1) := by decide +kernel
theorem dX6_digest_84 : decode cX6_digest 84 = .ok (.ladd, 1) := by decide +kernel
theorem dX6_digest_85 : decode cX6_digest 85 = .ok (.ldc2_w 168, 3) := by decide +kernel
theorem dX6_digest_88 : decode cX6_digest 88 = .ok (.lmul, 1) := by decide +kernel
theorem dX6_digest_89 : decode cX6_digest 89 = .ok (.aload_n 0, 1) := by decide +kernel
theorem dX6_digest_90 : decode cX6_digest 90 = .ok (.getfield 39, 3) := by decide +kernel
theorem dX6_digest_93 : decode cX6_digest 93 = .ok (.i2l, 1) := by decide +kernel
theorem dX6_digest_94 : decode cX6_digest 94 = .ok (.ladd, 1) := by decide +kernel
theorem dX6_digest_95 : decode cX6_digest 95 = .ok (.ldc2_w 168, 3) := by decide +kernel
theorem dX6_digest_98 : decode cX6_digest 98 = .ok (.lmul, 1) := by decide +kernel
theorem dX6_digest_99 : decode cX6_digest 99 = .ok (.aload_n 0, 1) := by decide +kernel
theorem dX6_digest_100 : decode cX6_digest 100 = .ok (.getfield 42, 3) := by decide +kernel
theorem dX6_digest_103 : decode cX6_digest 103 = .ok (.i2l, 1) := by decide +kernel
theorem dX6_digest_104 : decode cX6_digest 104 = .ok (.ladd, 1) := by decide +kernel
theorem dX6_digest_105 : decode cX6_digest 105 = .ok (.lstore_n 1, 1) := by decide +kernel
theorem dX6_digest_106 : decode cX6_digest 106 = .ok (.aload_n 0, 1) := by decide +kernel
theorem dX6_digest_107 : decode cX6_digest 107 = .ok (.getfield 98, 3) := by decide +kernel
theorem dX6_digest_110 : decode cX6_digest 110 = .ok (.ifCond .ne 5, 3) := by decide +kernel
theorem dX6_digest_113 : decode cX6_digest 113 = .ok (.lload_n 1, 1) := by decide +kernel
theorem dX6_digest_114 : decode cX6_digest 114 = .ok (.lreturn, 1) := by decide +kernel
theorem dX6_digest_115 : decode cX6_digest 115 = .ok (.lload_n 1, 1) := by decide +kernel
theorem dX6_digest_116 : decode cX6_digest 116 = .ok (.ldc2_w 168, 3) := by decide +kernel
theorem dX6_digest_119 : decode cX6_digest 119 = .ok (.lmul, 1) := by decide +kernel
theorem dX6_digest_120 : decode cX6_digest 120 = .ok (.aload_n 0, 1) := by decide +kernel
theorem dX6_digest_121 : decode cX6_digest 121 = .ok (.getfield 118, 3) := by decide +kernel
theorem dX6_digest_124 : decode cX6_digest 124 = .ok (.i2l, 1) := by decide +kernel
theorem dX6_digest_125 : decode cX6_digest 125 = .ok (.ladd, 1) := by decide +kernel
theorem dX6_digest_126 : decode cX6_digest 126 = .ok (.lstore_n 1, 1) := by decide +kernel
theorem dX6_digest_127 : decode cX6_digest 127 = .ok (.iconst 0, 1) := by decide +kernel
theorem dX6_digest_128 : decode cX6_digest 128 = .ok (.istore_n 3, 1) := by decide +kernel
theorem dX6_digest_129 : decode cX6_digest 129 = .ok (.iload_n 3, 1) := by decide +kernel
theorem dX6_digest_130 : decode cX6_digest 130 = .ok (.aload_n 0, 1) := by decide +kernel
theorem dX6_digest_131 : decode cX6_digest 131 = .ok (.getfield 118, 3) := by decide +kernel
theorem dX6_digest_134 : decode cX6_digest 134 = .ok (.if_icmp .ge 98, 3) := by decide +kernel
theorem dX6_digest_137 : decode cX6_digest 137 = .ok (.lload_n 1, 1) := by decide +kernel
theorem dX6_digest_138 : decode cX6_digest 138 = .ok (.ldc2_w 168, 3) := by decide +kernel
theorem dX6_digest_141 : decode cX6_digest 141 = .ok (.lmul, 1) := by decide +kernel
theorem dX6_digest_142 : decode cX6_digest 142 = .ok (.aload_n 0, 1) := by decide +kernel
theorem dX6_digest_143 : decode cX6_digest 143 = .ok (.getfield 45, 3) := by decide +kernel
theorem dX6_digest_146 : decode cX6_digest 146 = .ok (.iload_n 3, 1) := by decide +kernel
theorem dX6_digest_147 : decode cX6_digest 147 = .ok (.iaload, 1) := by decide +kernel
theorem dX6_digest_148 : decode cX6_digest 148 = .ok (.i2l, 1) := by decide +kernel
theorem dX6_digest_149 : decode cX6_digest 149 = .ok (.ladd, 1) := by decide +kernel
theorem dX6_digest_150 : decode cX6_digest 150 = .ok (.ldc2_w 168, 3) := by decide +kernel
theorem dX6_digest_153 : decode cX6_digest 153 = .ok (.lmul, 1) := by decide +kernel
theorem dX6_digest_154 : decode cX6_digest 154 = .ok (.aload_n 0, 1) := by decide +kernel
theorem dX6_digest_155 : decode cX6_digest 155 = .ok (.getfield 48, 3) := by decide +kernel
theorem dX6_digest_158 : decode cX6_digest 158 = .ok (.iload_n 3, 1) := by decide +kernel
theorem dX6_digest_159 : decode cX6_digest 159 = .ok (.iaload, 1) := by decide +kernel
theorem dX6_digest_160 : decode cX6_digest 160 = .ok (.i2l, 1) := by decide +kernel
theorem dX6_digest_161 : decode cX6_digest 161 = .ok (.ladd, 1) := by decide +kernel
theorem dX6_digest_162 : decode cX6_digest 162 = .ok (.lstore_n 1, 1) := by decide +kernel
theorem dX6_digest_163 : decode cX6_digest 163 = .ok (.iconst 0, 1) := by decide +kernel
theorem dX6_digest_164 : decode cX6_digest 164 = .ok (.istore 4, 2) := by decide +kernel
theorem dX6_digest_166 : decode cX6_digest 166 = .ok (.iload 4, 2) := by decide +kernel
theorem dX6_digest_168 : decode cX6_digest 168 = .ok (.aload_n 0, 1) := by decide +kernel
theorem dX6_digest_169 : decode cX6_digest 169 = .ok (.getfield 30, 3) := by decide +kernel
theorem dX6_digest_172 : decode cX6_digest 172 = .ok (.aload_n 0, 1) := by decide +kernel
theorem dX6_digest_173 : decode cX6_digest 173 = .ok (.getfield 45, 3) := by decide +kernel
theorem dX6_digest_176 : decode cX6_digest 176 = .ok (.iload_n 3, 1) := by decide +kernel
theorem dX6_digest_177 : decode cX6_digest 177 = .ok (.iaload, 1) := by decide +kernel
theorem dX6_digest_178 : decode cX6_digest 178 = .ok (.iaload, 1) := by decide +kernel
theorem dX6_digest_179 : decode cX6_digest 179 = .ok (.if_icmp .ge 47, 3) := by decide +kernel
theorem dX6_digest_182 : decode cX6_digest 182 = .ok (.lload_n 1, 1) := by decide +kernel
theorem dX6_digest_183 : decode cX6_digest 183 = .ok (.ldc2_w 168, 3) := by decide +kernel
