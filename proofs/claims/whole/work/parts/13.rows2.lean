theorem dX5_methodCount_0 : decode cX5_methodCount 0 = .ok (.aload_n 0, 1) := by decide +kernel
theorem dX5_methodCount_1 : decode cX5_methodCount 1 = .ok (.getfield 21, 3) := by decide +kernel
theorem dX5_methodCount_4 : decode cX5_methodCount 4 = .ok (.getfield 85, 3) := by decide +kernel
theorem dX5_methodCount_7 : decode cX5_methodCount 7 = .ok (.ireturn, 1) := by decide +kernel
set_option maxRecDepth 20000 in
theorem ggX5_found_X5_checkClass : GoodIn wsX5_found wsX5_checkClass := goodIn_ca (goodIn_r _ [6, 7, 8, 9, 10, 23, 24, 25, 26, 27, 28, 29, 30] (by decide +kernel) (by decide +kernel)) (goodIn_sub (fun _ h => List.mem_cons_of_mem _ (List.mem_append_right _ h)) (by decide +kernel))
set_option maxRecDepth 20000 in
theorem gX5_found_X5_checkClass : GoodIn wsX5_found (wsV RX5 41 RX5 yX5_checkClass wsX5_checkClass) := goodIn_app (goodIn_of _ (by decide +kernel)) ggX5_found_X5_checkClass
set_option maxRecDepth 20000 in
theorem ggX5_found_X5_checkSelector : GoodIn wsX5_found wsX5_checkSelector := goodIn_ca (goodIn_r _ [14, 7, 8] (by decide +kernel) (by decide +kernel)) (goodIn_sub (fun _ h => List.mem_cons_of_mem _ (List.mem_append_right _ h)) (by decide +kernel))
set_option maxRecDepth 20000 in
theorem gX5_found_X5_checkSelector : GoodIn wsX5_found (wsV RX5 72 RX5 yX5_checkSelector wsX5_checkSelector) := goodIn_app (goodIn_of _ (by decide +kernel)) ggX5_found_X5_checkSelector
set_option maxRecDepth 20000 in
theorem ggX5_found_X2_lookUp : GoodIn wsX5_found wsX2_lookUp := goodIn_r _ [19, 20, 21, 22, 31, 32, 33, 34, 35, 36, 37, 38, 27, 28, 29, 30] (by decide +kernel) (by decide +kernel)
set_option maxRecDepth 20000 in
theorem gX5_found_X2_lookUp : GoodIn wsX5_found (wsV RX5 109 RX2 yX2_lookUp wsX2_lookUp) := goodIn_app (goodIn_of _ (by decide +kernel)) ggX5_found_X2_lookUp
theorem dX5_found_0 : decode cX5_found 0 = .ok (.aload_n 0, 1) := by decide +kernel
theorem dX5_found_1 : decode cX5_found 1 = .ok (.iload_n 1, 1) := by decide +kernel
theorem dX5_found_2 : decode cX5_found 2 = .ok (.invokevirtual 41, 3) := by decide +kernel
theorem dX5_found_5 : decode cX5_found 5 = .ok (.aload_n 0, 1) := by decide +kernel
theorem dX5_found_6 : decode cX5_found 6 = .ok (.iload_n 2, 1) := by decide +kernel
theorem dX5_found_7 : decode cX5_found 7 = .ok (.invokevirtual 72, 3) := by decide +kernel
theorem dX5_found_10 : decode cX5_found 10 = .ok (.aload_n 0, 1) := by decide +kernel
theorem dX5_found_11 : decode cX5_found 11 = .ok (.getfield 21, 3) := by decide +kernel
theorem dX5_found_14 : decode cX5_found 14 = .ok (.iload_n 1, 1) := by decide +kernel
theorem dX5_found_15 : decode cX5_found 15 = .ok (.iload_n 2, 1) := by decide +kernel
theorem dX5_found_16 : decode cX5_found 16 = .ok (.invokevirtual 109, 3) := by decide +kernel
theorem dX5_found_19 : decode cX5_found 19 = .ok (.ireturn, 1) := by decide +kernel
set_option maxRecDepth 20000 in
theorem ggX5_targetCount_X5_checkClass : GoodIn wsX5_targetCount wsX5_checkClass := goodIn_ca (goodIn_r _ [6, 7, 8, 9, 10, 42, 43, 44, 45, 46, 47, 48, 49] (by decide +kernel) (by decide +kernel)) (goodIn_sub (fun _ h => List.mem_cons_of_mem _ (List.mem_append_right _ h)) (by decide +kernel))
set_option maxRecDepth 20000 in
theorem gX5_targetCount_X5_checkClass : GoodIn wsX5_targetCount (wsV RX5 41 RX5 yX5_checkClass wsX5_checkClass) := goodIn_app (goodIn_of _ (by decide +kernel)) ggX5_targetCount_X5_checkClass
set_option maxRecDepth 20000 in
theorem ggX5_targetCount_X5_checkSelector : GoodIn wsX5_targetCount wsX5_checkSelector := goodIn_ca (goodIn_r _ [14, 7, 8] (by decide +kernel) (by decide +kernel)) (goodIn_sub (fun _ h => List.mem_cons_of_mem _ (List.mem_append_right _ h)) (by decide +kernel))
set_option maxRecDepth 20000 in
theorem gX5_targetCount_X5_checkSelector : GoodIn wsX5_targetCount (wsV RX5 72 RX5 yX5_checkSelector wsX5_checkSelector) := goodIn_app (goodIn_of _ (by decide +kernel)) ggX5_targetCount_X5_checkSelector
set_option maxRecDepth 20000 in
theorem ggX5_targetCount_X2_targetSet : GoodIn wsX5_targetCount wsX2_targetSet := goodIn_r _ [19, 20, 21, 22, 23, 24, 25, 26, 27, 28, 29, 30, 31, 18, 32, 33, 34, 50, 51, 52, 53, 54, 55, 56, 57, 46, 47, 48, 49] (by decide +kernel) (by decide +kernel)
set_option maxRecDepth 20000 in
theorem gX5_targetCount_X2_targetSet : GoodIn wsX5_targetCount (wsV RX5 113 RX2 yX2_targetSet wsX2_targetSet) := goodIn_app (goodIn_of _ (by decide +kernel)) ggX5_targetCount_X2_targetSet
set_option maxRecDepth 20000 in
theorem ggX5_targetCount_J6_bitCount_0f7a4 : GoodIn wsX5_targetCount wsJ6_bitCount_0f7a4 := goodIn_r _ [38, 39, 40, 41] (by decide +kernel) (by decide +kernel)
set_option maxRecDepth 20000 in
theorem gX5_targetCount_J6_bitCount_0f7a4 : GoodIn wsX5_targetCount (va_wsS RX5 116 yJ6_bitCount_0f7a4 wsJ6_bitCount_0f7a4) := goodIn_app (goodIn_of _ (by decide +kernel)) ggX5_targetCount_J6_bitCount_0f7a4
theorem dX5_targetCount_0 : decode cX5_targetCount 0 = .ok (.aload_n 0, 1) := by decide +kernel
theorem dX5_targetCount_1 : decode cX5_targetCount 1 = .ok (.iload_n 1, 1) := by decide +kernel
theorem dX5_targetCount_2 : decode cX5_targetCount 2 = .ok (.invokevirtual 41, 3) := by decide +kernel
theorem dX5_targetCount_5 : decode cX5_targetCount 5 = .ok (.aload_n 0, 1) := by decide +kernel
theorem dX5_targetCount_6 : decode cX5_targetCount 6 = .ok (.iload_n 2, 1) := by decide +kernel
theorem dX5_targetCount_7 : decode cX5_targetCount 7 = .ok (.invokevirtual 72, 3) := by decide +kernel
theorem dX5_targetCount_10 : decode cX5_targetCount 10 = .ok (.aload_n 0, 1) := by decide +kernel
theorem dX5_targetCount_11 : decode cX5_targetCount 11 = .ok (.getfield 21, 3) := by decide +kernel
theorem dX5_targetCount_14 : decode cX5_targetCount 14 = .ok (.iload_n 1, 1) := by decide +kernel
theorem dX5_targetCount_15 : decode cX5_targetCount 15 = .ok (.iload_n 2, 1) := by decide +kernel
theorem dX5_targetCount_16 : decode cX5_targetCount 16 = .ok (.invokevirtual 113, 3) := by decide +kernel
theorem dX5_targetCount_19 : decode cX5_targetCount 19 = .ok (.invokestatic 116, 3) := by decide +kernel
theorem dX5_targetCount_22 : decode cX5_targetCount 22 = .ok (.ireturn, 1) := by decide +kernel
set_option maxRecDepth 20000 in
theorem ggX5_target_X5_checkClass : GoodIn wsX5_target wsX5_checkClass := goodIn_ca (goodIn_r _ [8, 9, 10, 11, 12, 45, 46, 47, 48, 49, 50, 51, 52] (by decide +kernel) (by decide +kernel)) (goodIn_sub (fun _ h => List.mem_cons_of_mem _ (List.mem_append_right _ h)) (by decide +kernel))
set_option maxRecDepth 20000 in
theorem gX5_target_X5_checkClass : GoodIn wsX5_target (wsV RX5 41 RX5 yX5_checkClass wsX5_checkClass) := goodIn_app (goodIn_of _ (by decide +kernel)) ggX5_target_X5_checkClass
set_option maxRecDepth 20000 in
theorem ggX5_target_X5_checkSelector : GoodIn wsX5_target wsX5_checkSelector := goodIn_ca (goodIn_r _ [16, 9, 10] (by decide +kernel) (by decide +kernel)) (goodIn_sub (fun _ h => List.mem_cons_of_mem _ (List.mem_append_right _ h)) (by decide +kernel))
set_option maxRecDepth 20000 in
theorem gX5_target_X5_checkSelector : GoodIn wsX5_target (wsV RX5 72 RX5 yX5_checkSelector wsX5_checkSelector) := goodIn_app (goodIn_of _ (by decide +kernel)) ggX5_target_X5_checkSelector
set_option maxRecDepth 20000 in
theorem ggX5_target_X2_targetSet : GoodIn wsX5_target wsX2_targetSet := goodIn_r _ [21, 22, 23, 24, 25, 26, 27, 28, 29, 30, 31, 32, 33, 20, 34, 35, 36, 53, 54, 55, 56, 57, 58, 59, 60, 49, 50, 51, 52] (by decide +kernel) (by decide +kernel)
set_option maxRecDepth 20000 in
theorem gX5_target_X2_targetSet : GoodIn wsX5_target (wsV RX5 113 RX2 yX2_targetSet wsX2_targetSet) := goodIn_app (goodIn_of _ (by decide +kernel)) ggX5_target_X2_targetSet
set_option maxRecDepth 20000 in
theorem ggX5_target_X2_member : GoodIn wsX5_target wsX2_member := goodIn_r _ [40, 41, 42, 43, 20, 44, 53, 54, 55, 56, 57, 58, 59, 60] (by decide +kernel) (by decide +kernel)
set_option maxRecDepth 20000 in
theorem gX5_target_X2_member : GoodIn wsX5_target (wsV RX5 121 RX2 yX2_member wsX2_member) := goodIn_app (goodIn_of _ (by decide +kernel)) ggX5_target_X2_member
theorem dX5_target_0 : decode cX5_target 0 = .ok (.aload_n 0, 1) := by decide +kernel
theorem dX5_target_1 : decode cX5_target 1 = .ok (.iload_n 1, 1) := by decide +kernel
theorem dX5_target_2 : decode cX5_target 2 = .ok (.invokevirtual 41, 3) := by decide +kernel
theorem dX5_target_5 : decode cX5_target 5 = .ok (.aload_n 0, 1) := by decide +kernel
theorem dX5_target_6 : decode cX5_target 6 = .ok (.iload_n 2, 1) := by decide +kernel
theorem dX5_target_7 : decode cX5_target 7 = .ok (.invokevirtual 72, 3) := by decide +kernel
theorem dX5_target_10 : decode cX5_target 10 = .ok (.aload_n 0, 1) := by decide +kernel
theorem dX5_target_11 : decode cX5_target 11 = .ok (.getfield 21, 3) := by decide +kernel
theorem dX5_target_14 : decode cX5_target 14 = .ok (.aload_n 0, 1) := by decide +kernel
theorem dX5_target_15 : decode cX5_target 15 = .ok (.getfield 21, 3) := by decide +kernel
theorem dX5_target_18 : decode cX5_target 18 = .ok (.iload_n 1, 1) := by decide +kernel
theorem dX5_target_19 : decode cX5_target 19 = .ok (.iload_n 2, 1) := by decide +kernel
theorem dX5_target_20 : decode cX5_target 20 = .ok (.invokevirtual 113, 3) := by decide +kernel
theorem dX5_target_23 : decode cX5_target 23 = .ok (.iload_n 3, 1) := by decide +kernel
theorem dX5_target_24 : decode cX5_target 24 = .ok (.invokevirtual 121, 3) := by decide +kernel
theorem dX5_target_27 : decode cX5_target 27 = .ok (.istore 4, 2) := by decide +kernel
theorem dX5_target_29 : decode cX5_target 29 = .ok (.iload 4, 2) := by decide +kernel
theorem dX5_target_31 : decode cX5_target 31 = .ok (.ifCond .ge 13, 3) := by decide +kernel
theorem dX5_target_34 : decode cX5_target 34 = .ok (.new 124, 3) := by decide +kernel
theorem dX5_target_37 : decode cX5_target 37 = .ok (.dup, 1) := by decide +kernel
theorem dX5_target_38 : decode cX5_target 38 = .ok (.ldc 126, 2) := by decide +kernel
theorem dX5_target_40 : decode cX5_target 40 = .ok (.invokespecial 128, 3) := by decide +kernel
theorem dX5_target_43 : decode cX5_target 43 = .ok (.athrow, 1) := by decide +kernel
theorem dX5_target_44 : decode cX5_target 44 = .ok (.iload 4, 2) := by decide +kernel
theorem dX5_target_46 : decode cX5_target 46 = .ok (.ireturn, 1) := by decide +kernel
set_option maxRecDepth 20000 in
theorem ggX5_reached_X5_checkMethod : GoodIn wsX5_reached wsX5_checkMethod := goodIn_ca (goodIn_r _ [6, 7, 8, 1, 9, 55, 56, 57, 58, 59, 60, 61, 62, 63, 64, 65, 66] (by decide +kernel) (by decide +kernel)) (goodIn_sub (fun _ h => List.mem_cons_of_mem _ (List.mem_append_right _ h)) (by decide +kernel))
set_option maxRecDepth 20000 in
theorem gX5_reached_X5_checkMethod : GoodIn wsX5_reached (wsV RX5 92 RX5 yX5_checkMethod wsX5_checkMethod) := goodIn_app (goodIn_of _ (by decide +kernel)) ggX5_reached_X5_checkMethod
set_option maxRecDepth 20000 in
theorem ggX5_reached_X2_reachableSet : GoodIn wsX5_reached wsX2_reachableSet := goodIn_r _ [14, 15, 16, 17, 18, 13, 19, 20, 21, 22, 23, 24, 25, 26, 27, 28, 29, 30, 31, 32, 33, 34, 5, 35, 36, 37, 38, 39, 40, 41, 42, 43, 44, 45, 46, 47, 48, 49, 50, 51, 52, 53, 54, 59, 60, 61, 62, 63, 64, 65, 66, 67, 68, 69, 70] (by decide +kernel) (by decide +kernel)
set_option maxRecDepth 20000 in
theorem gX5_reached_X2_reachableSet : GoodIn wsX5_reached (wsV RX5 129 RX2 yX2_reachableSet wsX2_reachableSet) := goodIn_app (goodIn_of _ (by decide +kernel)) ggX5_reached_X2_reachableSet
theorem dX5_reached_0 : decode cX5_reached 0 = .ok (.aload_n 0, 1) := by decide +kernel
theorem dX5_reached_1 : decode cX5_reached 1 = .ok (.iload_n 1, 1) := by decide +kernel
theorem dX5_reached_2 : decode cX5_reached 2 = .ok (.invokevirtual 92, 3) := by decide +kernel
theorem dX5_reached_5 : decode cX5_reached 5 = .ok (.aload_n 0, 1) := by decide +kernel
theorem dX5_reached_6 : decode cX5_reached 6 = .ok (.getfield 21, 3) := by decide +kernel
theorem dX5_reached_9 : decode cX5_reached 9 = .ok (.iload_n 1, 1) := by decide +kernel
theorem dX5_reached_10 : decode cX5_reached 10 = .ok (.invokevirtual 129, 3) := by decide +kernel
theorem dX5_reached_13 : decode cX5_reached 13 = .ok (.ireturn, 1) := by decide +kernel
set_option maxRecDepth 20000 in
theorem ggX5_setLimits_X3_remove : GoodIn wsX5_setLimits wsX3_remove := goodIn_r _ [9, 10, 11, 24, 25, 26, 27, 28, 29, 30, 31, 32, 33, 34, 35, 36] (by decide +kernel) (by decide +kernel)
set_option maxRecDepth 20000 in
theorem gX5_setLimits_X3_remove : GoodIn wsX5_setLimits (wsV RX5 102 RX3 yX3_remove wsX3_remove) := goodIn_app (goodIn_of _ (by decide +kernel)) ggX5_setLimits_X3_remove
set_option maxRecDepth 20000 in
theorem ggX5_setLimits_X1_change : GoodIn wsX5_setLimits wsX1_change := goodIn_r _ [16, 17, 18, 19, 37, 38, 39] (by decide +kernel) (by decide +kernel)
set_option maxRecDepth 20000 in
theorem gX5_setLimits_X1_change : GoodIn wsX5_setLimits (wsV RX5 138 RX1 yX1_change wsX1_change) := goodIn_app (goodIn_of _ (by decide +kernel)) ggX5_setLimits_X1_change
theorem dX5_setLimits_0 : decode cX5_setLimits 0 = .ok (.iload_n 1, 1) := by decide +kernel
theorem dX5_setLimits_1 : decode cX5_setLimits 1 = .ok (.iconst 1, 1) := by decide +kernel
theorem dX5_setLimits_2 : decode cX5_setLimits 2 = .ok (.if_icmp .lt 10, 3) := by decide +kernel
theorem dX5_setLimits_5 : decode cX5_setLimits 5 = .ok (.iload_n 1, 1) := by decide +kernel
theorem dX5_setLimits_6 : decode cX5_setLimits 6 = .ok (.sipush 5000, 3) := by decide +kernel
theorem dX5_setLimits_9 : decode cX5_setLimits 9 = .ok (.if_icmp .le 13, 3) := by decide +kernel
theorem dX5_setLimits_12 : decode cX5_setLimits 12 = .ok (.new 75, 3) := by decide +kernel
theorem dX5_setLimits_15 : decode cX5_setLimits 15 = .ok (.dup, 1) := by decide +kernel
theorem dX5_setLimits_16 : decode cX5_setLimits 16 = .ok (.ldc 132, 2) := by decide +kernel
theorem dX5_setLimits_18 : decode cX5_setLimits 18 = .ok (.invokespecial 79, 3) := by decide +kernel
theorem dX5_setLimits_21 : decode cX5_setLimits 21 = .ok (.athrow, 1) := by decide +kernel
theorem dX5_setLimits_22 : decode cX5_setLimits 22 = .ok (.iload_n 2, 1) := by decide +kernel
theorem dX5_setLimits_23 : decode cX5_setLimits 23 = .ok (.ifCond .lt 9, 3) := by decide +kernel
theorem dX5_setLimits_26 : decode cX5_setLimits 26 = .ok (.iload_n 2, 1) := by decide +kernel
theorem dX5_setLimits_27 : decode cX5_setLimits 27 = .ok (.bipush 10, 2) := by decide +kernel
theorem dX5_setLimits_29 : decode cX5_setLimits 29 = .ok (.if_icmp .le 13, 3) := by decide +kernel
theorem dX5_setLimits_32 : decode cX5_setLimits 32 = .ok (.new 75, 3) := by decide +kernel
theorem dX5_setLimits_35 : decode cX5_setLimits 35 = .ok (.dup, 1) := by decide +kernel
theorem dX5_setLimits_36 : decode cX5_setLimits 36 = .ok (.ldc 134, 2) := by decide +kernel
theorem dX5_setLimits_38 : decode cX5_setLimits 38 = .ok (.invokespecial 79, 3) := by decide +kernel
theorem dX5_setLimits_41 : decode cX5_setLimits 41 = .ok (.athrow, 1) := by decide +kernel
theorem dX5_setLimits_42 : decode cX5_setLimits 42 = .ok (.iload_n 3, 1) := by decide +kernel
theorem dX5_setLimits_43 : decode cX5_setLimits 43 = .ok (.ifCond .lt 8, 3) := by decide +kernel
theorem dX5_setLimits_46 : decode cX5_setLimits 46 = .ok (.iload_n 3, 1) := by decide +kernel
theorem dX5_setLimits_47 : decode cX5_setLimits 47 = .ok (.iconst 5, 1) := by decide +kernel
theorem dX5_setLimits_48 : decode cX5_setLimits 48 = .ok (.if_icmp .le 13, 3) := by decide +kernel
theorem dX5_setLimits_51 : decode cX5_setLimits 51 = .ok (.new 75, 3) := by decide +kernel
theorem dX5_setLimits_54 : decode cX5_setLimits 54 = .ok (.dup, 1) := by decide +kernel
theorem dX5_setLimits_55 : decode cX5_setLimits 55 = .ok (.ldc 136, 2) := by decide +kernel
theorem dX5_setLimits_57 : decode cX5_setLimits 57 = .ok (.invokespecial 79, 3) := by decide +kernel
theorem dX5_setLimits_60 : decode cX5_setLimits 60 = .ok (.athrow, 1) := by decide +kernel
theorem dX5_setLimits_61 : decode cX5_setLimits 61 = .ok (.aload_n 0, 1) := by decide +kernel
theorem dX5_setLimits_62 : decode cX5_setLimits 62 = .ok (.getfield 37, 3) := by decide +kernel
theorem dX5_setLimits_65 : decode cX5_setLimits 65 = .ok (.invokevirtual 102, 3) := by decide +kernel
theorem dX5_setLimits_68 : decode cX5_setLimits 68 = .ok (.aload_n 0, 1) := by decide +kernel
theorem dX5_setLimits_69 : decode cX5_setLimits 69 = .ok (.getfield 28, 3) := by decide +kernel
theorem dX5_setLimits_72 : decode cX5_setLimits 72 = .ok (.iload_n 1, 1) := by decide +kernel
theorem dX5_setLimits_73 : decode cX5_setLimits 73 = .ok (.iload_n 2, 1) := by decide +kernel
theorem dX5_setLimits_74 : decode cX5_setLimits 74 = .ok (.iload_n 3, 1) := by decide +kernel
theorem dX5_setLimits_75 : decode cX5_setLimits 75 = .ok (.invokevirtual 138, 3) := by decide +kernel
theorem dX5_setLimits_78 : decode cX5_setLimits 78 = .ok (.ireturn, 1) := by decide +kernel
set_option maxRecDepth 20000 in
theorem ggX5_plan_X5_checkMethod : GoodIn wsX5_plan wsX5_checkMethod := goodIn_ca (goodIn_r _ [7, 8, 9, 10, 11, 131, 132, 133, 134, 148, 149, 150, 151, 152, 153, 154, 155] (by decide +kernel) (by decide +kernel)) (goodIn_sub (fun _ h => List.mem_cons_of_mem _ (List.mem_append_right _ h)) (by decide +kernel))
set_option maxRecDepth 20000 in
theorem gX5_plan_X5_checkMethod : GoodIn wsX5_plan (wsV RX5 92 RX5 yX5_checkMethod wsX5_checkMethod) := goodIn_app (goodIn_of _ (by decide +kernel)) ggX5_plan_X5_checkMethod
set_option maxRecDepth 20000 in
theorem ggX5_plan_X3_grow : GoodIn wsX5_plan wsX3_grow := goodIn_r _ [16, 17, 18, 19, 20, 21, 22, 23, 24, 25, 26, 27, 15, 28, 29, 30, 31, 32, 33, 34, 35, 36, 37, 38, 39, 40, 41, 42, 43, 44, 45, 46, 47, 48, 49, 50, 51, 52, 53, 6, 54, 55, 56, 57, 58, 59, 60, 61, 62, 63, 64, 65, 66, 67, 68, 69, 70, 71, 72, 73, 74, 75, 76, 77, 78, 79, 80, 81, 82, 83, 84, 85, 86, 87, 88, 89, 90, 91, 92, 93, 94, 95, 96, 97, 98, 99, 100, 101, 102, 103, 104, 105, 106, 107, 108, 109, 110, 111, 112, 113, 114, 115, 116, 117, 118, 119, 120, 121, 122, 123, 124, 125, 126, 127, 128, 129, 130, 135, 136, 137, 138, 139, 140, 141, 142, 143, 144, 145, 146, 147, 156, 157, 158, 148, 149, 150, 151, 152, 153, 154, 155, 159, 160, 161, 162, 163, 164, 165] (by decide +kernel) (by decide +kernel)
set_option maxRecDepth 20000 in
theorem gX5_plan_X3_grow : GoodIn wsX5_plan (wsV RX5 142 RX3 yX3_grow wsX3_grow) := goodIn_app (goodIn_of _ (by decide +kernel)) ggX5_plan_X3_grow
theorem dX5_plan_0 : decode cX5_plan 0 = .ok (.aload_n 0, 1) := by decide +kernel
theorem dX5_plan_1 : decode cX5_plan 1 = .ok (.iload_n 1, 1) := by decide +kernel
theorem dX5_plan_2 : decode cX5_plan 2 = .ok (.invokevirtual 92, 3) := by decide +kernel
theorem dX5_plan_5 : decode cX5_plan 5 = .ok (.aload_n 0, 1) := by decide +kernel
theorem dX5_plan_6 : decode cX5_plan 6 = .ok (.getfield 37, 3) := by decide +kernel
theorem dX5_plan_9 : decode cX5_plan 9 = .ok (.iload_n 1, 1) := by decide +kernel
theorem dX5_plan_10 : decode cX5_plan 10 = .ok (.invokevirtual 142, 3) := by decide +kernel
theorem dX5_plan_13 : decode cX5_plan 13 = .ok (.aload_n 0, 1) := by decide +kernel
theorem dX5_plan_14 : decode cX5_plan 14 = .ok (.getfield 37, 3) := by decide +kernel
theorem dX5_plan_17 : decode cX5_plan 17 = .ok (.getfield 145, 3) := by decide +kernel
theorem dX5_plan_20 : decode cX5_plan 20 = .ok (.ireturn, 1) := by decide +kernel
set_option maxRecDepth 20000 in
theorem ggX5_hasPlan_X3_exists : GoodIn wsX5_hasPlan wsX3_exists := goodIn_r _ [6, 7, 12, 13, 14, 15, 16, 17, 18, 19, 20, 21, 22, 23, 24] (by decide +kernel) (by decide +kernel)
set_option maxRecDepth 20000 in
theorem gX5_hasPlan_X3_exists : GoodIn wsX5_hasPlan (wsV RX5 146 RX3 yX3_exists wsX3_exists) := goodIn_app (goodIn_of _ (by decide +kernel)) ggX5_hasPlan_X3_exists
theorem dX5_hasPlan_0 : decode cX5_hasPlan 0 = .ok (.aload_n 0, 1) := by decide +kernel
theorem dX5_hasPlan_1 : decode cX5_hasPlan 1 = .ok (.getfield 37, 3) := by decide +kernel
theorem dX5_hasPlan_4 : decode cX5_hasPlan 4 = .ok (.invokevirtual 146, 3) := by decide +kernel
theorem dX5_hasPlan_7 : decode cX5_hasPlan 7 = .ok (.ireturn, 1) := by decide +kernel
set_option maxRecDepth 20000 in
theorem ggX5_nodeCount_X5_checkPlan : GoodIn wsX5_nodeCount wsX5_checkPlan := goodIn_ca (goodIn_r _ [7, 8, 9, 1, 10, 11, 12, 13, 14, 15, 16, 17, 18, 19, 20, 21, 22, 23, 24, 25, 26, 27, 28, 29, 30, 31, 32] (by decide +kernel) (by decide +kernel)) (goodIn_sub (fun _ h => List.mem_cons_of_mem _ (List.mem_append_right _ h)) (by decide +kernel))
set_option maxRecDepth 20000 in
theorem gX5_nodeCount_X5_checkPlan : GoodIn wsX5_nodeCount (wsV RX5 150 RX5 yX5_checkPlan wsX5_checkPlan) := goodIn_app (goodIn_of _ (by decide +kernel)) ggX5_nodeCount_X5_checkPlan
theorem dX5_nodeCount_0 : decode cX5_nodeCount 0 = .ok (.aload_n 0, 1) := by decide +kernel
theorem dX5_nodeCount_1 : decode cX5_nodeCount 1 = .ok (.invokevirtual 150, 3) := by decide +kernel
theorem dX5_nodeCount_4 : decode cX5_nodeCount 4 = .ok (.aload_n 0, 1) := by decide +kernel
theorem dX5_nodeCount_5 : decode cX5_nodeCount 5 = .ok (.getfield 37, 3) := by decide +kernel
theorem dX5_nodeCount_8 : decode cX5_nodeCount 8 = .ok (.getfield 145, 3) := by decide +kernel
theorem dX5_nodeCount_11 : decode cX5_nodeCount 11 = .ok (.ireturn, 1) := by decide +kernel
set_option maxRecDepth 20000 in
theorem ggX5_size_X5_checkPlan : GoodIn wsX5_size wsX5_checkPlan := goodIn_ca (goodIn_r _ [7, 8, 9, 1, 10, 11, 12, 13, 14, 15, 16, 17, 18, 19, 20, 21, 22, 23, 24, 25, 26, 27, 28, 29, 30, 31, 32] (by decide +kernel) (by decide +kernel)) (goodIn_sub (fun _ h => List.mem_cons_of_mem _ (List.mem_append_right _ h)) (by decide +kernel))
set_option maxRecDepth 20000 in
theorem gX5_size_X5_checkPlan : GoodIn wsX5_size (wsV RX5 150 RX5 yX5_checkPlan wsX5_checkPlan) := goodIn_app (goodIn_of _ (by decide +kernel)) ggX5_size_X5_checkPlan
theorem dX5_size_0 : decode cX5_size 0 = .ok (.aload_n 0, 1) := by decide +kernel
theorem dX5_size_1 : decode cX5_size 1 = .ok (.invokevirtual 150, 3) := by decide +kernel
theorem dX5_size_4 : decode cX5_size 4 = .ok (.aload_n 0, 1) := by decide +kernel
theorem dX5_size_5 : decode cX5_size 5 = .ok (.getfield 37, 3) := by decide +kernel
theorem dX5_size_8 : decode cX5_size 8 = .ok (.getfield 153, 3) := by decide +kernel
theorem dX5_size_11 : decode cX5_size 11 = .ok (.ireturn, 1) := by decide +kernel
set_option maxRecDepth 20000 in
theorem ggX5_method_X5_checkNode : GoodIn wsX5_method wsX5_checkNode := goodIn_ca (goodIn_ca (goodIn_r _ [7, 8, 9, 1, 10, 11, 12, 13, 6, 14, 15, 16, 17, 18, 19, 20, 21, 22, 23, 24, 25, 26, 27, 28, 29, 30, 31, 32, 33, 34, 35, 36, 37, 38, 39] (by decide +kernel) (by decide +kernel)) (goodIn_sub (fun _ h => List.mem_cons_of_mem _ (List.mem_append_left _ (List.mem_append_right _ h))) (by decide +kernel))) (goodIn_sub (fun _ h => List.mem_cons_of_mem _ (List.mem_append_right _ h)) (by decide +kernel))
set_option maxRecDepth 20000 in
theorem gX5_method_X5_checkNode : GoodIn wsX5_method (wsV RX5 156 RX5 yX5_checkNode wsX5_checkNode) := goodIn_app (goodIn_of _ (by decide +kernel)) ggX5_method_X5_checkNode
theorem dX5_method_0 : decode cX5_method 0 = .ok (.aload_n 0, 1) := by decide +kernel
theorem dX5_method_1 : decode cX5_method 1 = .ok (.iload_n 1, 1) := by decide +kernel
theorem dX5_method_2 : decode cX5_method 2 = .ok (.invokevirtual 156, 3) := by decide +kernel
theorem dX5_method_5 : decode cX5_method 5 = .ok (.aload_n 0, 1) := by decide +kernel
theorem dX5_method_6 : decode cX5_method 6 = .ok (.getfield 37, 3) := by decide +kernel
theorem dX5_method_9 : decode cX5_method 9 = .ok (.getfield 159, 3) := by decide +kernel
theorem dX5_method_12 : decode cX5_method 12 = .ok (.iload_n 1, 1) := by decide +kernel
theorem dX5_method_13 : decode cX5_method 13 = .ok (.iaload, 1) := by decide +kernel
theorem dX5_method_14 : decode cX5_method 14 = .ok (.ireturn, 1) := by decide +kernel
set_option maxRecDepth 20000 in
theorem ggX5_parentNode_X5_checkNode : GoodIn wsX5_parentNode wsX5_checkNode := goodIn_ca (goodIn_ca (goodIn_r _ [7, 8, 9, 1, 10, 11, 12, 13, 6, 14, 15, 16, 17, 18, 19, 20, 21, 22, 23, 24, 25, 26, 27, 28, 29, 30, 31, 32, 33, 34, 35, 36, 37, 38, 39] (by decide +kernel) (by decide +kernel)) (goodIn_sub (fun _ h => List.mem_cons_of_mem _ (List.mem_append_left _ (List.mem_append_right _ h))) (by decide +kernel))) (goodIn_sub (fun _ h => List.mem_cons_of_mem _ (List.mem_append_right _ h)) (by decide +kernel))
set_option maxRecDepth 20000 in
theorem gX5_parentNode_X5_checkNode : GoodIn wsX5_parentNode (wsV RX5 156 RX5 yX5_checkNode wsX5_checkNode) := goodIn_app (goodIn_of _ (by decide +kernel)) ggX5_parentNode_X5_checkNode
theorem dX5_parentNode_0 : decode cX5_parentNode 0 = .ok (.aload_n 0, 1) := by decide +kernel
theorem dX5_parentNode_1 : decode cX5_parentNode 1 = .ok (.iload_n 1, 1) := by decide +kernel
theorem dX5_parentNode_2 : decode cX5_parentNode 2 = .ok (.invokevirtual 156, 3) := by decide +kernel
theorem dX5_parentNode_5 : decode cX5_parentNode 5 = .ok (.aload_n 0, 1) := by decide +kernel
theorem dX5_parentNode_6 : decode cX5_parentNode 6 = .ok (.getfield 37, 3) := by decide +kernel
theorem dX5_parentNode_9 : decode cX5_parentNode 9 = .ok (.getfield 162, 3) := by decide +kernel
theorem dX5_parentNode_12 : decode cX5_parentNode 12 = .ok (.iload_n 1, 1) := by decide +kernel
theorem dX5_parentNode_13 : decode cX5_parentNode 13 = .ok (.iaload, 1) := by decide +kernel
theorem dX5_parentNode_14 : decode cX5_parentNode 14 = .ok (.ireturn, 1) := by decide +kernel
set_option maxRecDepth 20000 in
theorem ggX5_siteOf_X5_checkNode : GoodIn wsX5_siteOf wsX5_checkNode := goodIn_ca (goodIn_ca (goodIn_r _ [7, 8, 9, 1, 10, 11, 12, 13, 6, 14, 15, 16, 17, 18, 19, 20, 21, 22, 23, 24, 25, 26, 27, 28, 29, 30, 31, 32, 33, 34, 35, 36, 37, 38, 39] (by decide +kernel) (by decide +kernel)) (goodIn_sub (fun _ h => List.mem_cons_of_mem _ (List.mem_append_left _ (List.mem_append_right _ h))) (by decide +kernel))) (goodIn_sub (fun _ h => List.mem_cons_of_mem _ (List.mem_append_right _ h)) (by decide +kernel))
set_option maxRecDepth 20000 in
theorem gX5_siteOf_X5_checkNode : GoodIn wsX5_siteOf (wsV RX5 156 RX5 yX5_checkNode wsX5_checkNode) := goodIn_app (goodIn_of _ (by decide +kernel)) ggX5_siteOf_X5_checkNode
theorem dX5_siteOf_0 : decode cX5_siteOf 0 = .ok (.aload_n 0, 1) := by decide +kernel
theorem dX5_siteOf_1 : decode cX5_siteOf 1 = .ok (.iload_n 1, 1) := by decide +kernel
theorem dX5_siteOf_2 : decode cX5_siteOf 2 = .ok (.invokevirtual 156, 3) := by decide +kernel
theorem dX5_siteOf_5 : decode cX5_siteOf 5 = .ok (.aload_n 0, 1) := by decide +kernel
theorem dX5_siteOf_6 : decode cX5_siteOf 6 = .ok (.getfield 37, 3) := by decide +kernel
theorem dX5_siteOf_9 : decode cX5_siteOf 9 = .ok (.getfield 163, 3) := by decide +kernel
theorem dX5_siteOf_12 : decode cX5_siteOf 12 = .ok (.iload_n 1, 1) := by decide +kernel
theorem dX5_siteOf_13 : decode cX5_siteOf 13 = .ok (.iaload, 1) := by decide +kernel
theorem dX5_siteOf_14 : decode cX5_siteOf 14 = .ok (.ireturn, 1) := by decide +kernel
set_option maxRecDepth 20000 in
theorem ggX5_depth_X5_checkNode : GoodIn wsX5_depth wsX5_checkNode := goodIn_ca (goodIn_ca (goodIn_r _ [7, 8, 9, 1, 10, 11, 12, 13, 6, 14, 15, 16, 17, 18, 19, 20, 21, 22, 23, 24, 25, 26, 27, 28, 29, 30, 31, 32, 33, 34, 35, 36, 37, 38, 39] (by decide +kernel) (by decide +kernel)) (goodIn_sub (fun _ h => List.mem_cons_of_mem _ (List.mem_append_left _ (List.mem_append_right _ h))) (by decide +kernel))) (goodIn_sub (fun _ h => List.mem_cons_of_mem _ (List.mem_append_right _ h)) (by decide +kernel))
set_option maxRecDepth 20000 in
theorem gX5_depth_X5_checkNode : GoodIn wsX5_depth (wsV RX5 156 RX5 yX5_checkNode wsX5_checkNode) := goodIn_app (goodIn_of _ (by decide +kernel)) ggX5_depth_X5_checkNode
theorem dX5_depth_0 : decode cX5_depth 0 = .ok (.aload_n 0, 1) := by decide +kernel
theorem dX5_depth_1 : decode cX5_depth 1 = .ok (.iload_n 1, 1) := by decide +kernel
theorem dX5_depth_2 : decode cX5_depth 2 = .ok (.invokevirtual 156, 3) := by decide +kernel
theorem dX5_depth_5 : decode cX5_depth 5 = .ok (.aload_n 0, 1) := by decide +kernel
theorem dX5_depth_6 : decode cX5_depth 6 = .ok (.getfield 37, 3) := by decide +kernel
theorem dX5_depth_9 : decode cX5_depth 9 = .ok (.getfield 166, 3) := by decide +kernel
theorem dX5_depth_12 : decode cX5_depth 12 = .ok (.iload_n 1, 1) := by decide +kernel
theorem dX5_depth_13 : decode cX5_depth 13 = .ok (.iaload, 1) := by decide +kernel
theorem dX5_depth_14 : decode cX5_depth 14 = .ok (.ireturn, 1) := by decide +kernel
set_option maxRecDepth 20000 in
theorem ggX5_siteCount_X5_checkNode : GoodIn wsX5_siteCount wsX5_checkNode := goodIn_ca (goodIn_ca (goodIn_r _ [6, 7, 8, 1, 9, 10, 11, 12, 5, 13, 14, 15, 16, 17, 18, 19, 20, 21, 29, 30, 31, 32, 33, 34, 35, 36, 37, 38, 39, 40, 41, 42, 43, 44, 45] (by decide +kernel) (by decide +kernel)) (goodIn_sub (fun _ h => List.mem_cons_of_mem _ (List.mem_append_left _ (List.mem_append_right _ h))) (by decide +kernel))) (goodIn_sub (fun _ h => List.mem_cons_of_mem _ (List.mem_append_right _ h)) (by decide +kernel))
set_option maxRecDepth 20000 in
theorem gX5_siteCount_X5_checkNode : GoodIn wsX5_siteCount (wsV RX5 156 RX5 yX5_checkNode wsX5_checkNode) := goodIn_app (goodIn_of _ (by decide +kernel)) ggX5_siteCount_X5_checkNode
set_option maxRecDepth 20000 in
theorem ggX5_siteCount_X3_sitesAt : GoodIn wsX5_siteCount wsX3_sitesAt := goodIn_r _ [25, 26, 27, 28, 33, 34, 35, 36, 37, 38, 39, 40, 41, 42, 43, 44, 45, 46, 47, 48, 49, 50, 51, 52, 53] (by decide +kernel) (by decide +kernel)
set_option maxRecDepth 20000 in
theorem gX5_siteCount_X3_sitesAt : GoodIn wsX5_siteCount (wsV RX5 169 RX3 yX3_sitesAt wsX3_sitesAt) := goodIn_app (goodIn_of _ (by decide +kernel)) ggX5_siteCount_X3_sitesAt
theorem dX5_siteCount_0 : decode cX5_siteCount 0 = .ok (.aload_n 0, 1) := by decide +kernel
theorem dX5_siteCount_1 : decode cX5_siteCount 1 = .ok (.iload_n 1, 1) := by decide +kernel
theorem dX5_siteCount_2 : decode cX5_siteCount 2 = .ok (.invokevirtual 156, 3) := by decide +kernel
theorem dX5_siteCount_5 : decode cX5_siteCount 5 = .ok (.aload_n 0, 1) := by decide +kernel
theorem dX5_siteCount_6 : decode cX5_siteCount 6 = .ok (.getfield 37, 3) := by decide +kernel
theorem dX5_siteCount_9 : decode cX5_siteCount 9 = .ok (.iload_n 1, 1) := by decide +kernel
theorem dX5_siteCount_10 : decode cX5_siteCount 10 = .ok (.invokevirtual 169, 3) := by decide +kernel
theorem dX5_siteCount_13 : decode cX5_siteCount 13 = .ok (.ireturn, 1) := by decide +kernel
set_option maxRecDepth 20000 in
theorem ggX5_verdict_X5_checkSite : GoodIn wsX5_verdict wsX5_checkSite := goodIn_ca (goodIn_ca (goodIn_r _ [7, 8, 9, 1, 10, 11, 12, 6, 13, 14, 15, 16, 17, 18, 19, 20, 21, 22, 23, 24, 25, 26, 27, 28, 29, 30, 31, 32, 33, 37, 38, 39, 40, 41, 42, 43, 44, 45, 46, 47, 48, 49, 50, 51, 52, 53, 54, 55, 56, 57, 58, 59, 60, 61] (by decide +kernel) (by decide +kernel)) (goodIn_sub (fun _ h => List.mem_cons_of_mem _ (List.mem_append_left _ (List.mem_append_right _ h))) (by decide +kernel))) (goodIn_sub (fun _ h => List.mem_cons_of_mem _ (List.mem_append_right _ h)) (by decide +kernel))
set_option maxRecDepth 20000 in
theorem gX5_verdict_X5_checkSite : GoodIn wsX5_verdict (wsV RX5 172 RX5 yX5_checkSite wsX5_checkSite) := goodIn_app (goodIn_of _ (by decide +kernel)) ggX5_verdict_X5_checkSite
set_option maxRecDepth 20000 in
theorem ggX5_verdict_X5_slot : GoodIn wsX5_verdict wsX5_slot := goodIn_r _ [36] (by decide +kernel) (by decide +kernel)
set_option maxRecDepth 20000 in
theorem gX5_verdict_X5_slot : GoodIn wsX5_verdict (va_wsS RX5 179 yX5_slot wsX5_slot) := goodIn_app (goodIn_of _ (by decide +kernel)) ggX5_verdict_X5_slot
theorem dX5_verdict_0 : decode cX5_verdict 0 = .ok (.aload_n 0, 1) := by decide +kernel
theorem dX5_verdict_1 : decode cX5_verdict 1 = .ok (.iload_n 1, 1) := by decide +kernel
theorem dX5_verdict_2 : decode cX5_verdict 2 = .ok (.iload_n 2, 1) := by decide +kernel
theorem dX5_verdict_3 : decode cX5_verdict 3 = .ok (.invokevirtual 172, 3) := by decide +kernel
theorem dX5_verdict_6 : decode cX5_verdict 6 = .ok (.aload_n 0, 1) := by decide +kernel
theorem dX5_verdict_7 : decode cX5_verdict 7 = .ok (.getfield 37, 3) := by decide +kernel
theorem dX5_verdict_10 : decode cX5_verdict 10 = .ok (.getfield 176, 3) := by decide +kernel
theorem dX5_verdict_13 : decode cX5_verdict 13 = .ok (.iload_n 1, 1) := by decide +kernel
theorem dX5_verdict_14 : decode cX5_verdict 14 = .ok (.iload_n 2, 1) := by decide +kernel
theorem dX5_verdict_15 : decode cX5_verdict 15 = .ok (.invokestatic 179, 3) := by decide +kernel
theorem dX5_verdict_18 : decode cX5_verdict 18 = .ok (.iaload, 1) := by decide +kernel
theorem dX5_verdict_19 : decode cX5_verdict 19 = .ok (.ireturn, 1) := by decide +kernel
set_option maxRecDepth 20000 in
theorem ggX5_weight_X5_checkSite : GoodIn wsX5_weight wsX5_checkSite := goodIn_ca (goodIn_ca (goodIn_r _ [7, 8, 9, 1, 10, 11, 12, 6, 13, 14, 15, 16, 17, 18, 19, 20, 21, 22, 23, 24, 25, 26, 27, 28, 29, 30, 31, 32, 33, 37, 38, 39, 40, 41, 42, 43, 44, 45, 46, 47, 48, 49, 50, 51, 52, 53, 54, 55, 56, 57, 58, 59, 60, 61] (by decide +kernel) (by decide +kernel)) (goodIn_sub (fun _ h => List.mem_cons_of_mem _ (List.mem_append_left _ (List.mem_append_right _ h))) (by decide +kernel))) (goodIn_sub (fun _ h => List.mem_cons_of_mem _ (List.mem_append_right _ h)) (by decide +kernel))
set_option maxRecDepth 20000 in
theorem gX5_weight_X5_checkSite : GoodIn wsX5_weight (wsV RX5 172 RX5 yX5_checkSite wsX5_checkSite) := goodIn_app (goodIn_of _ (by decide +kernel)) ggX5_weight_X5_checkSite
set_option maxRecDepth 20000 in
theorem ggX5_weight_X5_slot : GoodIn wsX5_weight wsX5_slot := goodIn_r _ [36] (by decide +kernel) (by decide +kernel)
set_option maxRecDepth 20000 in
theorem gX5_weight_X5_slot : GoodIn wsX5_weight (va_wsS RX5 179 yX5_slot wsX5_slot) := goodIn_app (goodIn_of _ (by decide +kernel)) ggX5_weight_X5_slot
theorem dX5_weight_0 : decode cX5_weight 0 = .ok (.aload_n 0, 1) := by decide +kernel
theorem dX5_weight_1 : decode cX5_weight 1 = .ok (.iload_n 1, 1) := by decide +kernel
theorem dX5_weight_2 : decode cX5_weight 2 = .ok (.iload_n 2, 1) := by decide +kernel
theorem dX5_weight_3 : decode cX5_weight 3 = .ok (.invokevirtual 172, 3) := by decide +kernel
theorem dX5_weight_6 : decode cX5_weight 6 = .ok (.aload_n 0, 1) := by decide +kernel
theorem dX5_weight_7 : decode cX5_weight 7 = .ok (.getfield 37, 3) := by decide +kernel
theorem dX5_weight_10 : decode cX5_weight 10 = .ok (.getfield 182, 3) := by decide +kernel
theorem dX5_weight_13 : decode cX5_weight 13 = .ok (.iload_n 1, 1) := by decide +kernel
theorem dX5_weight_14 : decode cX5_weight 14 = .ok (.iload_n 2, 1) := by decide +kernel
theorem dX5_weight_15 : decode cX5_weight 15 = .ok (.invokestatic 179, 3) := by decide +kernel
theorem dX5_weight_18 : decode cX5_weight 18 = .ok (.iaload, 1) := by decide +kernel
theorem dX5_weight_19 : decode cX5_weight 19 = .ok (.ireturn, 1) := by decide +kernel
set_option maxRecDepth 20000 in
theorem ggX5_weightOf_X5_checkPlan : GoodIn wsX5_weightOf wsX5_checkPlan := goodIn_ca (goodIn_r _ [8, 9, 10, 3, 11, 12, 13, 14, 15, 16, 32, 33, 34, 35, 36, 37, 38, 39, 40, 41, 42, 43, 44, 45, 46, 47, 48] (by decide +kernel) (by decide +kernel)) (goodIn_sub (fun _ h => List.mem_cons_of_mem _ (List.mem_append_right _ h)) (by decide +kernel))
set_option maxRecDepth 20000 in
theorem gX5_weightOf_X5_checkPlan : GoodIn wsX5_weightOf (wsV RX5 150 RX5 yX5_checkPlan wsX5_checkPlan) := goodIn_app (goodIn_of _ (by decide +kernel)) ggX5_weightOf_X5_checkPlan
set_option maxRecDepth 20000 in
theorem ggX5_weightOf_X3_weightBetween : GoodIn wsX5_weightOf wsX3_weightBetween := goodIn_r _ [20, 16, 21, 22, 23, 24, 25, 14, 26, 27, 28, 29, 30, 7, 31, 36, 37, 38, 39, 40, 41, 42, 43, 44, 45, 46, 47, 48, 49, 50, 51, 52, 53, 54, 55, 56] (by decide +kernel) (by decide +kernel)
set_option maxRecDepth 20000 in
theorem gX5_weightOf_X3_weightBetween : GoodIn wsX5_weightOf (wsV RX5 190 RX3 yX3_weightBetween wsX3_weightBetween) := goodIn_app (goodIn_of _ (by decide +kernel)) ggX5_weightOf_X3_weightBetween
theorem dX5_weightOf_0 : decode cX5_weightOf 0 = .ok (.aload_n 0, 1) := by decide +kernel
theorem dX5_weightOf_1 : decode cX5_weightOf 1 = .ok (.invokevirtual 150, 3) := by decide +kernel
theorem dX5_weightOf_4 : decode cX5_weightOf 4 = .ok (.iload_n 1, 1) := by decide +kernel
theorem dX5_weightOf_5 : decode cX5_weightOf 5 = .ok (.ifCond .lt 9, 3) := by decide +kernel
theorem dX5_weightOf_8 : decode cX5_weightOf 8 = .ok (.iload_n 1, 1) := by decide +kernel
theorem dX5_weightOf_9 : decode cX5_weightOf 9 = .ok (.bipush 7, 2) := by decide +kernel
theorem dX5_weightOf_11 : decode cX5_weightOf 11 = .ok (.if_icmp .le 13, 3) := by decide +kernel
theorem dX5_weightOf_14 : decode cX5_weightOf 14 = .ok (.new 185, 3) := by decide +kernel
theorem dX5_weightOf_17 : decode cX5_weightOf 17 = .ok (.dup, 1) := by decide +kernel
theorem dX5_weightOf_18 : decode cX5_weightOf 18 = .ok (.ldc 187, 2) := by decide +kernel
theorem dX5_weightOf_20 : decode cX5_weightOf 20 = .ok (.invokespecial 189, 3) := by decide +kernel
theorem dX5_weightOf_23 : decode cX5_weightOf 23 = .ok (.athrow, 1) := by decide +kernel
theorem dX5_weightOf_24 : decode cX5_weightOf 24 = .ok (.aload_n 0, 1) := by decide +kernel
theorem dX5_weightOf_25 : decode cX5_weightOf 25 = .ok (.getfield 37, 3) := by decide +kernel
theorem dX5_weightOf_28 : decode cX5_weightOf 28 = .ok (.iload_n 1, 1) := by decide +kernel
theorem dX5_weightOf_29 : decode cX5_weightOf 29 = .ok (.iload_n 1, 1) := by decide +kernel
theorem dX5_weightOf_30 : decode cX5_weightOf 30 = .ok (.invokevirtual 190, 3) := by decide +kernel
theorem dX5_weightOf_33 : decode cX5_weightOf 33 = .ok (.lreturn, 1) := by decide +kernel
set_option maxRecDepth 20000 in
theorem ggX5_share_X5_checkPlan : GoodIn wsX5_share wsX5_checkPlan := goodIn_ca (goodIn_r _ [6, 7, 8, 1, 9, 10, 11, 12, 13, 14, 30, 31, 32, 33, 34, 35, 36, 37, 38, 39, 40, 41, 42, 43, 44, 45, 46] (by decide +kernel) (by decide +kernel)) (goodIn_sub (fun _ h => List.mem_cons_of_mem _ (List.mem_append_right _ h)) (by decide +kernel))
set_option maxRecDepth 20000 in
theorem gX5_share_X5_checkPlan : GoodIn wsX5_share (wsV RX5 150 RX5 yX5_checkPlan wsX5_checkPlan) := goodIn_app (goodIn_of _ (by decide +kernel)) ggX5_share_X5_checkPlan
set_option maxRecDepth 20000 in
theorem ggX5_share_X3_weightBetween : GoodIn wsX5_share wsX3_weightBetween := goodIn_r _ [18, 14, 19, 20, 21, 22, 23, 12, 24, 25, 26, 27, 28, 5, 29, 34, 35, 36, 37, 38, 39, 40, 41, 42, 43, 44, 45, 46, 47, 48, 49, 50, 51, 52, 53, 54] (by decide +kernel) (by decide +kernel)
set_option maxRecDepth 20000 in
theorem gX5_share_X3_weightBetween : GoodIn wsX5_share (wsV RX5 190 RX3 yX3_weightBetween wsX3_weightBetween) := goodIn_app (goodIn_of _ (by decide +kernel)) ggX5_share_X3_weightBetween
theorem dX5_share_0 : decode cX5_share 0 = .ok (.aload_n 0, 1) := by decide +kernel
theorem dX5_share_1 : decode cX5_share 1 = .ok (.invokevirtual 150, 3) := by decide +kernel
theorem dX5_share_4 : decode cX5_share 4 = .ok (.aload_n 0, 1) := by decide +kernel
theorem dX5_share_5 : decode cX5_share 5 = .ok (.getfield 37, 3) := by decide +kernel
theorem dX5_share_8 : decode cX5_share 8 = .ok (.iconst 0, 1) := by decide +kernel
theorem dX5_share_9 : decode cX5_share 9 = .ok (.bipush 7, 2) := by decide +kernel
theorem dX5_share_11 : decode cX5_share 11 = .ok (.invokevirtual 190, 3) := by decide +kernel
theorem dX5_share_14 : decode cX5_share 14 = .ok (.lstore_n 1, 1) := by decide +kernel
theorem dX5_share_15 : decode cX5_share 15 = .ok (.lload_n 1, 1) := by decide +kernel
theorem dX5_share_16 : decode cX5_share 16 = .ok (.lconst 0, 1) := by decide +kernel
theorem dX5_share_17 : decode cX5_share 17 = .ok (.lcmp, 1) := by decide +kernel
theorem dX5_share_18 : decode cX5_share 18 = .ok (.ifCond .ne 5, 3) := by decide +kernel
theorem dX5_share_21 : decode cX5_share 21 = .ok (.dconst 1, 1) := by decide +kernel
theorem dX5_share_22 : decode cX5_share 22 = .ok (.dreturn, 1) := by decide +kernel
theorem dX5_share_23 : decode cX5_share 23 = .ok (.aload_n 0, 1) := by decide +kernel
theorem dX5_share_24 : decode cX5_share 24 = .ok (.getfield 37, 3) := by decide +kernel
theorem dX5_share_27 : decode cX5_share 27 = .ok (.iconst 0, 1) := by decide +kernel
theorem dX5_share_28 : decode cX5_share 28 = .ok (.iconst 0, 1) := by decide +kernel
theorem dX5_share_29 : decode cX5_share 29 = .ok (.invokevirtual 190, 3) := by decide +kernel
theorem dX5_share_32 : decode cX5_share 32 = .ok (.l2d, 1) := by decide +kernel
theorem dX5_share_33 : decode cX5_share 33 = .ok (.lload_n 1, 1) := by decide +kernel
theorem dX5_share_34 : decode cX5_share 34 = .ok (.l2d, 1) := by decide +kernel
theorem dX5_share_35 : decode cX5_share 35 = .ok (.ddiv, 1) := by decide +kernel
theorem dX5_share_36 : decode cX5_share 36 = .ok (.dreturn, 1) := by decide +kernel
set_option maxRecDepth 20000 in
theorem ggX5_holds_X5_checkNode : GoodIn wsX5_holds wsX5_checkNode := goodIn_ca (goodIn_ca (goodIn_r _ [6, 7, 8, 1, 9, 10, 11, 12, 5, 13, 14, 15, 16, 17, 18, 19, 20, 21, 58, 59, 60, 61, 62, 63, 64, 65, 66, 67, 68, 69, 70, 71, 72, 73, 74] (by decide +kernel) (by decide +kernel)) (goodIn_sub (fun _ h => List.mem_cons_of_mem _ (List.mem_append_left _ (List.mem_append_right _ h))) (by decide +kernel))) (goodIn_sub (fun _ h => List.mem_cons_of_mem _ (List.mem_append_right _ h)) (by decide +kernel))
set_option maxRecDepth 20000 in
theorem gX5_holds_X5_checkNode : GoodIn wsX5_holds (wsV RX5 156 RX5 yX5_checkNode wsX5_checkNode) := goodIn_app (goodIn_of _ (by decide +kernel)) ggX5_holds_X5_checkNode
set_option maxRecDepth 20000 in
theorem ggX5_holds_X3_isSound : GoodIn wsX5_holds wsX3_isSound := goodIn_r _ [25, 26, 27, 28, 29, 30, 31, 32, 33, 34, 35, 36, 37, 5, 38, 39, 40, 41, 42, 43, 44, 45, 46, 47, 48, 49, 50, 51, 52, 53, 54, 55, 56, 57, 62, 63, 64, 65, 66, 67, 68, 69, 70, 71, 72, 73, 74, 75, 76, 77, 78, 79, 80, 81, 82, 83, 84, 85, 86] (by decide +kernel) (by decide +kernel)
set_option maxRecDepth 20000 in
theorem gX5_holds_X3_isSound : GoodIn wsX5_holds (wsV RX5 194 RX3 yX3_isSound wsX3_isSound) := goodIn_app (goodIn_of _ (by decide +kernel)) ggX5_holds_X3_isSound
theorem dX5_holds_0 : decode cX5_holds 0 = .ok (.aload_n 0, 1) := by decide +kernel
theorem dX5_holds_1 : decode cX5_holds 1 = .ok (.iload_n 1, 1) := by decide +kernel
theorem dX5_holds_2 : decode cX5_holds 2 = .ok (.invokevirtual 156, 3) := by decide +kernel
theorem dX5_holds_5 : decode cX5_holds 5 = .ok (.aload_n 0, 1) := by decide +kernel
theorem dX5_holds_6 : decode cX5_holds 6 = .ok (.getfield 37, 3) := by decide +kernel
theorem dX5_holds_9 : decode cX5_holds 9 = .ok (.iload_n 1, 1) := by decide +kernel
theorem dX5_holds_10 : decode cX5_holds 10 = .ok (.invokevirtual 194, 3) := by decide +kernel
theorem dX5_holds_13 : decode cX5_holds 13 = .ok (.ireturn, 1) := by decide +kernel
set_option maxRecDepth 20000 in
theorem ggX5_firstBroken_X5_checkPlan : GoodIn wsX5_firstBroken wsX5_checkPlan := goodIn_ca (goodIn_r _ [7, 8, 9, 1, 10, 11, 12, 13, 14, 15, 52, 53, 54, 55, 56, 57, 58, 59, 60, 61, 62, 63, 64, 65, 66, 67, 68] (by decide +kernel) (by decide +kernel)) (goodIn_sub (fun _ h => List.mem_cons_of_mem _ (List.mem_append_right _ h)) (by decide +kernel))
set_option maxRecDepth 20000 in
theorem gX5_firstBroken_X5_checkPlan : GoodIn wsX5_firstBroken (wsV RX5 150 RX5 yX5_checkPlan wsX5_checkPlan) := goodIn_app (goodIn_of _ (by decide +kernel)) ggX5_firstBroken_X5_checkPlan
set_option maxRecDepth 20000 in
theorem ggX5_firstBroken_X3_isSound : GoodIn wsX5_firstBroken wsX3_isSound := goodIn_r _ [19, 20, 21, 22, 23, 24, 25, 26, 27, 28, 29, 30, 31, 6, 32, 33, 34, 35, 36, 37, 38, 39, 40, 41, 42, 43, 44, 45, 46, 47, 48, 49, 50, 51, 56, 57, 58, 59, 60, 61, 62, 63, 64, 65, 66, 67, 68, 69, 70, 71, 72, 73, 74, 75, 76, 77, 78, 79, 80] (by decide +kernel) (by decide +kernel)
set_option maxRecDepth 20000 in
theorem gX5_firstBroken_X3_isSound : GoodIn wsX5_firstBroken (wsV RX5 194 RX3 yX3_isSound wsX3_isSound) := goodIn_app (goodIn_of _ (by decide +kernel)) ggX5_firstBroken_X3_isSound
theorem dX5_firstBroken_0 : decode cX5_firstBroken 0 = .ok (.aload_n 0, 1) := by decide +kernel
theorem dX5_firstBroken_1 : decode cX5_firstBroken 1 = .ok (.invokevirtual 150, 3) := by decide +kernel
theorem dX5_firstBroken_4 : decode cX5_firstBroken 4 = .ok (.iconst 0, 1) := by decide +kernel
theorem dX5_firstBroken_5 : decode cX5_firstBroken 5 = .ok (.istore_n 1, 1) := by decide +kernel
theorem dX5_firstBroken_6 : decode cX5_firstBroken 6 = .ok (.iload_n 1, 1) := by decide +kernel
theorem dX5_firstBroken_7 : decode cX5_firstBroken 7 = .ok (.aload_n 0, 1) := by decide +kernel
theorem dX5_firstBroken_8 : decode cX5_firstBroken 8 = .ok (.getfield 37, 3) := by decide +kernel
theorem dX5_firstBroken_11 : decode cX5_firstBroken 11 = .ok (.getfield 145, 3) := by decide +kernel
theorem dX5_firstBroken_14 : decode cX5_firstBroken 14 = .ok (.if_icmp .ge 22, 3) := by decide +kernel
theorem dX5_firstBroken_17 : decode cX5_firstBroken 17 = .ok (.aload_n 0, 1) := by decide +kernel
theorem dX5_firstBroken_18 : decode cX5_firstBroken 18 = .ok (.getfield 37, 3) := by decide +kernel
theorem dX5_firstBroken_21 : decode cX5_firstBroken 21 = .ok (.iload_n 1, 1) := by decide +kernel
theorem dX5_firstBroken_22 : decode cX5_firstBroken 22 = .ok (.invokevirtual 194, 3) := by decide +kernel
theorem dX5_firstBroken_25 : decode cX5_firstBroken 25 = .ok (.ifCond .ne 5, 3) := by decide +kernel
theorem dX5_firstBroken_28 : decode cX5_firstBroken 28 = .ok (.iload_n 1, 1) := by decide +kernel
theorem dX5_firstBroken_29 : decode cX5_firstBroken 29 = .ok (.ireturn, 1) := by decide +kernel
theorem dX5_firstBroken_30 : decode cX5_firstBroken 30 = .ok (.iinc 1 1, 3) := by decide +kernel
theorem dX5_firstBroken_33 : decode cX5_firstBroken 33 = .ok (.goto (-27), 3) := by decide +kernel
theorem dX5_firstBroken_36 : decode cX5_firstBroken 36 = .ok (.iconst (-1), 1) := by decide +kernel
theorem dX5_firstBroken_37 : decode cX5_firstBroken 37 = .ok (.ireturn, 1) := by decide +kernel
set_option maxRecDepth 20000 in
theorem ggX5_prune_X5_checkPlan : GoodIn wsX5_prune wsX5_checkPlan := goodIn_ca (goodIn_r _ [7, 8, 9, 1, 10, 11, 12, 13, 14, 15, 75, 76, 77, 78, 79, 80, 81, 82, 83, 84, 85, 86, 87, 88, 89, 90, 91] (by decide +kernel) (by decide +kernel)) (goodIn_sub (fun _ h => List.mem_cons_of_mem _ (List.mem_append_right _ h)) (by decide +kernel))
set_option maxRecDepth 20000 in
theorem gX5_prune_X5_checkPlan : GoodIn wsX5_prune (wsV RX5 150 RX5 yX5_checkPlan wsX5_checkPlan) := goodIn_app (goodIn_of _ (by decide +kernel)) ggX5_prune_X5_checkPlan
set_option maxRecDepth 20000 in
theorem ggX5_prune_X3_cutBroken : GoodIn wsX5_prune wsX3_cutBroken := goodIn_r _ [19, 20, 15, 21, 22, 23, 24, 25, 26, 27, 13, 28, 29, 30, 31, 32, 33, 34, 35, 36, 37, 38, 39, 40, 41, 42, 43, 6, 44, 45, 46, 47, 48, 49, 50, 51, 52, 53, 54, 55, 56, 57, 58, 59, 60, 61, 62, 63, 64, 65, 66, 67, 68, 69, 70, 71, 72, 73, 74, 79, 80, 81, 82, 83, 84, 85, 86, 87, 88, 89, 90, 91, 92, 93, 94, 95, 96, 97, 98, 99, 100, 101, 102, 103] (by decide +kernel) (by decide +kernel)
set_option maxRecDepth 20000 in
theorem gX5_prune_X3_cutBroken : GoodIn wsX5_prune (wsV RX5 198 RX3 yX3_cutBroken wsX3_cutBroken) := goodIn_app (goodIn_of _ (by decide +kernel)) ggX5_prune_X3_cutBroken
theorem dX5_prune_0 : decode cX5_prune 0 = .ok (.aload_n 0, 1) := by decide +kernel
theorem dX5_prune_1 : decode cX5_prune 1 = .ok (.invokevirtual 150, 3) := by decide +kernel
theorem dX5_prune_4 : decode cX5_prune 4 = .ok (.aload_n 0, 1) := by decide +kernel
theorem dX5_prune_5 : decode cX5_prune 5 = .ok (.getfield 37, 3) := by decide +kernel
theorem dX5_prune_8 : decode cX5_prune 8 = .ok (.getfield 145, 3) := by decide +kernel
theorem dX5_prune_11 : decode cX5_prune 11 = .ok (.istore_n 1, 1) := by decide +kernel
theorem dX5_prune_12 : decode cX5_prune 12 = .ok (.aload_n 0, 1) := by decide +kernel
theorem dX5_prune_13 : decode cX5_prune 13 = .ok (.getfield 37, 3) := by decide +kernel
theorem dX5_prune_16 : decode cX5_prune 16 = .ok (.invokevirtual 198, 3) := by decide +kernel
theorem dX5_prune_19 : decode cX5_prune 19 = .ok (.iload_n 1, 1) := by decide +kernel
theorem dX5_prune_20 : decode cX5_prune 20 = .ok (.aload_n 0, 1) := by decide +kernel
theorem dX5_prune_21 : decode cX5_prune 21 = .ok (.getfield 37, 3) := by decide +kernel
theorem dX5_prune_24 : decode cX5_prune 24 = .ok (.getfield 145, 3) := by decide +kernel
theorem dX5_prune_27 : decode cX5_prune 27 = .ok (.isub, 1) := by decide +kernel
theorem dX5_prune_28 : decode cX5_prune 28 = .ok (.ireturn, 1) := by decide +kernel
set_option maxRecDepth 20000 in
theorem ggX5_digest_X0_mixInto : GoodIn wsX5_digest wsX0_mixInto := goodIn_r _ [11, 12, 13, 14, 15, 16, 17, 18, 62, 63, 64, 65] (by decide +kernel) (by decide +kernel)
set_option maxRecDepth 20000 in
theorem gX5_digest_X0_mixInto : GoodIn wsX5_digest (wsV RX5 203 RX0 yX0_mixInto wsX0_mixInto) := goodIn_app (goodIn_of _ (by decide +kernel)) ggX5_digest_X0_mixInto
set_option maxRecDepth 20000 in
theorem ggX5_digest_X5_mix : GoodIn wsX5_digest wsX5_mix := goodIn_r _ [17, 18] (by decide +kernel) (by decide +kernel)
set_option maxRecDepth 20000 in
theorem gX5_digest_X5_mix : GoodIn wsX5_digest (va_wsS RX5 207 yX5_mix wsX5_mix) := goodIn_app (goodIn_of _ (by decide +kernel)) ggX5_digest_X5_mix
set_option maxRecDepth 20000 in
theorem ggX5_digest_X1_mixInto : GoodIn wsX5_digest wsX1_mixInto := goodIn_r _ [24, 25, 26, 27, 15, 16, 17, 18, 66, 67, 68] (by decide +kernel) (by decide +kernel)
set_option maxRecDepth 20000 in
theorem gX5_digest_X1_mixInto : GoodIn wsX5_digest (wsV RX5 211 RX1 yX1_mixInto wsX1_mixInto) := goodIn_app (goodIn_of _ (by decide +kernel)) ggX5_digest_X1_mixInto
set_option maxRecDepth 20000 in
theorem ggX5_digest_X3_exists : GoodIn wsX5_digest wsX3_exists := goodIn_r _ [32, 33, 69, 70, 71, 72, 73, 74, 75, 76, 77, 78, 79, 80, 81] (by decide +kernel) (by decide +kernel)
set_option maxRecDepth 20000 in
theorem gX5_digest_X3_exists : GoodIn wsX5_digest (wsV RX5 146 RX3 yX3_exists wsX3_exists) := goodIn_app (goodIn_of _ (by decide +kernel)) ggX5_digest_X3_exists
set_option maxRecDepth 20000 in
theorem ggX5_digest_X3_mixInto : GoodIn wsX5_digest wsX3_mixInto := goodIn_r _ [37, 33, 38, 39, 40, 41, 15, 16, 17, 18, 42, 43, 44, 31, 45, 46, 47, 48, 49, 69, 70, 71, 72, 73, 74, 75, 76, 77, 78, 79, 80, 81, 54, 55, 56, 57, 58, 59, 60, 61] (by decide +kernel) (by decide +kernel)
set_option maxRecDepth 20000 in
theorem gX5_digest_X3_mixInto : GoodIn wsX5_digest (wsV RX5 212 RX3 yX3_mixInto wsX3_mixInto) := goodIn_app (goodIn_of _ (by decide +kernel)) ggX5_digest_X3_mixInto
theorem dX5_digest_0 : decode cX5_digest 0 = .ok (.aload_n 0, 1) := by decide +kernel
theorem dX5_digest_1 : decode cX5_digest 1 = .ok (.getfield 12, 3) := by decide +kernel
theorem dX5_digest_4 : decode cX5_digest 4 = .ok (.ldc2_w 201, 3) := by decide +kernel
theorem dX5_digest_7 : decode cX5_digest 7 = .ok (.invokevirtual 203, 3) := by decide +kernel
theorem dX5_digest_10 : decode cX5_digest 10 = .ok (.lstore_n 1, 1) := by decide +kernel
theorem dX5_digest_11 : decode cX5_digest 11 = .ok (.lload_n 1, 1) := by decide +kernel
theorem dX5_digest_12 : decode cX5_digest 12 = .ok (.aload_n 0, 1) := by decide +kernel
theorem dX5_digest_13 : decode cX5_digest 13 = .ok (.getfield 21, 3) := by decide +kernel
theorem dX5_digest_16 : decode cX5_digest 16 = .ok (.getfield 85, 3) := by decide +kernel
theorem dX5_digest_19 : decode cX5_digest 19 = .ok (.invokestatic 207, 3) := by decide +kernel
theorem dX5_digest_22 : decode cX5_digest 22 = .ok (.lstore_n 1, 1) := by decide +kernel
theorem dX5_digest_23 : decode cX5_digest 23 = .ok (.aload_n 0, 1) := by decide +kernel
theorem dX5_digest_24 : decode cX5_digest 24 = .ok (.getfield 28, 3) := by decide +kernel
theorem dX5_digest_27 : decode cX5_digest 27 = .ok (.lload_n 1, 1) := by decide +kernel
theorem dX5_digest_28 : decode cX5_digest 28 = .ok (.invokevirtual 211, 3) := by decide +kernel
theorem dX5_digest_31 : decode cX5_digest 31 = .ok (.lstore_n 1, 1) := by decide +kernel
theorem dX5_digest_32 : decode cX5_digest 32 = .ok (.aload_n 0, 1) := by decide +kernel
theorem dX5_digest_33 : decode cX5_digest 33 = .ok (.getfield 37, 3) := by decide +kernel
theorem dX5_digest_36 : decode cX5_digest 36 = .ok (.invokevirtual 146, 3) := by decide +kernel
theorem dX5_digest_39 : decode cX5_digest 39 = .ok (.ifCond .eq 14, 3) := by decide +kernel
theorem dX5_digest_42 : decode cX5_digest 42 = .ok (.aload_n 0, 1) := by decide +kernel
theorem dX5_digest_43 : decode cX5_digest 43 = .ok (.getfield 37, 3) := by decide +kernel
theorem dX5_digest_46 : decode cX5_digest 46 = .ok (.lload_n 1, 1) := by decide +kernel
theorem dX5_digest_47 : decode cX5_digest 47 = .ok (.invokevirtual 212, 3) := by decide +kernel
theorem dX5_digest_50 : decode cX5_digest 50 = .ok (.goto 4, 3) := by decide +kernel
theorem dX5_digest_53 : decode cX5_digest 53 = .ok (.lload_n 1, 1) := by decide +kernel
theorem dX5_digest_54 : decode cX5_digest 54 = .ok (.lreturn, 1) := by decide +kernel
theorem dX5_checkClass_0 : decode cX5_checkClass 0 = .ok (.iload_n 1, 1) := by decide +kernel
theorem dX5_checkClass_1 : decode cX5_checkClass 1 = .ok (.ifCond .lt 14, 3) := by decide +kernel
theorem dX5_checkClass_4 : decode cX5_checkClass 4 = .ok (.iload_n 1, 1) := by decide +kernel
theorem dX5_checkClass_5 : decode cX5_checkClass 5 = .ok (.aload_n 0, 1) := by decide +kernel
theorem dX5_checkClass_6 : decode cX5_checkClass 6 = .ok (.getfield 12, 3) := by decide +kernel
theorem dX5_checkClass_9 : decode cX5_checkClass 9 = .ok (.getfield 45, 3) := by decide +kernel
theorem dX5_checkClass_12 : decode cX5_checkClass 12 = .ok (.if_icmp .lt 13, 3) := by decide +kernel
theorem dX5_checkClass_15 : decode cX5_checkClass 15 = .ok (.new 185, 3) := by decide +kernel
theorem dX5_checkClass_18 : decode cX5_checkClass 18 = .ok (.dup, 1) := by decide +kernel
theorem dX5_checkClass_19 : decode cX5_checkClass 19 = .ok (.ldc 213, 2) := by decide +kernel
theorem dX5_checkClass_21 : decode cX5_checkClass 21 = .ok (.invokespecial 189, 3) := by decide +kernel
theorem dX5_checkClass_24 : decode cX5_checkClass 24 = .ok (.athrow, 1) := by decide +kernel
theorem dX5_checkClass_25 : decode cX5_checkClass 25 = .ok (.return_, 1) := by decide +kernel
theorem dX5_checkSelector_0 : decode cX5_checkSelector 0 = .ok (.iload_n 1, 1) := by decide +kernel
theorem dX5_checkSelector_1 : decode cX5_checkSelector 1 = .ok (.ifCond .lt 9, 3) := by decide +kernel
theorem dX5_checkSelector_4 : decode cX5_checkSelector 4 = .ok (.iload_n 1, 1) := by decide +kernel
theorem dX5_checkSelector_5 : decode cX5_checkSelector 5 = .ok (.bipush 8, 2) := by decide +kernel
theorem dX5_checkSelector_7 : decode cX5_checkSelector 7 = .ok (.if_icmp .lt 13, 3) := by decide +kernel
theorem dX5_checkSelector_10 : decode cX5_checkSelector 10 = .ok (.new 185, 3) := by decide +kernel
theorem dX5_checkSelector_13 : decode cX5_checkSelector 13 = .ok (.dup, 1) := by decide +kernel
theorem dX5_checkSelector_14 : decode cX5_checkSelector 14 = .ok (.ldc 215, 2) := by decide +kernel
theorem dX5_checkSelector_16 : decode cX5_checkSelector 16 = .ok (.invokespecial 189, 3) := by decide +kernel
theorem dX5_checkSelector_19 : decode cX5_checkSelector 19 = .ok (.athrow, 1) := by decide +kernel
theorem dX5_checkSelector_20 : decode cX5_checkSelector 20 = .ok (.return_, 1) := by decide +kernel
theorem dX5_checkMethod_0 : decode cX5_checkMethod 0 = .ok (.iload_n 1, 1) := by decide +kernel
theorem dX5_checkMethod_1 : decode cX5_checkMethod 1 = .ok (.ifCond .lt 14, 3) := by decide +kernel
theorem dX5_checkMethod_4 : decode cX5_checkMethod 4 = .ok (.iload_n 1, 1) := by decide +kernel
theorem dX5_checkMethod_5 : decode cX5_checkMethod 5 = .ok (.aload_n 0, 1) := by decide +kernel
theorem dX5_checkMethod_6 : decode cX5_checkMethod 6 = .ok (.getfield 21, 3) := by decide +kernel
theorem dX5_checkMethod_9 : decode cX5_checkMethod 9 = .ok (.getfield 85, 3) := by decide +kernel
theorem dX5_checkMethod_12 : decode cX5_checkMethod 12 = .ok (.if_icmp .lt 13, 3) := by decide +kernel
theorem dX5_checkMethod_15 : decode cX5_checkMethod 15 = .ok (.new 185, 3) := by decide +kernel
theorem dX5_checkMethod_18 : decode cX5_checkMethod 18 = .ok (.dup, 1) := by decide +kernel
theorem dX5_checkMethod_19 : decode cX5_checkMethod 19 = .ok (.ldc 217, 2) := by decide +kernel
theorem dX5_checkMethod_21 : decode cX5_checkMethod 21 = .ok (.invokespecial 189, 3) := by decide +kernel
theorem dX5_checkMethod_24 : decode cX5_checkMethod 24 = .ok (.athrow, 1) := by decide +kernel
theorem dX5_checkMethod_25 : decode cX5_checkMethod 25 = .ok (.return_, 1) := by decide +kernel
set_option maxRecDepth 20000 in
theorem ggX5_checkPlan_X3_exists : GoodIn wsX5_checkPlan wsX3_exists := goodIn_r _ [8, 9, 14, 15, 16, 17, 18, 19, 20, 21, 22, 23, 24, 25, 26] (by decide +kernel) (by decide +kernel)
set_option maxRecDepth 20000 in
theorem gX5_checkPlan_X3_exists : GoodIn wsX5_checkPlan (wsV RX5 146 RX3 yX3_exists wsX3_exists) := goodIn_app (goodIn_of _ (by decide +kernel)) ggX5_checkPlan_X3_exists
theorem dX5_checkPlan_0 : decode cX5_checkPlan 0 = .ok (.aload_n 0, 1) := by decide +kernel
theorem dX5_checkPlan_1 : decode cX5_checkPlan 1 = .ok (.getfield 37, 3) := by decide +kernel
theorem dX5_checkPlan_4 : decode cX5_checkPlan 4 = .ok (.invokevirtual 146, 3) := by decide +kernel
theorem dX5_checkPlan_7 : decode cX5_checkPlan 7 = .ok (.ifCond .ne 13, 3) := by decide +kernel
theorem dX5_checkPlan_10 : decode cX5_checkPlan 10 = .ok (.new 49, 3) := by decide +kernel
theorem dX5_checkPlan_13 : decode cX5_checkPlan 13 = .ok (.dup, 1) := by decide +kernel
theorem dX5_checkPlan_14 : decode cX5_checkPlan 14 = .ok (.ldc 219, 2) := by decide +kernel
theorem dX5_checkPlan_16 : decode cX5_checkPlan 16 = .ok (.invokespecial 53, 3) := by decide +kernel
theorem dX5_checkPlan_19 : decode cX5_checkPlan 19 = .ok (.athrow, 1) := by decide +kernel
theorem dX5_checkPlan_20 : decode cX5_checkPlan 20 = .ok (.return_, 1) := by decide +kernel
set_option maxRecDepth 20000 in
theorem ggX5_checkNode_X5_checkPlan : GoodIn wsX5_checkNode wsX5_checkPlan := goodIn_ca (goodIn_r _ [9, 10, 11, 3, 12, 13, 14, 15, 16, 17, 18, 19, 20, 21, 22, 23, 24, 25, 26, 27, 28, 29, 30, 31, 32, 33, 34] (by decide +kernel) (by decide +kernel)) (goodIn_sub (fun _ h => List.mem_cons_of_mem _ (List.mem_append_right _ h)) (by decide +kernel))
set_option maxRecDepth 20000 in
theorem gX5_checkNode_X5_checkPlan : GoodIn wsX5_checkNode (wsV RX5 150 RX5 yX5_checkPlan wsX5_checkPlan) := goodIn_app (goodIn_of _ (by decide +kernel)) ggX5_checkNode_X5_checkPlan
theorem dX5_checkNode_0 : decode cX5_checkNode 0 = .ok (.aload_n 0, 1) := by decide +kernel
theorem dX5_checkNode_1 : decode cX5_checkNode 1 = .ok (.invokevirtual 150, 3) := by decide +kernel
theorem dX5_checkNode_4 : decode cX5_checkNode 4 = .ok (.iload_n 1, 1) := by decide +kernel
theorem dX5_checkNode_5 : decode cX5_checkNode 5 = .ok (.ifCond .lt 14, 3) := by decide +kernel
theorem dX5_checkNode_8 : decode cX5_checkNode 8 = .ok (.iload_n 1, 1) := by decide +kernel
theorem dX5_checkNode_9 : decode cX5_checkNode 9 = .ok (.aload_n 0, 1) := by decide +kernel
theorem dX5_checkNode_10 : decode cX5_checkNode 10 = .ok (.getfield 37, 3) := by decide +kernel
theorem dX5_checkNode_13 : decode cX5_checkNode 13 = .ok (.getfield 145, 3) := by decide +kernel
theorem dX5_checkNode_16 : decode cX5_checkNode 16 = .ok (.if_icmp .lt 13, 3) := by decide +kernel
theorem dX5_checkNode_19 : decode cX5_checkNode 19 = .ok (.new 185, 3) := by decide +kernel
theorem dX5_checkNode_22 : decode cX5_checkNode 22 = .ok (.dup, 1) := by decide +kernel
theorem dX5_checkNode_23 : decode cX5_checkNode 23 = .ok (.ldc 221, 2) := by decide +kernel
theorem dX5_checkNode_25 : decode cX5_checkNode 25 = .ok (.invokespecial 189, 3) := by decide +kernel
theorem dX5_checkNode_28 : decode cX5_checkNode 28 = .ok (.athrow, 1) := by decide +kernel
theorem dX5_checkNode_29 : decode cX5_checkNode 29 = .ok (.return_, 1) := by decide +kernel
set_option maxRecDepth 20000 in
theorem ggX5_checkSite_X5_checkNode : GoodIn wsX5_checkSite wsX5_checkNode := goodIn_ca (goodIn_ca (goodIn_r _ [8, 1, 2, 3, 9, 10, 11, 12, 7, 13, 14, 15, 16, 17, 18, 19, 20, 21, 29, 30, 31, 32, 33, 34, 35, 36, 37, 38, 39, 40, 41, 42, 43, 44, 45] (by decide +kernel) (by decide +kernel)) (goodIn_sub (fun _ h => List.mem_cons_of_mem _ (List.mem_append_left _ (List.mem_append_right _ h))) (by decide +kernel))) (goodIn_sub (fun _ h => List.mem_cons_of_mem _ (List.mem_append_right _ h)) (by decide +kernel))
set_option maxRecDepth 20000 in
theorem gX5_checkSite_X5_checkNode : GoodIn wsX5_checkSite (wsV RX5 156 RX5 yX5_checkNode wsX5_checkNode) := goodIn_app (goodIn_of _ (by decide +kernel)) ggX5_checkSite_X5_checkNode
set_option maxRecDepth 20000 in
theorem ggX5_checkSite_X3_sitesAt : GoodIn wsX5_checkSite wsX3_sitesAt := goodIn_r _ [25, 26, 27, 28, 33, 34, 35, 36, 37, 38, 39, 40, 41, 42, 43, 44, 45, 46, 47, 48, 49, 50, 51, 52, 53] (by decide +kernel) (by decide +kernel)
set_option maxRecDepth 20000 in
theorem gX5_checkSite_X3_sitesAt : GoodIn wsX5_checkSite (wsV RX5 169 RX3 yX3_sitesAt wsX3_sitesAt) := goodIn_app (goodIn_of _ (by decide +kernel)) ggX5_checkSite_X3_sitesAt
theorem dX5_checkSite_0 : decode cX5_checkSite 0 = .ok (.aload_n 0, 1) := by decide +kernel
theorem dX5_checkSite_1 : decode cX5_checkSite 1 = .ok (.iload_n 1, 1) := by decide +kernel
theorem dX5_checkSite_2 : decode cX5_checkSite 2 = .ok (.invokevirtual 156, 3) := by decide +kernel
theorem dX5_checkSite_5 : decode cX5_checkSite 5 = .ok (.iload_n 2, 1) := by decide +kernel
theorem dX5_checkSite_6 : decode cX5_checkSite 6 = .ok (.ifCond .lt 15, 3) := by decide +kernel
theorem dX5_checkSite_9 : decode cX5_checkSite 9 = .ok (.iload_n 2, 1) := by decide +kernel
theorem dX5_checkSite_10 : decode cX5_checkSite 10 = .ok (.aload_n 0, 1) := by decide +kernel
theorem dX5_checkSite_11 : decode cX5_checkSite 11 = .ok (.getfield 37, 3) := by decide +kernel
theorem dX5_checkSite_14 : decode cX5_checkSite 14 = .ok (.iload_n 1, 1) := by decide +kernel
theorem dX5_checkSite_15 : decode cX5_checkSite 15 = .ok (.invokevirtual 169, 3) := by decide +kernel
theorem dX5_checkSite_18 : decode cX5_checkSite 18 = .ok (.if_icmp .lt 13, 3) := by decide +kernel
theorem dX5_checkSite_21 : decode cX5_checkSite 21 = .ok (.new 185, 3) := by decide +kernel
theorem dX5_checkSite_24 : decode cX5_checkSite 24 = .ok (.dup, 1) := by decide +kernel
theorem dX5_checkSite_25 : decode cX5_checkSite 25 = .ok (.ldc 223, 2) := by decide +kernel
theorem dX5_checkSite_27 : decode cX5_checkSite 27 = .ok (.invokespecial 189, 3) := by decide +kernel
theorem dX5_checkSite_30 : decode cX5_checkSite 30 = .ok (.athrow, 1) := by decide +kernel
theorem dX5_checkSite_31 : decode cX5_checkSite 31 = .ok (.return_, 1) := by decide +kernel
theorem dX5_slot_0 : decode cX5_slot 0 = .ok (.iload_n 0, 1) := by decide +kernel
theorem dX5_slot_1 : decode cX5_slot 1 = .ok (.bipush 8, 2) := by decide +kernel
theorem dX5_slot_3 : decode cX5_slot 3 = .ok (.imul, 1) := by decide +kernel
theorem dX5_slot_4 : decode cX5_slot 4 = .ok (.iload_n 1, 1) := by decide +kernel
theorem dX5_slot_5 : decode cX5_slot 5 = .ok (.iadd, 1) := by decide +kernel
theorem dX5_slot_6 : decode cX5_slot 6 = .ok (.ireturn, 1) := by decide +kernel
theorem dX5_mix_0 : decode cX5_mix 0 = .ok (.lload_n 0, 1) := by decide +kernel
theorem dX5_mix_1 : decode cX5_mix 1 = .ok (.ldc2_w 225, 3) := by decide +kernel
theorem dX5_mix_4 : decode cX5_mix 4 = .ok (.lmul, 1) := by decide +kernel
theorem dX5_mix_5 : decode cX5_mix 5 = .ok (.iload_n 2, 1) := by decide +kernel
theorem dX5_mix_6 : decode cX5_mix 6 = .ok (.i2l, 1) := by decide +kernel
theorem dX5_mix_7 : decode cX5_mix 7 = .ok (.ladd, 1) := by decide +kernel
theorem dX5_mix_8 : decode cX5_mix 8 = .ok (.lreturn, 1) := by decide +kernel
theorem dX6_init_0 : decode cX6_init 0 = .ok (.aload_n 0, 1) := by decide +kernel
theorem dX6_init_1 : decode cX6_init 1 = .ok (.invokespecial 1, 3) := by decide +kernel
theorem dX6_init_4 : decode cX6_init 4 = .ok (.aload_n 0, 1) := by decide +kernel
theorem dX6_init_5 : decode cX6_init 5 = .ok (.iconst 1, 1) := by decide +kernel
theorem dX6_init_6 : decode cX6_init 6 = .ok (.putfield 7, 3) := by decide +kernel
theorem dX6_init_9 : decode cX6_init 9 = .ok (.aload_n 0, 1) := by decide +kernel
theorem dX6_init_10 : decode cX6_init 10 = .ok (.bipush 16, 2) := by decide +kernel
theorem dX6_init_12 : decode cX6_init 12 = .ok (.newarray .int, 2) := by decide +kernel
theorem dX6_init_14 : decode cX6_init 14 = .ok (.putfield 13, 3) := by decide +kernel
theorem dX6_init_17 : decode cX6_init 17 = .ok (.aload_n 0, 1) := by decide +kernel
theorem dX6_init_18 : decode cX6_init 18 = .ok (.bipush 16, 2) := by decide +kernel
theorem dX6_init_20 : decode cX6_init 20 = .ok (.newarray .boolean, 2) := by decide +kernel
theorem dX6_init_22 : decode cX6_init 22 = .ok (.putfield 17, 3) := by decide +kernel
theorem dX6_init_25 : decode cX6_init 25 = .ok (.aload_n 0, 1) := by decide +kernel
theorem dX6_init_26 : decode cX6_init 26 = .ok (.bipush 30, 2) := by decide +kernel
theorem dX6_init_28 : decode cX6_init 28 = .ok (.newarray .int, 2) := by decide +kernel
theorem dX6_init_30 : decode cX6_init 30 = .ok (.putfield 21, 3) := by decide +kernel
theorem dX6_init_33 : decode cX6_init 33 = .ok (.aload_n 0, 1) := by decide +kernel
theorem dX6_init_34 : decode cX6_init 34 = .ok (.bipush 30, 2) := by decide +kernel
theorem dX6_init_36 : decode cX6_init 36 = .ok (.newarray .int, 2) := by decide +kernel
theorem dX6_init_38 : decode cX6_init 38 = .ok (.putfield 24, 3) := by decide +kernel
theorem dX6_init_41 : decode cX6_init 41 = .ok (.aload_n 0, 1) := by decide +kernel
theorem dX6_init_42 : decode cX6_init 42 = .ok (.bipush 30, 2) := by decide +kernel
theorem dX6_init_44 : decode cX6_init 44 = .ok (.newarray .int, 2) := by decide +kernel
theorem dX6_init_46 : decode cX6_init 46 = .ok (.putfield 27, 3) := by decide +kernel
theorem dX6_init_49 : decode cX6_init 49 = .ok (.aload_n 0, 1) := by decide +kernel
theorem dX6_init_50 : decode cX6_init 50 = .ok (.bipush 30, 2) := by decide +kernel
theorem dX6_init_52 : decode cX6_init 52 = .ok (.newarray .int, 2) := by decide +kernel
theorem dX6_init_54 : decode cX6_init 54 = .ok (.putfield 30, 3) := by decide +kernel
theorem dX6_init_57 : decode cX6_init 57 = .ok (.aload_n 0, 1) := by decide +kernel
theorem dX6_init_58 : decode cX6_init 58 = .ok (.sipush 720, 3) := by decide +kernel
theorem dX6_init_61 : decode cX6_init 61 = .ok (.newarray .int, 2) := by decide +kernel
theorem dX6_init_63 : decode cX6_init 63 = .ok (.putfield 33, 3) := by decide +kernel
theorem dX6_init_66 : decode cX6_init 66 = .ok (.aload_n 0, 1) := by decide +kernel
theorem dX6_init_67 : decode cX6_init 67 = .ok (.sipush 200, 3) := by decide +kernel
theorem dX6_init_70 : decode cX6_init 70 = .ok (.putfield 36, 3) := by decide +kernel
theorem dX6_init_73 : decode cX6_init 73 = .ok (.aload_n 0, 1) := by decide +kernel
theorem dX6_init_74 : decode cX6_init 74 = .ok (.iconst 4, 1) := by decide +kernel
theorem dX6_init_75 : decode cX6_init 75 = .ok (.putfield 39, 3) := by decide +kernel
theorem dX6_init_78 : decode cX6_init 78 = .ok (.aload_n 0, 1) := by decide +kernel
theorem dX6_init_79 : decode cX6_init 79 = .ok (.iconst 1, 1) := by decide +kernel
theorem dX6_init_80 : decode cX6_init 80 = .ok (.putfield 42, 3) := by decide +kernel
theorem dX6_init_83 : decode cX6_init 83 = .ok (.aload_n 0, 1) := by decide +kernel
theorem dX6_init_84 : decode cX6_init 84 = .ok (.bipush 50, 2) := by decide +kernel
theorem dX6_init_86 : decode cX6_init 86 = .ok (.newarray .int, 2) := by decide +kernel
theorem dX6_init_88 : decode cX6_init 88 = .ok (.putfield 45, 3) := by decide +kernel
theorem dX6_init_91 : decode cX6_init 91 = .ok (.aload_n 0, 1) := by decide +kernel
theorem dX6_init_92 : decode cX6_init 92 = .ok (.bipush 50, 2) := by decide +kernel
theorem dX6_init_94 : decode cX6_init 94 = .ok (.newarray .int, 2) := by decide +kernel
theorem dX6_init_96 : decode cX6_init 96 = .ok (.putfield 48, 3) := by decide +kernel
theorem dX6_init_99 : decode cX6_init 99 = .ok (.aload_n 0, 1) := by decide +kernel
theorem dX6_init_100 : decode cX6_init 100 = .ok (.bipush 50, 2) := by decide +kernel
theorem dX6_init_102 : decode cX6_init 102 = .ok (.newarray .int, 2) := by decide +kernel
theorem dX6_init_104 : decode cX6_init 104 = .ok (.putfield 51, 3) := by decide +kernel
theorem dX6_init_107 : decode cX6_init 107 = .ok (.aload_n 0, 1) := by decide +kernel
theorem dX6_init_108 : decode cX6_init 108 = .ok (.bipush 50, 2) := by decide +kernel
theorem dX6_init_110 : decode cX6_init 110 = .ok (.newarray .int, 2) := by decide +kernel
theorem dX6_init_112 : decode cX6_init 112 = .ok (.putfield 54, 3) := by decide +kernel
theorem dX6_init_115 : decode cX6_init 115 = .ok (.aload_n 0, 1) := by decide +kernel
theorem dX6_init_116 : decode cX6_init 116 = .ok (.bipush 50, 2) := by decide +kernel
theorem dX6_init_118 : decode cX6_init 118 = .ok (.newarray .int, 2) := by decide +kernel
theorem dX6_init_120 : decode cX6_init 120 = .ok (.putfield 57, 3) := by decide +kernel
theorem dX6_init_123 : decode cX6_init 123 = .ok (.aload_n 0, 1) := by decide +kernel
theorem dX6_init_124 : decode cX6_init 124 = .ok (.sipush 400, 3) := by decide +kernel
theorem dX6_init_127 : decode cX6_init 127 = .ok (.newarray .int, 2) := by decide +kernel
theorem dX6_init_129 : decode cX6_init 129 = .ok (.putfield 60, 3) := by decide +kernel
theorem dX6_init_132 : decode cX6_init 132 = .ok (.aload_n 0, 1) := by decide +kernel
theorem dX6_init_133 : decode cX6_init 133 = .ok (.sipush 400, 3) := by decide +kernel
theorem dX6_init_136 : decode cX6_init 136 = .ok (.newarray .int, 2) := by decide +kernel
theorem dX6_init_138 : decode cX6_init 138 = .ok (.putfield 63, 3) := by decide +kernel
theorem dX6_init_141 : decode cX6_init 141 = .ok (.aload_n 0, 1) := by decide +kernel
theorem dX6_init_142 : decode cX6_init 142 = .ok (.getfield 13, 3) := by decide +kernel
theorem dX6_init_145 : decode cX6_init 145 = .ok (.iconst 0, 1) := by decide +kernel
theorem dX6_init_146 : decode cX6_init 146 = .ok (.iconst (-1), 1) := by decide +kernel
theorem dX6_init_147 : decode cX6_init 147 = .ok (.iastore, 1) := by decide +kernel
theorem dX6_init_148 : decode cX6_init 148 = .ok (.return_, 1) := by decide +kernel
theorem dX6_thrown_0 : decode cX6_thrown 0 = .ok (.aload_n 0, 1) := by decide +kernel
theorem dX6_thrown_1 : decode cX6_thrown 1 = .ok (.getfield 66, 3) := by decide +kernel
theorem dX6_thrown_4 : decode cX6_thrown 4 = .ok (.ireturn, 1) := by decide +kernel
theorem dX6_no_0 : decode cX6_no 0 = .ok (.aload_n 0, 1) := by decide +kernel
theorem dX6_no_1 : decode cX6_no 1 = .ok (.iload_n 1, 1) := by decide +kernel
theorem dX6_no_2 : decode cX6_no 2 = .ok (.putfield 66, 3) := by decide +kernel
theorem dX6_no_5 : decode cX6_no 5 = .ok (.iconst 0, 1) := by decide +kernel
theorem dX6_no_6 : decode cX6_no 6 = .ok (.ireturn, 1) := by decide +kernel
theorem dX6_isIn_0 : decode cX6_isIn 0 = .ok (.iload_n 0, 1) := by decide +kernel
theorem dX6_isIn_1 : decode cX6_isIn 1 = .ok (.iload_n 1, 1) := by decide +kernel
theorem dX6_isIn_2 : decode cX6_isIn 2 = .ok (.if_icmp .lt 12, 3) := by decide +kernel
theorem dX6_isIn_5 : decode cX6_isIn 5 = .ok (.iload_n 0, 1) := by decide +kernel
theorem dX6_isIn_6 : decode cX6_isIn 6 = .ok (.iload_n 2, 1) := by decide +kernel
theorem dX6_isIn_7 : decode cX6_isIn 7 = .ok (.if_icmp .gt 7, 3) := by decide +kernel
theorem dX6_isIn_10 : decode cX6_isIn 10 = .ok (.iconst 1, 1) := by decide +kernel
theorem dX6_isIn_11 : decode cX6_isIn 11 = .ok (.goto 4, 3) := by decide +kernel
theorem dX6_isIn_14 : decode cX6_isIn 14 = .ok (.iconst 0, 1) := by decide +kernel
theorem dX6_isIn_15 : decode cX6_isIn 15 = .ok (.ireturn, 1) := by decide +kernel
set_option maxRecDepth 20000 in
theorem ggX6_isClass_X6_isIn : GoodIn wsX6_isClass wsX6_isIn := goodIn_r _ [5] (by decide +kernel) (by decide +kernel)
set_option maxRecDepth 20000 in
theorem gX6_isClass_X6_isIn : GoodIn wsX6_isClass (va_wsS RX6 69 yX6_isIn wsX6_isIn) := goodIn_app (goodIn_of _ (by decide +kernel)) ggX6_isClass_X6_isIn
theorem dX6_isClass_0 : decode cX6_isClass 0 = .ok (.iload_n 1, 1) := by decide +kernel
theorem dX6_isClass_1 : decode cX6_isClass 1 = .ok (.iconst 0, 1) := by decide +kernel
theorem dX6_isClass_2 : decode cX6_isClass 2 = .ok (.aload_n 0, 1) := by decide +kernel
theorem dX6_isClass_3 : decode cX6_isClass 3 = .ok (.getfield 7, 3) := by decide +kernel
theorem dX6_isClass_6 : decode cX6_isClass 6 = .ok (.iconst 1, 1) := by decide +kernel
theorem dX6_isClass_7 : decode cX6_isClass 7 = .ok (.isub, 1) := by decide +kernel
theorem dX6_isClass_8 : decode cX6_isClass 8 = .ok (.invokestatic 69, 3) := by decide +kernel
theorem dX6_isClass_11 : decode cX6_isClass 11 = .ok (.ireturn, 1) := by decide +kernel
set_option maxRecDepth 20000 in
theorem ggX6_isMethod_X6_isIn : GoodIn wsX6_isMethod wsX6_isIn := goodIn_r _ [5] (by decide +kernel) (by decide +kernel)
set_option maxRecDepth 20000 in
theorem gX6_isMethod_X6_isIn : GoodIn wsX6_isMethod (va_wsS RX6 69 yX6_isIn wsX6_isIn) := goodIn_app (goodIn_of _ (by decide +kernel)) ggX6_isMethod_X6_isIn
theorem dX6_isMethod_0 : decode cX6_isMethod 0 = .ok (.iload_n 1, 1) := by decide +kernel
theorem dX6_isMethod_1 : decode cX6_isMethod 1 = .ok (.iconst 0, 1) := by decide +kernel
theorem dX6_isMethod_2 : decode cX6_isMethod 2 = .ok (.aload_n 0, 1) := by decide +kernel
theorem dX6_isMethod_3 : decode cX6_isMethod 3 = .ok (.getfield 73, 3) := by decide +kernel
theorem dX6_isMethod_6 : decode cX6_isMethod 6 = .ok (.iconst 1, 1) := by decide +kernel
theorem dX6_isMethod_7 : decode cX6_isMethod 7 = .ok (.isub, 1) := by decide +kernel
theorem dX6_isMethod_8 : decode cX6_isMethod 8 = .ok (.invokestatic 69, 3) := by decide +kernel
theorem dX6_isMethod_11 : decode cX6_isMethod 11 = .ok (.ireturn, 1) := by decide +kernel
set_option maxRecDepth 20000 in
theorem ggX6_isSelector_X6_isIn : GoodIn wsX6_isSelector wsX6_isIn := goodIn_r _ [4] (by decide +kernel) (by decide +kernel)
set_option maxRecDepth 20000 in
theorem gX6_isSelector_X6_isIn : GoodIn wsX6_isSelector (va_wsS RX6 69 yX6_isIn wsX6_isIn) := goodIn_app (goodIn_of _ (by decide +kernel)) ggX6_isSelector_X6_isIn
theorem dX6_isSelector_0 : decode cX6_isSelector 0 = .ok (.iload_n 0, 1) := by decide +kernel
theorem dX6_isSelector_1 : decode cX6_isSelector 1 = .ok (.iconst 0, 1) := by decide +kernel
theorem dX6_isSelector_2 : decode cX6_isSelector 2 = .ok (.bipush 7, 2) := by decide +kernel
theorem dX6_isSelector_4 : decode cX6_isSelector 4 = .ok (.invokestatic 69, 3) := by decide +kernel
theorem dX6_isSelector_7 : decode cX6_isSelector 7 = .ok (.ireturn, 1) := by decide +kernel
set_option maxRecDepth 20000 in
theorem ggX6_addClass_X6_isClass : GoodIn wsX6_addClass wsX6_isClass := goodIn_r _ [9, 2, 10, 11, 8, 12, 17, 18, 19, 20, 21, 22, 23, 24, 25, 26, 27, 28, 29, 30, 31, 32, 33, 34, 35, 36, 37, 38] (by decide +kernel) (by decide +kernel)
set_option maxRecDepth 20000 in
theorem gX6_addClass_X6_isClass : GoodIn wsX6_addClass (wsV RX6 76 RX6 yX6_isClass wsX6_isClass) := goodIn_app (goodIn_of _ (by decide +kernel)) ggX6_addClass_X6_isClass
set_option maxRecDepth 20000 in
theorem ggX6_addClass_X6_no : GoodIn wsX6_addClass wsX6_no := goodIn_r _ [16, 1, 17, 18, 19, 20, 21, 22, 23, 24, 25, 26, 27, 28, 29, 30, 31, 32, 33, 34, 35, 36, 37, 38] (by decide +kernel) (by decide +kernel)
set_option maxRecDepth 20000 in
theorem gX6_addClass_X6_no : GoodIn wsX6_addClass (wsV RX6 80 RX6 yX6_no wsX6_no) := goodIn_app (goodIn_of _ (by decide +kernel)) ggX6_addClass_X6_no
theorem dX6_addClass_0 : decode cX6_addClass 0 = .ok (.aload_n 0, 1) := by decide +kernel
theorem dX6_addClass_1 : decode cX6_addClass 1 = .ok (.iconst 0, 1) := by decide +kernel
theorem dX6_addClass_2 : decode cX6_addClass 2 = .ok (.putfield 66, 3) := by decide +kernel
theorem dX6_addClass_5 : decode cX6_addClass 5 = .ok (.aload_n 0, 1) := by decide +kernel
theorem dX6_addClass_6 : decode cX6_addClass 6 = .ok (.iload_n 1, 1) := by decide +kernel
theorem dX6_addClass_7 : decode cX6_addClass 7 = .ok (.invokevirtual 76, 3) := by decide +kernel
theorem dX6_addClass_10 : decode cX6_addClass 10 = .ok (.ifCond .ne 9, 3) := by decide +kernel
theorem dX6_addClass_13 : decode cX6_addClass 13 = .ok (.aload_n 0, 1) := by decide +kernel
theorem dX6_addClass_14 : decode cX6_addClass 14 = .ok (.iconst 1, 1) := by decide +kernel
theorem dX6_addClass_15 : decode cX6_addClass 15 = .ok (.invokevirtual 80, 3) := by decide +kernel
theorem dX6_addClass_18 : decode cX6_addClass 18 = .ok (.ireturn, 1) := by decide +kernel
theorem dX6_addClass_19 : decode cX6_addClass 19 = .ok (.aload_n 0, 1) := by decide +kernel
theorem dX6_addClass_20 : decode cX6_addClass 20 = .ok (.getfield 7, 3) := by decide +kernel
theorem dX6_addClass_23 : decode cX6_addClass 23 = .ok (.bipush 16, 2) := by decide +kernel
theorem dX6_addClass_25 : decode cX6_addClass 25 = .ok (.if_icmp .ne 9, 3) := by decide +kernel
theorem dX6_addClass_28 : decode cX6_addClass 28 = .ok (.aload_n 0, 1) := by decide +kernel
theorem dX6_addClass_29 : decode cX6_addClass 29 = .ok (.iconst 2, 1) := by decide +kernel
theorem dX6_addClass_30 : decode cX6_addClass 30 = .ok (.invokevirtual 80, 3) := by decide +kernel
theorem dX6_addClass_33 : decode cX6_addClass 33 = .ok (.ireturn, 1) := by decide +kernel
theorem dX6_addClass_34 : decode cX6_addClass 34 = .ok (.aload_n 0, 1) := by decide +kernel
theorem dX6_addClass_35 : decode cX6_addClass 35 = .ok (.getfield 13, 3) := by decide +kernel
theorem dX6_addClass_38 : decode cX6_addClass 38 = .ok (.aload_n 0, 1) := by decide +kernel
theorem dX6_addClass_39 : decode cX6_addClass 39 = .ok (.getfield 7, 3) := by decide +kernel
theorem dX6_addClass_42 : decode cX6_addClass 42 = .ok (.iload_n 1, 1) := by decide +kernel
theorem dX6_addClass_43 : decode cX6_addClass 43 = .ok (.iastore, 1) := by decide +kernel
theorem dX6_addClass_44 : decode cX6_addClass 44 = .ok (.aload_n 0, 1) := by decide +kernel
theorem dX6_addClass_45 : decode cX6_addClass 45 = .ok (.getfield 17, 3) := by decide +kernel
theorem dX6_addClass_48 : decode cX6_addClass 48 = .ok (.aload_n 0, 1) := by decide +kernel
theorem dX6_addClass_49 : decode cX6_addClass 49 = .ok (.getfield 7, 3) := by decide +kernel
theorem dX6_addClass_52 : decode cX6_addClass 52 = .ok (.iconst 0, 1) := by decide +kernel
theorem dX6_addClass_53 : decode cX6_addClass 53 = .ok (.bastore, 1) := by decide +kernel
theorem dX6_addClass_54 : decode cX6_addClass 54 = .ok (.aload_n 0, 1) := by decide +kernel
theorem dX6_addClass_55 : decode cX6_addClass 55 = .ok (.dup, 1) := by decide +kernel
theorem dX6_addClass_56 : decode cX6_addClass 56 = .ok (.getfield 7, 3) := by decide +kernel
theorem dX6_addClass_59 : decode cX6_addClass 59 = .ok (.iconst 1, 1) := by decide +kernel
theorem dX6_addClass_60 : decode cX6_addClass 60 = .ok (.iadd, 1) := by decide +kernel
theorem dX6_addClass_61 : decode cX6_addClass 61 = .ok (.putfield 7, 3) := by decide +kernel
theorem dX6_addClass_64 : decode cX6_addClass 64 = .ok (.aload_n 0, 1) := by decide +kernel
theorem dX6_addClass_65 : decode cX6_addClass 65 = .ok (.getfield 7, 3) := by decide +kernel
theorem dX6_addClass_68 : decode cX6_addClass 68 = .ok (.iconst 1, 1) := by decide +kernel
theorem dX6_addClass_69 : decode cX6_addClass 69 = .ok (.isub, 1) := by decide +kernel
theorem dX6_addClass_70 : decode cX6_addClass 70 = .ok (.ireturn, 1) := by decide +kernel
set_option maxRecDepth 20000 in
theorem ggX6_setLive_X6_isClass : GoodIn wsX6_setLive wsX6_isClass := goodIn_r _ [7, 8, 9, 10, 6, 11, 12, 13, 14, 15, 16, 17, 18, 19, 20, 21, 22, 23, 24, 25, 26, 27, 28, 29, 30, 31, 32, 33] (by decide +kernel) (by decide +kernel)
set_option maxRecDepth 20000 in
theorem gX6_setLive_X6_isClass : GoodIn wsX6_setLive (wsV RX6 76 RX6 yX6_isClass wsX6_isClass) := goodIn_app (goodIn_of _ (by decide +kernel)) ggX6_setLive_X6_isClass
theorem dX6_setLive_0 : decode cX6_setLive 0 = .ok (.aload_n 0, 1) := by decide +kernel
theorem dX6_setLive_1 : decode cX6_setLive 1 = .ok (.aload_n 0, 1) := by decide +kernel
theorem dX6_setLive_2 : decode cX6_setLive 2 = .ok (.iload_n 1, 1) := by decide +kernel
theorem dX6_setLive_3 : decode cX6_setLive 3 = .ok (.invokevirtual 76, 3) := by decide +kernel
theorem dX6_setLive_6 : decode cX6_setLive 6 = .ok (.ifCond .eq 7, 3) := by decide +kernel
theorem dX6_setLive_9 : decode cX6_setLive 9 = .ok (.iconst 0, 1) := by decide +kernel
theorem dX6_setLive_10 : decode cX6_setLive 10 = .ok (.goto 4, 3) := by decide +kernel
theorem dX6_setLive_13 : decode cX6_setLive 13 = .ok (.iconst 1, 1) := by decide +kernel
theorem dX6_setLive_14 : decode cX6_setLive 14 = .ok (.putfield 66, 3) := by decide +kernel
theorem dX6_setLive_17 : decode cX6_setLive 17 = .ok (.aload_n 0, 1) := by decide +kernel
theorem dX6_setLive_18 : decode cX6_setLive 18 = .ok (.getfield 66, 3) := by decide +kernel
theorem dX6_setLive_21 : decode cX6_setLive 21 = .ok (.ifCond .eq 5, 3) := by decide +kernel
theorem dX6_setLive_24 : decode cX6_setLive 24 = .ok (.iconst 0, 1) := by decide +kernel
theorem dX6_setLive_25 : decode cX6_setLive 25 = .ok (.ireturn, 1) := by decide +kernel
theorem dX6_setLive_26 : decode cX6_setLive 26 = .ok (.aload_n 0, 1) := by decide +kernel
theorem dX6_setLive_27 : decode cX6_setLive 27 = .ok (.getfield 17, 3) := by decide +kernel
theorem dX6_setLive_30 : decode cX6_setLive 30 = .ok (.iload_n 1, 1) := by decide +kernel
theorem dX6_setLive_31 : decode cX6_setLive 31 = .ok (.baload, 1) := by decide +kernel
theorem dX6_setLive_32 : decode cX6_setLive 32 = .ok (.istore_n 3, 1) := by decide +kernel
theorem dX6_setLive_33 : decode cX6_setLive 33 = .ok (.aload_n 0, 1) := by decide +kernel
theorem dX6_setLive_34 : decode cX6_setLive 34 = .ok (.getfield 17, 3) := by decide +kernel
theorem dX6_setLive_37 : decode cX6_setLive 37 = .ok (.iload_n 1, 1) := by decide +kernel
theorem dX6_setLive_38 : decode cX6_setLive 38 = .ok (.iload_n 2, 1) := by decide +kernel
theorem dX6_setLive_39 : decode cX6_setLive 39 = .ok (.bastore, 1) := by decide +kernel
theorem dX6_setLive_40 : decode cX6_setLive 40 = .ok (.iload_n 3, 1) := by decide +kernel
theorem dX6_setLive_41 : decode cX6_setLive 41 = .ok (.ireturn, 1) := by decide +kernel
theorem dX6_classCount_0 : decode cX6_classCount 0 = .ok (.aload_n 0, 1) := by decide +kernel
theorem dX6_classCount_1 : decode cX6_classCount 1 = .ok (.iconst 0, 1) := by decide +kernel
theorem dX6_classCount_2 : decode cX6_classCount 2 = .ok (.putfield 66, 3) := by decide +kernel
theorem dX6_classCount_5 : decode cX6_classCount 5 = .ok (.aload_n 0, 1) := by decide +kernel
theorem dX6_classCount_6 : decode cX6_classCount 6 = .ok (.getfield 7, 3) := by decide +kernel
theorem dX6_classCount_9 : decode cX6_classCount 9 = .ok (.ireturn, 1) := by decide +kernel
set_option maxRecDepth 20000 in
theorem ggX6_parent_X6_isClass : GoodIn wsX6_parent wsX6_isClass := goodIn_r _ [7, 8, 9, 10, 6, 11, 16, 17, 18, 19, 20, 21, 22, 23, 24, 25, 26, 27, 28, 29, 30, 31, 32, 33, 34, 35, 36, 37] (by decide +kernel) (by decide +kernel)
set_option maxRecDepth 20000 in
theorem gX6_parent_X6_isClass : GoodIn wsX6_parent (wsV RX6 76 RX6 yX6_isClass wsX6_isClass) := goodIn_app (goodIn_of _ (by decide +kernel)) ggX6_parent_X6_isClass
set_option maxRecDepth 20000 in
theorem ggX6_parent_X6_no : GoodIn wsX6_parent wsX6_no := goodIn_r _ [15, 1, 16, 17, 18, 19, 20, 21, 22, 23, 24, 25, 26, 27, 28, 29, 30, 31, 32, 33, 34, 35, 36, 37] (by decide +kernel) (by decide +kernel)
set_option maxRecDepth 20000 in
theorem gX6_parent_X6_no : GoodIn wsX6_parent (wsV RX6 80 RX6 yX6_no wsX6_no) := goodIn_app (goodIn_of _ (by decide +kernel)) ggX6_parent_X6_no
theorem dX6_parent_0 : decode cX6_parent 0 = .ok (.aload_n 0, 1) := by decide +kernel
theorem dX6_parent_1 : decode cX6_parent 1 = .ok (.iconst 0, 1) := by decide +kernel
theorem dX6_parent_2 : decode cX6_parent 2 = .ok (.putfield 66, 3) := by decide +kernel
theorem dX6_parent_5 : decode cX6_parent 5 = .ok (.aload_n 0, 1) := by decide +kernel
theorem dX6_parent_6 : decode cX6_parent 6 = .ok (.iload_n 1, 1) := by decide +kernel
theorem dX6_parent_7 : decode cX6_parent 7 = .ok (.invokevirtual 76, 3) := by decide +kernel
theorem dX6_parent_10 : decode cX6_parent 10 = .ok (.ifCond .eq 12, 3) := by decide +kernel
theorem dX6_parent_13 : decode cX6_parent 13 = .ok (.aload_n 0, 1) := by decide +kernel
theorem dX6_parent_14 : decode cX6_parent 14 = .ok (.getfield 13, 3) := by decide +kernel
theorem dX6_parent_17 : decode cX6_parent 17 = .ok (.iload_n 1, 1) := by decide +kernel
theorem dX6_parent_18 : decode cX6_parent 18 = .ok (.iaload, 1) := by decide +kernel
theorem dX6_parent_19 : decode cX6_parent 19 = .ok (.goto 8, 3) := by decide +kernel
theorem dX6_parent_22 : decode cX6_parent 22 = .ok (.aload_n 0, 1) := by decide +kernel
theorem dX6_parent_23 : decode cX6_parent 23 = .ok (.iconst 1, 1) := by decide +kernel
theorem dX6_parent_24 : decode cX6_parent 24 = .ok (.invokevirtual 80, 3) := by decide +kernel
theorem dX6_parent_27 : decode cX6_parent 27 = .ok (.ireturn, 1) := by decide +kernel
theorem dX6_below_0 : decode cX6_below 0 = .ok (.iload_n 1, 1) := by decide +kernel
theorem dX6_below_1 : decode cX6_below 1 = .ok (.istore_n 3, 1) := by decide +kernel
theorem dX6_below_2 : decode cX6_below 2 = .ok (.iload_n 3, 1) := by decide +kernel
theorem dX6_below_3 : decode cX6_below 3 = .ok (.iconst (-1), 1) := by decide +kernel
theorem dX6_below_4 : decode cX6_below 4 = .ok (.if_icmp .eq 18, 3) := by decide +kernel
theorem dX6_below_7 : decode cX6_below 7 = .ok (.iload_n 3, 1) := by decide +kernel
theorem dX6_below_8 : decode cX6_below 8 = .ok (.iload_n 2, 1) := by decide +kernel
theorem dX6_below_9 : decode cX6_below 9 = .ok (.if_icmp .eq 13, 3) := by decide +kernel
theorem dX6_below_12 : decode cX6_below 12 = .ok (.aload_n 0, 1) := by decide +kernel
theorem dX6_below_13 : decode cX6_below 13 = .ok (.getfield 13, 3) := by decide +kernel
theorem dX6_below_16 : decode cX6_below 16 = .ok (.iload_n 3, 1) := by decide +kernel
theorem dX6_below_17 : decode cX6_below 17 = .ok (.iaload, 1) := by decide +kernel
theorem dX6_below_18 : decode cX6_below 18 = .ok (.istore_n 3, 1) := by decide +kernel
theorem dX6_below_19 : decode cX6_below 19 = .ok (.goto (-17), 3) := by decide +kernel
theorem dX6_below_22 : decode cX6_below 22 = .ok (.iload_n 3, 1) := by decide +kernel
theorem dX6_below_23 : decode cX6_below 23 = .ok (.iload_n 2, 1) := by decide +kernel
theorem dX6_below_24 : decode cX6_below 24 = .ok (.if_icmp .ne 7, 3) := by decide +kernel
theorem dX6_below_27 : decode cX6_below 27 = .ok (.iconst 1, 1) := by decide +kernel
theorem dX6_below_28 : decode cX6_below 28 = .ok (.goto 4, 3) := by decide +kernel
theorem dX6_below_31 : decode cX6_below 31 = .ok (.iconst 0, 1) := by decide +kernel
theorem dX6_below_32 : decode cX6_below 32 = .ok (.ireturn, 1) := by decide +kernel
set_option maxRecDepth 20000 in
theorem ggX6_isBelow_X6_isClass : GoodIn wsX6_isBelow wsX6_isClass := goodIn_r _ [6, 7, 8, 9, 5, 10, 16, 17, 18, 19, 20, 21, 22, 23, 24, 25, 26, 27, 28, 29, 30, 31, 32, 33, 34, 35, 36, 37] (by decide +kernel) (by decide +kernel)
set_option maxRecDepth 20000 in
theorem gX6_isBelow_X6_isClass : GoodIn wsX6_isBelow (wsV RX6 76 RX6 yX6_isClass wsX6_isClass) := goodIn_app (goodIn_of _ (by decide +kernel)) ggX6_isBelow_X6_isClass
set_option maxRecDepth 20000 in
theorem ggX6_isBelow_X6_below : GoodIn wsX6_isBelow wsX6_below := goodIn_r _ [14, 15, 16, 17, 18, 19, 20, 21, 22, 23, 24, 25, 26, 27, 28, 29, 30, 31, 32, 33, 34, 35, 36, 37] (by decide +kernel) (by decide +kernel)
set_option maxRecDepth 20000 in
theorem gX6_isBelow_X6_below : GoodIn wsX6_isBelow (wsV RX6 84 RX6 yX6_below wsX6_below) := goodIn_app (goodIn_of _ (by decide +kernel)) ggX6_isBelow_X6_below
theorem dX6_isBelow_0 : decode cX6_isBelow 0 = .ok (.aload_n 0, 1) := by decide +kernel
theorem dX6_isBelow_1 : decode cX6_isBelow 1 = .ok (.aload_n 0, 1) := by decide +kernel
theorem dX6_isBelow_2 : decode cX6_isBelow 2 = .ok (.iload_n 1, 1) := by decide +kernel
theorem dX6_isBelow_3 : decode cX6_isBelow 3 = .ok (.invokevirtual 76, 3) := by decide +kernel
theorem dX6_isBelow_6 : decode cX6_isBelow 6 = .ok (.ifCond .eq 15, 3) := by decide +kernel
theorem dX6_isBelow_9 : decode cX6_isBelow 9 = .ok (.aload_n 0, 1) := by decide +kernel
theorem dX6_isBelow_10 : decode cX6_isBelow 10 = .ok (.iload_n 2, 1) := by decide +kernel
theorem dX6_isBelow_11 : decode cX6_isBelow 11 = .ok (.invokevirtual 76, 3) := by decide +kernel
theorem dX6_isBelow_14 : decode cX6_isBelow 14 = .ok (.ifCond .eq 7, 3) := by decide +kernel
theorem dX6_isBelow_17 : decode cX6_isBelow 17 = .ok (.iconst 0, 1) := by decide +kernel
theorem dX6_isBelow_18 : decode cX6_isBelow 18 = .ok (.goto 4, 3) := by decide +kernel
theorem dX6_isBelow_21 : decode cX6_isBelow 21 = .ok (.iconst 1, 1) := by decide +kernel
theorem dX6_isBelow_22 : decode cX6_isBelow 22 = .ok (.putfield 66, 3) := by decide +kernel
theorem dX6_isBelow_25 : decode cX6_isBelow 25 = .ok (.aload_n 0, 1) := by decide +kernel
theorem dX6_isBelow_26 : decode cX6_isBelow 26 = .ok (.getfield 66, 3) := by decide +kernel
theorem dX6_isBelow_29 : decode cX6_isBelow 29 = .ok (.ifCond .ne 16, 3) := by decide +kernel
theorem dX6_isBelow_32 : decode cX6_isBelow 32 = .ok (.aload_n 0, 1) := by decide +kernel
theorem dX6_isBelow_33 : decode cX6_isBelow 33 = .ok (.iload_n 1, 1) := by decide +kernel
theorem dX6_isBelow_34 : decode cX6_isBelow 34 = .ok (.iload_n 2, 1) := by decide +kernel
theorem dX6_isBelow_35 : decode cX6_isBelow 35 = .ok (.invokevirtual 84, 3) := by decide +kernel
theorem dX6_isBelow_38 : decode cX6_isBelow 38 = .ok (.ifCond .eq 7, 3) := by decide +kernel
theorem dX6_isBelow_41 : decode cX6_isBelow 41 = .ok (.iconst 1, 1) := by decide +kernel
theorem dX6_isBelow_42 : decode cX6_isBelow 42 = .ok (.goto 4, 3) := by decide +kernel
theorem dX6_isBelow_45 : decode cX6_isBelow 45 = .ok (.iconst 0, 1) := by decide +kernel
theorem dX6_isBelow_46 : decode cX6_isBelow 46 = .ok (.ireturn, 1) := by decide +kernel
set_option maxRecDepth 20000 in
theorem ggX6_liveBelow_X6_isClass : GoodIn wsX6_liveBelow wsX6_isClass := goodIn_r _ [8, 2, 9, 10, 7, 11, 21, 22, 23, 24, 25, 26, 27, 28, 29, 30, 31, 32, 33, 34, 35, 36, 37, 38, 39, 40, 41, 42] (by decide +kernel) (by decide +kernel)
set_option maxRecDepth 20000 in
theorem gX6_liveBelow_X6_isClass : GoodIn wsX6_liveBelow (wsV RX6 76 RX6 yX6_isClass wsX6_isClass) := goodIn_app (goodIn_of _ (by decide +kernel)) ggX6_liveBelow_X6_isClass
set_option maxRecDepth 20000 in
theorem ggX6_liveBelow_X6_no : GoodIn wsX6_liveBelow wsX6_no := goodIn_r _ [15, 1, 21, 22, 23, 24, 25, 26, 27, 28, 29, 30, 31, 32, 33, 34, 35, 36, 37, 38, 39, 40, 41, 42] (by decide +kernel) (by decide +kernel)
set_option maxRecDepth 20000 in
theorem gX6_liveBelow_X6_no : GoodIn wsX6_liveBelow (wsV RX6 80 RX6 yX6_no wsX6_no) := goodIn_app (goodIn_of _ (by decide +kernel)) ggX6_liveBelow_X6_no
set_option maxRecDepth 20000 in
theorem ggX6_liveBelow_X6_below : GoodIn wsX6_liveBelow wsX6_below := goodIn_r _ [19, 20, 21, 22, 23, 24, 25, 26, 27, 28, 29, 30, 31, 32, 33, 34, 35, 36, 37, 38, 39, 40, 41, 42] (by decide +kernel) (by decide +kernel)
set_option maxRecDepth 20000 in
theorem gX6_liveBelow_X6_below : GoodIn wsX6_liveBelow (wsV RX6 84 RX6 yX6_below wsX6_below) := goodIn_app (goodIn_of _ (by decide +kernel)) ggX6_liveBelow_X6_below
theorem dX6_liveBelow_0 : decode cX6_liveBelow 0 = .ok (.aload_n 0, 1) := by decide +kernel
theorem dX6_liveBelow_1 : decode cX6_liveBelow 1 = .ok (.iconst 0, 1) := by decide +kernel
theorem dX6_liveBelow_2 : decode cX6_liveBelow 2 = .ok (.putfield 66, 3) := by decide +kernel
theorem dX6_liveBelow_5 : decode cX6_liveBelow 5 = .ok (.aload_n 0, 1) := by decide +kernel
theorem dX6_liveBelow_6 : decode cX6_liveBelow 6 = .ok (.iload_n 1, 1) := by decide +kernel
theorem dX6_liveBelow_7 : decode cX6_liveBelow 7 = .ok (.invokevirtual 76, 3) := by decide +kernel
theorem dX6_liveBelow_10 : decode cX6_liveBelow 10 = .ok (.ifCond .ne 9, 3) := by decide +kernel
theorem dX6_liveBelow_13 : decode cX6_liveBelow 13 = .ok (.aload_n 0, 1) := by decide +kernel
theorem dX6_liveBelow_14 : decode cX6_liveBelow 14 = .ok (.iconst 1, 1) := by decide +kernel
theorem dX6_liveBelow_15 : decode cX6_liveBelow 15 = .ok (.invokevirtual 80, 3) := by decide +kernel
theorem dX6_liveBelow_18 : decode cX6_liveBelow 18 = .ok (.ireturn, 1) := by decide +kernel
theorem dX6_liveBelow_19 : decode cX6_liveBelow 19 = .ok (.iconst 0, 1) := by decide +kernel
theorem dX6_liveBelow_20 : decode cX6_liveBelow 20 = .ok (.istore_n 2, 1) := by decide +kernel
theorem dX6_liveBelow_21 : decode cX6_liveBelow 21 = .ok (.iconst 0, 1) := by decide +kernel
theorem dX6_liveBelow_22 : decode cX6_liveBelow 22 = .ok (.istore_n 3, 1) := by decide +kernel
theorem dX6_liveBelow_23 : decode cX6_liveBelow 23 = .ok (.iload_n 3, 1) := by decide +kernel
theorem dX6_liveBelow_24 : decode cX6_liveBelow 24 = .ok (.aload_n 0, 1) := by decide +kernel
theorem dX6_liveBelow_25 : decode cX6_liveBelow 25 = .ok (.getfield 7, 3) := by decide +kernel
theorem dX6_liveBelow_28 : decode cX6_liveBelow 28 = .ok (.if_icmp .ge 35, 3) := by decide +kernel
theorem dX6_liveBelow_31 : decode cX6_liveBelow 31 = .ok (.iload_n 2, 1) := by decide +kernel
theorem dX6_liveBelow_32 : decode cX6_liveBelow 32 = .ok (.aload_n 0, 1) := by decide +kernel
theorem dX6_liveBelow_33 : decode cX6_liveBelow 33 = .ok (.getfield 17, 3) := by decide +kernel
theorem dX6_liveBelow_36 : decode cX6_liveBelow 36 = .ok (.iload_n 3, 1) := by decide +kernel
theorem dX6_liveBelow_37 : decode cX6_liveBelow 37 = .ok (.baload, 1) := by decide +kernel
theorem dX6_liveBelow_38 : decode cX6_liveBelow 38 = .ok (.ifCond .eq 16, 3) := by decide +kernel
theorem dX6_liveBelow_41 : decode cX6_liveBelow 41 = .ok (.aload_n 0, 1) := by decide +kernel
theorem dX6_liveBelow_42 : decode cX6_liveBelow 42 = .ok (.iload_n 3, 1) := by decide +kernel
theorem dX6_liveBelow_43 : decode cX6_liveBelow 43 = .ok (.iload_n 1, 1) := by decide +kernel
theorem dX6_liveBelow_44 : decode cX6_liveBelow 44 = .ok (.invokevirtual 84, 3) := by decide +kernel
theorem dX6_liveBelow_47 : decode cX6_liveBelow 47 = .ok (.ifCond .eq 7, 3) := by decide +kernel
theorem dX6_liveBelow_50 : decode cX6_liveBelow 50 = .ok (.iconst 1, 1) := by decide +kernel
theorem dX6_liveBelow_51 : decode cX6_liveBelow 51 = .ok (.goto 4, 3) := by decide +kernel
theorem dX6_liveBelow_54 : decode cX6_liveBelow 54 = .ok (.iconst 0, 1) := by decide +kernel
theorem dX6_liveBelow_55 : decode cX6_liveBelow 55 = .ok (.iadd, 1) := by decide +kernel
theorem dX6_liveBelow_56 : decode cX6_liveBelow 56 = .ok (.istore_n 2, 1) := by decide +kernel
theorem dX6_liveBelow_57 : decode cX6_liveBelow 57 = .ok (.iinc 3 1, 3) := by decide +kernel
theorem dX6_liveBelow_60 : decode cX6_liveBelow 60 = .ok (.goto (-37), 3) := by decide +kernel
theorem dX6_liveBelow_63 : decode cX6_liveBelow 63 = .ok (.iload_n 2, 1) := by decide +kernel
theorem dX6_liveBelow_64 : decode cX6_liveBelow 64 = .ok (.ireturn, 1) := by decide +kernel
theorem dX6_own_0 : decode cX6_own 0 = .ok (.iconst 0, 1) := by decide +kernel
theorem dX6_own_1 : decode cX6_own 1 = .ok (.istore_n 3, 1) := by decide +kernel
theorem dX6_own_2 : decode cX6_own 2 = .ok (.iload_n 3, 1) := by decide +kernel
theorem dX6_own_3 : decode cX6_own 3 = .ok (.aload_n 0, 1) := by decide +kernel
theorem dX6_own_4 : decode cX6_own 4 = .ok (.getfield 73, 3) := by decide +kernel
theorem dX6_own_7 : decode cX6_own 7 = .ok (.if_icmp .ge 31, 3) := by decide +kernel
theorem dX6_own_10 : decode cX6_own 10 = .ok (.aload_n 0, 1) := by decide +kernel
theorem dX6_own_11 : decode cX6_own 11 = .ok (.getfield 21, 3) := by decide +kernel
theorem dX6_own_14 : decode cX6_own 14 = .ok (.iload_n 3, 1) := by decide +kernel
theorem dX6_own_15 : decode cX6_own 15 = .ok (.iaload, 1) := by decide +kernel
theorem dX6_own_16 : decode cX6_own 16 = .ok (.iload_n 1, 1) := by decide +kernel
theorem dX6_own_17 : decode cX6_own 17 = .ok (.if_icmp .ne 15, 3) := by decide +kernel
theorem dX6_own_20 : decode cX6_own 20 = .ok (.aload_n 0, 1) := by decide +kernel
theorem dX6_own_21 : decode cX6_own 21 = .ok (.getfield 24, 3) := by decide +kernel
theorem dX6_own_24 : decode cX6_own 24 = .ok (.iload_n 3, 1) := by decide +kernel
theorem dX6_own_25 : decode cX6_own 25 = .ok (.iaload, 1) := by decide +kernel
theorem dX6_own_26 : decode cX6_own 26 = .ok (.iload_n 2, 1) := by decide +kernel
theorem dX6_own_27 : decode cX6_own 27 = .ok (.if_icmp .ne 5, 3) := by decide +kernel
theorem dX6_own_30 : decode cX6_own 30 = .ok (.iload_n 3, 1) := by decide +kernel
theorem dX6_own_31 : decode cX6_own 31 = .ok (.ireturn, 1) := by decide +kernel
theorem dX6_own_32 : decode cX6_own 32 = .ok (.iinc 3 1, 3) := by decide +kernel
theorem dX6_own_35 : decode cX6_own 35 = .ok (.goto (-33), 3) := by decide +kernel
theorem dX6_own_38 : decode cX6_own 38 = .ok (.iconst (-1), 1) := by decide +kernel
theorem dX6_own_39 : decode cX6_own 39 = .ok (.ireturn, 1) := by decide +kernel
set_option maxRecDepth 20000 in
theorem ggX6_find_X6_own : GoodIn wsX6_find wsX6_own := goodIn_r _ [6, 7, 8, 9, 10, 11, 12, 13, 14, 15, 16, 17, 18, 19, 20, 21, 22, 23, 24, 25, 26, 27, 28, 29, 30, 31] (by decide +kernel) (by decide +kernel)
set_option maxRecDepth 20000 in
theorem gX6_find_X6_own : GoodIn wsX6_find (wsV RX6 88 RX6 yX6_own wsX6_own) := goodIn_app (goodIn_of _ (by decide +kernel)) ggX6_find_X6_own
theorem dX6_find_0 : decode cX6_find 0 = .ok (.iload_n 1, 1) := by decide +kernel
theorem dX6_find_1 : decode cX6_find 1 = .ok (.istore_n 3, 1) := by decide +kernel
theorem dX6_find_2 : decode cX6_find 2 = .ok (.iload_n 3, 1) := by decide +kernel
theorem dX6_find_3 : decode cX6_find 3 = .ok (.iconst (-1), 1) := by decide +kernel
theorem dX6_find_4 : decode cX6_find 4 = .ok (.if_icmp .eq 30, 3) := by decide +kernel
theorem dX6_find_7 : decode cX6_find 7 = .ok (.aload_n 0, 1) := by decide +kernel
theorem dX6_find_8 : decode cX6_find 8 = .ok (.iload_n 3, 1) := by decide +kernel
theorem dX6_find_9 : decode cX6_find 9 = .ok (.iload_n 2, 1) := by decide +kernel
theorem dX6_find_10 : decode cX6_find 10 = .ok (.invokevirtual 88, 3) := by decide +kernel
theorem dX6_find_13 : decode cX6_find 13 = .ok (.iconst (-1), 1) := by decide +kernel
theorem dX6_find_14 : decode cX6_find 14 = .ok (.if_icmp .eq 10, 3) := by decide +kernel
theorem dX6_find_17 : decode cX6_find 17 = .ok (.aload_n 0, 1) := by decide +kernel
theorem dX6_find_18 : decode cX6_find 18 = .ok (.iload_n 3, 1) := by decide +kernel
theorem dX6_find_19 : decode cX6_find 19 = .ok (.iload_n 2, 1) := by decide +kernel
theorem dX6_find_20 : decode cX6_find 20 = .ok (.invokevirtual 88, 3) := by decide +kernel
theorem dX6_find_23 : decode cX6_find 23 = .ok (.ireturn, 1) := by decide +kernel
theorem dX6_find_24 : decode cX6_find 24 = .ok (.aload_n 0, 1) := by decide +kernel
theorem dX6_find_25 : decode cX6_find 25 = .ok (.getfield 13, 3) := by decide +kernel
theorem dX6_find_28 : decode cX6_find 28 = .ok (.iload_n 3, 1) := by decide +kernel
theorem dX6_find_29 : decode cX6_find 29 = .ok (.iaload, 1) := by decide +kernel
theorem dX6_find_30 : decode cX6_find 30 = .ok (.istore_n 3, 1) := by decide +kernel
theorem dX6_find_31 : decode cX6_find 31 = .ok (.goto (-29), 3) := by decide +kernel
theorem dX6_find_34 : decode cX6_find 34 = .ok (.iconst (-1), 1) := by decide +kernel
theorem dX6_find_35 : decode cX6_find 35 = .ok (.ireturn, 1) := by decide +kernel
set_option maxRecDepth 20000 in
theorem ggX6_addMethod_X6_isClass : GoodIn wsX6_addMethod wsX6_isClass := goodIn_r _ [11, 12, 13, 14, 10, 15, 27, 28, 29, 30, 31, 32, 33, 34, 35, 36, 37, 38, 39, 40, 41, 42, 43, 44, 45, 46, 47, 48] (by decide +kernel) (by decide +kernel)
set_option maxRecDepth 20000 in
theorem gX6_addMethod_X6_isClass : GoodIn wsX6_addMethod (wsV RX6 76 RX6 yX6_isClass wsX6_isClass) := goodIn_app (goodIn_of _ (by decide +kernel)) ggX6_addMethod_X6_isClass
set_option maxRecDepth 20000 in
theorem ggX6_addMethod_X6_isSelector : GoodIn wsX6_addMethod wsX6_isSelector := goodIn_r _ [18, 13, 14, 10, 15] (by decide +kernel) (by decide +kernel)
set_option maxRecDepth 20000 in
theorem gX6_addMethod_X6_isSelector : GoodIn wsX6_addMethod (va_wsS RX6 92 yX6_isSelector wsX6_isSelector) := goodIn_app (goodIn_of _ (by decide +kernel)) ggX6_addMethod_X6_isSelector
set_option maxRecDepth 20000 in
theorem ggX6_addMethod_X6_no : GoodIn wsX6_addMethod wsX6_no := goodIn_r _ [22, 1, 27, 28, 29, 30, 31, 32, 33, 34, 35, 36, 37, 38, 39, 40, 41, 42, 43, 44, 45, 46, 47, 48] (by decide +kernel) (by decide +kernel)
set_option maxRecDepth 20000 in
theorem gX6_addMethod_X6_no : GoodIn wsX6_addMethod (wsV RX6 80 RX6 yX6_no wsX6_no) := goodIn_app (goodIn_of _ (by decide +kernel)) ggX6_addMethod_X6_no
set_option maxRecDepth 20000 in
theorem ggX6_addMethod_X6_isIn : GoodIn wsX6_addMethod wsX6_isIn := goodIn_r _ [15] (by decide +kernel) (by decide +kernel)
set_option maxRecDepth 20000 in
theorem gX6_addMethod_X6_isIn : GoodIn wsX6_addMethod (va_wsS RX6 69 yX6_isIn wsX6_isIn) := goodIn_app (goodIn_of _ (by decide +kernel)) ggX6_addMethod_X6_isIn
set_option maxRecDepth 20000 in
theorem ggX6_addMethod_X6_own : GoodIn wsX6_addMethod wsX6_own := goodIn_r _ [26, 2, 3, 4, 27, 28, 29, 30, 31, 32, 33, 34, 35, 36, 37, 38, 39, 40, 41, 42, 43, 44, 45, 46, 47, 48] (by decide +kernel) (by decide +kernel)
set_option maxRecDepth 20000 in
theorem gX6_addMethod_X6_own : GoodIn wsX6_addMethod (wsV RX6 88 RX6 yX6_own wsX6_own) := goodIn_app (goodIn_of _ (by decide +kernel)) ggX6_addMethod_X6_own
theorem dX6_addMethod_0 : decode cX6_addMethod 0 = .ok (.aload_n 0, 1) := by decide +kernel
theorem dX6_addMethod_1 : decode cX6_addMethod 1 = .ok (.iconst 0, 1) := by decide +kernel
theorem dX6_addMethod_2 : decode cX6_addMethod 2 = .ok (.putfield 66, 3) := by decide +kernel
theorem dX6_addMethod_5 : decode cX6_addMethod 5 = .ok (.aload_n 0, 1) := by decide +kernel
theorem dX6_addMethod_6 : decode cX6_addMethod 6 = .ok (.iload_n 1, 1) := by decide +kernel
theorem dX6_addMethod_7 : decode cX6_addMethod 7 = .ok (.invokevirtual 76, 3) := by decide +kernel
theorem dX6_addMethod_10 : decode cX6_addMethod 10 = .ok (.ifCond .eq 10, 3) := by decide +kernel
theorem dX6_addMethod_13 : decode cX6_addMethod 13 = .ok (.iload_n 2, 1) := by decide +kernel
theorem dX6_addMethod_14 : decode cX6_addMethod 14 = .ok (.invokestatic 92, 3) := by decide +kernel
theorem dX6_addMethod_17 : decode cX6_addMethod 17 = .ok (.ifCond .ne 9, 3) := by decide +kernel
theorem dX6_addMethod_20 : decode cX6_addMethod 20 = .ok (.aload_n 0, 1) := by decide +kernel
theorem dX6_addMethod_21 : decode cX6_addMethod 21 = .ok (.iconst 1, 1) := by decide +kernel
theorem dX6_addMethod_22 : decode cX6_addMethod 22 = .ok (.invokevirtual 80, 3) := by decide +kernel
theorem dX6_addMethod_25 : decode cX6_addMethod 25 = .ok (.ireturn, 1) := by decide +kernel
theorem dX6_addMethod_26 : decode cX6_addMethod 26 = .ok (.iload_n 3, 1) := by decide +kernel
theorem dX6_addMethod_27 : decode cX6_addMethod 27 = .ok (.iconst 1, 1) := by decide +kernel
theorem dX6_addMethod_28 : decode cX6_addMethod 28 = .ok (.bipush 100, 2) := by decide +kernel
theorem dX6_addMethod_30 : decode cX6_addMethod 30 = .ok (.invokestatic 69, 3) := by decide +kernel
theorem dX6_addMethod_33 : decode cX6_addMethod 33 = .ok (.ifCond .eq 13, 3) := by decide +kernel
theorem dX6_addMethod_36 : decode cX6_addMethod 36 = .ok (.aload_n 0, 1) := by decide +kernel
theorem dX6_addMethod_37 : decode cX6_addMethod 37 = .ok (.iload_n 1, 1) := by decide +kernel
theorem dX6_addMethod_38 : decode cX6_addMethod 38 = .ok (.iload_n 2, 1) := by decide +kernel
theorem dX6_addMethod_39 : decode cX6_addMethod 39 = .ok (.invokevirtual 88, 3) := by decide +kernel
theorem dX6_addMethod_42 : decode cX6_addMethod 42 = .ok (.iconst (-1), 1) := by decide +kernel
theorem dX6_addMethod_43 : decode cX6_addMethod 43 = .ok (.if_icmp .eq 9, 3) := by decide +kernel
theorem dX6_addMethod_46 : decode cX6_addMethod 46 = .ok (.aload_n 0, 1) := by decide +kernel
theorem dX6_addMethod_47 : decode cX6_addMethod 47 = .ok (.iconst 2, 1) := by decide +kernel
theorem dX6_addMethod_48 : decode cX6_addMethod 48 = .ok (.invokevirtual 80, 3) := by decide +kernel
theorem dX6_addMethod_51 : decode cX6_addMethod 51 = .ok (.ireturn, 1) := by decide +kernel
theorem dX6_addMethod_52 : decode cX6_addMethod 52 = .ok (.aload_n 0, 1) := by decide +kernel
theorem dX6_addMethod_53 : decode cX6_addMethod 53 = .ok (.getfield 73, 3) := by decide +kernel
theorem dX6_addMethod_56 : decode cX6_addMethod 56 = .ok (.bipush 30, 2) := by decide +kernel
theorem dX6_addMethod_58 : decode cX6_addMethod 58 = .ok (.if_icmp .ne 9, 3) := by decide +kernel
theorem dX6_addMethod_61 : decode cX6_addMethod 61 = .ok (.aload_n 0, 1) := by decide +kernel
theorem dX6_addMethod_62 : decode cX6_addMethod 62 = .ok (.iconst 3, 1) := by decide +kernel
theorem dX6_addMethod_63 : decode cX6_addMethod 63 = .ok (.invokevirtual 80, 3) := by decide +kernel
theorem dX6_addMethod_66 : decode cX6_addMethod 66 = .ok (.ireturn, 1) := by decide +kernel
theorem dX6_addMethod_67 : decode cX6_addMethod 67 = .ok (.aload_n 0, 1) := by decide +kernel
theorem dX6_addMethod_68 : decode cX6_addMethod 68 = .ok (.getfield 21, 3) := by decide +kernel
theorem dX6_addMethod_71 : decode cX6_addMethod 71 = .ok (.aload_n 0, 1) := by decide +kernel
theorem dX6_addMethod_72 : decode cX6_addMethod 72 = .ok (.getfield 73, 3) := by decide +kernel
theorem dX6_addMethod_75 : decode cX6_addMethod 75 = .ok (.iload_n 1, 1) := by decide +kernel
theorem dX6_addMethod_76 : decode cX6_addMethod 76 = .ok (.iastore, 1) := by decide +kernel
theorem dX6_addMethod_77 : decode cX6_addMethod 77 = .ok (.aload_n 0, 1) := by decide +kernel
theorem dX6_addMethod_78 : decode cX6_addMethod 78 = .ok (.getfield 24, 3) := by decide +kernel
theorem dX6_addMethod_81 : decode cX6_addMethod 81 = .ok (.aload_n 0, 1) := by decide +kernel
theorem dX6_addMethod_82 : decode cX6_addMethod 82 = .ok (.getfield 73, 3) := by decide +kernel
theorem dX6_addMethod_85 : decode cX6_addMethod 85 = .ok (.iload_n 2, 1) := by decide +kernel
theorem dX6_addMethod_86 : decode cX6_addMethod 86 = .ok (.iastore, 1) := by decide +kernel
theorem dX6_addMethod_87 : decode cX6_addMethod 87 = .ok (.aload_n 0, 1) := by decide +kernel
theorem dX6_addMethod_88 : decode cX6_addMethod 88 = .ok (.getfield 27, 3) := by decide +kernel
theorem dX6_addMethod_91 : decode cX6_addMethod 91 = .ok (.aload_n 0, 1) := by decide +kernel
theorem dX6_addMethod_92 : decode cX6_addMethod 92 = .ok (.getfield 73, 3) := by decide +kernel
theorem dX6_addMethod_95 : decode cX6_addMethod 95 = .ok (.iload_n 3, 1) := by decide +kernel
theorem dX6_addMethod_96 : decode cX6_addMethod 96 = .ok (.iastore, 1) := by decide +kernel
theorem dX6_addMethod_97 : decode cX6_addMethod 97 = .ok (.aload_n 0, 1) := by decide +kernel
theorem dX6_addMethod_98 : decode cX6_addMethod 98 = .ok (.getfield 30, 3) := by decide +kernel
theorem dX6_addMethod_101 : decode cX6_addMethod 101 = .ok (.aload_n 0, 1) := by decide +kernel
theorem dX6_addMethod_102 : decode cX6_addMethod 102 = .ok (.getfield 73, 3) := by decide +kernel
theorem dX6_addMethod_105 : decode cX6_addMethod 105 = .ok (.iconst 0, 1) := by decide +kernel
theorem dX6_addMethod_106 : decode cX6_addMethod 106 = .ok (.iastore, 1) := by decide +kernel
theorem dX6_addMethod_107 : decode cX6_addMethod 107 = .ok (.aload_n 0, 1) := by decide +kernel
theorem dX6_addMethod_108 : decode cX6_addMethod 108 = .ok (.dup, 1) := by decide +kernel
theorem dX6_addMethod_109 : decode cX6_addMethod 109 = .ok (.getfield 73, 3) := by decide +kernel
theorem dX6_addMethod_112 : decode cX6_addMethod 112 = .ok (.iconst 1, 1) := by decide +kernel
theorem dX6_addMethod_113 : decode cX6_addMethod 113 = .ok (.iadd, 1) := by decide +kernel
theorem dX6_addMethod_114 : decode cX6_addMethod 114 = .ok (.putfield 73, 3) := by decide +kernel
theorem dX6_addMethod_117 : decode cX6_addMethod 117 = .ok (.aload_n 0, 1) := by decide +kernel
theorem dX6_addMethod_118 : decode cX6_addMethod 118 = .ok (.getfield 73, 3) := by decide +kernel
theorem dX6_addMethod_121 : decode cX6_addMethod 121 = .ok (.iconst 1, 1) := by decide +kernel
theorem dX6_addMethod_122 : decode cX6_addMethod 122 = .ok (.isub, 1) := by decide +kernel
theorem dX6_addMethod_123 : decode cX6_addMethod 123 = .ok (.ireturn, 1) := by decide +kernel
theorem dX6_call_0 : decode cX6_call 0 = .ok (.aload_n 0, 1) := by decide +kernel
theorem dX6_call_1 : decode cX6_call 1 = .ok (.getfield 33, 3) := by decide +kernel
theorem dX6_call_4 : decode cX6_call 4 = .ok (.iconst 3, 1) := by decide +kernel
theorem dX6_call_5 : decode cX6_call 5 = .ok (.bipush 8, 2) := by decide +kernel
theorem dX6_call_7 : decode cX6_call 7 = .ok (.iload_n 1, 1) := by decide +kernel
theorem dX6_call_8 : decode cX6_call 8 = .ok (.imul, 1) := by decide +kernel
theorem dX6_call_9 : decode cX6_call 9 = .ok (.iload_n 2, 1) := by decide +kernel
theorem dX6_call_10 : decode cX6_call 10 = .ok (.iadd, 1) := by decide +kernel
theorem dX6_call_11 : decode cX6_call 11 = .ok (.imul, 1) := by decide +kernel
theorem dX6_call_12 : decode cX6_call 12 = .ok (.iload_n 3, 1) := by decide +kernel
theorem dX6_call_13 : decode cX6_call 13 = .ok (.iadd, 1) := by decide +kernel
theorem dX6_call_14 : decode cX6_call 14 = .ok (.iaload, 1) := by decide +kernel
theorem dX6_call_15 : decode cX6_call 15 = .ok (.ireturn, 1) := by decide +kernel
set_option maxRecDepth 20000 in
theorem ggX6_addCall_X6_isMethod : GoodIn wsX6_addCall wsX6_isMethod := goodIn_r _ [9, 10, 11, 12, 8, 13, 26, 27, 28, 29, 30, 31, 32, 33, 34, 35, 36, 37, 38, 39, 40, 41, 42, 43, 44, 45, 46, 47] (by decide +kernel) (by decide +kernel)
set_option maxRecDepth 20000 in
theorem gX6_addCall_X6_isMethod : GoodIn wsX6_addCall (wsV RX6 95 RX6 yX6_isMethod wsX6_isMethod) := goodIn_app (goodIn_of _ (by decide +kernel)) ggX6_addCall_X6_isMethod
set_option maxRecDepth 20000 in
theorem ggX6_addCall_X6_isClass : GoodIn wsX6_addCall wsX6_isClass := goodIn_r _ [17, 18, 11, 12, 8, 13, 26, 27, 28, 29, 30, 31, 32, 33, 34, 35, 36, 37, 38, 39, 40, 41, 42, 43, 44, 45, 46, 47] (by decide +kernel) (by decide +kernel)
set_option maxRecDepth 20000 in
theorem gX6_addCall_X6_isClass : GoodIn wsX6_addCall (wsV RX6 76 RX6 yX6_isClass wsX6_isClass) := goodIn_app (goodIn_of _ (by decide +kernel)) ggX6_addCall_X6_isClass
set_option maxRecDepth 20000 in
theorem ggX6_addCall_X6_isSelector : GoodIn wsX6_addCall wsX6_isSelector := goodIn_r _ [21, 11, 12, 8, 13] (by decide +kernel) (by decide +kernel)
set_option maxRecDepth 20000 in
theorem gX6_addCall_X6_isSelector : GoodIn wsX6_addCall (va_wsS RX6 92 yX6_isSelector wsX6_isSelector) := goodIn_app (goodIn_of _ (by decide +kernel)) ggX6_addCall_X6_isSelector
set_option maxRecDepth 20000 in
theorem ggX6_addCall_X6_no : GoodIn wsX6_addCall wsX6_no := goodIn_r _ [25, 1, 26, 27, 28, 29, 30, 31, 32, 33, 34, 35, 36, 37, 38, 39, 40, 41, 42, 43, 44, 45, 46, 47] (by decide +kernel) (by decide +kernel)
set_option maxRecDepth 20000 in
theorem gX6_addCall_X6_no : GoodIn wsX6_addCall (wsV RX6 80 RX6 yX6_no wsX6_no) := goodIn_app (goodIn_of _ (by decide +kernel)) ggX6_addCall_X6_no
set_option maxRecDepth 20000 in
theorem ggX6_addCall_X6_isIn : GoodIn wsX6_addCall wsX6_isIn := goodIn_r _ [13] (by decide +kernel) (by decide +kernel)
set_option maxRecDepth 20000 in
theorem gX6_addCall_X6_isIn : GoodIn wsX6_addCall (va_wsS RX6 69 yX6_isIn wsX6_isIn) := goodIn_app (goodIn_of _ (by decide +kernel)) ggX6_addCall_X6_isIn
theorem dX6_addCall_0 : decode cX6_addCall 0 = .ok (.aload_n 0, 1) := by decide +kernel
theorem dX6_addCall_1 : decode cX6_addCall 1 = .ok (.iconst 0, 1) := by decide +kernel
theorem dX6_addCall_2 : decode cX6_addCall 2 = .ok (.putfield 66, 3) := by decide +kernel
theorem dX6_addCall_5 : decode cX6_addCall 5 = .ok (.aload_n 0, 1) := by decide +kernel
theorem dX6_addCall_6 : decode cX6_addCall 6 = .ok (.iload_n 1, 1) := by decide +kernel
theorem dX6_addCall_7 : decode cX6_addCall 7 = .ok (.invokevirtual 95, 3) := by decide +kernel
theorem dX6_addCall_10 : decode cX6_addCall 10 = .ok (.ifCond .eq 18, 3) := by decide +kernel
theorem dX6_addCall_13 : decode cX6_addCall 13 = .ok (.aload_n 0, 1) := by decide +kernel
theorem dX6_addCall_14 : decode cX6_addCall 14 = .ok (.iload_n 2, 1) := by decide +kernel
theorem dX6_addCall_15 : decode cX6_addCall 15 = .ok (.invokevirtual 76, 3) := by decide +kernel
theorem dX6_addCall_18 : decode cX6_addCall 18 = .ok (.ifCond .eq 10, 3) := by decide +kernel
theorem dX6_addCall_21 : decode cX6_addCall 21 = .ok (.iload_n 3, 1) := by decide +kernel
theorem dX6_addCall_22 : decode cX6_addCall 22 = .ok (.invokestatic 92, 3) := by decide +kernel
theorem dX6_addCall_25 : decode cX6_addCall 25 = .ok (.ifCond .ne 9, 3) := by decide +kernel
theorem dX6_addCall_28 : decode cX6_addCall 28 = .ok (.aload_n 0, 1) := by decide +kernel
theorem dX6_addCall_29 : decode cX6_addCall 29 = .ok (.iconst 1, 1) := by decide +kernel
theorem dX6_addCall_30 : decode cX6_addCall 30 = .ok (.invokevirtual 80, 3) := by decide +kernel
theorem dX6_addCall_33 : decode cX6_addCall 33 = .ok (.ireturn, 1) := by decide +kernel
theorem dX6_addCall_34 : decode cX6_addCall 34 = .ok (.iload 4, 2) := by decide +kernel
theorem dX6_addCall_36 : decode cX6_addCall 36 = .ok (.iconst 1, 1) := by decide +kernel
theorem dX6_addCall_37 : decode cX6_addCall 37 = .ok (.bipush 20, 2) := by decide +kernel
theorem dX6_addCall_39 : decode cX6_addCall 39 = .ok (.invokestatic 69, 3) := by decide +kernel
theorem dX6_addCall_42 : decode cX6_addCall 42 = .ok (.ifCond .ne 9, 3) := by decide +kernel
theorem dX6_addCall_45 : decode cX6_addCall 45 = .ok (.aload_n 0, 1) := by decide +kernel
theorem dX6_addCall_46 : decode cX6_addCall 46 = .ok (.iconst 2, 1) := by decide +kernel
theorem dX6_addCall_47 : decode cX6_addCall 47 = .ok (.invokevirtual 80, 3) := by decide +kernel
theorem dX6_addCall_50 : decode cX6_addCall 50 = .ok (.ireturn, 1) := by decide +kernel
theorem dX6_addCall_51 : decode cX6_addCall 51 = .ok (.aload_n 0, 1) := by decide +kernel
theorem dX6_addCall_52 : decode cX6_addCall 52 = .ok (.getfield 30, 3) := by decide +kernel
theorem dX6_addCall_55 : decode cX6_addCall 55 = .ok (.iload_n 1, 1) := by decide +kernel
theorem dX6_addCall_56 : decode cX6_addCall 56 = .ok (.iaload, 1) := by decide +kernel
theorem dX6_addCall_57 : decode cX6_addCall 57 = .ok (.bipush 8, 2) := by decide +kernel
theorem dX6_addCall_59 : decode cX6_addCall 59 = .ok (.if_icmp .ne 9, 3) := by decide +kernel
theorem dX6_addCall_62 : decode cX6_addCall 62 = .ok (.aload_n 0, 1) := by decide +kernel
theorem dX6_addCall_63 : decode cX6_addCall 63 = .ok (.iconst 3, 1) := by decide +kernel
theorem dX6_addCall_64 : decode cX6_addCall 64 = .ok (.invokevirtual 80, 3) := by decide +kernel
theorem dX6_addCall_67 : decode cX6_addCall 67 = .ok (.ireturn, 1) := by decide +kernel
theorem dX6_addCall_68 : decode cX6_addCall 68 = .ok (.iconst 3, 1) := by decide +kernel
theorem dX6_addCall_69 : decode cX6_addCall 69 = .ok (.bipush 8, 2) := by decide +kernel
theorem dX6_addCall_71 : decode cX6_addCall 71 = .ok (.iload_n 1, 1) := by decide +kernel
theorem dX6_addCall_72 : decode cX6_addCall 72 = .ok (.imul, 1) := by decide +kernel
theorem dX6_addCall_73 : decode cX6_addCall 73 = .ok (.aload_n 0, 1) := by decide +kernel
theorem dX6_addCall_74 : decode cX6_addCall 74 = .ok (.getfield 30, 3) := by decide +kernel
theorem dX6_addCall_77 : decode cX6_addCall 77 = .ok (.iload_n 1, 1) := by decide +kernel
theorem dX6_addCall_78 : decode cX6_addCall 78 = .ok (.iaload, 1) := by decide +kernel
theorem dX6_addCall_79 : decode cX6_addCall 79 = .ok (.iadd, 1) := by decide +kernel
theorem dX6_addCall_80 : decode cX6_addCall 80 = .ok (.imul, 1) := by decide +kernel
theorem dX6_addCall_81 : decode cX6_addCall 81 = .ok (.istore 5, 2) := by decide +kernel
theorem dX6_addCall_83 : decode cX6_addCall 83 = .ok (.aload_n 0, 1) := by decide +kernel
theorem dX6_addCall_84 : decode cX6_addCall 84 = .ok (.getfield 33, 3) := by decide +kernel
theorem dX6_addCall_87 : decode cX6_addCall 87 = .ok (.iload 5, 2) := by decide +kernel
theorem dX6_addCall_89 : decode cX6_addCall 89 = .ok (.iload_n 2, 1) := by decide +kernel
theorem dX6_addCall_90 : decode cX6_addCall 90 = .ok (.iastore, 1) := by decide +kernel
theorem dX6_addCall_91 : decode cX6_addCall 91 = .ok (.aload_n 0, 1) := by decide +kernel
theorem dX6_addCall_92 : decode cX6_addCall 92 = .ok (.getfield 33, 3) := by decide +kernel
theorem dX6_addCall_95 : decode cX6_addCall 95 = .ok (.iload 5, 2) := by decide +kernel
theorem dX6_addCall_97 : decode cX6_addCall 97 = .ok (.iconst 1, 1) := by decide +kernel
theorem dX6_addCall_98 : decode cX6_addCall 98 = .ok (.iadd, 1) := by decide +kernel
theorem dX6_addCall_99 : decode cX6_addCall 99 = .ok (.iload_n 3, 1) := by decide +kernel
theorem dX6_addCall_100 : decode cX6_addCall 100 = .ok (.iastore, 1) := by decide +kernel
theorem dX6_addCall_101 : decode cX6_addCall 101 = .ok (.aload_n 0, 1) := by decide +kernel
theorem dX6_addCall_102 : decode cX6_addCall 102 = .ok (.getfield 33, 3) := by decide +kernel
theorem dX6_addCall_105 : decode cX6_addCall 105 = .ok (.iload 5, 2) := by decide +kernel
theorem dX6_addCall_107 : decode cX6_addCall 107 = .ok (.iconst 2, 1) := by decide +kernel
theorem dX6_addCall_108 : decode cX6_addCall 108 = .ok (.iadd, 1) := by decide +kernel
theorem dX6_addCall_109 : decode cX6_addCall 109 = .ok (.iload 4, 2) := by decide +kernel
theorem dX6_addCall_111 : decode cX6_addCall 111 = .ok (.iastore, 1) := by decide +kernel
theorem dX6_addCall_112 : decode cX6_addCall 112 = .ok (.aload_n 0, 1) := by decide +kernel
theorem dX6_addCall_113 : decode cX6_addCall 113 = .ok (.getfield 30, 3) := by decide +kernel
theorem dX6_addCall_116 : decode cX6_addCall 116 = .ok (.iload_n 1, 1) := by decide +kernel
theorem dX6_addCall_117 : decode cX6_addCall 117 = .ok (.dup2, 1) := by decide +kernel
theorem dX6_addCall_118 : decode cX6_addCall 118 = .ok (.iaload, 1) := by decide +kernel
theorem dX6_addCall_119 : decode cX6_addCall 119 = .ok (.iconst 1, 1) := by decide +kernel
theorem dX6_addCall_120 : decode cX6_addCall 120 = .ok (.iadd, 1) := by decide +kernel
theorem dX6_addCall_121 : decode cX6_addCall 121 = .ok (.iastore, 1) := by decide +kernel
theorem dX6_addCall_122 : decode cX6_addCall 122 = .ok (.aload_n 0, 1) := by decide +kernel
theorem dX6_addCall_123 : decode cX6_addCall 123 = .ok (.iconst 0, 1) := by decide +kernel
theorem dX6_addCall_124 : decode cX6_addCall 124 = .ok (.putfield 98, 3) := by decide +kernel
theorem dX6_addCall_127 : decode cX6_addCall 127 = .ok (.aload_n 0, 1) := by decide +kernel
theorem dX6_addCall_128 : decode cX6_addCall 128 = .ok (.getfield 30, 3) := by decide +kernel
theorem dX6_addCall_131 : decode cX6_addCall 131 = .ok (.iload_n 1, 1) := by decide +kernel
theorem dX6_addCall_132 : decode cX6_addCall 132 = .ok (.iaload, 1) := by decide +kernel
theorem dX6_addCall_133 : decode cX6_addCall 133 = .ok (.iconst 1, 1) := by decide +kernel
theorem dX6_addCall_134 : decode cX6_addCall 134 = .ok (.isub, 1) := by decide +kernel
theorem dX6_addCall_135 : decode cX6_addCall 135 = .ok (.ireturn, 1) := by decide +kernel
theorem dX6_methodCount_0 : decode cX6_methodCount 0 = .ok (.aload_n 0, 1) := by decide +kernel
theorem dX6_methodCount_1 : decode cX6_methodCount 1 = .ok (.iconst 0, 1) := by decide +kernel
theorem dX6_methodCount_2 : decode cX6_methodCount 2 = .ok (.putfield 66, 3) := by decide +kernel
theorem dX6_methodCount_5 : decode cX6_methodCount 5 = .ok (.aload_n 0, 1) := by decide +kernel
theorem dX6_methodCount_6 : decode cX6_methodCount 6 = .ok (.getfield 73, 3) := by decide +kernel
theorem dX6_methodCount_9 : decode cX6_methodCount 9 = .ok (.ireturn, 1) := by decide +kernel
set_option maxRecDepth 20000 in
theorem ggX6_found_X6_isClass : GoodIn wsX6_found wsX6_isClass := goodIn_r _ [6, 7, 8, 9, 5, 10, 30, 31, 32, 33, 34, 35, 36, 37, 38, 39, 40, 41, 42, 43, 44, 45, 46, 47, 48, 49, 50, 51] (by decide +kernel) (by decide +kernel)
set_option maxRecDepth 20000 in
theorem gX6_found_X6_isClass : GoodIn wsX6_found (wsV RX6 76 RX6 yX6_isClass wsX6_isClass) := goodIn_app (goodIn_of _ (by decide +kernel)) ggX6_found_X6_isClass
set_option maxRecDepth 20000 in
theorem ggX6_found_X6_isSelector : GoodIn wsX6_found wsX6_isSelector := goodIn_r _ [13, 8, 9, 5, 10] (by decide +kernel) (by decide +kernel)
set_option maxRecDepth 20000 in
theorem gX6_found_X6_isSelector : GoodIn wsX6_found (va_wsS RX6 92 yX6_isSelector wsX6_isSelector) := goodIn_app (goodIn_of _ (by decide +kernel)) ggX6_found_X6_isSelector
set_option maxRecDepth 20000 in
theorem ggX6_found_X6_find : GoodIn wsX6_found wsX6_find := goodIn_r _ [17, 18, 19, 20, 21, 5, 22, 23, 24, 25, 30, 31, 32, 33, 34, 35, 36, 37, 38, 39, 40, 41, 42, 43, 44, 45, 46, 47, 48, 49, 50, 51] (by decide +kernel) (by decide +kernel)
set_option maxRecDepth 20000 in
theorem gX6_found_X6_find : GoodIn wsX6_found (wsV RX6 102 RX6 yX6_find wsX6_find) := goodIn_app (goodIn_of _ (by decide +kernel)) ggX6_found_X6_find
set_option maxRecDepth 20000 in
theorem ggX6_found_X6_no : GoodIn wsX6_found wsX6_no := goodIn_r _ [29, 1, 30, 31, 32, 33, 34, 35, 36, 37, 38, 39, 40, 41, 42, 43, 44, 45, 46, 47, 48, 49, 50, 51] (by decide +kernel) (by decide +kernel)
set_option maxRecDepth 20000 in
theorem gX6_found_X6_no : GoodIn wsX6_found (wsV RX6 80 RX6 yX6_no wsX6_no) := goodIn_app (goodIn_of _ (by decide +kernel)) ggX6_found_X6_no
theorem dX6_found_0 : decode cX6_found 0 = .ok (.aload_n 0, 1) := by decide +kernel
theorem dX6_found_1 : decode cX6_found 1 = .ok (.iconst 0, 1) := by decide +kernel
theorem dX6_found_2 : decode cX6_found 2 = .ok (.putfield 66, 3) := by decide +kernel
theorem dX6_found_5 : decode cX6_found 5 = .ok (.aload_n 0, 1) := by decide +kernel
theorem dX6_found_6 : decode cX6_found 6 = .ok (.iload_n 1, 1) := by decide +kernel
theorem dX6_found_7 : decode cX6_found 7 = .ok (.invokevirtual 76, 3) := by decide +kernel
theorem dX6_found_10 : decode cX6_found 10 = .ok (.ifCond .eq 19, 3) := by decide +kernel
theorem dX6_found_13 : decode cX6_found 13 = .ok (.iload_n 2, 1) := by decide +kernel
theorem dX6_found_14 : decode cX6_found 14 = .ok (.invokestatic 92, 3) := by decide +kernel
theorem dX6_found_17 : decode cX6_found 17 = .ok (.ifCond .eq 12, 3) := by decide +kernel
theorem dX6_found_20 : decode cX6_found 20 = .ok (.aload_n 0, 1) := by decide +kernel
theorem dX6_found_21 : decode cX6_found 21 = .ok (.iload_n 1, 1) := by decide +kernel
theorem dX6_found_22 : decode cX6_found 22 = .ok (.iload_n 2, 1) := by decide +kernel
theorem dX6_found_23 : decode cX6_found 23 = .ok (.invokevirtual 102, 3) := by decide +kernel
theorem dX6_found_26 : decode cX6_found 26 = .ok (.goto 8, 3) := by decide +kernel
theorem dX6_found_29 : decode cX6_found 29 = .ok (.aload_n 0, 1) := by decide +kernel
theorem dX6_found_30 : decode cX6_found 30 = .ok (.iconst 1, 1) := by decide +kernel
theorem dX6_found_31 : decode cX6_found 31 = .ok (.invokevirtual 80, 3) := by decide +kernel
theorem dX6_found_34 : decode cX6_found 34 = .ok (.ireturn, 1) := by decide +kernel
set_option maxRecDepth 20000 in
theorem ggX6_targets_X6_below : GoodIn wsX6_targets wsX6_below := goodIn_r _ [7, 8, 20, 21, 22, 23, 24, 25, 26, 27, 28, 29, 30, 31, 32, 33, 34, 35, 36, 37, 38, 39, 40, 41] (by decide +kernel) (by decide +kernel)
set_option maxRecDepth 20000 in
theorem gX6_targets_X6_below : GoodIn wsX6_targets (wsV RX6 84 RX6 yX6_below wsX6_below) := goodIn_app (goodIn_of _ (by decide +kernel)) ggX6_targets_X6_below
set_option maxRecDepth 20000 in
theorem ggX6_targets_X6_find : GoodIn wsX6_targets wsX6_find := goodIn_r _ [12, 8, 13, 14, 15, 6, 16, 17, 18, 19, 20, 21, 22, 23, 24, 25, 26, 27, 28, 29, 30, 31, 32, 33, 34, 35, 36, 37, 38, 39, 40, 41] (by decide +kernel) (by decide +kernel)
set_option maxRecDepth 20000 in
theorem gX6_targets_X6_find : GoodIn wsX6_targets (wsV RX6 102 RX6 yX6_find wsX6_find) := goodIn_app (goodIn_of _ (by decide +kernel)) ggX6_targets_X6_find
theorem dX6_targets_0 : decode cX6_targets 0 = .ok (.iconst 0, 1) := by decide +kernel
theorem dX6_targets_1 : decode cX6_targets 1 = .ok (.istore_n 3, 1) := by decide +kernel
theorem dX6_targets_2 : decode cX6_targets 2 = .ok (.iconst 0, 1) := by decide +kernel
theorem dX6_targets_3 : decode cX6_targets 3 = .ok (.istore 4, 2) := by decide +kernel
theorem dX6_targets_5 : decode cX6_targets 5 = .ok (.iload 4, 2) := by decide +kernel
theorem dX6_targets_7 : decode cX6_targets 7 = .ok (.aload_n 0, 1) := by decide +kernel
theorem dX6_targets_8 : decode cX6_targets 8 = .ok (.getfield 7, 3) := by decide +kernel
theorem dX6_targets_11 : decode cX6_targets 11 = .ok (.if_icmp .ge 54, 3) := by decide +kernel
theorem dX6_targets_14 : decode cX6_targets 14 = .ok (.aload_n 0, 1) := by decide +kernel
theorem dX6_targets_15 : decode cX6_targets 15 = .ok (.getfield 17, 3) := by decide +kernel
theorem dX6_targets_18 : decode cX6_targets 18 = .ok (.iload 4, 2) := by decide +kernel
theorem dX6_targets_20 : decode cX6_targets 20 = .ok (.baload, 1) := by decide +kernel
theorem dX6_targets_21 : decode cX6_targets 21 = .ok (.ifCond .eq 38, 3) := by decide +kernel
theorem dX6_targets_24 : decode cX6_targets 24 = .ok (.aload_n 0, 1) := by decide +kernel
theorem dX6_targets_25 : decode cX6_targets 25 = .ok (.iload 4, 2) := by decide +kernel
theorem dX6_targets_27 : decode cX6_targets 27 = .ok (.iload_n 1, 1) := by decide +kernel
theorem dX6_targets_28 : decode cX6_targets 28 = .ok (.invokevirtual 84, 3) := by decide +kernel
theorem dX6_targets_31 : decode cX6_targets 31 = .ok (.ifCond .ne 6, 3) := by decide +kernel
theorem dX6_targets_34 : decode cX6_targets 34 = .ok (.goto 25, 3) := by decide +kernel
theorem dX6_targets_37 : decode cX6_targets 37 = .ok (.aload_n 0, 1) := by decide +kernel
theorem dX6_targets_38 : decode cX6_targets 38 = .ok (.iload 4, 2) := by decide +kernel
theorem dX6_targets_40 : decode cX6_targets 40 = .ok (.iload_n 2, 1) := by decide +kernel
theorem dX6_targets_41 : decode cX6_targets 41 = .ok (.invokevirtual 102, 3) := by decide +kernel
theorem dX6_targets_44 : decode cX6_targets 44 = .ok (.istore 5, 2) := by decide +kernel
theorem dX6_targets_46 : decode cX6_targets 46 = .ok (.iload 5, 2) := by decide +kernel
theorem dX6_targets_48 : decode cX6_targets 48 = .ok (.iconst (-1), 1) := by decide +kernel
theorem dX6_targets_49 : decode cX6_targets 49 = .ok (.if_icmp .eq 10, 3) := by decide +kernel
theorem dX6_targets_52 : decode cX6_targets 52 = .ok (.iload_n 3, 1) := by decide +kernel
theorem dX6_targets_53 : decode cX6_targets 53 = .ok (.iconst 1, 1) := by decide +kernel
theorem dX6_targets_54 : decode cX6_targets 54 = .ok (.iload 5, 2) := by decide +kernel
theorem dX6_targets_56 : decode cX6_targets 56 = .ok (.ishl, 1) := by decide +kernel
theorem dX6_targets_57 : decode cX6_targets 57 = .ok (.ior, 1) := by decide +kernel
theorem dX6_targets_58 : decode cX6_targets 58 = .ok (.istore_n 3, 1) := by decide +kernel
theorem dX6_targets_59 : decode cX6_targets 59 = .ok (.iinc 4 1, 3) := by decide +kernel
theorem dX6_targets_62 : decode cX6_targets 62 = .ok (.goto (-57), 3) := by decide +kernel
theorem dX6_targets_65 : decode cX6_targets 65 = .ok (.iload_n 3, 1) := by decide +kernel
theorem dX6_targets_66 : decode cX6_targets 66 = .ok (.ireturn, 1) := by decide +kernel
theorem dX6_bits_0 : decode cX6_bits 0 = .ok (.iconst 0, 1) := by decide +kernel
theorem dX6_bits_1 : decode cX6_bits 1 = .ok (.istore_n 1, 1) := by decide +kernel
theorem dX6_bits_2 : decode cX6_bits 2 = .ok (.iconst 0, 1) := by decide +kernel
theorem dX6_bits_3 : decode cX6_bits 3 = .ok (.istore_n 2, 1) := by decide +kernel
theorem dX6_bits_4 : decode cX6_bits 4 = .ok (.iload_n 2, 1) := by decide +kernel
theorem dX6_bits_5 : decode cX6_bits 5 = .ok (.bipush 30, 2) := by decide +kernel
theorem dX6_bits_7 : decode cX6_bits 7 = .ok (.if_icmp .ge 17, 3) := by decide +kernel
theorem dX6_bits_10 : decode cX6_bits 10 = .ok (.iload_n 1, 1) := by decide +kernel
theorem dX6_bits_11 : decode cX6_bits 11 = .ok (.iload_n 0, 1) := by decide +kernel
theorem dX6_bits_12 : decode cX6_bits 12 = .ok (.iload_n 2, 1) := by decide +kernel
theorem dX6_bits_13 : decode cX6_bits 13 = .ok (.ishr, 1) := by decide +kernel
theorem dX6_bits_14 : decode cX6_bits 14 = .ok (.iconst 1, 1) := by decide +kernel
theorem dX6_bits_15 : decode cX6_bits 15 = .ok (.iand, 1) := by decide +kernel
theorem dX6_bits_16 : decode cX6_bits 16 = .ok (.iadd, 1) := by decide +kernel
theorem dX6_bits_17 : decode cX6_bits 17 = .ok (.istore_n 1, 1) := by decide +kernel
theorem dX6_bits_18 : decode cX6_bits 18 = .ok (.iinc 2 1, 3) := by decide +kernel
theorem dX6_bits_21 : decode cX6_bits 21 = .ok (.goto (-17), 3) := by decide +kernel
theorem dX6_bits_24 : decode cX6_bits 24 = .ok (.iload_n 1, 1) := by decide +kernel
theorem dX6_bits_25 : decode cX6_bits 25 = .ok (.ireturn, 1) := by decide +kernel
theorem dX6_member_0 : decode cX6_member 0 = .ok (.iload_n 1, 1) := by decide +kernel
theorem dX6_member_1 : decode cX6_member 1 = .ok (.istore_n 2, 1) := by decide +kernel
theorem dX6_member_2 : decode cX6_member 2 = .ok (.iconst 0, 1) := by decide +kernel
theorem dX6_member_3 : decode cX6_member 3 = .ok (.istore_n 3, 1) := by decide +kernel
theorem dX6_member_4 : decode cX6_member 4 = .ok (.iload_n 3, 1) := by decide +kernel
theorem dX6_member_5 : decode cX6_member 5 = .ok (.bipush 30, 2) := by decide +kernel
theorem dX6_member_7 : decode cX6_member 7 = .ok (.if_icmp .ge 29, 3) := by decide +kernel
theorem dX6_member_10 : decode cX6_member 10 = .ok (.iload_n 0, 1) := by decide +kernel
theorem dX6_member_11 : decode cX6_member 11 = .ok (.iload_n 3, 1) := by decide +kernel
theorem dX6_member_12 : decode cX6_member 12 = .ok (.ishr, 1) := by decide +kernel
theorem dX6_member_13 : decode cX6_member 13 = .ok (.iconst 1, 1) := by decide +kernel
theorem dX6_member_14 : decode cX6_member 14 = .ok (.iand, 1) := by decide +kernel
theorem dX6_member_15 : decode cX6_member 15 = .ok (.ifCond .ne 6, 3) := by decide +kernel
theorem dX6_member_18 : decode cX6_member 18 = .ok (.goto 12, 3) := by decide +kernel
theorem dX6_member_21 : decode cX6_member 21 = .ok (.iload_n 2, 1) := by decide +kernel
theorem dX6_member_22 : decode cX6_member 22 = .ok (.ifCond .ne 5, 3) := by decide +kernel
theorem dX6_member_25 : decode cX6_member 25 = .ok (.iload_n 3, 1) := by decide +kernel
theorem dX6_member_26 : decode cX6_member 26 = .ok (.ireturn, 1) := by decide +kernel
theorem dX6_member_27 : decode cX6_member 27 = .ok (.iinc 2 (-1), 3) := by decide +kernel
theorem dX6_member_30 : decode cX6_member 30 = .ok (.iinc 3 1, 3) := by decide +kernel
theorem dX6_member_33 : decode cX6_member 33 = .ok (.goto (-29), 3) := by decide +kernel
theorem dX6_member_36 : decode cX6_member 36 = .ok (.iconst (-1), 1) := by decide +kernel
theorem dX6_member_37 : decode cX6_member 37 = .ok (.ireturn, 1) := by decide +kernel
set_option maxRecDepth 20000 in
theorem ggX6_targetCount_X6_isClass : GoodIn wsX6_targetCount wsX6_isClass := goodIn_r _ [6, 7, 8, 9, 5, 10, 42, 43, 44, 45, 46, 47, 48, 49, 50, 51, 52, 53, 54, 55, 56, 57, 58, 59, 60, 61, 62, 63] (by decide +kernel) (by decide +kernel)
set_option maxRecDepth 20000 in
theorem gX6_targetCount_X6_isClass : GoodIn wsX6_targetCount (wsV RX6 76 RX6 yX6_isClass wsX6_isClass) := goodIn_app (goodIn_of _ (by decide +kernel)) ggX6_targetCount_X6_isClass
set_option maxRecDepth 20000 in
theorem ggX6_targetCount_X6_isSelector : GoodIn wsX6_targetCount wsX6_isSelector := goodIn_r _ [13, 8, 9, 5, 10] (by decide +kernel) (by decide +kernel)
set_option maxRecDepth 20000 in
theorem gX6_targetCount_X6_isSelector : GoodIn wsX6_targetCount (va_wsS RX6 92 yX6_isSelector wsX6_isSelector) := goodIn_app (goodIn_of _ (by decide +kernel)) ggX6_targetCount_X6_isSelector
set_option maxRecDepth 20000 in
theorem ggX6_targetCount_X6_targets : GoodIn wsX6_targetCount wsX6_targets := goodIn_r _ [17, 7, 18, 19, 20, 21, 5, 22, 23, 24, 25, 26, 27, 28, 29, 30, 31, 32, 33, 34, 42, 43, 44, 45, 46, 47, 48, 49, 50, 51, 52, 53, 54, 55, 56, 57, 58, 59, 60, 61, 62, 63] (by decide +kernel) (by decide +kernel)
set_option maxRecDepth 20000 in
theorem gX6_targetCount_X6_targets : GoodIn wsX6_targetCount (wsV RX6 105 RX6 yX6_targets wsX6_targets) := goodIn_app (goodIn_of _ (by decide +kernel)) ggX6_targetCount_X6_targets
set_option maxRecDepth 20000 in
theorem ggX6_targetCount_X6_bits : GoodIn wsX6_targetCount wsX6_bits := goodIn_r _ [37] (by decide +kernel) (by decide +kernel)
set_option maxRecDepth 20000 in
theorem gX6_targetCount_X6_bits : GoodIn wsX6_targetCount (va_wsS RX6 108 yX6_bits wsX6_bits) := goodIn_app (goodIn_of _ (by decide +kernel)) ggX6_targetCount_X6_bits
set_option maxRecDepth 20000 in
theorem ggX6_targetCount_X6_no : GoodIn wsX6_targetCount wsX6_no := goodIn_r _ [41, 1, 42, 43, 44, 45, 46, 47, 48, 49, 50, 51, 52, 53, 54, 55, 56, 57, 58, 59, 60, 61, 62, 63] (by decide +kernel) (by decide +kernel)
set_option maxRecDepth 20000 in
theorem gX6_targetCount_X6_no : GoodIn wsX6_targetCount (wsV RX6 80 RX6 yX6_no wsX6_no) := goodIn_app (goodIn_of _ (by decide +kernel)) ggX6_targetCount_X6_no
theorem dX6_targetCount_0 : decode cX6_targetCount 0 = .ok (.aload_n 0, 1) := by decide +kernel
theorem dX6_targetCount_1 : decode cX6_targetCount 1 = .ok (.iconst 0, 1) := by decide +kernel
theorem dX6_targetCount_2 : decode cX6_targetCount 2 = .ok (.putfield 66, 3) := by decide +kernel
theorem dX6_targetCount_5 : decode cX6_targetCount 5 = .ok (.aload_n 0, 1) := by decide +kernel
theorem dX6_targetCount_6 : decode cX6_targetCount 6 = .ok (.iload_n 1, 1) := by decide +kernel
theorem dX6_targetCount_7 : decode cX6_targetCount 7 = .ok (.invokevirtual 76, 3) := by decide +kernel
theorem dX6_targetCount_10 : decode cX6_targetCount 10 = .ok (.ifCond .eq 22, 3) := by decide +kernel
theorem dX6_targetCount_13 : decode cX6_targetCount 13 = .ok (.iload_n 2, 1) := by decide +kernel
theorem dX6_targetCount_14 : decode cX6_targetCount 14 = .ok (.invokestatic 92, 3) := by decide +kernel
theorem dX6_targetCount_17 : decode cX6_targetCount 17 = .ok (.ifCond .eq 15, 3) := by decide +kernel
theorem dX6_targetCount_20 : decode cX6_targetCount 20 = .ok (.aload_n 0, 1) := by decide +kernel
theorem dX6_targetCount_21 : decode cX6_targetCount 21 = .ok (.iload_n 1, 1) := by decide +kernel
theorem dX6_targetCount_22 : decode cX6_targetCount 22 = .ok (.iload_n 2, 1) := by decide +kernel
theorem dX6_targetCount_23 : decode cX6_targetCount 23 = .ok (.invokevirtual 105, 3) := by decide +kernel
theorem dX6_targetCount_26 : decode cX6_targetCount 26 = .ok (.invokestatic 108, 3) := by decide +kernel
theorem dX6_targetCount_29 : decode cX6_targetCount 29 = .ok (.goto 8, 3) := by decide +kernel
theorem dX6_targetCount_32 : decode cX6_targetCount 32 = .ok (.aload_n 0, 1) := by decide +kernel
theorem dX6_targetCount_33 : decode cX6_targetCount 33 = .ok (.iconst 1, 1) := by decide +kernel
theorem dX6_targetCount_34 : decode cX6_targetCount 34 = .ok (.invokevirtual 80, 3) := by decide +kernel
theorem dX6_targetCount_37 : decode cX6_targetCount 37 = .ok (.ireturn, 1) := by decide +kernel
set_option maxRecDepth 20000 in
theorem ggX6_target_X6_isClass : GoodIn wsX6_target wsX6_isClass := goodIn_r _ [6, 7, 8, 9, 5, 10, 42, 43, 44, 45, 46, 47, 48, 49, 50, 51, 52, 53, 54, 55, 56, 57, 58, 59, 60, 61, 62, 63] (by decide +kernel) (by decide +kernel)
set_option maxRecDepth 20000 in
theorem gX6_target_X6_isClass : GoodIn wsX6_target (wsV RX6 76 RX6 yX6_isClass wsX6_isClass) := goodIn_app (goodIn_of _ (by decide +kernel)) ggX6_target_X6_isClass
set_option maxRecDepth 20000 in
theorem ggX6_target_X6_isSelector : GoodIn wsX6_target wsX6_isSelector := goodIn_r _ [13, 8, 9, 5, 10] (by decide +kernel) (by decide +kernel)
set_option maxRecDepth 20000 in
theorem gX6_target_X6_isSelector : GoodIn wsX6_target (va_wsS RX6 92 yX6_isSelector wsX6_isSelector) := goodIn_app (goodIn_of _ (by decide +kernel)) ggX6_target_X6_isSelector
set_option maxRecDepth 20000 in
theorem ggX6_target_X6_no : GoodIn wsX6_target wsX6_no := goodIn_r _ [17, 1, 42, 43, 44, 45, 46, 47, 48, 49, 50, 51, 52, 53, 54, 55, 56, 57, 58, 59, 60, 61, 62, 63] (by decide +kernel) (by decide +kernel)
set_option maxRecDepth 20000 in
theorem gX6_target_X6_no : GoodIn wsX6_target (wsV RX6 80 RX6 yX6_no wsX6_no) := goodIn_app (goodIn_of _ (by decide +kernel)) ggX6_target_X6_no
set_option maxRecDepth 20000 in
theorem ggX6_target_X6_targets : GoodIn wsX6_target wsX6_targets := goodIn_r _ [21, 7, 22, 23, 24, 25, 5, 26, 27, 28, 29, 30, 31, 32, 33, 34, 35, 36, 37, 38, 42, 43, 44, 45, 46, 47, 48, 49, 50, 51, 52, 53, 54, 55, 56, 57, 58, 59, 60, 61, 62, 63] (by decide +kernel) (by decide +kernel)
set_option maxRecDepth 20000 in
theorem gX6_target_X6_targets : GoodIn wsX6_target (wsV RX6 105 RX6 yX6_targets wsX6_targets) := goodIn_app (goodIn_of _ (by decide +kernel)) ggX6_target_X6_targets
set_option maxRecDepth 20000 in
theorem ggX6_target_X6_member : GoodIn wsX6_target wsX6_member := goodIn_r _ [41] (by decide +kernel) (by decide +kernel)
set_option maxRecDepth 20000 in
theorem gX6_target_X6_member : GoodIn wsX6_target (va_wsS RX6 111 yX6_member wsX6_member) := goodIn_app (goodIn_of _ (by decide +kernel)) ggX6_target_X6_member
theorem dX6_target_0 : decode cX6_target 0 = .ok (.aload_n 0, 1) := by decide +kernel
theorem dX6_target_1 : decode cX6_target 1 = .ok (.iconst 0, 1) := by decide +kernel
theorem dX6_target_2 : decode cX6_target 2 = .ok (.putfield 66, 3) := by decide +kernel
theorem dX6_target_5 : decode cX6_target 5 = .ok (.aload_n 0, 1) := by decide +kernel
theorem dX6_target_6 : decode cX6_target 6 = .ok (.iload_n 1, 1) := by decide +kernel
theorem dX6_target_7 : decode cX6_target 7 = .ok (.invokevirtual 76, 3) := by decide +kernel
theorem dX6_target_10 : decode cX6_target 10 = .ok (.ifCond .eq 10, 3) := by decide +kernel
theorem dX6_target_13 : decode cX6_target 13 = .ok (.iload_n 2, 1) := by decide +kernel
theorem dX6_target_14 : decode cX6_target 14 = .ok (.invokestatic 92, 3) := by decide +kernel
theorem dX6_target_17 : decode cX6_target 17 = .ok (.ifCond .ne 9, 3) := by decide +kernel
theorem dX6_target_20 : decode cX6_target 20 = .ok (.aload_n 0, 1) := by decide +kernel
theorem dX6_target_21 : decode cX6_target 21 = .ok (.iconst 1, 1) := by decide +kernel
theorem dX6_target_22 : decode cX6_target 22 = .ok (.invokevirtual 80, 3) := by decide +kernel
theorem dX6_target_25 : decode cX6_target 25 = .ok (.ireturn, 1) := by decide +kernel
theorem dX6_target_26 : decode cX6_target 26 = .ok (.iload_n 3, 1) := by decide +kernel
theorem dX6_target_27 : decode cX6_target 27 = .ok (.ifCond .ge 7, 3) := by decide +kernel
theorem dX6_target_30 : decode cX6_target 30 = .ok (.iconst (-1), 1) := by decide +kernel
theorem dX6_target_31 : decode cX6_target 31 = .ok (.goto 13, 3) := by decide +kernel
theorem dX6_target_34 : decode cX6_target 34 = .ok (.aload_n 0, 1) := by decide +kernel
theorem dX6_target_35 : decode cX6_target 35 = .ok (.iload_n 1, 1) := by decide +kernel
theorem dX6_target_36 : decode cX6_target 36 = .ok (.iload_n 2, 1) := by decide +kernel
theorem dX6_target_37 : decode cX6_target 37 = .ok (.invokevirtual 105, 3) := by decide +kernel
theorem dX6_target_40 : decode cX6_target 40 = .ok (.iload_n 3, 1) := by decide +kernel
theorem dX6_target_41 : decode cX6_target 41 = .ok (.invokestatic 111, 3) := by decide +kernel
theorem dX6_target_44 : decode cX6_target 44 = .ok (.istore 4, 2) := by decide +kernel
theorem dX6_target_46 : decode cX6_target 46 = .ok (.iload 4, 2) := by decide +kernel
theorem dX6_target_48 : decode cX6_target 48 = .ok (.iconst (-1), 1) := by decide +kernel
theorem dX6_target_49 : decode cX6_target 49 = .ok (.if_icmp .ne 11, 3) := by decide +kernel
theorem dX6_target_52 : decode cX6_target 52 = .ok (.aload_n 0, 1) := by decide +kernel
theorem dX6_target_53 : decode cX6_target 53 = .ok (.iconst 2, 1) := by decide +kernel
theorem dX6_target_54 : decode cX6_target 54 = .ok (.invokevirtual 80, 3) := by decide +kernel
theorem dX6_target_57 : decode cX6_target 57 = .ok (.goto 5, 3) := by decide +kernel
theorem dX6_target_60 : decode cX6_target 60 = .ok (.iload 4, 2) := by decide +kernel
theorem dX6_target_62 : decode cX6_target 62 = .ok (.ireturn, 1) := by decide +kernel
set_option maxRecDepth 20000 in
theorem ggX6_reached_X6_isMethod : GoodIn wsX6_reached wsX6_isMethod := goodIn_r _ [8, 2, 9, 10, 7, 11, 42, 43, 44, 45, 46, 47, 48, 49, 50, 51, 52, 53, 54, 55, 56, 57, 58, 59, 60, 61, 62, 63] (by decide +kernel) (by decide +kernel)
set_option maxRecDepth 20000 in
theorem gX6_reached_X6_isMethod : GoodIn wsX6_reached (wsV RX6 95 RX6 yX6_isMethod wsX6_isMethod) := goodIn_app (goodIn_of _ (by decide +kernel)) ggX6_reached_X6_isMethod
set_option maxRecDepth 20000 in
theorem ggX6_reached_X6_no : GoodIn wsX6_reached wsX6_no := goodIn_r _ [15, 1, 42, 43, 44, 45, 46, 47, 48, 49, 50, 51, 52, 53, 54, 55, 56, 57, 58, 59, 60, 61, 62, 63] (by decide +kernel) (by decide +kernel)
set_option maxRecDepth 20000 in
theorem gX6_reached_X6_no : GoodIn wsX6_reached (wsV RX6 80 RX6 yX6_no wsX6_no) := goodIn_app (goodIn_of _ (by decide +kernel)) ggX6_reached_X6_no
set_option maxRecDepth 20000 in
theorem ggX6_reached_X6_call : GoodIn wsX6_reached wsX6_call := goodIn_r _ [19, 20, 42, 43, 44, 45, 46, 47, 48, 49, 50, 51, 52, 53, 54, 55, 56, 57, 58, 59, 60, 61, 62, 63] (by decide +kernel) (by decide +kernel)
set_option maxRecDepth 20000 in
theorem gX6_reached_X6_call : GoodIn wsX6_reached (wsV RX6 114 RX6 yX6_call wsX6_call) := goodIn_app (goodIn_of _ (by decide +kernel)) ggX6_reached_X6_call
set_option maxRecDepth 20000 in
theorem ggX6_reached_X6_targets : GoodIn wsX6_reached wsX6_targets := goodIn_r _ [24, 25, 26, 27, 28, 29, 7, 30, 31, 32, 33, 34, 35, 36, 37, 38, 39, 2, 40, 41, 42, 43, 44, 45, 46, 47, 48, 49, 50, 51, 52, 53, 54, 55, 56, 57, 58, 59, 60, 61, 62, 63] (by decide +kernel) (by decide +kernel)
set_option maxRecDepth 20000 in
theorem gX6_reached_X6_targets : GoodIn wsX6_reached (wsV RX6 105 RX6 yX6_targets wsX6_targets) := goodIn_app (goodIn_of _ (by decide +kernel)) ggX6_reached_X6_targets
theorem dX6_reached_0 : decode cX6_reached 0 = .ok (.aload_n 0, 1) := by decide +kernel
theorem dX6_reached_1 : decode cX6_reached 1 = .ok (.iconst 0, 1) := by decide +kernel
theorem dX6_reached_2 : decode cX6_reached 2 = .ok (.putfield 66, 3) := by decide +kernel
theorem dX6_reached_5 : decode cX6_reached 5 = .ok (.aload_n 0, 1) := by decide +kernel
theorem dX6_reached_6 : decode cX6_reached 6 = .ok (.iload_n 1, 1) := by decide +kernel
theorem dX6_reached_7 : decode cX6_reached 7 = .ok (.invokevirtual 95, 3) := by decide +kernel
theorem dX6_reached_10 : decode cX6_reached 10 = .ok (.ifCond .ne 9, 3) := by decide +kernel
theorem dX6_reached_13 : decode cX6_reached 13 = .ok (.aload_n 0, 1) := by decide +kernel
theorem dX6_reached_14 : decode cX6_reached 14 = .ok (.iconst 1, 1) := by decide +kernel
theorem dX6_reached_15 : decode cX6_reached 15 = .ok (.invokevirtual 80, 3) := by decide +kernel
theorem dX6_reached_18 : decode cX6_reached 18 = .ok (.ireturn, 1) := by decide +kernel
theorem dX6_reached_19 : decode cX6_reached 19 = .ok (.iconst 1, 1) := by decide +kernel
theorem dX6_reached_20 : decode cX6_reached 20 = .ok (.iload_n 1, 1) := by decide +kernel
theorem dX6_reached_21 : decode cX6_reached 21 = .ok (.ishl, 1) := by decide +kernel
theorem dX6_reached_22 : decode cX6_reached 22 = .ok (.istore_n 2, 1) := by decide +kernel
theorem dX6_reached_23 : decode cX6_reached 23 = .ok (.iconst 0, 1) := by decide +kernel
theorem dX6_reached_24 : decode cX6_reached 24 = .ok (.istore_n 3, 1) := by decide +kernel
theorem dX6_reached_25 : decode cX6_reached 25 = .ok (.iload_n 2, 1) := by decide +kernel
theorem dX6_reached_26 : decode cX6_reached 26 = .ok (.iload_n 3, 1) := by decide +kernel
theorem dX6_reached_27 : decode cX6_reached 27 = .ok (.if_icmp .eq 82, 3) := by decide +kernel
theorem dX6_reached_30 : decode cX6_reached 30 = .ok (.iload_n 2, 1) := by decide +kernel
theorem dX6_reached_31 : decode cX6_reached 31 = .ok (.istore_n 3, 1) := by decide +kernel
theorem dX6_reached_32 : decode cX6_reached 32 = .ok (.iconst 0, 1) := by decide +kernel
theorem dX6_reached_33 : decode cX6_reached 33 = .ok (.istore 4, 2) := by decide +kernel
theorem dX6_reached_35 : decode cX6_reached 35 = .ok (.iload 4, 2) := by decide +kernel
theorem dX6_reached_37 : decode cX6_reached 37 = .ok (.aload_n 0, 1) := by decide +kernel
theorem dX6_reached_38 : decode cX6_reached 38 = .ok (.getfield 73, 3) := by decide +kernel
theorem dX6_reached_41 : decode cX6_reached 41 = .ok (.if_icmp .ge 65, 3) := by decide +kernel
theorem dX6_reached_44 : decode cX6_reached 44 = .ok (.iconst 0, 1) := by decide +kernel
theorem dX6_reached_45 : decode cX6_reached 45 = .ok (.istore 5, 2) := by decide +kernel
theorem dX6_reached_47 : decode cX6_reached 47 = .ok (.iload 5, 2) := by decide +kernel
theorem dX6_reached_49 : decode cX6_reached 49 = .ok (.aload_n 0, 1) := by decide +kernel
theorem dX6_reached_50 : decode cX6_reached 50 = .ok (.getfield 30, 3) := by decide +kernel
theorem dX6_reached_53 : decode cX6_reached 53 = .ok (.iload 4, 2) := by decide +kernel
theorem dX6_reached_55 : decode cX6_reached 55 = .ok (.iaload, 1) := by decide +kernel
theorem dX6_reached_56 : decode cX6_reached 56 = .ok (.if_icmp .ge 44, 3) := by decide +kernel
theorem dX6_reached_59 : decode cX6_reached 59 = .ok (.iload_n 2, 1) := by decide +kernel
theorem dX6_reached_60 : decode cX6_reached 60 = .ok (.iload 4, 2) := by decide +kernel
theorem dX6_reached_62 : decode cX6_reached 62 = .ok (.ishr, 1) := by decide +kernel
theorem dX6_reached_63 : decode cX6_reached 63 = .ok (.iconst 1, 1) := by decide +kernel
theorem dX6_reached_64 : decode cX6_reached 64 = .ok (.iand, 1) := by decide +kernel
theorem dX6_reached_65 : decode cX6_reached 65 = .ok (.iconst 1, 1) := by decide +kernel
theorem dX6_reached_66 : decode cX6_reached 66 = .ok (.if_icmp .ne 34, 3) := by decide +kernel
theorem dX6_reached_69 : decode cX6_reached 69 = .ok (.iload_n 2, 1) := by decide +kernel
theorem dX6_reached_70 : decode cX6_reached 70 = .ok (.aload_n 0, 1) := by decide +kernel
theorem dX6_reached_71 : decode cX6_reached 71 = .ok (.aload_n 0, 1) := by decide +kernel
theorem dX6_reached_72 : decode cX6_reached 72 = .ok (.iload 4, 2) := by decide +kernel
theorem dX6_reached_74 : decode cX6_reached 74 = .ok (.iload 5, 2) := by decide +kernel
theorem dX6_reached_76 : decode cX6_reached 76 = .ok (.iconst 0, 1) := by decide +kernel
theorem dX6_reached_77 : decode cX6_reached 77 = .ok (.invokevirtual 114, 3) := by decide +kernel
theorem dX6_reached_80 : decode cX6_reached 80 = .ok (.aload_n 0, 1) := by decide +kernel
theorem dX6_reached_81 : decode cX6_reached 81 = .ok (.iload 4, 2) := by decide +kernel
theorem dX6_reached_83 : decode cX6_reached 83 = .ok (.iload 5, 2) := by decide +kernel
theorem dX6_reached_85 : decode cX6_reached 85 = .ok (.iconst 1, 1) := by decide +kernel
theorem dX6_reached_86 : decode cX6_reached 86 = .ok (.invokevirtual 114, 3) := by decide +kernel
theorem dX6_reached_89 : decode cX6_reached 89 = .ok (.invokevirtual 105, 3) := by decide +kernel
theorem dX6_reached_92 : decode cX6_reached 92 = .ok (.ior, 1) := by decide +kernel
theorem dX6_reached_93 : decode cX6_reached 93 = .ok (.istore_n 2, 1) := by decide +kernel
theorem dX6_reached_94 : decode cX6_reached 94 = .ok (.iinc 5 1, 3) := by decide +kernel
theorem dX6_reached_97 : decode cX6_reached 97 = .ok (.goto (-50), 3) := by decide +kernel
theorem dX6_reached_100 : decode cX6_reached 100 = .ok (.iinc 4 1, 3) := by decide +kernel
theorem dX6_reached_103 : decode cX6_reached 103 = .ok (.goto (-68), 3) := by decide +kernel
theorem dX6_reached_106 : decode cX6_reached 106 = .ok (.goto (-81), 3) := by decide +kernel
theorem dX6_reached_109 : decode cX6_reached 109 = .ok (.iload_n 2, 1) := by decide +kernel
theorem dX6_reached_110 : decode cX6_reached 110 = .ok (.ireturn, 1) := by decide +kernel
set_option maxRecDepth 20000 in
theorem ggX6_setLimits_X6_isIn : GoodIn wsX6_setLimits wsX6_isIn := goodIn_r _ [9] (by decide +kernel) (by decide +kernel)
set_option maxRecDepth 20000 in
theorem gX6_setLimits_X6_isIn : GoodIn wsX6_setLimits (va_wsS RX6 69 yX6_isIn wsX6_isIn) := goodIn_app (goodIn_of _ (by decide +kernel)) ggX6_setLimits_X6_isIn
set_option maxRecDepth 20000 in
theorem ggX6_setLimits_X6_no : GoodIn wsX6_setLimits wsX6_no := goodIn_r _ [13, 1, 14, 15, 16, 17, 18, 19, 20, 21, 22, 23, 24, 25, 26, 27, 28, 29, 30, 31, 32, 33, 34, 35] (by decide +kernel) (by decide +kernel)
set_option maxRecDepth 20000 in
theorem gX6_setLimits_X6_no : GoodIn wsX6_setLimits (wsV RX6 80 RX6 yX6_no wsX6_no) := goodIn_app (goodIn_of _ (by decide +kernel)) ggX6_setLimits_X6_no
theorem dX6_setLimits_0 : decode cX6_setLimits 0 = .ok (.aload_n 0, 1) := by decide +kernel
theorem dX6_setLimits_1 : decode cX6_setLimits 1 = .ok (.iconst 0, 1) := by decide +kernel
theorem dX6_setLimits_2 : decode cX6_setLimits 2 = .ok (.putfield 66, 3) := by decide +kernel
theorem dX6_setLimits_5 : decode cX6_setLimits 5 = .ok (.iload_n 1, 1) := by decide +kernel
theorem dX6_setLimits_6 : decode cX6_setLimits 6 = .ok (.iconst 1, 1) := by decide +kernel
theorem dX6_setLimits_7 : decode cX6_setLimits 7 = .ok (.sipush 5000, 3) := by decide +kernel
theorem dX6_setLimits_10 : decode cX6_setLimits 10 = .ok (.invokestatic 69, 3) := by decide +kernel
theorem dX6_setLimits_13 : decode cX6_setLimits 13 = .ok (.ifCond .eq 22, 3) := by decide +kernel
theorem dX6_setLimits_16 : decode cX6_setLimits 16 = .ok (.iload_n 2, 1) := by decide +kernel
theorem dX6_setLimits_17 : decode cX6_setLimits 17 = .ok (.iconst 0, 1) := by decide +kernel
theorem dX6_setLimits_18 : decode cX6_setLimits 18 = .ok (.bipush 10, 2) := by decide +kernel
theorem dX6_setLimits_20 : decode cX6_setLimits 20 = .ok (.invokestatic 69, 3) := by decide +kernel
theorem dX6_setLimits_23 : decode cX6_setLimits 23 = .ok (.ifCond .eq 12, 3) := by decide +kernel
theorem dX6_setLimits_26 : decode cX6_setLimits 26 = .ok (.iload_n 3, 1) := by decide +kernel
theorem dX6_setLimits_27 : decode cX6_setLimits 27 = .ok (.iconst 0, 1) := by decide +kernel
theorem dX6_setLimits_28 : decode cX6_setLimits 28 = .ok (.iconst 5, 1) := by decide +kernel
theorem dX6_setLimits_29 : decode cX6_setLimits 29 = .ok (.invokestatic 69, 3) := by decide +kernel
theorem dX6_setLimits_32 : decode cX6_setLimits 32 = .ok (.ifCond .ne 17, 3) := by decide +kernel
theorem dX6_setLimits_35 : decode cX6_setLimits 35 = .ok (.aload_n 0, 1) := by decide +kernel
theorem dX6_setLimits_36 : decode cX6_setLimits 36 = .ok (.iconst 1, 1) := by decide +kernel
theorem dX6_setLimits_37 : decode cX6_setLimits 37 = .ok (.invokevirtual 80, 3) := by decide +kernel
theorem dX6_setLimits_40 : decode cX6_setLimits 40 = .ok (.ifCond .le 7, 3) := by decide +kernel
theorem dX6_setLimits_43 : decode cX6_setLimits 43 = .ok (.iconst 1, 1) := by decide +kernel
theorem dX6_setLimits_44 : decode cX6_setLimits 44 = .ok (.goto 4, 3) := by decide +kernel
theorem dX6_setLimits_47 : decode cX6_setLimits 47 = .ok (.iconst 0, 1) := by decide +kernel
theorem dX6_setLimits_48 : decode cX6_setLimits 48 = .ok (.ireturn, 1) := by decide +kernel
theorem dX6_setLimits_49 : decode cX6_setLimits 49 = .ok (.aload_n 0, 1) := by decide +kernel
theorem dX6_setLimits_50 : decode cX6_setLimits 50 = .ok (.getfield 36, 3) := by decide +kernel
theorem dX6_setLimits_53 : decode cX6_setLimits 53 = .ok (.iload_n 1, 1) := by decide +kernel
theorem dX6_setLimits_54 : decode cX6_setLimits 54 = .ok (.if_icmp .ne 19, 3) := by decide +kernel
theorem dX6_setLimits_57 : decode cX6_setLimits 57 = .ok (.aload_n 0, 1) := by decide +kernel
theorem dX6_setLimits_58 : decode cX6_setLimits 58 = .ok (.getfield 39, 3) := by decide +kernel
theorem dX6_setLimits_61 : decode cX6_setLimits 61 = .ok (.iload_n 2, 1) := by decide +kernel
theorem dX6_setLimits_62 : decode cX6_setLimits 62 = .ok (.if_icmp .ne 11, 3) := by decide +kernel
theorem dX6_setLimits_65 : decode cX6_setLimits 65 = .ok (.aload_n 0, 1) := by decide +kernel
theorem dX6_setLimits_66 : decode cX6_setLimits 66 = .ok (.getfield 42, 3) := by decide +kernel
theorem dX6_setLimits_69 : decode cX6_setLimits 69 = .ok (.iload_n 3, 1) := by decide +kernel
theorem dX6_setLimits_70 : decode cX6_setLimits 70 = .ok (.if_icmp .eq 7, 3) := by decide +kernel
theorem dX6_setLimits_73 : decode cX6_setLimits 73 = .ok (.iconst 1, 1) := by decide +kernel
theorem dX6_setLimits_74 : decode cX6_setLimits 74 = .ok (.goto 4, 3) := by decide +kernel
theorem dX6_setLimits_77 : decode cX6_setLimits 77 = .ok (.iconst 0, 1) := by decide +kernel
theorem dX6_setLimits_78 : decode cX6_setLimits 78 = .ok (.istore 4, 2) := by decide +kernel
theorem dX6_setLimits_80 : decode cX6_setLimits 80 = .ok (.aload_n 0, 1) := by decide +kernel
theorem dX6_setLimits_81 : decode cX6_setLimits 81 = .ok (.iload_n 1, 1) := by decide +kernel
theorem dX6_setLimits_82 : decode cX6_setLimits 82 = .ok (.putfield 36, 3) := by decide +kernel
theorem dX6_setLimits_85 : decode cX6_setLimits 85 = .ok (.aload_n 0, 1) := by decide +kernel
theorem dX6_setLimits_86 : decode cX6_setLimits 86 = .ok (.iload_n 2, 1) := by decide +kernel
theorem dX6_setLimits_87 : decode cX6_setLimits 87 = .ok (.putfield 39, 3) := by decide +kernel
theorem dX6_setLimits_90 : decode cX6_setLimits 90 = .ok (.aload_n 0, 1) := by decide +kernel
theorem dX6_setLimits_91 : decode cX6_setLimits 91 = .ok (.iload_n 3, 1) := by decide +kernel
theorem dX6_setLimits_92 : decode cX6_setLimits 92 = .ok (.putfield 42, 3) := by decide +kernel
theorem dX6_setLimits_95 : decode cX6_setLimits 95 = .ok (.aload_n 0, 1) := by decide +kernel
theorem dX6_setLimits_96 : decode cX6_setLimits 96 = .ok (.iconst 0, 1) := by decide +kernel
theorem dX6_setLimits_97 : decode cX6_setLimits 97 = .ok (.putfield 98, 3) := by decide +kernel
theorem dX6_setLimits_100 : decode cX6_setLimits 100 = .ok (.iload 4, 2) := by decide +kernel
theorem dX6_setLimits_102 : decode cX6_setLimits 102 = .ok (.ireturn, 1) := by decide +kernel
set_option maxRecDepth 20000 in
theorem ggX6_targetsOf_X6_call : GoodIn wsX6_targetsOf wsX6_call := goodIn_r _ [6, 7, 30, 31, 32, 33, 34, 35, 36, 37, 38, 39, 40, 41, 42, 43, 44, 45, 46, 47, 48, 49, 50, 51] (by decide +kernel) (by decide +kernel)
set_option maxRecDepth 20000 in
theorem gX6_targetsOf_X6_call : GoodIn wsX6_targetsOf (wsV RX6 114 RX6 yX6_call wsX6_call) := goodIn_app (goodIn_of _ (by decide +kernel)) ggX6_targetsOf_X6_call
set_option maxRecDepth 20000 in
theorem ggX6_targetsOf_X6_targets : GoodIn wsX6_targetsOf wsX6_targets := goodIn_r _ [11, 12, 13, 14, 15, 16, 5, 17, 18, 19, 20, 21, 22, 23, 24, 25, 26, 27, 28, 29, 30, 31, 32, 33, 34, 35, 36, 37, 38, 39, 40, 41, 42, 43, 44, 45, 46, 47, 48, 49, 50, 51] (by decide +kernel) (by decide +kernel)
set_option maxRecDepth 20000 in
theorem gX6_targetsOf_X6_targets : GoodIn wsX6_targetsOf (wsV RX6 105 RX6 yX6_targets wsX6_targets) := goodIn_app (goodIn_of _ (by decide +kernel)) ggX6_targetsOf_X6_targets
theorem dX6_targetsOf_0 : decode cX6_targetsOf 0 = .ok (.aload_n 0, 1) := by decide +kernel
theorem dX6_targetsOf_1 : decode cX6_targetsOf 1 = .ok (.aload_n 0, 1) := by decide +kernel
theorem dX6_targetsOf_2 : decode cX6_targetsOf 2 = .ok (.aload_n 0, 1) := by decide +kernel
theorem dX6_targetsOf_3 : decode cX6_targetsOf 3 = .ok (.getfield 45, 3) := by decide +kernel
theorem dX6_targetsOf_6 : decode cX6_targetsOf 6 = .ok (.iload_n 1, 1) := by decide +kernel
theorem dX6_targetsOf_7 : decode cX6_targetsOf 7 = .ok (.iaload, 1) := by decide +kernel
theorem dX6_targetsOf_8 : decode cX6_targetsOf 8 = .ok (.iload_n 2, 1) := by decide +kernel
theorem dX6_targetsOf_9 : decode cX6_targetsOf 9 = .ok (.iconst 0, 1) := by decide +kernel
theorem dX6_targetsOf_10 : decode cX6_targetsOf 10 = .ok (.invokevirtual 114, 3) := by decide +kernel
theorem dX6_targetsOf_13 : decode cX6_targetsOf 13 = .ok (.aload_n 0, 1) := by decide +kernel
theorem dX6_targetsOf_14 : decode cX6_targetsOf 14 = .ok (.aload_n 0, 1) := by decide +kernel
theorem dX6_targetsOf_15 : decode cX6_targetsOf 15 = .ok (.getfield 45, 3) := by decide +kernel
theorem dX6_targetsOf_18 : decode cX6_targetsOf 18 = .ok (.iload_n 1, 1) := by decide +kernel
theorem dX6_targetsOf_19 : decode cX6_targetsOf 19 = .ok (.iaload, 1) := by decide +kernel
theorem dX6_targetsOf_20 : decode cX6_targetsOf 20 = .ok (.iload_n 2, 1) := by decide +kernel
theorem dX6_targetsOf_21 : decode cX6_targetsOf 21 = .ok (.iconst 1, 1) := by decide +kernel
theorem dX6_targetsOf_22 : decode cX6_targetsOf 22 = .ok (.invokevirtual 114, 3) := by decide +kernel
theorem dX6_targetsOf_25 : decode cX6_targetsOf 25 = .ok (.invokevirtual 105, 3) := by decide +kernel
theorem dX6_targetsOf_28 : decode cX6_targetsOf 28 = .ok (.ireturn, 1) := by decide +kernel
theorem dX6_times_0 : decode cX6_times 0 = .ok (.iconst 0, 1) := by decide +kernel
theorem dX6_times_1 : decode cX6_times 1 = .ok (.istore_n 3, 1) := by decide +kernel
theorem dX6_times_2 : decode cX6_times 2 = .ok (.iload_n 1, 1) := by decide +kernel
theorem dX6_times_3 : decode cX6_times 3 = .ok (.istore 4, 2) := by decide +kernel
theorem dX6_times_5 : decode cX6_times 5 = .ok (.iload 4, 2) := by decide +kernel
theorem dX6_times_7 : decode cX6_times 7 = .ok (.iconst (-1), 1) := by decide +kernel
theorem dX6_times_8 : decode cX6_times 8 = .ok (.if_icmp .eq 34, 3) := by decide +kernel
theorem dX6_times_11 : decode cX6_times 11 = .ok (.iload_n 3, 1) := by decide +kernel
theorem dX6_times_12 : decode cX6_times 12 = .ok (.aload_n 0, 1) := by decide +kernel
theorem dX6_times_13 : decode cX6_times 13 = .ok (.getfield 45, 3) := by decide +kernel
theorem dX6_times_16 : decode cX6_times 16 = .ok (.iload 4, 2) := by decide +kernel
theorem dX6_times_18 : decode cX6_times 18 = .ok (.iaload, 1) := by decide +kernel
theorem dX6_times_19 : decode cX6_times 19 = .ok (.iload_n 2, 1) := by decide +kernel
theorem dX6_times_20 : decode cX6_times 20 = .ok (.if_icmp .ne 7, 3) := by decide +kernel
theorem dX6_times_23 : decode cX6_times 23 = .ok (.iconst 1, 1) := by decide +kernel
theorem dX6_times_24 : decode cX6_times 24 = .ok (.goto 4, 3) := by decide +kernel
theorem dX6_times_27 : decode cX6_times 27 = .ok (.iconst 0, 1) := by decide +kernel
theorem dX6_times_28 : decode cX6_times 28 = .ok (.iadd, 1) := by decide +kernel
theorem dX6_times_29 : decode cX6_times 29 = .ok (.istore_n 3, 1) := by decide +kernel
theorem dX6_times_30 : decode cX6_times 30 = .ok (.aload_n 0, 1) := by decide +kernel
theorem dX6_times_31 : decode cX6_times 31 = .ok (.getfield 48, 3) := by decide +kernel
theorem dX6_times_34 : decode cX6_times 34 = .ok (.iload 4, 2) := by decide +kernel
theorem dX6_times_36 : decode cX6_times 36 = .ok (.iaload, 1) := by decide +kernel
theorem dX6_times_37 : decode cX6_times 37 = .ok (.istore 4, 2) := by decide +kernel
theorem dX6_times_39 : decode cX6_times 39 = .ok (.goto (-34), 3) := by decide +kernel
theorem dX6_times_42 : decode cX6_times 42 = .ok (.iload_n 3, 1) := by decide +kernel
theorem dX6_times_43 : decode cX6_times 43 = .ok (.ireturn, 1) := by decide +kernel
set_option maxRecDepth 20000 in
theorem ggX6_make_X6_targetsOf : GoodIn wsX6_make wsX6_targetsOf := goodIn_r _ [21, 2, 22, 23, 24, 20, 25, 26, 27, 28, 29, 30, 31, 32, 33, 34, 35, 36, 37, 38, 39, 40, 41, 42, 43, 44, 45, 46, 47, 48, 59, 60, 61, 62, 63, 64, 65, 66, 67, 68, 69, 70, 71, 72, 73, 74, 75, 76, 77, 78, 79, 80] (by decide +kernel) (by decide +kernel)
set_option maxRecDepth 20000 in
theorem gX6_make_X6_targetsOf : GoodIn wsX6_make (wsV RX6 121 RX6 yX6_targetsOf wsX6_targetsOf) := goodIn_app (goodIn_of _ (by decide +kernel)) ggX6_make_X6_targetsOf
set_option maxRecDepth 20000 in
theorem ggX6_make_X6_call : GoodIn wsX6_make wsX6_call := goodIn_r _ [25, 26, 59, 60, 61, 62, 63, 64, 65, 66, 67, 68, 69, 70, 71, 72, 73, 74, 75, 76, 77, 78, 79, 80] (by decide +kernel) (by decide +kernel)
set_option maxRecDepth 20000 in
theorem gX6_make_X6_call : GoodIn wsX6_make (wsV RX6 114 RX6 yX6_call wsX6_call) := goodIn_app (goodIn_of _ (by decide +kernel)) ggX6_make_X6_call
set_option maxRecDepth 20000 in
theorem ggX6_make_X6_bits : GoodIn wsX6_make wsX6_bits := goodIn_r _ [51] (by decide +kernel) (by decide +kernel)
set_option maxRecDepth 20000 in
theorem gX6_make_X6_bits : GoodIn wsX6_make (va_wsS RX6 108 yX6_bits wsX6_bits) := goodIn_app (goodIn_of _ (by decide +kernel)) ggX6_make_X6_bits
set_option maxRecDepth 20000 in
theorem ggX6_make_X6_member : GoodIn wsX6_make wsX6_member := goodIn_r _ [54] (by decide +kernel) (by decide +kernel)
set_option maxRecDepth 20000 in
theorem gX6_make_X6_member : GoodIn wsX6_make (va_wsS RX6 111 yX6_member wsX6_member) := goodIn_app (goodIn_of _ (by decide +kernel)) ggX6_make_X6_member
set_option maxRecDepth 20000 in
theorem ggX6_make_X6_times : GoodIn wsX6_make wsX6_times := goodIn_r _ [58, 2, 5, 59, 60, 61, 62, 63, 64, 65, 66, 67, 68, 69, 70, 71, 72, 73, 74, 75, 76, 77, 78, 79, 80] (by decide +kernel) (by decide +kernel)
set_option maxRecDepth 20000 in
theorem gX6_make_X6_times : GoodIn wsX6_make (wsV RX6 130 RX6 yX6_times wsX6_times) := goodIn_app (goodIn_of _ (by decide +kernel)) ggX6_make_X6_times
theorem dX6_make_0 : decode cX6_make 0 = .ok (.aload_n 0, 1) := by decide +kernel
theorem dX6_make_1 : decode cX6_make 1 = .ok (.getfield 118, 3) := by decide +kernel
theorem dX6_make_4 : decode cX6_make 4 = .ok (.istore 6, 2) := by decide +kernel
theorem dX6_make_6 : decode cX6_make 6 = .ok (.aload_n 0, 1) := by decide +kernel
theorem dX6_make_7 : decode cX6_make 7 = .ok (.dup, 1) := by decide +kernel
theorem dX6_make_8 : decode cX6_make 8 = .ok (.getfield 118, 3) := by decide +kernel
theorem dX6_make_11 : decode cX6_make 11 = .ok (.iconst 1, 1) := by decide +kernel
theorem dX6_make_12 : decode cX6_make 12 = .ok (.iadd, 1) := by decide +kernel
theorem dX6_make_13 : decode cX6_make 13 = .ok (.putfield 118, 3) := by decide +kernel
theorem dX6_make_16 : decode cX6_make 16 = .ok (.aload_n 0, 1) := by decide +kernel
theorem dX6_make_17 : decode cX6_make 17 = .ok (.getfield 45, 3) := by decide +kernel
theorem dX6_make_20 : decode cX6_make 20 = .ok (.iload 6, 2) := by decide +kernel
theorem dX6_make_22 : decode cX6_make 22 = .ok (.iload_n 1, 1) := by decide +kernel
theorem dX6_make_23 : decode cX6_make 23 = .ok (.iastore, 1) := by decide +kernel
theorem dX6_make_24 : decode cX6_make 24 = .ok (.aload_n 0, 1) := by decide +kernel
theorem dX6_make_25 : decode cX6_make 25 = .ok (.getfield 57, 3) := by decide +kernel
theorem dX6_make_28 : decode cX6_make 28 = .ok (.iload 6, 2) := by decide +kernel
theorem dX6_make_30 : decode cX6_make 30 = .ok (.iload_n 2, 1) := by decide +kernel
theorem dX6_make_31 : decode cX6_make 31 = .ok (.iastore, 1) := by decide +kernel
theorem dX6_make_32 : decode cX6_make 32 = .ok (.aload_n 0, 1) := by decide +kernel
theorem dX6_make_33 : decode cX6_make 33 = .ok (.getfield 54, 3) := by decide +kernel
theorem dX6_make_36 : decode cX6_make 36 = .ok (.iload 6, 2) := by decide +kernel
theorem dX6_make_38 : decode cX6_make 38 = .ok (.iload_n 3, 1) := by decide +kernel
theorem dX6_make_39 : decode cX6_make 39 = .ok (.iastore, 1) := by decide +kernel
theorem dX6_make_40 : decode cX6_make 40 = .ok (.aload_n 0, 1) := by decide +kernel
theorem dX6_make_41 : decode cX6_make 41 = .ok (.getfield 48, 3) := by decide +kernel
theorem dX6_make_44 : decode cX6_make 44 = .ok (.iload 6, 2) := by decide +kernel
theorem dX6_make_46 : decode cX6_make 46 = .ok (.iload 4, 2) := by decide +kernel
theorem dX6_make_48 : decode cX6_make 48 = .ok (.iastore, 1) := by decide +kernel
theorem dX6_make_49 : decode cX6_make 49 = .ok (.aload_n 0, 1) := by decide +kernel
theorem dX6_make_50 : decode cX6_make 50 = .ok (.getfield 51, 3) := by decide +kernel
theorem dX6_make_53 : decode cX6_make 53 = .ok (.iload 6, 2) := by decide +kernel
theorem dX6_make_55 : decode cX6_make 55 = .ok (.iload 5, 2) := by decide +kernel
theorem dX6_make_57 : decode cX6_make 57 = .ok (.iastore, 1) := by decide +kernel
theorem dX6_make_58 : decode cX6_make 58 = .ok (.iconst 0, 1) := by decide +kernel
theorem dX6_make_59 : decode cX6_make 59 = .ok (.istore 7, 2) := by decide +kernel
theorem dX6_make_61 : decode cX6_make 61 = .ok (.iload 7, 2) := by decide +kernel
theorem dX6_make_63 : decode cX6_make 63 = .ok (.aload_n 0, 1) := by decide +kernel
theorem dX6_make_64 : decode cX6_make 64 = .ok (.getfield 30, 3) := by decide +kernel
theorem dX6_make_67 : decode cX6_make 67 = .ok (.iload_n 1, 1) := by decide +kernel
theorem dX6_make_68 : decode cX6_make 68 = .ok (.iaload, 1) := by decide +kernel
theorem dX6_make_69 : decode cX6_make 69 = .ok (.if_icmp .ge 139, 3) := by decide +kernel
theorem dX6_make_72 : decode cX6_make 72 = .ok (.aload_n 0, 1) := by decide +kernel
theorem dX6_make_73 : decode cX6_make 73 = .ok (.iload 6, 2) := by decide +kernel
theorem dX6_make_75 : decode cX6_make 75 = .ok (.iload 7, 2) := by decide +kernel
theorem dX6_make_77 : decode cX6_make 77 = .ok (.invokevirtual 121, 3) := by decide +kernel
theorem dX6_make_80 : decode cX6_make 80 = .ok (.istore 8, 2) := by decide +kernel
theorem dX6_make_82 : decode cX6_make 82 = .ok (.aload_n 0, 1) := by decide +kernel
theorem dX6_make_83 : decode cX6_make 83 = .ok (.getfield 63, 3) := by decide +kernel
theorem dX6_make_86 : decode cX6_make 86 = .ok (.bipush 8, 2) := by decide +kernel
theorem dX6_make_88 : decode cX6_make 88 = .ok (.iload 6, 2) := by decide +kernel
theorem dX6_make_90 : decode cX6_make 90 = .ok (.imul, 1) := by decide +kernel
theorem dX6_make_91 : decode cX6_make 91 = .ok (.iload 7, 2) := by decide +kernel
theorem dX6_make_93 : decode cX6_make 93 = .ok (.iadd, 1) := by decide +kernel
theorem dX6_make_94 : decode cX6_make 94 = .ok (.ldc 124, 2) := by decide +kernel
theorem dX6_make_96 : decode cX6_make 96 = .ok (.iload_n 2, 1) := by decide +kernel
theorem dX6_make_97 : decode cX6_make 97 = .ok (.aload_n 0, 1) := by decide +kernel
theorem dX6_make_98 : decode cX6_make 98 = .ok (.iload_n 1, 1) := by decide +kernel
theorem dX6_make_99 : decode cX6_make 99 = .ok (.iload 7, 2) := by decide +kernel
theorem dX6_make_101 : decode cX6_make 101 = .ok (.iconst 2, 1) := by decide +kernel
theorem dX6_make_102 : decode cX6_make 102 = .ok (.invokevirtual 114, 3) := by decide +kernel
theorem dX6_make_105 : decode cX6_make 105 = .ok (.imul, 1) := by decide +kernel
theorem dX6_make_106 : decode cX6_make 106 = .ok (.invokestatic 125, 3) := by decide +kernel
theorem dX6_make_109 : decode cX6_make 109 = .ok (.iastore, 1) := by decide +kernel
theorem dX6_make_110 : decode cX6_make 110 = .ok (.iload 8, 2) := by decide +kernel
theorem dX6_make_112 : decode cX6_make 112 = .ok (.invokestatic 108, 3) := by decide +kernel
theorem dX6_make_115 : decode cX6_make 115 = .ok (.iconst 1, 1) := by decide +kernel
theorem dX6_make_116 : decode cX6_make 116 = .ok (.if_icmp .ne 26, 3) := by decide +kernel
theorem dX6_make_119 : decode cX6_make 119 = .ok (.aload_n 0, 1) := by decide +kernel
theorem dX6_make_120 : decode cX6_make 120 = .ok (.iload 6, 2) := by decide +kernel
theorem dX6_make_122 : decode cX6_make 122 = .ok (.iload 8, 2) := by decide +kernel
theorem dX6_make_124 : decode cX6_make 124 = .ok (.iconst 0, 1) := by decide +kernel
