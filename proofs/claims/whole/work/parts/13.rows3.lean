theorem dX6_make_125 : decode cX6_make 125 = .ok (.invokestatic 111, 3) := by decide +kernel
theorem dX6_make_128 : decode cX6_make 128 = .ok (.invokevirtual 130, 3) := by decide +kernel
theorem dX6_make_131 : decode cX6_make 131 = .ok (.aload_n 0, 1) := by decide +kernel
theorem dX6_make_132 : decode cX6_make 132 = .ok (.getfield 42, 3) := by decide +kernel
theorem dX6_make_135 : decode cX6_make 135 = .ok (.if_icmp .le 7, 3) := by decide +kernel
theorem dX6_make_138 : decode cX6_make 138 = .ok (.iconst 1, 1) := by decide +kernel
theorem dX6_make_139 : decode cX6_make 139 = .ok (.goto 4, 3) := by decide +kernel
theorem dX6_make_142 : decode cX6_make 142 = .ok (.iconst 0, 1) := by decide +kernel
theorem dX6_make_143 : decode cX6_make 143 = .ok (.istore 9, 2) := by decide +kernel
theorem dX6_make_145 : decode cX6_make 145 = .ok (.aload_n 0, 1) := by decide +kernel
theorem dX6_make_146 : decode cX6_make 146 = .ok (.getfield 60, 3) := by decide +kernel
theorem dX6_make_149 : decode cX6_make 149 = .ok (.bipush 8, 2) := by decide +kernel
theorem dX6_make_151 : decode cX6_make 151 = .ok (.iload 6, 2) := by decide +kernel
theorem dX6_make_153 : decode cX6_make 153 = .ok (.imul, 1) := by decide +kernel
theorem dX6_make_154 : decode cX6_make 154 = .ok (.iload 7, 2) := by decide +kernel
theorem dX6_make_156 : decode cX6_make 156 = .ok (.iadd, 1) := by decide +kernel
theorem dX6_make_157 : decode cX6_make 157 = .ok (.iload 8, 2) := by decide +kernel
theorem dX6_make_159 : decode cX6_make 159 = .ok (.ifCond .ne 7, 3) := by decide +kernel
theorem dX6_make_162 : decode cX6_make 162 = .ok (.iconst 1, 1) := by decide +kernel
theorem dX6_make_163 : decode cX6_make 163 = .ok (.goto 38, 3) := by decide +kernel
theorem dX6_make_166 : decode cX6_make 166 = .ok (.iload 8, 2) := by decide +kernel
theorem dX6_make_168 : decode cX6_make 168 = .ok (.invokestatic 108, 3) := by decide +kernel
theorem dX6_make_171 : decode cX6_make 171 = .ok (.iconst 1, 1) := by decide +kernel
theorem dX6_make_172 : decode cX6_make 172 = .ok (.if_icmp .le 7, 3) := by decide +kernel
theorem dX6_make_175 : decode cX6_make 175 = .ok (.iconst 2, 1) := by decide +kernel
theorem dX6_make_176 : decode cX6_make 176 = .ok (.goto 25, 3) := by decide +kernel
theorem dX6_make_179 : decode cX6_make 179 = .ok (.iload_n 3, 1) := by decide +kernel
theorem dX6_make_180 : decode cX6_make 180 = .ok (.aload_n 0, 1) := by decide +kernel
theorem dX6_make_181 : decode cX6_make 181 = .ok (.getfield 39, 3) := by decide +kernel
theorem dX6_make_184 : decode cX6_make 184 = .ok (.if_icmp .lt 7, 3) := by decide +kernel
theorem dX6_make_187 : decode cX6_make 187 = .ok (.iconst 3, 1) := by decide +kernel
theorem dX6_make_188 : decode cX6_make 188 = .ok (.goto 13, 3) := by decide +kernel
theorem dX6_make_191 : decode cX6_make 191 = .ok (.iload 9, 2) := by decide +kernel
theorem dX6_make_193 : decode cX6_make 193 = .ok (.ifCond .eq 7, 3) := by decide +kernel
theorem dX6_make_196 : decode cX6_make 196 = .ok (.iconst 4, 1) := by decide +kernel
theorem dX6_make_197 : decode cX6_make 197 = .ok (.goto 4, 3) := by decide +kernel
theorem dX6_make_200 : decode cX6_make 200 = .ok (.iconst (-1), 1) := by decide +kernel
theorem dX6_make_201 : decode cX6_make 201 = .ok (.iastore, 1) := by decide +kernel
theorem dX6_make_202 : decode cX6_make 202 = .ok (.iinc 7 1, 3) := by decide +kernel
theorem dX6_make_205 : decode cX6_make 205 = .ok (.goto (-144), 3) := by decide +kernel
theorem dX6_make_208 : decode cX6_make 208 = .ok (.return_, 1) := by decide +kernel
set_option maxRecDepth 20000 in
theorem ggX6_merit_X6_targetsOf : GoodIn wsX6_merit wsX6_targetsOf := goodIn_r _ [7, 8, 9, 10, 11, 6, 12, 13, 14, 15, 16, 17, 18, 19, 20, 21, 22, 23, 24, 25, 26, 27, 28, 29, 30, 31, 32, 33, 34, 35, 39, 40, 41, 42, 43, 44, 45, 46, 47, 48, 49, 50, 51, 52, 53, 54, 55, 56, 57, 58, 59, 60] (by decide +kernel) (by decide +kernel)
set_option maxRecDepth 20000 in
theorem gX6_merit_X6_targetsOf : GoodIn wsX6_merit (wsV RX6 121 RX6 yX6_targetsOf wsX6_targetsOf) := goodIn_app (goodIn_of _ (by decide +kernel)) ggX6_merit_X6_targetsOf
set_option maxRecDepth 20000 in
theorem ggX6_merit_X6_member : GoodIn wsX6_merit wsX6_member := goodIn_r _ [38] (by decide +kernel) (by decide +kernel)
set_option maxRecDepth 20000 in
theorem gX6_merit_X6_member : GoodIn wsX6_merit (va_wsS RX6 111 yX6_member wsX6_member) := goodIn_app (goodIn_of _ (by decide +kernel)) ggX6_merit_X6_member
theorem dX6_merit_0 : decode cX6_merit 0 = .ok (.sipush 1000, 3) := by decide +kernel
theorem dX6_merit_3 : decode cX6_merit 3 = .ok (.aload_n 0, 1) := by decide +kernel
theorem dX6_merit_4 : decode cX6_merit 4 = .ok (.getfield 63, 3) := by decide +kernel
theorem dX6_merit_7 : decode cX6_merit 7 = .ok (.bipush 8, 2) := by decide +kernel
theorem dX6_merit_9 : decode cX6_merit 9 = .ok (.iload_n 1, 1) := by decide +kernel
theorem dX6_merit_10 : decode cX6_merit 10 = .ok (.imul, 1) := by decide +kernel
theorem dX6_merit_11 : decode cX6_merit 11 = .ok (.iload_n 2, 1) := by decide +kernel
theorem dX6_merit_12 : decode cX6_merit 12 = .ok (.iadd, 1) := by decide +kernel
theorem dX6_merit_13 : decode cX6_merit 13 = .ok (.iaload, 1) := by decide +kernel
theorem dX6_merit_14 : decode cX6_merit 14 = .ok (.imul, 1) := by decide +kernel
theorem dX6_merit_15 : decode cX6_merit 15 = .ok (.aload_n 0, 1) := by decide +kernel
theorem dX6_merit_16 : decode cX6_merit 16 = .ok (.getfield 27, 3) := by decide +kernel
theorem dX6_merit_19 : decode cX6_merit 19 = .ok (.aload_n 0, 1) := by decide +kernel
theorem dX6_merit_20 : decode cX6_merit 20 = .ok (.iload_n 1, 1) := by decide +kernel
theorem dX6_merit_21 : decode cX6_merit 21 = .ok (.iload_n 2, 1) := by decide +kernel
theorem dX6_merit_22 : decode cX6_merit 22 = .ok (.invokevirtual 121, 3) := by decide +kernel
theorem dX6_merit_25 : decode cX6_merit 25 = .ok (.iconst 0, 1) := by decide +kernel
theorem dX6_merit_26 : decode cX6_merit 26 = .ok (.invokestatic 111, 3) := by decide +kernel
theorem dX6_merit_29 : decode cX6_merit 29 = .ok (.iaload, 1) := by decide +kernel
theorem dX6_merit_30 : decode cX6_merit 30 = .ok (.idiv, 1) := by decide +kernel
theorem dX6_merit_31 : decode cX6_merit 31 = .ok (.ireturn, 1) := by decide +kernel
set_option maxRecDepth 20000 in
theorem ggX6_best_X6_merit : GoodIn wsX6_best wsX6_merit := goodIn_r _ [9, 10, 11, 12, 13, 14, 8, 15, 3, 16, 17, 18, 19, 20, 21, 22, 23, 24, 25, 26, 27, 28, 29, 30, 31, 32, 33, 34, 35, 36, 37, 38, 39, 40, 41, 42, 43, 44, 45, 46, 47, 48, 49, 50, 51, 52, 53, 54, 55, 56, 57, 58, 59, 60, 61, 62, 63, 64, 65, 66, 67] (by decide +kernel) (by decide +kernel)
set_option maxRecDepth 20000 in
theorem gX6_best_X6_merit : GoodIn wsX6_best (wsV RX6 133 RX6 yX6_merit wsX6_merit) := goodIn_app (goodIn_of _ (by decide +kernel)) ggX6_best_X6_merit
theorem dX6_best_0 : decode cX6_best 0 = .ok (.iconst (-1), 1) := by decide +kernel
theorem dX6_best_1 : decode cX6_best 1 = .ok (.istore_n 1, 1) := by decide +kernel
theorem dX6_best_2 : decode cX6_best 2 = .ok (.iconst 0, 1) := by decide +kernel
theorem dX6_best_3 : decode cX6_best 3 = .ok (.istore_n 2, 1) := by decide +kernel
theorem dX6_best_4 : decode cX6_best 4 = .ok (.iconst 0, 1) := by decide +kernel
theorem dX6_best_5 : decode cX6_best 5 = .ok (.istore_n 3, 1) := by decide +kernel
theorem dX6_best_6 : decode cX6_best 6 = .ok (.iload_n 3, 1) := by decide +kernel
theorem dX6_best_7 : decode cX6_best 7 = .ok (.aload_n 0, 1) := by decide +kernel
theorem dX6_best_8 : decode cX6_best 8 = .ok (.getfield 118, 3) := by decide +kernel
theorem dX6_best_11 : decode cX6_best 11 = .ok (.if_icmp .ge 87, 3) := by decide +kernel
theorem dX6_best_14 : decode cX6_best 14 = .ok (.iconst 0, 1) := by decide +kernel
theorem dX6_best_15 : decode cX6_best 15 = .ok (.istore 4, 2) := by decide +kernel
theorem dX6_best_17 : decode cX6_best 17 = .ok (.iload 4, 2) := by decide +kernel
theorem dX6_best_19 : decode cX6_best 19 = .ok (.aload_n 0, 1) := by decide +kernel
theorem dX6_best_20 : decode cX6_best 20 = .ok (.getfield 30, 3) := by decide +kernel
theorem dX6_best_23 : decode cX6_best 23 = .ok (.aload_n 0, 1) := by decide +kernel
theorem dX6_best_24 : decode cX6_best 24 = .ok (.getfield 45, 3) := by decide +kernel
theorem dX6_best_27 : decode cX6_best 27 = .ok (.iload_n 3, 1) := by decide +kernel
theorem dX6_best_28 : decode cX6_best 28 = .ok (.iaload, 1) := by decide +kernel
theorem dX6_best_29 : decode cX6_best 29 = .ok (.iaload, 1) := by decide +kernel
theorem dX6_best_30 : decode cX6_best 30 = .ok (.if_icmp .ge 62, 3) := by decide +kernel
theorem dX6_best_33 : decode cX6_best 33 = .ok (.aload_n 0, 1) := by decide +kernel
theorem dX6_best_34 : decode cX6_best 34 = .ok (.getfield 60, 3) := by decide +kernel
theorem dX6_best_37 : decode cX6_best 37 = .ok (.bipush 8, 2) := by decide +kernel
theorem dX6_best_39 : decode cX6_best 39 = .ok (.iload_n 3, 1) := by decide +kernel
theorem dX6_best_40 : decode cX6_best 40 = .ok (.imul, 1) := by decide +kernel
theorem dX6_best_41 : decode cX6_best 41 = .ok (.iload 4, 2) := by decide +kernel
theorem dX6_best_43 : decode cX6_best 43 = .ok (.iadd, 1) := by decide +kernel
theorem dX6_best_44 : decode cX6_best 44 = .ok (.iaload, 1) := by decide +kernel
theorem dX6_best_45 : decode cX6_best 45 = .ok (.iconst (-1), 1) := by decide +kernel
theorem dX6_best_46 : decode cX6_best 46 = .ok (.if_icmp .eq 6, 3) := by decide +kernel
theorem dX6_best_49 : decode cX6_best 49 = .ok (.goto 37, 3) := by decide +kernel
theorem dX6_best_52 : decode cX6_best 52 = .ok (.aload_n 0, 1) := by decide +kernel
theorem dX6_best_53 : decode cX6_best 53 = .ok (.iload_n 3, 1) := by decide +kernel
theorem dX6_best_54 : decode cX6_best 54 = .ok (.iload 4, 2) := by decide +kernel
theorem dX6_best_56 : decode cX6_best 56 = .ok (.invokevirtual 133, 3) := by decide +kernel
theorem dX6_best_59 : decode cX6_best 59 = .ok (.istore 5, 2) := by decide +kernel
theorem dX6_best_61 : decode cX6_best 61 = .ok (.iload_n 1, 1) := by decide +kernel
theorem dX6_best_62 : decode cX6_best 62 = .ok (.iconst (-1), 1) := by decide +kernel
theorem dX6_best_63 : decode cX6_best 63 = .ok (.if_icmp .eq 12, 3) := by decide +kernel
theorem dX6_best_66 : decode cX6_best 66 = .ok (.iload 5, 2) := by decide +kernel
theorem dX6_best_68 : decode cX6_best 68 = .ok (.iload_n 2, 1) := by decide +kernel
theorem dX6_best_69 : decode cX6_best 69 = .ok (.if_icmp .gt 6, 3) := by decide +kernel
theorem dX6_best_72 : decode cX6_best 72 = .ok (.goto 14, 3) := by decide +kernel
theorem dX6_best_75 : decode cX6_best 75 = .ok (.bipush 8, 2) := by decide +kernel
theorem dX6_best_77 : decode cX6_best 77 = .ok (.iload_n 3, 1) := by decide +kernel
theorem dX6_best_78 : decode cX6_best 78 = .ok (.imul, 1) := by decide +kernel
theorem dX6_best_79 : decode cX6_best 79 = .ok (.iload 4, 2) := by decide +kernel
theorem dX6_best_81 : decode cX6_best 81 = .ok (.iadd, 1) := by decide +kernel
theorem dX6_best_82 : decode cX6_best 82 = .ok (.istore_n 1, 1) := by decide +kernel
theorem dX6_best_83 : decode cX6_best 83 = .ok (.iload 5, 2) := by decide +kernel
theorem dX6_best_85 : decode cX6_best 85 = .ok (.istore_n 2, 1) := by decide +kernel
theorem dX6_best_86 : decode cX6_best 86 = .ok (.iinc 4 1, 3) := by decide +kernel
theorem dX6_best_89 : decode cX6_best 89 = .ok (.goto (-72), 3) := by decide +kernel
theorem dX6_best_92 : decode cX6_best 92 = .ok (.iinc 3 1, 3) := by decide +kernel
theorem dX6_best_95 : decode cX6_best 95 = .ok (.goto (-89), 3) := by decide +kernel
theorem dX6_best_98 : decode cX6_best 98 = .ok (.iload_n 1, 1) := by decide +kernel
theorem dX6_best_99 : decode cX6_best 99 = .ok (.ireturn, 1) := by decide +kernel
theorem dX6_wholeSize_0 : decode cX6_wholeSize 0 = .ok (.iconst 0, 1) := by decide +kernel
theorem dX6_wholeSize_1 : decode cX6_wholeSize 1 = .ok (.istore_n 1, 1) := by decide +kernel
theorem dX6_wholeSize_2 : decode cX6_wholeSize 2 = .ok (.iconst 0, 1) := by decide +kernel
theorem dX6_wholeSize_3 : decode cX6_wholeSize 3 = .ok (.istore_n 2, 1) := by decide +kernel
theorem dX6_wholeSize_4 : decode cX6_wholeSize 4 = .ok (.iload_n 2, 1) := by decide +kernel
theorem dX6_wholeSize_5 : decode cX6_wholeSize 5 = .ok (.aload_n 0, 1) := by decide +kernel
theorem dX6_wholeSize_6 : decode cX6_wholeSize 6 = .ok (.getfield 118, 3) := by decide +kernel
theorem dX6_wholeSize_9 : decode cX6_wholeSize 9 = .ok (.if_icmp .ge 23, 3) := by decide +kernel
theorem dX6_wholeSize_12 : decode cX6_wholeSize 12 = .ok (.iload_n 1, 1) := by decide +kernel
theorem dX6_wholeSize_13 : decode cX6_wholeSize 13 = .ok (.aload_n 0, 1) := by decide +kernel
theorem dX6_wholeSize_14 : decode cX6_wholeSize 14 = .ok (.getfield 27, 3) := by decide +kernel
theorem dX6_wholeSize_17 : decode cX6_wholeSize 17 = .ok (.aload_n 0, 1) := by decide +kernel
theorem dX6_wholeSize_18 : decode cX6_wholeSize 18 = .ok (.getfield 45, 3) := by decide +kernel
theorem dX6_wholeSize_21 : decode cX6_wholeSize 21 = .ok (.iload_n 2, 1) := by decide +kernel
theorem dX6_wholeSize_22 : decode cX6_wholeSize 22 = .ok (.iaload, 1) := by decide +kernel
theorem dX6_wholeSize_23 : decode cX6_wholeSize 23 = .ok (.iaload, 1) := by decide +kernel
theorem dX6_wholeSize_24 : decode cX6_wholeSize 24 = .ok (.iadd, 1) := by decide +kernel
theorem dX6_wholeSize_25 : decode cX6_wholeSize 25 = .ok (.istore_n 1, 1) := by decide +kernel
theorem dX6_wholeSize_26 : decode cX6_wholeSize 26 = .ok (.iinc 2 1, 3) := by decide +kernel
theorem dX6_wholeSize_29 : decode cX6_wholeSize 29 = .ok (.goto (-25), 3) := by decide +kernel
theorem dX6_wholeSize_32 : decode cX6_wholeSize 32 = .ok (.iload_n 1, 1) := by decide +kernel
theorem dX6_wholeSize_33 : decode cX6_wholeSize 33 = .ok (.ireturn, 1) := by decide +kernel
set_option maxRecDepth 20000 in
theorem ggX6_plan_X6_isMethod : GoodIn wsX6_plan wsX6_isMethod := goodIn_r _ [13, 14, 15, 16, 12, 17, 90, 91, 92, 93, 94, 95, 96, 97, 98, 99, 100, 101, 102, 103, 104, 105, 106, 107, 108, 109, 110, 111] (by decide +kernel) (by decide +kernel)
set_option maxRecDepth 20000 in
theorem gX6_plan_X6_isMethod : GoodIn wsX6_plan (wsV RX6 95 RX6 yX6_isMethod wsX6_isMethod) := goodIn_app (goodIn_of _ (by decide +kernel)) ggX6_plan_X6_isMethod
set_option maxRecDepth 20000 in
theorem ggX6_plan_X6_no : GoodIn wsX6_plan wsX6_no := goodIn_r _ [21, 1, 90, 91, 92, 93, 94, 95, 96, 97, 98, 99, 100, 101, 102, 103, 104, 105, 106, 107, 108, 109, 110, 111] (by decide +kernel) (by decide +kernel)
set_option maxRecDepth 20000 in
theorem gX6_plan_X6_no : GoodIn wsX6_plan (wsV RX6 80 RX6 yX6_no wsX6_no) := goodIn_app (goodIn_of _ (by decide +kernel)) ggX6_plan_X6_no
set_option maxRecDepth 20000 in
theorem ggX6_plan_X6_make : GoodIn wsX6_plan wsX6_make := goodIn_r _ [25, 2, 26, 27, 8, 28, 29, 30, 7, 31, 32, 33, 34, 35, 36, 4, 37, 38, 39, 40, 12, 41, 42, 43, 44, 45, 46, 47, 48, 49, 50, 51, 52, 53, 54, 55, 56, 57, 58, 59, 60, 61, 62, 63, 64, 65, 14, 66, 67, 68, 69, 70, 71, 72, 73, 74, 75, 76, 77, 90, 91, 92, 93, 94, 95, 96, 97, 98, 99, 100, 101, 102, 103, 104, 105, 106, 107, 108, 109, 110, 111] (by decide +kernel) (by decide +kernel)
set_option maxRecDepth 20000 in
theorem gX6_plan_X6_make : GoodIn wsX6_plan (wsV RX6 136 RX6 yX6_make wsX6_make) := goodIn_app (goodIn_of _ (by decide +kernel)) ggX6_plan_X6_make
set_option maxRecDepth 20000 in
theorem ggX6_plan_X6_best : GoodIn wsX6_plan wsX6_best := goodIn_r _ [81, 2, 30, 26, 4, 82, 83, 84, 12, 85, 7, 5, 38, 39, 40, 41, 42, 43, 44, 45, 46, 47, 48, 49, 50, 51, 52, 53, 54, 55, 56, 57, 58, 59, 60, 61, 62, 63, 64, 65, 14, 66, 67, 71, 72, 73, 90, 91, 92, 93, 94, 95, 96, 97, 98, 99, 100, 101, 102, 103, 104, 105, 106, 107, 108, 109, 110, 111] (by decide +kernel) (by decide +kernel)
set_option maxRecDepth 20000 in
theorem gX6_plan_X6_best : GoodIn wsX6_plan (wsV RX6 140 RX6 yX6_best wsX6_best) := goodIn_app (goodIn_of _ (by decide +kernel)) ggX6_plan_X6_best
set_option maxRecDepth 20000 in
theorem ggX6_plan_X6_targetsOf : GoodIn wsX6_plan wsX6_targetsOf := goodIn_r _ [41, 26, 42, 43, 44, 12, 45, 46, 47, 48, 49, 50, 51, 52, 53, 54, 55, 56, 57, 58, 59, 60, 61, 62, 63, 64, 65, 14, 66, 67, 90, 91, 92, 93, 94, 95, 96, 97, 98, 99, 100, 101, 102, 103, 104, 105, 106, 107, 108, 109, 110, 111] (by decide +kernel) (by decide +kernel)
set_option maxRecDepth 20000 in
theorem gX6_plan_X6_targetsOf : GoodIn wsX6_plan (wsV RX6 121 RX6 yX6_targetsOf wsX6_targetsOf) := goodIn_app (goodIn_of _ (by decide +kernel)) ggX6_plan_X6_targetsOf
set_option maxRecDepth 20000 in
theorem ggX6_plan_X6_member : GoodIn wsX6_plan wsX6_member := goodIn_r _ [73] (by decide +kernel) (by decide +kernel)
set_option maxRecDepth 20000 in
theorem gX6_plan_X6_member : GoodIn wsX6_plan (va_wsS RX6 111 yX6_member wsX6_member) := goodIn_app (goodIn_of _ (by decide +kernel)) ggX6_plan_X6_member
set_option maxRecDepth 20000 in
theorem ggX6_plan_X6_wholeSize : GoodIn wsX6_plan wsX6_wholeSize := goodIn_r _ [89, 2, 5, 26, 90, 91, 92, 93, 94, 95, 96, 97, 98, 99, 100, 101, 102, 103, 104, 105, 106, 107, 108, 109, 110, 111] (by decide +kernel) (by decide +kernel)
set_option maxRecDepth 20000 in
theorem gX6_plan_X6_wholeSize : GoodIn wsX6_plan (wsV RX6 144 RX6 yX6_wholeSize wsX6_wholeSize) := goodIn_app (goodIn_of _ (by decide +kernel)) ggX6_plan_X6_wholeSize
theorem dX6_plan_0 : decode cX6_plan 0 = .ok (.aload_n 0, 1) := by decide +kernel
theorem dX6_plan_1 : decode cX6_plan 1 = .ok (.iconst 0, 1) := by decide +kernel
theorem dX6_plan_2 : decode cX6_plan 2 = .ok (.putfield 66, 3) := by decide +kernel
theorem dX6_plan_5 : decode cX6_plan 5 = .ok (.aload_n 0, 1) := by decide +kernel
theorem dX6_plan_6 : decode cX6_plan 6 = .ok (.iload_n 1, 1) := by decide +kernel
theorem dX6_plan_7 : decode cX6_plan 7 = .ok (.invokevirtual 95, 3) := by decide +kernel
theorem dX6_plan_10 : decode cX6_plan 10 = .ok (.ifCond .ne 9, 3) := by decide +kernel
theorem dX6_plan_13 : decode cX6_plan 13 = .ok (.aload_n 0, 1) := by decide +kernel
theorem dX6_plan_14 : decode cX6_plan 14 = .ok (.iconst 1, 1) := by decide +kernel
theorem dX6_plan_15 : decode cX6_plan 15 = .ok (.invokevirtual 80, 3) := by decide +kernel
theorem dX6_plan_18 : decode cX6_plan 18 = .ok (.ireturn, 1) := by decide +kernel
theorem dX6_plan_19 : decode cX6_plan 19 = .ok (.aload_n 0, 1) := by decide +kernel
theorem dX6_plan_20 : decode cX6_plan 20 = .ok (.iconst 0, 1) := by decide +kernel
theorem dX6_plan_21 : decode cX6_plan 21 = .ok (.putfield 118, 3) := by decide +kernel
theorem dX6_plan_24 : decode cX6_plan 24 = .ok (.aload_n 0, 1) := by decide +kernel
theorem dX6_plan_25 : decode cX6_plan 25 = .ok (.iconst 1, 1) := by decide +kernel
theorem dX6_plan_26 : decode cX6_plan 26 = .ok (.putfield 98, 3) := by decide +kernel
theorem dX6_plan_29 : decode cX6_plan 29 = .ok (.aload_n 0, 1) := by decide +kernel
theorem dX6_plan_30 : decode cX6_plan 30 = .ok (.iload_n 1, 1) := by decide +kernel
theorem dX6_plan_31 : decode cX6_plan 31 = .ok (.iconst 1, 1) := by decide +kernel
theorem dX6_plan_32 : decode cX6_plan 32 = .ok (.iconst 0, 1) := by decide +kernel
theorem dX6_plan_33 : decode cX6_plan 33 = .ok (.iconst (-1), 1) := by decide +kernel
theorem dX6_plan_34 : decode cX6_plan 34 = .ok (.iconst (-1), 1) := by decide +kernel
theorem dX6_plan_35 : decode cX6_plan 35 = .ok (.invokevirtual 136, 3) := by decide +kernel
theorem dX6_plan_38 : decode cX6_plan 38 = .ok (.aload_n 0, 1) := by decide +kernel
theorem dX6_plan_39 : decode cX6_plan 39 = .ok (.invokevirtual 140, 3) := by decide +kernel
theorem dX6_plan_42 : decode cX6_plan 42 = .ok (.istore_n 2, 1) := by decide +kernel
theorem dX6_plan_43 : decode cX6_plan 43 = .ok (.iload_n 2, 1) := by decide +kernel
theorem dX6_plan_44 : decode cX6_plan 44 = .ok (.iconst (-1), 1) := by decide +kernel
theorem dX6_plan_45 : decode cX6_plan 45 = .ok (.if_icmp .eq 109, 3) := by decide +kernel
theorem dX6_plan_48 : decode cX6_plan 48 = .ok (.iload_n 2, 1) := by decide +kernel
theorem dX6_plan_49 : decode cX6_plan 49 = .ok (.bipush 8, 2) := by decide +kernel
theorem dX6_plan_51 : decode cX6_plan 51 = .ok (.idiv, 1) := by decide +kernel
theorem dX6_plan_52 : decode cX6_plan 52 = .ok (.istore_n 3, 1) := by decide +kernel
theorem dX6_plan_53 : decode cX6_plan 53 = .ok (.aload_n 0, 1) := by decide +kernel
theorem dX6_plan_54 : decode cX6_plan 54 = .ok (.iload_n 3, 1) := by decide +kernel
theorem dX6_plan_55 : decode cX6_plan 55 = .ok (.iload_n 2, 1) := by decide +kernel
theorem dX6_plan_56 : decode cX6_plan 56 = .ok (.bipush 8, 2) := by decide +kernel
theorem dX6_plan_58 : decode cX6_plan 58 = .ok (.irem, 1) := by decide +kernel
theorem dX6_plan_59 : decode cX6_plan 59 = .ok (.invokevirtual 121, 3) := by decide +kernel
theorem dX6_plan_62 : decode cX6_plan 62 = .ok (.iconst 0, 1) := by decide +kernel
theorem dX6_plan_63 : decode cX6_plan 63 = .ok (.invokestatic 111, 3) := by decide +kernel
theorem dX6_plan_66 : decode cX6_plan 66 = .ok (.istore 4, 2) := by decide +kernel
theorem dX6_plan_68 : decode cX6_plan 68 = .ok (.aload_n 0, 1) := by decide +kernel
theorem dX6_plan_69 : decode cX6_plan 69 = .ok (.getfield 60, 3) := by decide +kernel
theorem dX6_plan_72 : decode cX6_plan 72 = .ok (.iload_n 2, 1) := by decide +kernel
theorem dX6_plan_73 : decode cX6_plan 73 = .ok (.aload_n 0, 1) := by decide +kernel
theorem dX6_plan_74 : decode cX6_plan 74 = .ok (.invokevirtual 144, 3) := by decide +kernel
theorem dX6_plan_77 : decode cX6_plan 77 = .ok (.aload_n 0, 1) := by decide +kernel
theorem dX6_plan_78 : decode cX6_plan 78 = .ok (.getfield 27, 3) := by decide +kernel
theorem dX6_plan_81 : decode cX6_plan 81 = .ok (.iload 4, 2) := by decide +kernel
theorem dX6_plan_83 : decode cX6_plan 83 = .ok (.iaload, 1) := by decide +kernel
theorem dX6_plan_84 : decode cX6_plan 84 = .ok (.iadd, 1) := by decide +kernel
theorem dX6_plan_85 : decode cX6_plan 85 = .ok (.aload_n 0, 1) := by decide +kernel
theorem dX6_plan_86 : decode cX6_plan 86 = .ok (.getfield 36, 3) := by decide +kernel
theorem dX6_plan_89 : decode cX6_plan 89 = .ok (.if_icmp .le 7, 3) := by decide +kernel
theorem dX6_plan_92 : decode cX6_plan 92 = .ok (.iconst 5, 1) := by decide +kernel
theorem dX6_plan_93 : decode cX6_plan 93 = .ok (.goto 18, 3) := by decide +kernel
theorem dX6_plan_96 : decode cX6_plan 96 = .ok (.aload_n 0, 1) := by decide +kernel
theorem dX6_plan_97 : decode cX6_plan 97 = .ok (.getfield 118, 3) := by decide +kernel
theorem dX6_plan_100 : decode cX6_plan 100 = .ok (.bipush 50, 2) := by decide +kernel
theorem dX6_plan_102 : decode cX6_plan 102 = .ok (.if_icmp .ne 8, 3) := by decide +kernel
theorem dX6_plan_105 : decode cX6_plan 105 = .ok (.bipush 6, 2) := by decide +kernel
theorem dX6_plan_107 : decode cX6_plan 107 = .ok (.goto 4, 3) := by decide +kernel
theorem dX6_plan_110 : decode cX6_plan 110 = .ok (.iconst 0, 1) := by decide +kernel
theorem dX6_plan_111 : decode cX6_plan 111 = .ok (.iastore, 1) := by decide +kernel
theorem dX6_plan_112 : decode cX6_plan 112 = .ok (.aload_n 0, 1) := by decide +kernel
theorem dX6_plan_113 : decode cX6_plan 113 = .ok (.getfield 60, 3) := by decide +kernel
theorem dX6_plan_116 : decode cX6_plan 116 = .ok (.iload_n 2, 1) := by decide +kernel
theorem dX6_plan_117 : decode cX6_plan 117 = .ok (.iaload, 1) := by decide +kernel
theorem dX6_plan_118 : decode cX6_plan 118 = .ok (.ifCond .ne 28, 3) := by decide +kernel
theorem dX6_plan_121 : decode cX6_plan 121 = .ok (.aload_n 0, 1) := by decide +kernel
theorem dX6_plan_122 : decode cX6_plan 122 = .ok (.iload 4, 2) := by decide +kernel
theorem dX6_plan_124 : decode cX6_plan 124 = .ok (.aload_n 0, 1) := by decide +kernel
theorem dX6_plan_125 : decode cX6_plan 125 = .ok (.getfield 63, 3) := by decide +kernel
theorem dX6_plan_128 : decode cX6_plan 128 = .ok (.iload_n 2, 1) := by decide +kernel
theorem dX6_plan_129 : decode cX6_plan 129 = .ok (.iaload, 1) := by decide +kernel
theorem dX6_plan_130 : decode cX6_plan 130 = .ok (.aload_n 0, 1) := by decide +kernel
theorem dX6_plan_131 : decode cX6_plan 131 = .ok (.getfield 54, 3) := by decide +kernel
theorem dX6_plan_134 : decode cX6_plan 134 = .ok (.iload_n 3, 1) := by decide +kernel
theorem dX6_plan_135 : decode cX6_plan 135 = .ok (.iaload, 1) := by decide +kernel
theorem dX6_plan_136 : decode cX6_plan 136 = .ok (.iconst 1, 1) := by decide +kernel
theorem dX6_plan_137 : decode cX6_plan 137 = .ok (.iadd, 1) := by decide +kernel
theorem dX6_plan_138 : decode cX6_plan 138 = .ok (.iload_n 3, 1) := by decide +kernel
theorem dX6_plan_139 : decode cX6_plan 139 = .ok (.iload_n 2, 1) := by decide +kernel
theorem dX6_plan_140 : decode cX6_plan 140 = .ok (.bipush 8, 2) := by decide +kernel
theorem dX6_plan_142 : decode cX6_plan 142 = .ok (.irem, 1) := by decide +kernel
theorem dX6_plan_143 : decode cX6_plan 143 = .ok (.invokevirtual 136, 3) := by decide +kernel
theorem dX6_plan_146 : decode cX6_plan 146 = .ok (.aload_n 0, 1) := by decide +kernel
theorem dX6_plan_147 : decode cX6_plan 147 = .ok (.invokevirtual 140, 3) := by decide +kernel
theorem dX6_plan_150 : decode cX6_plan 150 = .ok (.istore_n 2, 1) := by decide +kernel
theorem dX6_plan_151 : decode cX6_plan 151 = .ok (.goto (-108), 3) := by decide +kernel
theorem dX6_plan_154 : decode cX6_plan 154 = .ok (.aload_n 0, 1) := by decide +kernel
theorem dX6_plan_155 : decode cX6_plan 155 = .ok (.getfield 118, 3) := by decide +kernel
theorem dX6_plan_158 : decode cX6_plan 158 = .ok (.ireturn, 1) := by decide +kernel
theorem dX6_hasPlan_0 : decode cX6_hasPlan 0 = .ok (.aload_n 0, 1) := by decide +kernel
theorem dX6_hasPlan_1 : decode cX6_hasPlan 1 = .ok (.iconst 0, 1) := by decide +kernel
theorem dX6_hasPlan_2 : decode cX6_hasPlan 2 = .ok (.putfield 66, 3) := by decide +kernel
theorem dX6_hasPlan_5 : decode cX6_hasPlan 5 = .ok (.aload_n 0, 1) := by decide +kernel
theorem dX6_hasPlan_6 : decode cX6_hasPlan 6 = .ok (.getfield 98, 3) := by decide +kernel
theorem dX6_hasPlan_9 : decode cX6_hasPlan 9 = .ok (.ireturn, 1) := by decide +kernel
theorem dX6_asks_0 : decode cX6_asks 0 = .ok (.aload_n 0, 1) := by decide +kernel
theorem dX6_asks_1 : decode cX6_asks 1 = .ok (.aload_n 0, 1) := by decide +kernel
theorem dX6_asks_2 : decode cX6_asks 2 = .ok (.getfield 98, 3) := by decide +kernel
theorem dX6_asks_5 : decode cX6_asks 5 = .ok (.ifCond .eq 7, 3) := by decide +kernel
theorem dX6_asks_8 : decode cX6_asks 8 = .ok (.iconst 0, 1) := by decide +kernel
theorem dX6_asks_9 : decode cX6_asks 9 = .ok (.goto 4, 3) := by decide +kernel
theorem dX6_asks_12 : decode cX6_asks 12 = .ok (.iconst 1, 1) := by decide +kernel
theorem dX6_asks_13 : decode cX6_asks 13 = .ok (.putfield 66, 3) := by decide +kernel
theorem dX6_asks_16 : decode cX6_asks 16 = .ok (.aload_n 0, 1) := by decide +kernel
theorem dX6_asks_17 : decode cX6_asks 17 = .ok (.getfield 98, 3) := by decide +kernel
theorem dX6_asks_20 : decode cX6_asks 20 = .ok (.ireturn, 1) := by decide +kernel
set_option maxRecDepth 20000 in
theorem ggX6_asks__X6_isIn : GoodIn wsX6_asks_ wsX6_isIn := goodIn_r _ [7] (by decide +kernel) (by decide +kernel)
set_option maxRecDepth 20000 in
theorem gX6_asks__X6_isIn : GoodIn wsX6_asks_ (va_wsS RX6 69 yX6_isIn wsX6_isIn) := goodIn_app (goodIn_of _ (by decide +kernel)) ggX6_asks__X6_isIn
theorem dX6_asks__0 : decode cX6_asks_ 0 = .ok (.aload_n 0, 1) := by decide +kernel
theorem dX6_asks__1 : decode cX6_asks_ 1 = .ok (.aload_n 0, 1) := by decide +kernel
theorem dX6_asks__2 : decode cX6_asks_ 2 = .ok (.getfield 98, 3) := by decide +kernel
theorem dX6_asks__5 : decode cX6_asks_ 5 = .ok (.ifCond .ne 7, 3) := by decide +kernel
theorem dX6_asks__8 : decode cX6_asks_ 8 = .ok (.iconst 1, 1) := by decide +kernel
theorem dX6_asks__9 : decode cX6_asks_ 9 = .ok (.goto 22, 3) := by decide +kernel
theorem dX6_asks__12 : decode cX6_asks_ 12 = .ok (.iload_n 1, 1) := by decide +kernel
theorem dX6_asks__13 : decode cX6_asks_ 13 = .ok (.iconst 0, 1) := by decide +kernel
theorem dX6_asks__14 : decode cX6_asks_ 14 = .ok (.aload_n 0, 1) := by decide +kernel
theorem dX6_asks__15 : decode cX6_asks_ 15 = .ok (.getfield 118, 3) := by decide +kernel
theorem dX6_asks__18 : decode cX6_asks_ 18 = .ok (.iconst 1, 1) := by decide +kernel
theorem dX6_asks__19 : decode cX6_asks_ 19 = .ok (.isub, 1) := by decide +kernel
theorem dX6_asks__20 : decode cX6_asks_ 20 = .ok (.invokestatic 69, 3) := by decide +kernel
theorem dX6_asks__23 : decode cX6_asks_ 23 = .ok (.ifCond .ne 7, 3) := by decide +kernel
theorem dX6_asks__26 : decode cX6_asks_ 26 = .ok (.iconst 2, 1) := by decide +kernel
theorem dX6_asks__27 : decode cX6_asks_ 27 = .ok (.goto 4, 3) := by decide +kernel
theorem dX6_asks__30 : decode cX6_asks_ 30 = .ok (.iconst 0, 1) := by decide +kernel
theorem dX6_asks__31 : decode cX6_asks_ 31 = .ok (.putfield 66, 3) := by decide +kernel
theorem dX6_asks__34 : decode cX6_asks_ 34 = .ok (.aload_n 0, 1) := by decide +kernel
theorem dX6_asks__35 : decode cX6_asks_ 35 = .ok (.getfield 66, 3) := by decide +kernel
theorem dX6_asks__38 : decode cX6_asks_ 38 = .ok (.ifCond .ne 7, 3) := by decide +kernel
theorem dX6_asks__41 : decode cX6_asks_ 41 = .ok (.iconst 1, 1) := by decide +kernel
theorem dX6_asks__42 : decode cX6_asks_ 42 = .ok (.goto 4, 3) := by decide +kernel
theorem dX6_asks__45 : decode cX6_asks_ 45 = .ok (.iconst 0, 1) := by decide +kernel
theorem dX6_asks__46 : decode cX6_asks_ 46 = .ok (.ireturn, 1) := by decide +kernel
set_option maxRecDepth 20000 in
theorem ggX6_asks___X6_asks_ : GoodIn wsX6_asks__ wsX6_asks_ := goodIn_r _ [8, 9, 10, 3, 11, 12, 7, 13, 14, 15, 16, 17, 18, 19, 20, 21, 22, 23, 24, 25, 26, 27, 28, 29, 30, 31, 32, 33, 34, 35] (by decide +kernel) (by decide +kernel)
set_option maxRecDepth 20000 in
theorem gX6_asks___X6_asks_ : GoodIn wsX6_asks__ (wsV RX6 147 RX6 yX6_asks_ wsX6_asks_) := goodIn_app (goodIn_of _ (by decide +kernel)) ggX6_asks___X6_asks_
set_option maxRecDepth 20000 in
theorem ggX6_asks___X6_isIn : GoodIn wsX6_asks__ wsX6_isIn := goodIn_r _ [13] (by decide +kernel) (by decide +kernel)
set_option maxRecDepth 20000 in
theorem gX6_asks___X6_isIn : GoodIn wsX6_asks__ (va_wsS RX6 69 yX6_isIn wsX6_isIn) := goodIn_app (goodIn_of _ (by decide +kernel)) ggX6_asks___X6_isIn
theorem dX6_asks___0 : decode cX6_asks__ 0 = .ok (.aload_n 0, 1) := by decide +kernel
theorem dX6_asks___1 : decode cX6_asks__ 1 = .ok (.iload_n 1, 1) := by decide +kernel
theorem dX6_asks___2 : decode cX6_asks__ 2 = .ok (.invokevirtual 147, 3) := by decide +kernel
theorem dX6_asks___5 : decode cX6_asks__ 5 = .ok (.ifCond .ne 5, 3) := by decide +kernel
theorem dX6_asks___8 : decode cX6_asks__ 8 = .ok (.iconst 0, 1) := by decide +kernel
theorem dX6_asks___9 : decode cX6_asks__ 9 = .ok (.ireturn, 1) := by decide +kernel
theorem dX6_asks___10 : decode cX6_asks__ 10 = .ok (.aload_n 0, 1) := by decide +kernel
theorem dX6_asks___11 : decode cX6_asks__ 11 = .ok (.iload_n 2, 1) := by decide +kernel
theorem dX6_asks___12 : decode cX6_asks__ 12 = .ok (.iconst 0, 1) := by decide +kernel
theorem dX6_asks___13 : decode cX6_asks__ 13 = .ok (.aload_n 0, 1) := by decide +kernel
theorem dX6_asks___14 : decode cX6_asks__ 14 = .ok (.getfield 30, 3) := by decide +kernel
theorem dX6_asks___17 : decode cX6_asks__ 17 = .ok (.aload_n 0, 1) := by decide +kernel
theorem dX6_asks___18 : decode cX6_asks__ 18 = .ok (.getfield 45, 3) := by decide +kernel
theorem dX6_asks___21 : decode cX6_asks__ 21 = .ok (.iload_n 1, 1) := by decide +kernel
theorem dX6_asks___22 : decode cX6_asks__ 22 = .ok (.iaload, 1) := by decide +kernel
theorem dX6_asks___23 : decode cX6_asks__ 23 = .ok (.iaload, 1) := by decide +kernel
theorem dX6_asks___24 : decode cX6_asks__ 24 = .ok (.iconst 1, 1) := by decide +kernel
theorem dX6_asks___25 : decode cX6_asks__ 25 = .ok (.isub, 1) := by decide +kernel
theorem dX6_asks___26 : decode cX6_asks__ 26 = .ok (.invokestatic 69, 3) := by decide +kernel
theorem dX6_asks___29 : decode cX6_asks__ 29 = .ok (.ifCond .eq 7, 3) := by decide +kernel
theorem dX6_asks___32 : decode cX6_asks__ 32 = .ok (.iconst 0, 1) := by decide +kernel
theorem dX6_asks___33 : decode cX6_asks__ 33 = .ok (.goto 4, 3) := by decide +kernel
theorem dX6_asks___36 : decode cX6_asks__ 36 = .ok (.iconst 2, 1) := by decide +kernel
theorem dX6_asks___37 : decode cX6_asks__ 37 = .ok (.putfield 66, 3) := by decide +kernel
theorem dX6_asks___40 : decode cX6_asks__ 40 = .ok (.aload_n 0, 1) := by decide +kernel
theorem dX6_asks___41 : decode cX6_asks__ 41 = .ok (.getfield 66, 3) := by decide +kernel
theorem dX6_asks___44 : decode cX6_asks__ 44 = .ok (.ifCond .ne 7, 3) := by decide +kernel
theorem dX6_asks___47 : decode cX6_asks__ 47 = .ok (.iconst 1, 1) := by decide +kernel
theorem dX6_asks___48 : decode cX6_asks__ 48 = .ok (.goto 4, 3) := by decide +kernel
theorem dX6_asks___51 : decode cX6_asks__ 51 = .ok (.iconst 0, 1) := by decide +kernel
theorem dX6_asks___52 : decode cX6_asks__ 52 = .ok (.ireturn, 1) := by decide +kernel
set_option maxRecDepth 20000 in
theorem ggX6_nodeCount_X6_asks : GoodIn wsX6_nodeCount wsX6_asks := goodIn_r _ [6, 7, 8, 9, 10, 11, 12, 13, 14, 15, 16, 17, 18, 19, 20, 21, 22, 23, 24, 25, 26, 27, 28, 29, 30] (by decide +kernel) (by decide +kernel)
set_option maxRecDepth 20000 in
theorem gX6_nodeCount_X6_asks : GoodIn wsX6_nodeCount (wsV RX6 150 RX6 yX6_asks wsX6_asks) := goodIn_app (goodIn_of _ (by decide +kernel)) ggX6_nodeCount_X6_asks
theorem dX6_nodeCount_0 : decode cX6_nodeCount 0 = .ok (.aload_n 0, 1) := by decide +kernel
theorem dX6_nodeCount_1 : decode cX6_nodeCount 1 = .ok (.invokevirtual 150, 3) := by decide +kernel
theorem dX6_nodeCount_4 : decode cX6_nodeCount 4 = .ok (.ifCond .eq 10, 3) := by decide +kernel
theorem dX6_nodeCount_7 : decode cX6_nodeCount 7 = .ok (.aload_n 0, 1) := by decide +kernel
theorem dX6_nodeCount_8 : decode cX6_nodeCount 8 = .ok (.getfield 118, 3) := by decide +kernel
theorem dX6_nodeCount_11 : decode cX6_nodeCount 11 = .ok (.goto 4, 3) := by decide +kernel
theorem dX6_nodeCount_14 : decode cX6_nodeCount 14 = .ok (.iconst 0, 1) := by decide +kernel
theorem dX6_nodeCount_15 : decode cX6_nodeCount 15 = .ok (.ireturn, 1) := by decide +kernel
set_option maxRecDepth 20000 in
theorem ggX6_size_X6_asks : GoodIn wsX6_size wsX6_asks := goodIn_r _ [5, 6, 7, 15, 16, 17, 18, 19, 20, 21, 22, 23, 24, 25, 26, 27, 28, 29, 30, 31, 32, 33, 34, 35, 36] (by decide +kernel) (by decide +kernel)
set_option maxRecDepth 20000 in
theorem gX6_size_X6_asks : GoodIn wsX6_size (wsV RX6 150 RX6 yX6_asks wsX6_asks) := goodIn_app (goodIn_of _ (by decide +kernel)) ggX6_size_X6_asks
set_option maxRecDepth 20000 in
theorem ggX6_size_X6_wholeSize : GoodIn wsX6_size wsX6_wholeSize := goodIn_r _ [11, 12, 13, 14, 15, 16, 17, 18, 19, 20, 21, 22, 23, 24, 25, 26, 27, 28, 29, 30, 31, 32, 33, 34, 35, 36] (by decide +kernel) (by decide +kernel)
set_option maxRecDepth 20000 in
theorem gX6_size_X6_wholeSize : GoodIn wsX6_size (wsV RX6 144 RX6 yX6_wholeSize wsX6_wholeSize) := goodIn_app (goodIn_of _ (by decide +kernel)) ggX6_size_X6_wholeSize
theorem dX6_size_0 : decode cX6_size 0 = .ok (.aload_n 0, 1) := by decide +kernel
theorem dX6_size_1 : decode cX6_size 1 = .ok (.invokevirtual 150, 3) := by decide +kernel
theorem dX6_size_4 : decode cX6_size 4 = .ok (.ifCond .eq 10, 3) := by decide +kernel
theorem dX6_size_7 : decode cX6_size 7 = .ok (.aload_n 0, 1) := by decide +kernel
theorem dX6_size_8 : decode cX6_size 8 = .ok (.invokevirtual 144, 3) := by decide +kernel
theorem dX6_size_11 : decode cX6_size 11 = .ok (.goto 4, 3) := by decide +kernel
theorem dX6_size_14 : decode cX6_size 14 = .ok (.iconst 0, 1) := by decide +kernel
theorem dX6_size_15 : decode cX6_size 15 = .ok (.ireturn, 1) := by decide +kernel
set_option maxRecDepth 20000 in
theorem ggX6_method_X6_asks_ : GoodIn wsX6_method wsX6_asks_ := goodIn_r _ [6, 7, 8, 9, 10, 11, 5, 12, 13, 14, 15, 16, 17, 18, 19, 20, 21, 22, 23, 24, 25, 26, 27, 28, 29, 30, 31, 32, 33, 34] (by decide +kernel) (by decide +kernel)
set_option maxRecDepth 20000 in
theorem gX6_method_X6_asks_ : GoodIn wsX6_method (wsV RX6 147 RX6 yX6_asks_ wsX6_asks_) := goodIn_app (goodIn_of _ (by decide +kernel)) ggX6_method_X6_asks_
theorem dX6_method_0 : decode cX6_method 0 = .ok (.aload_n 0, 1) := by decide +kernel
theorem dX6_method_1 : decode cX6_method 1 = .ok (.iload_n 1, 1) := by decide +kernel
theorem dX6_method_2 : decode cX6_method 2 = .ok (.invokevirtual 147, 3) := by decide +kernel
theorem dX6_method_5 : decode cX6_method 5 = .ok (.ifCond .eq 12, 3) := by decide +kernel
theorem dX6_method_8 : decode cX6_method 8 = .ok (.aload_n 0, 1) := by decide +kernel
theorem dX6_method_9 : decode cX6_method 9 = .ok (.getfield 45, 3) := by decide +kernel
theorem dX6_method_12 : decode cX6_method 12 = .ok (.iload_n 1, 1) := by decide +kernel
theorem dX6_method_13 : decode cX6_method 13 = .ok (.iaload, 1) := by decide +kernel
theorem dX6_method_14 : decode cX6_method 14 = .ok (.goto 4, 3) := by decide +kernel
theorem dX6_method_17 : decode cX6_method 17 = .ok (.iconst 0, 1) := by decide +kernel
theorem dX6_method_18 : decode cX6_method 18 = .ok (.ireturn, 1) := by decide +kernel
set_option maxRecDepth 20000 in
theorem ggX6_parentNode_X6_asks_ : GoodIn wsX6_parentNode wsX6_asks_ := goodIn_r _ [6, 7, 8, 9, 10, 11, 5, 12, 13, 14, 15, 16, 17, 18, 19, 20, 21, 22, 23, 24, 25, 26, 27, 28, 29, 30, 31, 32, 33, 34] (by decide +kernel) (by decide +kernel)
set_option maxRecDepth 20000 in
theorem gX6_parentNode_X6_asks_ : GoodIn wsX6_parentNode (wsV RX6 147 RX6 yX6_asks_ wsX6_asks_) := goodIn_app (goodIn_of _ (by decide +kernel)) ggX6_parentNode_X6_asks_
theorem dX6_parentNode_0 : decode cX6_parentNode 0 = .ok (.aload_n 0, 1) := by decide +kernel
theorem dX6_parentNode_1 : decode cX6_parentNode 1 = .ok (.iload_n 1, 1) := by decide +kernel
theorem dX6_parentNode_2 : decode cX6_parentNode 2 = .ok (.invokevirtual 147, 3) := by decide +kernel
theorem dX6_parentNode_5 : decode cX6_parentNode 5 = .ok (.ifCond .eq 12, 3) := by decide +kernel
theorem dX6_parentNode_8 : decode cX6_parentNode 8 = .ok (.aload_n 0, 1) := by decide +kernel
theorem dX6_parentNode_9 : decode cX6_parentNode 9 = .ok (.getfield 48, 3) := by decide +kernel
theorem dX6_parentNode_12 : decode cX6_parentNode 12 = .ok (.iload_n 1, 1) := by decide +kernel
theorem dX6_parentNode_13 : decode cX6_parentNode 13 = .ok (.iaload, 1) := by decide +kernel
theorem dX6_parentNode_14 : decode cX6_parentNode 14 = .ok (.goto 4, 3) := by decide +kernel
theorem dX6_parentNode_17 : decode cX6_parentNode 17 = .ok (.iconst 0, 1) := by decide +kernel
theorem dX6_parentNode_18 : decode cX6_parentNode 18 = .ok (.ireturn, 1) := by decide +kernel
set_option maxRecDepth 20000 in
theorem ggX6_siteOf_X6_asks_ : GoodIn wsX6_siteOf wsX6_asks_ := goodIn_r _ [6, 7, 8, 9, 10, 11, 5, 12, 13, 14, 15, 16, 17, 18, 19, 20, 21, 22, 23, 24, 25, 26, 27, 28, 29, 30, 31, 32, 33, 34] (by decide +kernel) (by decide +kernel)
set_option maxRecDepth 20000 in
theorem gX6_siteOf_X6_asks_ : GoodIn wsX6_siteOf (wsV RX6 147 RX6 yX6_asks_ wsX6_asks_) := goodIn_app (goodIn_of _ (by decide +kernel)) ggX6_siteOf_X6_asks_
theorem dX6_siteOf_0 : decode cX6_siteOf 0 = .ok (.aload_n 0, 1) := by decide +kernel
theorem dX6_siteOf_1 : decode cX6_siteOf 1 = .ok (.iload_n 1, 1) := by decide +kernel
theorem dX6_siteOf_2 : decode cX6_siteOf 2 = .ok (.invokevirtual 147, 3) := by decide +kernel
theorem dX6_siteOf_5 : decode cX6_siteOf 5 = .ok (.ifCond .eq 12, 3) := by decide +kernel
theorem dX6_siteOf_8 : decode cX6_siteOf 8 = .ok (.aload_n 0, 1) := by decide +kernel
theorem dX6_siteOf_9 : decode cX6_siteOf 9 = .ok (.getfield 51, 3) := by decide +kernel
theorem dX6_siteOf_12 : decode cX6_siteOf 12 = .ok (.iload_n 1, 1) := by decide +kernel
theorem dX6_siteOf_13 : decode cX6_siteOf 13 = .ok (.iaload, 1) := by decide +kernel
theorem dX6_siteOf_14 : decode cX6_siteOf 14 = .ok (.goto 4, 3) := by decide +kernel
theorem dX6_siteOf_17 : decode cX6_siteOf 17 = .ok (.iconst 0, 1) := by decide +kernel
theorem dX6_siteOf_18 : decode cX6_siteOf 18 = .ok (.ireturn, 1) := by decide +kernel
set_option maxRecDepth 20000 in
theorem ggX6_depth_X6_asks_ : GoodIn wsX6_depth wsX6_asks_ := goodIn_r _ [6, 7, 8, 9, 10, 11, 5, 12, 13, 14, 15, 16, 17, 18, 19, 20, 21, 22, 23, 24, 25, 26, 27, 28, 29, 30, 31, 32, 33, 34] (by decide +kernel) (by decide +kernel)
set_option maxRecDepth 20000 in
theorem gX6_depth_X6_asks_ : GoodIn wsX6_depth (wsV RX6 147 RX6 yX6_asks_ wsX6_asks_) := goodIn_app (goodIn_of _ (by decide +kernel)) ggX6_depth_X6_asks_
theorem dX6_depth_0 : decode cX6_depth 0 = .ok (.aload_n 0, 1) := by decide +kernel
theorem dX6_depth_1 : decode cX6_depth 1 = .ok (.iload_n 1, 1) := by decide +kernel
theorem dX6_depth_2 : decode cX6_depth 2 = .ok (.invokevirtual 147, 3) := by decide +kernel
theorem dX6_depth_5 : decode cX6_depth 5 = .ok (.ifCond .eq 12, 3) := by decide +kernel
theorem dX6_depth_8 : decode cX6_depth 8 = .ok (.aload_n 0, 1) := by decide +kernel
theorem dX6_depth_9 : decode cX6_depth 9 = .ok (.getfield 54, 3) := by decide +kernel
theorem dX6_depth_12 : decode cX6_depth 12 = .ok (.iload_n 1, 1) := by decide +kernel
theorem dX6_depth_13 : decode cX6_depth 13 = .ok (.iaload, 1) := by decide +kernel
theorem dX6_depth_14 : decode cX6_depth 14 = .ok (.goto 4, 3) := by decide +kernel
theorem dX6_depth_17 : decode cX6_depth 17 = .ok (.iconst 0, 1) := by decide +kernel
theorem dX6_depth_18 : decode cX6_depth 18 = .ok (.ireturn, 1) := by decide +kernel
set_option maxRecDepth 20000 in
theorem ggX6_siteCount_X6_asks_ : GoodIn wsX6_siteCount wsX6_asks_ := goodIn_r _ [7, 8, 9, 10, 11, 12, 6, 13, 14, 15, 16, 17, 18, 19, 20, 21, 22, 23, 24, 25, 26, 27, 28, 29, 30, 31, 32, 33, 34, 35] (by decide +kernel) (by decide +kernel)
set_option maxRecDepth 20000 in
theorem gX6_siteCount_X6_asks_ : GoodIn wsX6_siteCount (wsV RX6 147 RX6 yX6_asks_ wsX6_asks_) := goodIn_app (goodIn_of _ (by decide +kernel)) ggX6_siteCount_X6_asks_
theorem dX6_siteCount_0 : decode cX6_siteCount 0 = .ok (.aload_n 0, 1) := by decide +kernel
theorem dX6_siteCount_1 : decode cX6_siteCount 1 = .ok (.iload_n 1, 1) := by decide +kernel
theorem dX6_siteCount_2 : decode cX6_siteCount 2 = .ok (.invokevirtual 147, 3) := by decide +kernel
theorem dX6_siteCount_5 : decode cX6_siteCount 5 = .ok (.ifCond .eq 17, 3) := by decide +kernel
theorem dX6_siteCount_8 : decode cX6_siteCount 8 = .ok (.aload_n 0, 1) := by decide +kernel
theorem dX6_siteCount_9 : decode cX6_siteCount 9 = .ok (.getfield 30, 3) := by decide +kernel
theorem dX6_siteCount_12 : decode cX6_siteCount 12 = .ok (.aload_n 0, 1) := by decide +kernel
theorem dX6_siteCount_13 : decode cX6_siteCount 13 = .ok (.getfield 45, 3) := by decide +kernel
theorem dX6_siteCount_16 : decode cX6_siteCount 16 = .ok (.iload_n 1, 1) := by decide +kernel
theorem dX6_siteCount_17 : decode cX6_siteCount 17 = .ok (.iaload, 1) := by decide +kernel
theorem dX6_siteCount_18 : decode cX6_siteCount 18 = .ok (.iaload, 1) := by decide +kernel
theorem dX6_siteCount_19 : decode cX6_siteCount 19 = .ok (.goto 4, 3) := by decide +kernel
theorem dX6_siteCount_22 : decode cX6_siteCount 22 = .ok (.iconst 0, 1) := by decide +kernel
theorem dX6_siteCount_23 : decode cX6_siteCount 23 = .ok (.ireturn, 1) := by decide +kernel
set_option maxRecDepth 20000 in
theorem ggX6_verdict_X6_asks__ : GoodIn wsX6_verdict wsX6_asks__ := goodIn_r _ [6, 7, 8, 9, 10, 11, 12, 5, 13, 14, 15, 16, 17, 18, 19, 20, 21, 22, 23, 24, 25, 26, 27, 28, 29, 30, 31, 32, 33, 34, 35, 36, 37, 38, 39, 40] (by decide +kernel) (by decide +kernel)
set_option maxRecDepth 20000 in
theorem gX6_verdict_X6_asks__ : GoodIn wsX6_verdict (wsV RX6 153 RX6 yX6_asks__ wsX6_asks__) := goodIn_app (goodIn_of _ (by decide +kernel)) ggX6_verdict_X6_asks__
theorem dX6_verdict_0 : decode cX6_verdict 0 = .ok (.aload_n 0, 1) := by decide +kernel
theorem dX6_verdict_1 : decode cX6_verdict 1 = .ok (.iload_n 1, 1) := by decide +kernel
theorem dX6_verdict_2 : decode cX6_verdict 2 = .ok (.iload_n 2, 1) := by decide +kernel
theorem dX6_verdict_3 : decode cX6_verdict 3 = .ok (.invokevirtual 153, 3) := by decide +kernel
theorem dX6_verdict_6 : decode cX6_verdict 6 = .ok (.ifCond .eq 17, 3) := by decide +kernel
theorem dX6_verdict_9 : decode cX6_verdict 9 = .ok (.aload_n 0, 1) := by decide +kernel
theorem dX6_verdict_10 : decode cX6_verdict 10 = .ok (.getfield 60, 3) := by decide +kernel
theorem dX6_verdict_13 : decode cX6_verdict 13 = .ok (.bipush 8, 2) := by decide +kernel
theorem dX6_verdict_15 : decode cX6_verdict 15 = .ok (.iload_n 1, 1) := by decide +kernel
theorem dX6_verdict_16 : decode cX6_verdict 16 = .ok (.imul, 1) := by decide +kernel
theorem dX6_verdict_17 : decode cX6_verdict 17 = .ok (.iload_n 2, 1) := by decide +kernel
theorem dX6_verdict_18 : decode cX6_verdict 18 = .ok (.iadd, 1) := by decide +kernel
theorem dX6_verdict_19 : decode cX6_verdict 19 = .ok (.iaload, 1) := by decide +kernel
theorem dX6_verdict_20 : decode cX6_verdict 20 = .ok (.goto 4, 3) := by decide +kernel
theorem dX6_verdict_23 : decode cX6_verdict 23 = .ok (.iconst 0, 1) := by decide +kernel
theorem dX6_verdict_24 : decode cX6_verdict 24 = .ok (.ireturn, 1) := by decide +kernel
set_option maxRecDepth 20000 in
theorem ggX6_weight_X6_asks__ : GoodIn wsX6_weight wsX6_asks__ := goodIn_r _ [6, 7, 8, 9, 10, 11, 12, 5, 13, 14, 15, 16, 17, 18, 19, 20, 21, 22, 23, 24, 25, 26, 27, 28, 29, 30, 31, 32, 33, 34, 35, 36, 37, 38, 39, 40] (by decide +kernel) (by decide +kernel)
set_option maxRecDepth 20000 in
theorem gX6_weight_X6_asks__ : GoodIn wsX6_weight (wsV RX6 153 RX6 yX6_asks__ wsX6_asks__) := goodIn_app (goodIn_of _ (by decide +kernel)) ggX6_weight_X6_asks__
theorem dX6_weight_0 : decode cX6_weight 0 = .ok (.aload_n 0, 1) := by decide +kernel
theorem dX6_weight_1 : decode cX6_weight 1 = .ok (.iload_n 1, 1) := by decide +kernel
theorem dX6_weight_2 : decode cX6_weight 2 = .ok (.iload_n 2, 1) := by decide +kernel
theorem dX6_weight_3 : decode cX6_weight 3 = .ok (.invokevirtual 153, 3) := by decide +kernel
theorem dX6_weight_6 : decode cX6_weight 6 = .ok (.ifCond .eq 17, 3) := by decide +kernel
theorem dX6_weight_9 : decode cX6_weight 9 = .ok (.aload_n 0, 1) := by decide +kernel
theorem dX6_weight_10 : decode cX6_weight 10 = .ok (.getfield 63, 3) := by decide +kernel
theorem dX6_weight_13 : decode cX6_weight 13 = .ok (.bipush 8, 2) := by decide +kernel
theorem dX6_weight_15 : decode cX6_weight 15 = .ok (.iload_n 1, 1) := by decide +kernel
theorem dX6_weight_16 : decode cX6_weight 16 = .ok (.imul, 1) := by decide +kernel
theorem dX6_weight_17 : decode cX6_weight 17 = .ok (.iload_n 2, 1) := by decide +kernel
theorem dX6_weight_18 : decode cX6_weight 18 = .ok (.iadd, 1) := by decide +kernel
theorem dX6_weight_19 : decode cX6_weight 19 = .ok (.iaload, 1) := by decide +kernel
theorem dX6_weight_20 : decode cX6_weight 20 = .ok (.goto 4, 3) := by decide +kernel
theorem dX6_weight_23 : decode cX6_weight 23 = .ok (.iconst 0, 1) := by decide +kernel
theorem dX6_weight_24 : decode cX6_weight 24 = .ok (.ireturn, 1) := by decide +kernel
theorem dX6_sum_0 : decode cX6_sum 0 = .ok (.lconst 0, 1) := by decide +kernel
theorem dX6_sum_1 : decode cX6_sum 1 = .ok (.lstore_n 2, 1) := by decide +kernel
theorem dX6_sum_2 : decode cX6_sum 2 = .ok (.iconst 0, 1) := by decide +kernel
theorem dX6_sum_3 : decode cX6_sum 3 = .ok (.istore 4, 2) := by decide +kernel
theorem dX6_sum_5 : decode cX6_sum 5 = .ok (.iload 4, 2) := by decide +kernel
theorem dX6_sum_7 : decode cX6_sum 7 = .ok (.aload_n 0, 1) := by decide +kernel
theorem dX6_sum_8 : decode cX6_sum 8 = .ok (.getfield 118, 3) := by decide +kernel
theorem dX6_sum_11 : decode cX6_sum 11 = .ok (.if_icmp .ge 73, 3) := by decide +kernel
theorem dX6_sum_14 : decode cX6_sum 14 = .ok (.iconst 0, 1) := by decide +kernel
theorem dX6_sum_15 : decode cX6_sum 15 = .ok (.istore 5, 2) := by decide +kernel
theorem dX6_sum_17 : decode cX6_sum 17 = .ok (.iload 5, 2) := by decide +kernel
theorem dX6_sum_19 : decode cX6_sum 19 = .ok (.aload_n 0, 1) := by decide +kernel
theorem dX6_sum_20 : decode cX6_sum 20 = .ok (.getfield 30, 3) := by decide +kernel
theorem dX6_sum_23 : decode cX6_sum 23 = .ok (.aload_n 0, 1) := by decide +kernel
theorem dX6_sum_24 : decode cX6_sum 24 = .ok (.getfield 45, 3) := by decide +kernel
theorem dX6_sum_27 : decode cX6_sum 27 = .ok (.iload 4, 2) := by decide +kernel
theorem dX6_sum_29 : decode cX6_sum 29 = .ok (.iaload, 1) := by decide +kernel
theorem dX6_sum_30 : decode cX6_sum 30 = .ok (.iaload, 1) := by decide +kernel
theorem dX6_sum_31 : decode cX6_sum 31 = .ok (.if_icmp .ge 47, 3) := by decide +kernel
theorem dX6_sum_34 : decode cX6_sum 34 = .ok (.lload_n 2, 1) := by decide +kernel
theorem dX6_sum_35 : decode cX6_sum 35 = .ok (.aload_n 0, 1) := by decide +kernel
theorem dX6_sum_36 : decode cX6_sum 36 = .ok (.getfield 60, 3) := by decide +kernel
theorem dX6_sum_39 : decode cX6_sum 39 = .ok (.bipush 8, 2) := by decide +kernel
theorem dX6_sum_41 : decode cX6_sum 41 = .ok (.iload 4, 2) := by decide +kernel
theorem dX6_sum_43 : decode cX6_sum 43 = .ok (.imul, 1) := by decide +kernel
theorem dX6_sum_44 : decode cX6_sum 44 = .ok (.iload 5, 2) := by decide +kernel
theorem dX6_sum_46 : decode cX6_sum 46 = .ok (.iadd, 1) := by decide +kernel
theorem dX6_sum_47 : decode cX6_sum 47 = .ok (.iaload, 1) := by decide +kernel
theorem dX6_sum_48 : decode cX6_sum 48 = .ok (.iload_n 1, 1) := by decide +kernel
theorem dX6_sum_49 : decode cX6_sum 49 = .ok (.if_icmp .ne 20, 3) := by decide +kernel
theorem dX6_sum_52 : decode cX6_sum 52 = .ok (.aload_n 0, 1) := by decide +kernel
theorem dX6_sum_53 : decode cX6_sum 53 = .ok (.getfield 63, 3) := by decide +kernel
theorem dX6_sum_56 : decode cX6_sum 56 = .ok (.bipush 8, 2) := by decide +kernel
theorem dX6_sum_58 : decode cX6_sum 58 = .ok (.iload 4, 2) := by decide +kernel
theorem dX6_sum_60 : decode cX6_sum 60 = .ok (.imul, 1) := by decide +kernel
theorem dX6_sum_61 : decode cX6_sum 61 = .ok (.iload 5, 2) := by decide +kernel
theorem dX6_sum_63 : decode cX6_sum 63 = .ok (.iadd, 1) := by decide +kernel
theorem dX6_sum_64 : decode cX6_sum 64 = .ok (.iaload, 1) := by decide +kernel
theorem dX6_sum_65 : decode cX6_sum 65 = .ok (.i2l, 1) := by decide +kernel
theorem dX6_sum_66 : decode cX6_sum 66 = .ok (.goto 4, 3) := by decide +kernel
theorem dX6_sum_69 : decode cX6_sum 69 = .ok (.lconst 0, 1) := by decide +kernel
theorem dX6_sum_70 : decode cX6_sum 70 = .ok (.ladd, 1) := by decide +kernel
theorem dX6_sum_71 : decode cX6_sum 71 = .ok (.lstore_n 2, 1) := by decide +kernel
theorem dX6_sum_72 : decode cX6_sum 72 = .ok (.iinc 5 1, 3) := by decide +kernel
theorem dX6_sum_75 : decode cX6_sum 75 = .ok (.goto (-58), 3) := by decide +kernel
theorem dX6_sum_78 : decode cX6_sum 78 = .ok (.iinc 4 1, 3) := by decide +kernel
theorem dX6_sum_81 : decode cX6_sum 81 = .ok (.goto (-76), 3) := by decide +kernel
theorem dX6_sum_84 : decode cX6_sum 84 = .ok (.lload_n 2, 1) := by decide +kernel
theorem dX6_sum_85 : decode cX6_sum 85 = .ok (.lreturn, 1) := by decide +kernel
set_option maxRecDepth 20000 in
theorem ggX6_weightOf_X6_isIn : GoodIn wsX6_weightOf wsX6_isIn := goodIn_r _ [6] (by decide +kernel) (by decide +kernel)
set_option maxRecDepth 20000 in
theorem gX6_weightOf_X6_isIn : GoodIn wsX6_weightOf (va_wsS RX6 69 yX6_isIn wsX6_isIn) := goodIn_app (goodIn_of _ (by decide +kernel)) ggX6_weightOf_X6_isIn
set_option maxRecDepth 20000 in
theorem ggX6_weightOf_X6_sum : GoodIn wsX6_weightOf wsX6_sum := goodIn_r _ [10, 11, 12, 13, 14, 15, 16, 17, 18, 19, 20, 21, 22, 23, 24, 25, 26, 27, 28, 29, 30, 31, 32, 33, 34, 35, 36, 37] (by decide +kernel) (by decide +kernel)
set_option maxRecDepth 20000 in
theorem gX6_weightOf_X6_sum : GoodIn wsX6_weightOf (wsV RX6 155 RX6 yX6_sum wsX6_sum) := goodIn_app (goodIn_of _ (by decide +kernel)) ggX6_weightOf_X6_sum
theorem dX6_weightOf_0 : decode cX6_weightOf 0 = .ok (.aload_n 0, 1) := by decide +kernel
theorem dX6_weightOf_1 : decode cX6_weightOf 1 = .ok (.aload_n 0, 1) := by decide +kernel
theorem dX6_weightOf_2 : decode cX6_weightOf 2 = .ok (.getfield 98, 3) := by decide +kernel
theorem dX6_weightOf_5 : decode cX6_weightOf 5 = .ok (.ifCond .ne 7, 3) := by decide +kernel
theorem dX6_weightOf_8 : decode cX6_weightOf 8 = .ok (.iconst 1, 1) := by decide +kernel
theorem dX6_weightOf_9 : decode cX6_weightOf 9 = .ok (.goto 18, 3) := by decide +kernel
theorem dX6_weightOf_12 : decode cX6_weightOf 12 = .ok (.iload_n 1, 1) := by decide +kernel
theorem dX6_weightOf_13 : decode cX6_weightOf 13 = .ok (.iconst 0, 1) := by decide +kernel
theorem dX6_weightOf_14 : decode cX6_weightOf 14 = .ok (.bipush 7, 2) := by decide +kernel
theorem dX6_weightOf_16 : decode cX6_weightOf 16 = .ok (.invokestatic 69, 3) := by decide +kernel
theorem dX6_weightOf_19 : decode cX6_weightOf 19 = .ok (.ifCond .ne 7, 3) := by decide +kernel
theorem dX6_weightOf_22 : decode cX6_weightOf 22 = .ok (.iconst 2, 1) := by decide +kernel
theorem dX6_weightOf_23 : decode cX6_weightOf 23 = .ok (.goto 4, 3) := by decide +kernel
theorem dX6_weightOf_26 : decode cX6_weightOf 26 = .ok (.iconst 0, 1) := by decide +kernel
theorem dX6_weightOf_27 : decode cX6_weightOf 27 = .ok (.putfield 66, 3) := by decide +kernel
theorem dX6_weightOf_30 : decode cX6_weightOf 30 = .ok (.aload_n 0, 1) := by decide +kernel
theorem dX6_weightOf_31 : decode cX6_weightOf 31 = .ok (.getfield 66, 3) := by decide +kernel
theorem dX6_weightOf_34 : decode cX6_weightOf 34 = .ok (.ifCond .ne 11, 3) := by decide +kernel
theorem dX6_weightOf_37 : decode cX6_weightOf 37 = .ok (.aload_n 0, 1) := by decide +kernel
theorem dX6_weightOf_38 : decode cX6_weightOf 38 = .ok (.iload_n 1, 1) := by decide +kernel
theorem dX6_weightOf_39 : decode cX6_weightOf 39 = .ok (.invokevirtual 155, 3) := by decide +kernel
theorem dX6_weightOf_42 : decode cX6_weightOf 42 = .ok (.goto 4, 3) := by decide +kernel
theorem dX6_weightOf_45 : decode cX6_weightOf 45 = .ok (.lconst 0, 1) := by decide +kernel
theorem dX6_weightOf_46 : decode cX6_weightOf 46 = .ok (.lreturn, 1) := by decide +kernel
set_option maxRecDepth 20000 in
theorem ggX6_share_X6_asks : GoodIn wsX6_share wsX6_asks := goodIn_r _ [5, 6, 7, 17, 18, 19, 20, 21, 22, 23, 24, 25, 26, 27, 28, 29, 30, 31, 32, 33, 34, 35, 36, 37, 38] (by decide +kernel) (by decide +kernel)
set_option maxRecDepth 20000 in
theorem gX6_share_X6_asks : GoodIn wsX6_share (wsV RX6 150 RX6 yX6_asks wsX6_asks) := goodIn_app (goodIn_of _ (by decide +kernel)) ggX6_share_X6_asks
set_option maxRecDepth 20000 in
theorem ggX6_share_X6_sum : GoodIn wsX6_share wsX6_sum := goodIn_r _ [11, 12, 13, 14, 15, 16, 17, 18, 19, 20, 21, 22, 23, 24, 25, 26, 27, 28, 29, 30, 31, 32, 33, 34, 35, 36, 37, 38] (by decide +kernel) (by decide +kernel)
set_option maxRecDepth 20000 in
theorem gX6_share_X6_sum : GoodIn wsX6_share (wsV RX6 155 RX6 yX6_sum wsX6_sum) := goodIn_app (goodIn_of _ (by decide +kernel)) ggX6_share_X6_sum
theorem dX6_share_0 : decode cX6_share 0 = .ok (.aload_n 0, 1) := by decide +kernel
theorem dX6_share_1 : decode cX6_share 1 = .ok (.invokevirtual 150, 3) := by decide +kernel
theorem dX6_share_4 : decode cX6_share 4 = .ok (.ifCond .ne 5, 3) := by decide +kernel
theorem dX6_share_7 : decode cX6_share 7 = .ok (.dconst 0, 1) := by decide +kernel
theorem dX6_share_8 : decode cX6_share 8 = .ok (.dreturn, 1) := by decide +kernel
theorem dX6_share_9 : decode cX6_share 9 = .ok (.lconst 0, 1) := by decide +kernel
theorem dX6_share_10 : decode cX6_share 10 = .ok (.lstore_n 1, 1) := by decide +kernel
theorem dX6_share_11 : decode cX6_share 11 = .ok (.iconst 0, 1) := by decide +kernel
theorem dX6_share_12 : decode cX6_share 12 = .ok (.istore_n 3, 1) := by decide +kernel
theorem dX6_share_13 : decode cX6_share 13 = .ok (.iload_n 3, 1) := by decide +kernel
theorem dX6_share_14 : decode cX6_share 14 = .ok (.bipush 7, 2) := by decide +kernel
theorem dX6_share_16 : decode cX6_share 16 = .ok (.if_icmp .gt 17, 3) := by decide +kernel
theorem dX6_share_19 : decode cX6_share 19 = .ok (.lload_n 1, 1) := by decide +kernel
theorem dX6_share_20 : decode cX6_share 20 = .ok (.aload_n 0, 1) := by decide +kernel
theorem dX6_share_21 : decode cX6_share 21 = .ok (.iload_n 3, 1) := by decide +kernel
theorem dX6_share_22 : decode cX6_share 22 = .ok (.invokevirtual 155, 3) := by decide +kernel
theorem dX6_share_25 : decode cX6_share 25 = .ok (.ladd, 1) := by decide +kernel
theorem dX6_share_26 : decode cX6_share 26 = .ok (.lstore_n 1, 1) := by decide +kernel
theorem dX6_share_27 : decode cX6_share 27 = .ok (.iinc 3 1, 3) := by decide +kernel
theorem dX6_share_30 : decode cX6_share 30 = .ok (.goto (-17), 3) := by decide +kernel
theorem dX6_share_33 : decode cX6_share 33 = .ok (.lload_n 1, 1) := by decide +kernel
theorem dX6_share_34 : decode cX6_share 34 = .ok (.lconst 0, 1) := by decide +kernel
theorem dX6_share_35 : decode cX6_share 35 = .ok (.lcmp, 1) := by decide +kernel
theorem dX6_share_36 : decode cX6_share 36 = .ok (.ifCond .ne 7, 3) := by decide +kernel
theorem dX6_share_39 : decode cX6_share 39 = .ok (.dconst 1, 1) := by decide +kernel
theorem dX6_share_40 : decode cX6_share 40 = .ok (.goto 12, 3) := by decide +kernel
theorem dX6_share_43 : decode cX6_share 43 = .ok (.aload_n 0, 1) := by decide +kernel
theorem dX6_share_44 : decode cX6_share 44 = .ok (.iconst 0, 1) := by decide +kernel
theorem dX6_share_45 : decode cX6_share 45 = .ok (.invokevirtual 155, 3) := by decide +kernel
theorem dX6_share_48 : decode cX6_share 48 = .ok (.l2d, 1) := by decide +kernel
theorem dX6_share_49 : decode cX6_share 49 = .ok (.lload_n 1, 1) := by decide +kernel
theorem dX6_share_50 : decode cX6_share 50 = .ok (.l2d, 1) := by decide +kernel
theorem dX6_share_51 : decode cX6_share 51 = .ok (.ddiv, 1) := by decide +kernel
theorem dX6_share_52 : decode cX6_share 52 = .ok (.dreturn, 1) := by decide +kernel
set_option maxRecDepth 20000 in
theorem ggX6_isHolding_X6_targetsOf : GoodIn wsX6_isHolding wsX6_targetsOf := goodIn_r _ [8, 3, 9, 10, 11, 7, 12, 13, 14, 15, 16, 17, 18, 19, 20, 21, 22, 23, 24, 25, 26, 27, 28, 29, 30, 31, 32, 33, 34, 35, 36, 37, 38, 39, 40, 41, 42, 43, 44, 45, 46, 47, 48, 49, 50, 51, 52, 53, 54, 55, 56, 57] (by decide +kernel) (by decide +kernel)
set_option maxRecDepth 20000 in
theorem gX6_isHolding_X6_targetsOf : GoodIn wsX6_isHolding (wsV RX6 121 RX6 yX6_targetsOf wsX6_targetsOf) := goodIn_app (goodIn_of _ (by decide +kernel)) ggX6_isHolding_X6_targetsOf
theorem dX6_isHolding_0 : decode cX6_isHolding 0 = .ok (.iload_n 1, 1) := by decide +kernel
theorem dX6_isHolding_1 : decode cX6_isHolding 1 = .ok (.ifCond .eq 30, 3) := by decide +kernel
theorem dX6_isHolding_4 : decode cX6_isHolding 4 = .ok (.aload_n 0, 1) := by decide +kernel
theorem dX6_isHolding_5 : decode cX6_isHolding 5 = .ok (.aload_n 0, 1) := by decide +kernel
theorem dX6_isHolding_6 : decode cX6_isHolding 6 = .ok (.getfield 48, 3) := by decide +kernel
theorem dX6_isHolding_9 : decode cX6_isHolding 9 = .ok (.iload_n 1, 1) := by decide +kernel
theorem dX6_isHolding_10 : decode cX6_isHolding 10 = .ok (.iaload, 1) := by decide +kernel
theorem dX6_isHolding_11 : decode cX6_isHolding 11 = .ok (.aload_n 0, 1) := by decide +kernel
theorem dX6_isHolding_12 : decode cX6_isHolding 12 = .ok (.getfield 51, 3) := by decide +kernel
theorem dX6_isHolding_15 : decode cX6_isHolding 15 = .ok (.iload_n 1, 1) := by decide +kernel
theorem dX6_isHolding_16 : decode cX6_isHolding 16 = .ok (.iaload, 1) := by decide +kernel
theorem dX6_isHolding_17 : decode cX6_isHolding 17 = .ok (.invokevirtual 121, 3) := by decide +kernel
theorem dX6_isHolding_20 : decode cX6_isHolding 20 = .ok (.iconst 1, 1) := by decide +kernel
theorem dX6_isHolding_21 : decode cX6_isHolding 21 = .ok (.aload_n 0, 1) := by decide +kernel
theorem dX6_isHolding_22 : decode cX6_isHolding 22 = .ok (.getfield 45, 3) := by decide +kernel
theorem dX6_isHolding_25 : decode cX6_isHolding 25 = .ok (.iload_n 1, 1) := by decide +kernel
theorem dX6_isHolding_26 : decode cX6_isHolding 26 = .ok (.iaload, 1) := by decide +kernel
theorem dX6_isHolding_27 : decode cX6_isHolding 27 = .ok (.ishl, 1) := by decide +kernel
theorem dX6_isHolding_28 : decode cX6_isHolding 28 = .ok (.if_icmp .ne 7, 3) := by decide +kernel
theorem dX6_isHolding_31 : decode cX6_isHolding 31 = .ok (.iconst 1, 1) := by decide +kernel
theorem dX6_isHolding_32 : decode cX6_isHolding 32 = .ok (.goto 4, 3) := by decide +kernel
theorem dX6_isHolding_35 : decode cX6_isHolding 35 = .ok (.iconst 0, 1) := by decide +kernel
theorem dX6_isHolding_36 : decode cX6_isHolding 36 = .ok (.ireturn, 1) := by decide +kernel
set_option maxRecDepth 20000 in
theorem ggX6_holds_X6_asks_ : GoodIn wsX6_holds wsX6_asks_ := goodIn_r _ [5, 6, 7, 8, 9, 10, 4, 11, 50, 51, 52, 53, 54, 55, 56, 57, 58, 59, 60, 61, 62, 63, 64, 65, 66, 67, 68, 69, 70, 71] (by decide +kernel) (by decide +kernel)
set_option maxRecDepth 20000 in
theorem gX6_holds_X6_asks_ : GoodIn wsX6_holds (wsV RX6 147 RX6 yX6_asks_ wsX6_asks_) := goodIn_app (goodIn_of _ (by decide +kernel)) ggX6_holds_X6_asks_
set_option maxRecDepth 20000 in
theorem ggX6_holds_X6_isHolding : GoodIn wsX6_holds wsX6_isHolding := goodIn_r _ [15, 16, 17, 18, 19, 20, 21, 4, 22, 23, 24, 25, 26, 27, 28, 29, 30, 31, 32, 33, 34, 35, 36, 37, 38, 39, 40, 41, 42, 43, 44, 45, 46, 47, 48, 49, 50, 51, 52, 53, 54, 55, 56, 57, 58, 59, 60, 61, 62, 63, 64, 65, 66, 67, 68, 69, 70, 71] (by decide +kernel) (by decide +kernel)
set_option maxRecDepth 20000 in
theorem gX6_holds_X6_isHolding : GoodIn wsX6_holds (wsV RX6 159 RX6 yX6_isHolding wsX6_isHolding) := goodIn_app (goodIn_of _ (by decide +kernel)) ggX6_holds_X6_isHolding
theorem dX6_holds_0 : decode cX6_holds 0 = .ok (.aload_n 0, 1) := by decide +kernel
theorem dX6_holds_1 : decode cX6_holds 1 = .ok (.iload_n 1, 1) := by decide +kernel
theorem dX6_holds_2 : decode cX6_holds 2 = .ok (.invokevirtual 147, 3) := by decide +kernel
theorem dX6_holds_5 : decode cX6_holds 5 = .ok (.ifCond .eq 15, 3) := by decide +kernel
theorem dX6_holds_8 : decode cX6_holds 8 = .ok (.aload_n 0, 1) := by decide +kernel
theorem dX6_holds_9 : decode cX6_holds 9 = .ok (.iload_n 1, 1) := by decide +kernel
theorem dX6_holds_10 : decode cX6_holds 10 = .ok (.invokevirtual 159, 3) := by decide +kernel
theorem dX6_holds_13 : decode cX6_holds 13 = .ok (.ifCond .eq 7, 3) := by decide +kernel
theorem dX6_holds_16 : decode cX6_holds 16 = .ok (.iconst 1, 1) := by decide +kernel
theorem dX6_holds_17 : decode cX6_holds 17 = .ok (.goto 4, 3) := by decide +kernel
theorem dX6_holds_20 : decode cX6_holds 20 = .ok (.iconst 0, 1) := by decide +kernel
theorem dX6_holds_21 : decode cX6_holds 21 = .ok (.ireturn, 1) := by decide +kernel
set_option maxRecDepth 20000 in
theorem ggX6_firstBroken_X6_asks : GoodIn wsX6_firstBroken wsX6_asks := goodIn_r _ [6, 7, 8, 47, 48, 49, 50, 51, 52, 53, 54, 55, 56, 57, 58, 59, 60, 61, 62, 63, 64, 65, 66, 67, 68] (by decide +kernel) (by decide +kernel)
set_option maxRecDepth 20000 in
theorem gX6_firstBroken_X6_asks : GoodIn wsX6_firstBroken (wsV RX6 150 RX6 yX6_asks wsX6_asks) := goodIn_app (goodIn_of _ (by decide +kernel)) ggX6_firstBroken_X6_asks
set_option maxRecDepth 20000 in
theorem ggX6_firstBroken_X6_isHolding : GoodIn wsX6_firstBroken wsX6_isHolding := goodIn_r _ [12, 13, 14, 15, 16, 17, 18, 5, 19, 20, 21, 22, 23, 24, 25, 26, 27, 28, 29, 30, 31, 32, 33, 34, 35, 36, 37, 38, 39, 40, 41, 42, 43, 44, 45, 46, 47, 48, 49, 50, 51, 52, 53, 54, 55, 56, 57, 58, 59, 60, 61, 62, 63, 64, 65, 66, 67, 68] (by decide +kernel) (by decide +kernel)
set_option maxRecDepth 20000 in
theorem gX6_firstBroken_X6_isHolding : GoodIn wsX6_firstBroken (wsV RX6 159 RX6 yX6_isHolding wsX6_isHolding) := goodIn_app (goodIn_of _ (by decide +kernel)) ggX6_firstBroken_X6_isHolding
theorem dX6_firstBroken_0 : decode cX6_firstBroken 0 = .ok (.aload_n 0, 1) := by decide +kernel
theorem dX6_firstBroken_1 : decode cX6_firstBroken 1 = .ok (.invokevirtual 150, 3) := by decide +kernel
theorem dX6_firstBroken_4 : decode cX6_firstBroken 4 = .ok (.ifCond .ne 5, 3) := by decide +kernel
theorem dX6_firstBroken_7 : decode cX6_firstBroken 7 = .ok (.iconst 0, 1) := by decide +kernel
theorem dX6_firstBroken_8 : decode cX6_firstBroken 8 = .ok (.ireturn, 1) := by decide +kernel
theorem dX6_firstBroken_9 : decode cX6_firstBroken 9 = .ok (.iconst 0, 1) := by decide +kernel
theorem dX6_firstBroken_10 : decode cX6_firstBroken 10 = .ok (.istore_n 1, 1) := by decide +kernel
theorem dX6_firstBroken_11 : decode cX6_firstBroken 11 = .ok (.iload_n 1, 1) := by decide +kernel
theorem dX6_firstBroken_12 : decode cX6_firstBroken 12 = .ok (.aload_n 0, 1) := by decide +kernel
theorem dX6_firstBroken_13 : decode cX6_firstBroken 13 = .ok (.getfield 118, 3) := by decide +kernel
theorem dX6_firstBroken_16 : decode cX6_firstBroken 16 = .ok (.if_icmp .ge 19, 3) := by decide +kernel
theorem dX6_firstBroken_19 : decode cX6_firstBroken 19 = .ok (.aload_n 0, 1) := by decide +kernel
theorem dX6_firstBroken_20 : decode cX6_firstBroken 20 = .ok (.iload_n 1, 1) := by decide +kernel
theorem dX6_firstBroken_21 : decode cX6_firstBroken 21 = .ok (.invokevirtual 159, 3) := by decide +kernel
theorem dX6_firstBroken_24 : decode cX6_firstBroken 24 = .ok (.ifCond .ne 5, 3) := by decide +kernel
theorem dX6_firstBroken_27 : decode cX6_firstBroken 27 = .ok (.iload_n 1, 1) := by decide +kernel
theorem dX6_firstBroken_28 : decode cX6_firstBroken 28 = .ok (.ireturn, 1) := by decide +kernel
theorem dX6_firstBroken_29 : decode cX6_firstBroken 29 = .ok (.iinc 1 1, 3) := by decide +kernel
theorem dX6_firstBroken_32 : decode cX6_firstBroken 32 = .ok (.goto (-21), 3) := by decide +kernel
theorem dX6_firstBroken_35 : decode cX6_firstBroken 35 = .ok (.iconst (-1), 1) := by decide +kernel
theorem dX6_firstBroken_36 : decode cX6_firstBroken 36 = .ok (.ireturn, 1) := by decide +kernel
set_option maxRecDepth 20000 in
theorem ggX6_prune_X6_asks : GoodIn wsX6_prune wsX6_asks := goodIn_r _ [10, 11, 12, 56, 57, 58, 59, 60, 61, 62, 63, 64, 65, 66, 67, 68, 69, 70, 71, 72, 73, 74, 75, 76, 77] (by decide +kernel) (by decide +kernel)
set_option maxRecDepth 20000 in
theorem gX6_prune_X6_asks : GoodIn wsX6_prune (wsV RX6 150 RX6 yX6_asks wsX6_asks) := goodIn_app (goodIn_of _ (by decide +kernel)) ggX6_prune_X6_asks
set_option maxRecDepth 20000 in
theorem ggX6_prune_X6_isHolding : GoodIn wsX6_prune wsX6_isHolding := goodIn_r _ [16, 3, 5, 17, 18, 19, 20, 9, 21, 22, 23, 24, 25, 26, 27, 28, 29, 30, 31, 32, 33, 34, 35, 36, 37, 38, 39, 40, 41, 42, 43, 44, 45, 46, 47, 48, 56, 57, 58, 59, 60, 61, 62, 63, 64, 65, 66, 67, 68, 69, 70, 71, 72, 73, 74, 75, 76, 77] (by decide +kernel) (by decide +kernel)
set_option maxRecDepth 20000 in
theorem gX6_prune_X6_isHolding : GoodIn wsX6_prune (wsV RX6 159 RX6 yX6_isHolding wsX6_isHolding) := goodIn_app (goodIn_of _ (by decide +kernel)) ggX6_prune_X6_isHolding
set_option maxRecDepth 20000 in
theorem ggX6_prune_X6_move : GoodIn wsX6_prune wsX6_move := goodIn_r _ [52, 17, 53, 54, 5, 3, 4, 55, 56, 57, 58, 59, 60, 61, 62, 63, 64, 65, 66, 67, 68, 69, 70, 71, 72, 73, 74, 75, 76, 77] (by decide +kernel) (by decide +kernel)
set_option maxRecDepth 20000 in
theorem gX6_prune_X6_move : GoodIn wsX6_prune (wsV RX6 162 RX6 yX6_move wsX6_move) := goodIn_app (goodIn_of _ (by decide +kernel)) ggX6_prune_X6_move
theorem dX6_prune_0 : decode cX6_prune 0 = .ok (.aload_n 0, 1) := by decide +kernel
theorem dX6_prune_1 : decode cX6_prune 1 = .ok (.invokevirtual 150, 3) := by decide +kernel
theorem dX6_prune_4 : decode cX6_prune 4 = .ok (.ifCond .ne 5, 3) := by decide +kernel
theorem dX6_prune_7 : decode cX6_prune 7 = .ok (.iconst 0, 1) := by decide +kernel
theorem dX6_prune_8 : decode cX6_prune 8 = .ok (.ireturn, 1) := by decide +kernel
theorem dX6_prune_9 : decode cX6_prune 9 = .ok (.bipush 50, 2) := by decide +kernel
theorem dX6_prune_11 : decode cX6_prune 11 = .ok (.newarray .int, 2) := by decide +kernel
theorem dX6_prune_13 : decode cX6_prune 13 = .ok (.astore_n 1, 1) := by decide +kernel
theorem dX6_prune_14 : decode cX6_prune 14 = .ok (.iconst 0, 1) := by decide +kernel
theorem dX6_prune_15 : decode cX6_prune 15 = .ok (.istore_n 2, 1) := by decide +kernel
theorem dX6_prune_16 : decode cX6_prune 16 = .ok (.iconst 0, 1) := by decide +kernel
theorem dX6_prune_17 : decode cX6_prune 17 = .ok (.istore_n 3, 1) := by decide +kernel
theorem dX6_prune_18 : decode cX6_prune 18 = .ok (.iload_n 3, 1) := by decide +kernel
theorem dX6_prune_19 : decode cX6_prune 19 = .ok (.aload_n 0, 1) := by decide +kernel
theorem dX6_prune_20 : decode cX6_prune 20 = .ok (.getfield 118, 3) := by decide +kernel
theorem dX6_prune_23 : decode cX6_prune 23 = .ok (.if_icmp .ge 66, 3) := by decide +kernel
theorem dX6_prune_26 : decode cX6_prune 26 = .ok (.iload_n 3, 1) := by decide +kernel
theorem dX6_prune_27 : decode cX6_prune 27 = .ok (.ifCond .eq 23, 3) := by decide +kernel
theorem dX6_prune_30 : decode cX6_prune 30 = .ok (.aload_n 0, 1) := by decide +kernel
theorem dX6_prune_31 : decode cX6_prune 31 = .ok (.iload_n 3, 1) := by decide +kernel
theorem dX6_prune_32 : decode cX6_prune 32 = .ok (.invokevirtual 159, 3) := by decide +kernel
theorem dX6_prune_35 : decode cX6_prune 35 = .ok (.ifCond .eq 19, 3) := by decide +kernel
theorem dX6_prune_38 : decode cX6_prune 38 = .ok (.aload_n 1, 1) := by decide +kernel
theorem dX6_prune_39 : decode cX6_prune 39 = .ok (.aload_n 0, 1) := by decide +kernel
theorem dX6_prune_40 : decode cX6_prune 40 = .ok (.getfield 48, 3) := by decide +kernel
theorem dX6_prune_43 : decode cX6_prune 43 = .ok (.iload_n 3, 1) := by decide +kernel
theorem dX6_prune_44 : decode cX6_prune 44 = .ok (.iaload, 1) := by decide +kernel
theorem dX6_prune_45 : decode cX6_prune 45 = .ok (.iaload, 1) := by decide +kernel
theorem dX6_prune_46 : decode cX6_prune 46 = .ok (.iconst (-1), 1) := by decide +kernel
theorem dX6_prune_47 : decode cX6_prune 47 = .ok (.if_icmp .eq 7, 3) := by decide +kernel
theorem dX6_prune_50 : decode cX6_prune 50 = .ok (.iconst 1, 1) := by decide +kernel
theorem dX6_prune_51 : decode cX6_prune 51 = .ok (.goto 4, 3) := by decide +kernel
theorem dX6_prune_54 : decode cX6_prune 54 = .ok (.iconst 0, 1) := by decide +kernel
theorem dX6_prune_55 : decode cX6_prune 55 = .ok (.istore 4, 2) := by decide +kernel
theorem dX6_prune_57 : decode cX6_prune 57 = .ok (.aload_n 1, 1) := by decide +kernel
theorem dX6_prune_58 : decode cX6_prune 58 = .ok (.iload_n 3, 1) := by decide +kernel
theorem dX6_prune_59 : decode cX6_prune 59 = .ok (.iload 4, 2) := by decide +kernel
theorem dX6_prune_61 : decode cX6_prune 61 = .ok (.ifCond .eq 7, 3) := by decide +kernel
theorem dX6_prune_64 : decode cX6_prune 64 = .ok (.iload_n 2, 1) := by decide +kernel
theorem dX6_prune_65 : decode cX6_prune 65 = .ok (.goto 4, 3) := by decide +kernel
theorem dX6_prune_68 : decode cX6_prune 68 = .ok (.iconst (-1), 1) := by decide +kernel
theorem dX6_prune_69 : decode cX6_prune 69 = .ok (.iastore, 1) := by decide +kernel
theorem dX6_prune_70 : decode cX6_prune 70 = .ok (.iload_n 2, 1) := by decide +kernel
theorem dX6_prune_71 : decode cX6_prune 71 = .ok (.iload 4, 2) := by decide +kernel
theorem dX6_prune_73 : decode cX6_prune 73 = .ok (.ifCond .eq 7, 3) := by decide +kernel
theorem dX6_prune_76 : decode cX6_prune 76 = .ok (.iconst 1, 1) := by decide +kernel
theorem dX6_prune_77 : decode cX6_prune 77 = .ok (.goto 4, 3) := by decide +kernel
theorem dX6_prune_80 : decode cX6_prune 80 = .ok (.iconst 0, 1) := by decide +kernel
theorem dX6_prune_81 : decode cX6_prune 81 = .ok (.iadd, 1) := by decide +kernel
theorem dX6_prune_82 : decode cX6_prune 82 = .ok (.istore_n 2, 1) := by decide +kernel
theorem dX6_prune_83 : decode cX6_prune 83 = .ok (.iinc 3 1, 3) := by decide +kernel
theorem dX6_prune_86 : decode cX6_prune 86 = .ok (.goto (-68), 3) := by decide +kernel
theorem dX6_prune_89 : decode cX6_prune 89 = .ok (.iconst 1, 1) := by decide +kernel
theorem dX6_prune_90 : decode cX6_prune 90 = .ok (.istore_n 3, 1) := by decide +kernel
theorem dX6_prune_91 : decode cX6_prune 91 = .ok (.iload_n 3, 1) := by decide +kernel
theorem dX6_prune_92 : decode cX6_prune 92 = .ok (.aload_n 0, 1) := by decide +kernel
theorem dX6_prune_93 : decode cX6_prune 93 = .ok (.getfield 118, 3) := by decide +kernel
theorem dX6_prune_96 : decode cX6_prune 96 = .ok (.if_icmp .ge 39, 3) := by decide +kernel
theorem dX6_prune_99 : decode cX6_prune 99 = .ok (.aload_n 1, 1) := by decide +kernel
theorem dX6_prune_100 : decode cX6_prune 100 = .ok (.iload_n 3, 1) := by decide +kernel
theorem dX6_prune_101 : decode cX6_prune 101 = .ok (.iaload, 1) := by decide +kernel
theorem dX6_prune_102 : decode cX6_prune 102 = .ok (.iconst (-1), 1) := by decide +kernel
theorem dX6_prune_103 : decode cX6_prune 103 = .ok (.if_icmp .ne 26, 3) := by decide +kernel
theorem dX6_prune_106 : decode cX6_prune 106 = .ok (.aload_n 0, 1) := by decide +kernel
theorem dX6_prune_107 : decode cX6_prune 107 = .ok (.getfield 60, 3) := by decide +kernel
theorem dX6_prune_110 : decode cX6_prune 110 = .ok (.bipush 8, 2) := by decide +kernel
theorem dX6_prune_112 : decode cX6_prune 112 = .ok (.aload_n 0, 1) := by decide +kernel
theorem dX6_prune_113 : decode cX6_prune 113 = .ok (.getfield 48, 3) := by decide +kernel
theorem dX6_prune_116 : decode cX6_prune 116 = .ok (.iload_n 3, 1) := by decide +kernel
theorem dX6_prune_117 : decode cX6_prune 117 = .ok (.iaload, 1) := by decide +kernel
theorem dX6_prune_118 : decode cX6_prune 118 = .ok (.imul, 1) := by decide +kernel
theorem dX6_prune_119 : decode cX6_prune 119 = .ok (.aload_n 0, 1) := by decide +kernel
theorem dX6_prune_120 : decode cX6_prune 120 = .ok (.getfield 51, 3) := by decide +kernel
theorem dX6_prune_123 : decode cX6_prune 123 = .ok (.iload_n 3, 1) := by decide +kernel
theorem dX6_prune_124 : decode cX6_prune 124 = .ok (.iaload, 1) := by decide +kernel
theorem dX6_prune_125 : decode cX6_prune 125 = .ok (.iadd, 1) := by decide +kernel
theorem dX6_prune_126 : decode cX6_prune 126 = .ok (.bipush 7, 2) := by decide +kernel
theorem dX6_prune_128 : decode cX6_prune 128 = .ok (.iastore, 1) := by decide +kernel
theorem dX6_prune_129 : decode cX6_prune 129 = .ok (.iinc 3 1, 3) := by decide +kernel
theorem dX6_prune_132 : decode cX6_prune 132 = .ok (.goto (-41), 3) := by decide +kernel
theorem dX6_prune_135 : decode cX6_prune 135 = .ok (.iconst 0, 1) := by decide +kernel
theorem dX6_prune_136 : decode cX6_prune 136 = .ok (.istore_n 3, 1) := by decide +kernel
theorem dX6_prune_137 : decode cX6_prune 137 = .ok (.iload_n 3, 1) := by decide +kernel
theorem dX6_prune_138 : decode cX6_prune 138 = .ok (.aload_n 0, 1) := by decide +kernel
theorem dX6_prune_139 : decode cX6_prune 139 = .ok (.getfield 118, 3) := by decide +kernel
theorem dX6_prune_142 : decode cX6_prune 142 = .ok (.if_icmp .ge 25, 3) := by decide +kernel
theorem dX6_prune_145 : decode cX6_prune 145 = .ok (.aload_n 1, 1) := by decide +kernel
theorem dX6_prune_146 : decode cX6_prune 146 = .ok (.iload_n 3, 1) := by decide +kernel
theorem dX6_prune_147 : decode cX6_prune 147 = .ok (.iaload, 1) := by decide +kernel
theorem dX6_prune_148 : decode cX6_prune 148 = .ok (.iconst (-1), 1) := by decide +kernel
theorem dX6_prune_149 : decode cX6_prune 149 = .ok (.if_icmp .eq 12, 3) := by decide +kernel
theorem dX6_prune_152 : decode cX6_prune 152 = .ok (.aload_n 0, 1) := by decide +kernel
theorem dX6_prune_153 : decode cX6_prune 153 = .ok (.iload_n 3, 1) := by decide +kernel
theorem dX6_prune_154 : decode cX6_prune 154 = .ok (.aload_n 1, 1) := by decide +kernel
theorem dX6_prune_155 : decode cX6_prune 155 = .ok (.iload_n 3, 1) := by decide +kernel
theorem dX6_prune_156 : decode cX6_prune 156 = .ok (.iaload, 1) := by decide +kernel
theorem dX6_prune_157 : decode cX6_prune 157 = .ok (.aload_n 1, 1) := by decide +kernel
theorem dX6_prune_158 : decode cX6_prune 158 = .ok (.invokevirtual 162, 3) := by decide +kernel
theorem dX6_prune_161 : decode cX6_prune 161 = .ok (.iinc 3 1, 3) := by decide +kernel
theorem dX6_prune_164 : decode cX6_prune 164 = .ok (.goto (-27), 3) := by decide +kernel
theorem dX6_prune_167 : decode cX6_prune 167 = .ok (.aload_n 0, 1) := by decide +kernel
theorem dX6_prune_168 : decode cX6_prune 168 = .ok (.getfield 118, 3) := by decide +kernel
theorem dX6_prune_171 : decode cX6_prune 171 = .ok (.iload_n 2, 1) := by decide +kernel
theorem dX6_prune_172 : decode cX6_prune 172 = .ok (.isub, 1) := by decide +kernel
theorem dX6_prune_173 : decode cX6_prune 173 = .ok (.istore_n 3, 1) := by decide +kernel
theorem dX6_prune_174 : decode cX6_prune 174 = .ok (.aload_n 0, 1) := by decide +kernel
theorem dX6_prune_175 : decode cX6_prune 175 = .ok (.iload_n 2, 1) := by decide +kernel
theorem dX6_prune_176 : decode cX6_prune 176 = .ok (.putfield 118, 3) := by decide +kernel
theorem dX6_prune_179 : decode cX6_prune 179 = .ok (.iload_n 3, 1) := by decide +kernel
theorem dX6_prune_180 : decode cX6_prune 180 = .ok (.ireturn, 1) := by decide +kernel
theorem dX6_move_0 : decode cX6_move 0 = .ok (.aload_n 0, 1) := by decide +kernel
theorem dX6_move_1 : decode cX6_move 1 = .ok (.getfield 45, 3) := by decide +kernel
theorem dX6_move_4 : decode cX6_move 4 = .ok (.iload_n 2, 1) := by decide +kernel
theorem dX6_move_5 : decode cX6_move 5 = .ok (.aload_n 0, 1) := by decide +kernel
theorem dX6_move_6 : decode cX6_move 6 = .ok (.getfield 45, 3) := by decide +kernel
theorem dX6_move_9 : decode cX6_move 9 = .ok (.iload_n 1, 1) := by decide +kernel
theorem dX6_move_10 : decode cX6_move 10 = .ok (.iaload, 1) := by decide +kernel
theorem dX6_move_11 : decode cX6_move 11 = .ok (.iastore, 1) := by decide +kernel
theorem dX6_move_12 : decode cX6_move 12 = .ok (.aload_n 0, 1) := by decide +kernel
theorem dX6_move_13 : decode cX6_move 13 = .ok (.getfield 57, 3) := by decide +kernel
theorem dX6_move_16 : decode cX6_move 16 = .ok (.iload_n 2, 1) := by decide +kernel
theorem dX6_move_17 : decode cX6_move 17 = .ok (.aload_n 0, 1) := by decide +kernel
theorem dX6_move_18 : decode cX6_move 18 = .ok (.getfield 57, 3) := by decide +kernel
theorem dX6_move_21 : decode cX6_move 21 = .ok (.iload_n 1, 1) := by decide +kernel
theorem dX6_move_22 : decode cX6_move 22 = .ok (.iaload, 1) := by decide +kernel
theorem dX6_move_23 : decode cX6_move 23 = .ok (.iastore, 1) := by decide +kernel
theorem dX6_move_24 : decode cX6_move 24 = .ok (.aload_n 0, 1) := by decide +kernel
theorem dX6_move_25 : decode cX6_move 25 = .ok (.getfield 54, 3) := by decide +kernel
theorem dX6_move_28 : decode cX6_move 28 = .ok (.iload_n 2, 1) := by decide +kernel
theorem dX6_move_29 : decode cX6_move 29 = .ok (.aload_n 0, 1) := by decide +kernel
theorem dX6_move_30 : decode cX6_move 30 = .ok (.getfield 54, 3) := by decide +kernel
theorem dX6_move_33 : decode cX6_move 33 = .ok (.iload_n 1, 1) := by decide +kernel
theorem dX6_move_34 : decode cX6_move 34 = .ok (.iaload, 1) := by decide +kernel
theorem dX6_move_35 : decode cX6_move 35 = .ok (.iastore, 1) := by decide +kernel
theorem dX6_move_36 : decode cX6_move 36 = .ok (.aload_n 0, 1) := by decide +kernel
theorem dX6_move_37 : decode cX6_move 37 = .ok (.getfield 51, 3) := by decide +kernel
theorem dX6_move_40 : decode cX6_move 40 = .ok (.iload_n 2, 1) := by decide +kernel
theorem dX6_move_41 : decode cX6_move 41 = .ok (.aload_n 0, 1) := by decide +kernel
theorem dX6_move_42 : decode cX6_move 42 = .ok (.getfield 51, 3) := by decide +kernel
theorem dX6_move_45 : decode cX6_move 45 = .ok (.iload_n 1, 1) := by decide +kernel
theorem dX6_move_46 : decode cX6_move 46 = .ok (.iaload, 1) := by decide +kernel
theorem dX6_move_47 : decode cX6_move 47 = .ok (.iastore, 1) := by decide +kernel
theorem dX6_move_48 : decode cX6_move 48 = .ok (.aload_n 0, 1) := by decide +kernel
theorem dX6_move_49 : decode cX6_move 49 = .ok (.getfield 48, 3) := by decide +kernel
theorem dX6_move_52 : decode cX6_move 52 = .ok (.iload_n 2, 1) := by decide +kernel
theorem dX6_move_53 : decode cX6_move 53 = .ok (.iload_n 1, 1) := by decide +kernel
theorem dX6_move_54 : decode cX6_move 54 = .ok (.ifCond .ne 7, 3) := by decide +kernel
theorem dX6_move_57 : decode cX6_move 57 = .ok (.iconst (-1), 1) := by decide +kernel
theorem dX6_move_58 : decode cX6_move 58 = .ok (.goto 11, 3) := by decide +kernel
theorem dX6_move_61 : decode cX6_move 61 = .ok (.aload_n 3, 1) := by decide +kernel
theorem dX6_move_62 : decode cX6_move 62 = .ok (.aload_n 0, 1) := by decide +kernel
theorem dX6_move_63 : decode cX6_move 63 = .ok (.getfield 48, 3) := by decide +kernel
theorem dX6_move_66 : decode cX6_move 66 = .ok (.iload_n 1, 1) := by decide +kernel
theorem dX6_move_67 : decode cX6_move 67 = .ok (.iaload, 1) := by decide +kernel
theorem dX6_move_68 : decode cX6_move 68 = .ok (.iaload, 1) := by decide +kernel
theorem dX6_move_69 : decode cX6_move 69 = .ok (.iastore, 1) := by decide +kernel
theorem dX6_move_70 : decode cX6_move 70 = .ok (.iconst 0, 1) := by decide +kernel
theorem dX6_move_71 : decode cX6_move 71 = .ok (.istore 4, 2) := by decide +kernel
theorem dX6_move_73 : decode cX6_move 73 = .ok (.iload 4, 2) := by decide +kernel
theorem dX6_move_75 : decode cX6_move 75 = .ok (.bipush 8, 2) := by decide +kernel
theorem dX6_move_77 : decode cX6_move 77 = .ok (.if_icmp .ge 57, 3) := by decide +kernel
theorem dX6_move_80 : decode cX6_move 80 = .ok (.aload_n 0, 1) := by decide +kernel
theorem dX6_move_81 : decode cX6_move 81 = .ok (.getfield 60, 3) := by decide +kernel
theorem dX6_move_84 : decode cX6_move 84 = .ok (.bipush 8, 2) := by decide +kernel
theorem dX6_move_86 : decode cX6_move 86 = .ok (.iload_n 2, 1) := by decide +kernel
theorem dX6_move_87 : decode cX6_move 87 = .ok (.imul, 1) := by decide +kernel
theorem dX6_move_88 : decode cX6_move 88 = .ok (.iload 4, 2) := by decide +kernel
theorem dX6_move_90 : decode cX6_move 90 = .ok (.iadd, 1) := by decide +kernel
theorem dX6_move_91 : decode cX6_move 91 = .ok (.aload_n 0, 1) := by decide +kernel
theorem dX6_move_92 : decode cX6_move 92 = .ok (.getfield 60, 3) := by decide +kernel
theorem dX6_move_95 : decode cX6_move 95 = .ok (.bipush 8, 2) := by decide +kernel
theorem dX6_move_97 : decode cX6_move 97 = .ok (.iload_n 1, 1) := by decide +kernel
theorem dX6_move_98 : decode cX6_move 98 = .ok (.imul, 1) := by decide +kernel
theorem dX6_move_99 : decode cX6_move 99 = .ok (.iload 4, 2) := by decide +kernel
theorem dX6_move_101 : decode cX6_move 101 = .ok (.iadd, 1) := by decide +kernel
theorem dX6_move_102 : decode cX6_move 102 = .ok (.iaload, 1) := by decide +kernel
theorem dX6_move_103 : decode cX6_move 103 = .ok (.iastore, 1) := by decide +kernel
theorem dX6_move_104 : decode cX6_move 104 = .ok (.aload_n 0, 1) := by decide +kernel
theorem dX6_move_105 : decode cX6_move 105 = .ok (.getfield 63, 3) := by decide +kernel
theorem dX6_move_108 : decode cX6_move 108 = .ok (.bipush 8, 2) := by decide +kernel
theorem dX6_move_110 : decode cX6_move 110 = .ok (.iload_n 2, 1) := by decide +kernel
theorem dX6_move_111 : decode cX6_move 111 = .ok (.imul, 1) := by decide +kernel
theorem dX6_move_112 : decode cX6_move 112 = .ok (.iload 4, 2) := by decide +kernel
theorem dX6_move_114 : decode cX6_move 114 = .ok (.iadd, 1) := by decide +kernel
theorem dX6_move_115 : decode cX6_move 115 = .ok (.aload_n 0, 1) := by decide +kernel
theorem dX6_move_116 : decode cX6_move 116 = .ok (.getfield 63, 3) := by decide +kernel
theorem dX6_move_119 : decode cX6_move 119 = .ok (.bipush 8, 2) := by decide +kernel
theorem dX6_move_121 : decode cX6_move 121 = .ok (.iload_n 1, 1) := by decide +kernel
theorem dX6_move_122 : decode cX6_move 122 = .ok (.imul, 1) := by decide +kernel
theorem dX6_move_123 : decode cX6_move 123 = .ok (.iload 4, 2) := by decide +kernel
theorem dX6_move_125 : decode cX6_move 125 = .ok (.iadd, 1) := by decide +kernel
theorem dX6_move_126 : decode cX6_move 126 = .ok (.iaload, 1) := by decide +kernel
theorem dX6_move_127 : decode cX6_move 127 = .ok (.iastore, 1) := by decide +kernel
theorem dX6_move_128 : decode cX6_move 128 = .ok (.iinc 4 1, 3) := by decide +kernel
theorem dX6_move_131 : decode cX6_move 131 = .ok (.goto (-58), 3) := by decide +kernel
theorem dX6_move_134 : decode cX6_move 134 = .ok (.return_, 1) := by decide +kernel
theorem dX6_digest_0 : decode cX6_digest 0 = .ok (.aload_n 0, 1) := by decide +kernel
theorem dX6_digest_1 : decode cX6_digest 1 = .ok (.iconst 0, 1) := by decide +kernel
theorem dX6_digest_2 : decode cX6_digest 2 = .ok (.putfield 66, 3) := by decide +kernel
theorem dX6_digest_5 : decode cX6_digest 5 = .ok (.ldc2_w 166, 3) := by decide +kernel
theorem dX6_digest_8 : decode cX6_digest 8 = .ok (.aload_n 0, 1) := by decide +kernel
theorem dX6_digest_9 : decode cX6_digest 9 = .ok (.getfield 7, 3) := by decide +kernel
theorem dX6_digest_12 : decode cX6_digest 12 = .ok (.i2l, 1) := by decide +kernel
theorem dX6_digest_13 : decode cX6_digest 13 = .ok (.ladd, 1) := by decide +kernel
theorem dX6_digest_14 : decode cX6_digest 14 = .ok (.lstore_n 1, 1) := by decide +kernel
theorem dX6_digest_15 : decode cX6_digest 15 = .ok (.iconst 0, 1) := by decide +kernel
theorem dX6_digest_16 : decode cX6_digest 16 = .ok (.istore_n 3, 1) := by decide +kernel
theorem dX6_digest_17 : decode cX6_digest 17 = .ok (.iload_n 3, 1) := by decide +kernel
theorem dX6_digest_18 : decode cX6_digest 18 = .ok (.aload_n 0, 1) := by decide +kernel
theorem dX6_digest_19 : decode cX6_digest 19 = .ok (.getfield 7, 3) := by decide +kernel
theorem dX6_digest_22 : decode cX6_digest 22 = .ok (.if_icmp .ge 42, 3) := by decide +kernel
theorem dX6_digest_25 : decode cX6_digest 25 = .ok (.lload_n 1, 1) := by decide +kernel
theorem dX6_digest_26 : decode cX6_digest 26 = .ok (.ldc2_w 168, 3) := by decide +kernel
theorem dX6_digest_29 : decode cX6_digest 29 = .ok (.lmul, 1) := by decide +kernel
theorem dX6_digest_30 : decode cX6_digest 30 = .ok (.aload_n 0, 1) := by decide +kernel
theorem dX6_digest_31 : decode cX6_digest 31 = .ok (.getfield 13, 3) := by decide +kernel
theorem dX6_digest_34 : decode cX6_digest 34 = .ok (.iload_n 3, 1) := by decide +kernel
theorem dX6_digest_35 : decode cX6_digest 35 = .ok (.iaload, 1) := by decide +kernel
theorem dX6_digest_36 : decode cX6_digest 36 = .ok (.i2l, 1) := by decide +kernel
theorem dX6_digest_37 : decode cX6_digest 37 = .ok (.ladd, 1) := by decide +kernel
theorem dX6_digest_38 : decode cX6_digest 38 = .ok (.ldc2_w 168, 3) := by decide +kernel
theorem dX6_digest_41 : decode cX6_digest 41 = .ok (.lmul, 1) := by decide +kernel
theorem dX6_digest_42 : decode cX6_digest 42 = .ok (.aload_n 0, 1) := by decide +kernel
theorem dX6_digest_43 : decode cX6_digest 43 = .ok (.getfield 17, 3) := by decide +kernel
theorem dX6_digest_46 : decode cX6_digest 46 = .ok (.iload_n 3, 1) := by decide +kernel
theorem dX6_digest_47 : decode cX6_digest 47 = .ok (.baload, 1) := by decide +kernel
theorem dX6_digest_48 : decode cX6_digest 48 = .ok (.ifCond .eq 7, 3) := by decide +kernel
theorem dX6_digest_51 : decode cX6_digest 51 = .ok (.lconst 1, 1) := by decide +kernel
theorem dX6_digest_52 : decode cX6_digest 52 = .ok (.goto 4, 3) := by decide +kernel
theorem dX6_digest_55 : decode cX6_digest 55 = .ok (.lconst 0, 1) := by decide +kernel
theorem dX6_digest_56 : decode cX6_digest 56 = .ok (.ladd, 1) := by decide +kernel
theorem dX6_digest_57 : decode cX6_digest 57 = .ok (.lstore_n 1, 1) := by decide +kernel
theorem dX6_digest_58 : decode cX6_digest 58 = .ok (.iinc 3 1, 3) := by decide +kernel
theorem dX6_digest_61 : decode cX6_digest 61 = .ok (.goto (-44), 3) := by decide +kernel
theorem dX6_digest_64 : decode cX6_digest 64 = .ok (.lload_n 1, 1) := by decide +kernel
theorem dX6_digest_65 : decode cX6_digest 65 = .ok (.ldc2_w 168, 3) := by decide +kernel
theorem dX6_digest_68 : decode cX6_digest 68 = .ok (.lmul, 1) := by decide +kernel
theorem dX6_digest_69 : decode cX6_digest 69 = .ok (.aload_n 0, 1) := by decide +kernel
theorem dX6_digest_70 : decode cX6_digest 70 = .ok (.getfield 73, 3) := by decide +kernel
theorem dX6_digest_73 : decode cX6_digest 73 = .ok (.i2l, 1) := by decide +kernel
theorem dX6_digest_74 : decode cX6_digest 74 = .ok (.ladd, 1) := by decide +kernel
theorem dX6_digest_75 : decode cX6_digest 75 = .ok (.ldc2_w 168, 3) := by decide +kernel
theorem dX6_digest_78 : decode cX6_digest 78 = .ok (.lmul, 1) := by decide +kernel
theorem dX6_digest_79 : decode cX6_digest 79 = .ok (.aload_n 0, 1) := by decide +kernel
theorem dX6_digest_80 : decode cX6_digest 80 = .ok (.getfield 36, 3) := by decide +kernel
theorem dX6_digest_83 : decode cX6_digest 83 = .ok (.i2l, 1) := by decide +kernel
theorem dX6_digest_84 : decode cX6_digest 84 = .ok (.ladd, 1) := by decide +kernel
theorem dX6_digest_85 : decode cX6_digest 85 = .ok (.ldc2_w 168, 3) := by decide +kernel
theorem dX6_digest_88 : decode cX6_digest 88 = .ok (.lmul, 1) := by decide +kernel
theorem dX6_digest_89 : decode cX6_digest 89 = .ok (.aload_n 0, 1) := by decide +kernel
theorem dX6_digest_90 : decode cX6_digest 90 = .ok (.getfield 39, 3) := by decide +kernel
theorem dX6_digest_93 : decode cX6_digest 93 = .ok (.i2l, 1) := by decide +kernel
theorem dX6_digest_94 : decode cX6_digest 94 = .ok (.ladd, 1) := by decide +kernel
theorem dX6_digest_95 : decode cX6_digest 95 = .ok (.ldc2_w 168, 3) := by decide +kernel
theorem dX6_digest_98 : decode cX6_digest 98 = .ok (.lmul, 1) := by decide +kernel
theorem dX6_digest_99 : decode cX6_digest 99 = .ok (.aload_n 0, 1) := by decide +kernel
theorem dX6_digest_100 : decode cX6_digest 100 = .ok (.getfield 42, 3) := by decide +kernel
theorem dX6_digest_103 : decode cX6_digest 103 = .ok (.i2l, 1) := by decide +kernel
theorem dX6_digest_104 : decode cX6_digest 104 = .ok (.ladd, 1) := by decide +kernel
theorem dX6_digest_105 : decode cX6_digest 105 = .ok (.lstore_n 1, 1) := by decide +kernel
theorem dX6_digest_106 : decode cX6_digest 106 = .ok (.aload_n 0, 1) := by decide +kernel
theorem dX6_digest_107 : decode cX6_digest 107 = .ok (.getfield 98, 3) := by decide +kernel
theorem dX6_digest_110 : decode cX6_digest 110 = .ok (.ifCond .ne 5, 3) := by decide +kernel
theorem dX6_digest_113 : decode cX6_digest 113 = .ok (.lload_n 1, 1) := by decide +kernel
theorem dX6_digest_114 : decode cX6_digest 114 = .ok (.lreturn, 1) := by decide +kernel
theorem dX6_digest_115 : decode cX6_digest 115 = .ok (.lload_n 1, 1) := by decide +kernel
theorem dX6_digest_116 : decode cX6_digest 116 = .ok (.ldc2_w 168, 3) := by decide +kernel
theorem dX6_digest_119 : decode cX6_digest 119 = .ok (.lmul, 1) := by decide +kernel
theorem dX6_digest_120 : decode cX6_digest 120 = .ok (.aload_n 0, 1) := by decide +kernel
theorem dX6_digest_121 : decode cX6_digest 121 = .ok (.getfield 118, 3) := by decide +kernel
theorem dX6_digest_124 : decode cX6_digest 124 = .ok (.i2l, 1) := by decide +kernel
theorem dX6_digest_125 : decode cX6_digest 125 = .ok (.ladd, 1) := by decide +kernel
theorem dX6_digest_126 : decode cX6_digest 126 = .ok (.lstore_n 1, 1) := by decide +kernel
theorem dX6_digest_127 : decode cX6_digest 127 = .ok (.iconst 0, 1) := by decide +kernel
theorem dX6_digest_128 : decode cX6_digest 128 = .ok (.istore_n 3, 1) := by decide +kernel
theorem dX6_digest_129 : decode cX6_digest 129 = .ok (.iload_n 3, 1) := by decide +kernel
theorem dX6_digest_130 : decode cX6_digest 130 = .ok (.aload_n 0, 1) := by decide +kernel
theorem dX6_digest_131 : decode cX6_digest 131 = .ok (.getfield 118, 3) := by decide +kernel
theorem dX6_digest_134 : decode cX6_digest 134 = .ok (.if_icmp .ge 98, 3) := by decide +kernel
theorem dX6_digest_137 : decode cX6_digest 137 = .ok (.lload_n 1, 1) := by decide +kernel
theorem dX6_digest_138 : decode cX6_digest 138 = .ok (.ldc2_w 168, 3) := by decide +kernel
theorem dX6_digest_141 : decode cX6_digest 141 = .ok (.lmul, 1) := by decide +kernel
theorem dX6_digest_142 : decode cX6_digest 142 = .ok (.aload_n 0, 1) := by decide +kernel
theorem dX6_digest_143 : decode cX6_digest 143 = .ok (.getfield 45, 3) := by decide +kernel
theorem dX6_digest_146 : decode cX6_digest 146 = .ok (.iload_n 3, 1) := by decide +kernel
theorem dX6_digest_147 : decode cX6_digest 147 = .ok (.iaload, 1) := by decide +kernel
theorem dX6_digest_148 : decode cX6_digest 148 = .ok (.i2l, 1) := by decide +kernel
theorem dX6_digest_149 : decode cX6_digest 149 = .ok (.ladd, 1) := by decide +kernel
theorem dX6_digest_150 : decode cX6_digest 150 = .ok (.ldc2_w 168, 3) := by decide +kernel
theorem dX6_digest_153 : decode cX6_digest 153 = .ok (.lmul, 1) := by decide +kernel
theorem dX6_digest_154 : decode cX6_digest 154 = .ok (.aload_n 0, 1) := by decide +kernel
theorem dX6_digest_155 : decode cX6_digest 155 = .ok (.getfield 48, 3) := by decide +kernel
theorem dX6_digest_158 : decode cX6_digest 158 = .ok (.iload_n 3, 1) := by decide +kernel
theorem dX6_digest_159 : decode cX6_digest 159 = .ok (.iaload, 1) := by decide +kernel
theorem dX6_digest_160 : decode cX6_digest 160 = .ok (.i2l, 1) := by decide +kernel
theorem dX6_digest_161 : decode cX6_digest 161 = .ok (.ladd, 1) := by decide +kernel
theorem dX6_digest_162 : decode cX6_digest 162 = .ok (.lstore_n 1, 1) := by decide +kernel
theorem dX6_digest_163 : decode cX6_digest 163 = .ok (.iconst 0, 1) := by decide +kernel
theorem dX6_digest_164 : decode cX6_digest 164 = .ok (.istore 4, 2) := by decide +kernel
theorem dX6_digest_166 : decode cX6_digest 166 = .ok (.iload 4, 2) := by decide +kernel
theorem dX6_digest_168 : decode cX6_digest 168 = .ok (.aload_n 0, 1) := by decide +kernel
theorem dX6_digest_169 : decode cX6_digest 169 = .ok (.getfield 30, 3) := by decide +kernel
theorem dX6_digest_172 : decode cX6_digest 172 = .ok (.aload_n 0, 1) := by decide +kernel
theorem dX6_digest_173 : decode cX6_digest 173 = .ok (.getfield 45, 3) := by decide +kernel
theorem dX6_digest_176 : decode cX6_digest 176 = .ok (.iload_n 3, 1) := by decide +kernel
theorem dX6_digest_177 : decode cX6_digest 177 = .ok (.iaload, 1) := by decide +kernel
theorem dX6_digest_178 : decode cX6_digest 178 = .ok (.iaload, 1) := by decide +kernel
theorem dX6_digest_179 : decode cX6_digest 179 = .ok (.if_icmp .ge 47, 3) := by decide +kernel
theorem dX6_digest_182 : decode cX6_digest 182 = .ok (.lload_n 1, 1) := by decide +kernel
theorem dX6_digest_183 : decode cX6_digest 183 = .ok (.ldc2_w 168, 3) := by decide +kernel
theorem dX6_digest_186 : decode cX6_digest 186 = .ok (.lmul, 1) := by decide +kernel
theorem dX6_digest_187 : decode cX6_digest 187 = .ok (.aload_n 0, 1) := by decide +kernel
theorem dX6_digest_188 : decode cX6_digest 188 = .ok (.getfield 60, 3) := by decide +kernel
theorem dX6_digest_191 : decode cX6_digest 191 = .ok (.bipush 8, 2) := by decide +kernel
theorem dX6_digest_193 : decode cX6_digest 193 = .ok (.iload_n 3, 1) := by decide +kernel
theorem dX6_digest_194 : decode cX6_digest 194 = .ok (.imul, 1) := by decide +kernel
theorem dX6_digest_195 : decode cX6_digest 195 = .ok (.iload 4, 2) := by decide +kernel
theorem dX6_digest_197 : decode cX6_digest 197 = .ok (.iadd, 1) := by decide +kernel
theorem dX6_digest_198 : decode cX6_digest 198 = .ok (.iaload, 1) := by decide +kernel
theorem dX6_digest_199 : decode cX6_digest 199 = .ok (.i2l, 1) := by decide +kernel
theorem dX6_digest_200 : decode cX6_digest 200 = .ok (.ladd, 1) := by decide +kernel
theorem dX6_digest_201 : decode cX6_digest 201 = .ok (.ldc2_w 168, 3) := by decide +kernel
theorem dX6_digest_204 : decode cX6_digest 204 = .ok (.lmul, 1) := by decide +kernel
theorem dX6_digest_205 : decode cX6_digest 205 = .ok (.aload_n 0, 1) := by decide +kernel
theorem dX6_digest_206 : decode cX6_digest 206 = .ok (.getfield 63, 3) := by decide +kernel
theorem dX6_digest_209 : decode cX6_digest 209 = .ok (.bipush 8, 2) := by decide +kernel
theorem dX6_digest_211 : decode cX6_digest 211 = .ok (.iload_n 3, 1) := by decide +kernel
theorem dX6_digest_212 : decode cX6_digest 212 = .ok (.imul, 1) := by decide +kernel
theorem dX6_digest_213 : decode cX6_digest 213 = .ok (.iload 4, 2) := by decide +kernel
theorem dX6_digest_215 : decode cX6_digest 215 = .ok (.iadd, 1) := by decide +kernel
theorem dX6_digest_216 : decode cX6_digest 216 = .ok (.iaload, 1) := by decide +kernel
theorem dX6_digest_217 : decode cX6_digest 217 = .ok (.i2l, 1) := by decide +kernel
theorem dX6_digest_218 : decode cX6_digest 218 = .ok (.ladd, 1) := by decide +kernel
theorem dX6_digest_219 : decode cX6_digest 219 = .ok (.lstore_n 1, 1) := by decide +kernel
theorem dX6_digest_220 : decode cX6_digest 220 = .ok (.iinc 4 1, 3) := by decide +kernel
theorem dX6_digest_223 : decode cX6_digest 223 = .ok (.goto (-57), 3) := by decide +kernel
theorem dX6_digest_226 : decode cX6_digest 226 = .ok (.iinc 3 1, 3) := by decide +kernel
theorem dX6_digest_229 : decode cX6_digest 229 = .ok (.goto (-100), 3) := by decide +kernel
theorem dX6_digest_232 : decode cX6_digest 232 = .ok (.lload_n 1, 1) := by decide +kernel
theorem dX6_digest_233 : decode cX6_digest 233 = .ok (.lreturn, 1) := by decide +kernel
theorem dJ6_bitCount_0f7a4_0 : decode cJ6_bitCount_0f7a4 0 = .ok (.iload_n 0, 1) := by decide +kernel
theorem dJ6_bitCount_0f7a4_1 : decode cJ6_bitCount_0f7a4 1 = .ok (.iload_n 0, 1) := by decide +kernel
theorem dJ6_bitCount_0f7a4_2 : decode cJ6_bitCount_0f7a4 2 = .ok (.iconst 1, 1) := by decide +kernel
theorem dJ6_bitCount_0f7a4_3 : decode cJ6_bitCount_0f7a4 3 = .ok (.iushr, 1) := by decide +kernel
theorem dJ6_bitCount_0f7a4_4 : decode cJ6_bitCount_0f7a4 4 = .ok (.ldc_w 265, 3) := by decide +kernel
theorem dJ6_bitCount_0f7a4_7 : decode cJ6_bitCount_0f7a4 7 = .ok (.iand, 1) := by decide +kernel
theorem dJ6_bitCount_0f7a4_8 : decode cJ6_bitCount_0f7a4 8 = .ok (.isub, 1) := by decide +kernel
theorem dJ6_bitCount_0f7a4_9 : decode cJ6_bitCount_0f7a4 9 = .ok (.istore_n 0, 1) := by decide +kernel
theorem dJ6_bitCount_0f7a4_10 : decode cJ6_bitCount_0f7a4 10 = .ok (.iload_n 0, 1) := by decide +kernel
theorem dJ6_bitCount_0f7a4_11 : decode cJ6_bitCount_0f7a4 11 = .ok (.ldc_w 266, 3) := by decide +kernel
theorem dJ6_bitCount_0f7a4_14 : decode cJ6_bitCount_0f7a4 14 = .ok (.iand, 1) := by decide +kernel
theorem dJ6_bitCount_0f7a4_15 : decode cJ6_bitCount_0f7a4 15 = .ok (.iload_n 0, 1) := by decide +kernel
theorem dJ6_bitCount_0f7a4_16 : decode cJ6_bitCount_0f7a4 16 = .ok (.iconst 2, 1) := by decide +kernel
theorem dJ6_bitCount_0f7a4_17 : decode cJ6_bitCount_0f7a4 17 = .ok (.iushr, 1) := by decide +kernel
theorem dJ6_bitCount_0f7a4_18 : decode cJ6_bitCount_0f7a4 18 = .ok (.ldc_w 266, 3) := by decide +kernel
theorem dJ6_bitCount_0f7a4_21 : decode cJ6_bitCount_0f7a4 21 = .ok (.iand, 1) := by decide +kernel
theorem dJ6_bitCount_0f7a4_22 : decode cJ6_bitCount_0f7a4 22 = .ok (.iadd, 1) := by decide +kernel
theorem dJ6_bitCount_0f7a4_23 : decode cJ6_bitCount_0f7a4 23 = .ok (.istore_n 0, 1) := by decide +kernel
theorem dJ6_bitCount_0f7a4_24 : decode cJ6_bitCount_0f7a4 24 = .ok (.iload_n 0, 1) := by decide +kernel
theorem dJ6_bitCount_0f7a4_25 : decode cJ6_bitCount_0f7a4 25 = .ok (.iload_n 0, 1) := by decide +kernel
theorem dJ6_bitCount_0f7a4_26 : decode cJ6_bitCount_0f7a4 26 = .ok (.iconst 4, 1) := by decide +kernel
theorem dJ6_bitCount_0f7a4_27 : decode cJ6_bitCount_0f7a4 27 = .ok (.iushr, 1) := by decide +kernel
theorem dJ6_bitCount_0f7a4_28 : decode cJ6_bitCount_0f7a4 28 = .ok (.iadd, 1) := by decide +kernel
theorem dJ6_bitCount_0f7a4_29 : decode cJ6_bitCount_0f7a4 29 = .ok (.ldc_w 267, 3) := by decide +kernel
theorem dJ6_bitCount_0f7a4_32 : decode cJ6_bitCount_0f7a4 32 = .ok (.iand, 1) := by decide +kernel
theorem dJ6_bitCount_0f7a4_33 : decode cJ6_bitCount_0f7a4 33 = .ok (.istore_n 0, 1) := by decide +kernel
theorem dJ6_bitCount_0f7a4_34 : decode cJ6_bitCount_0f7a4 34 = .ok (.iload_n 0, 1) := by decide +kernel
theorem dJ6_bitCount_0f7a4_35 : decode cJ6_bitCount_0f7a4 35 = .ok (.iload_n 0, 1) := by decide +kernel
theorem dJ6_bitCount_0f7a4_36 : decode cJ6_bitCount_0f7a4 36 = .ok (.bipush 8, 2) := by decide +kernel
theorem dJ6_bitCount_0f7a4_38 : decode cJ6_bitCount_0f7a4 38 = .ok (.iushr, 1) := by decide +kernel
theorem dJ6_bitCount_0f7a4_39 : decode cJ6_bitCount_0f7a4 39 = .ok (.iadd, 1) := by decide +kernel
theorem dJ6_bitCount_0f7a4_40 : decode cJ6_bitCount_0f7a4 40 = .ok (.istore_n 0, 1) := by decide +kernel
theorem dJ6_bitCount_0f7a4_41 : decode cJ6_bitCount_0f7a4 41 = .ok (.iload_n 0, 1) := by decide +kernel
theorem dJ6_bitCount_0f7a4_42 : decode cJ6_bitCount_0f7a4 42 = .ok (.iload_n 0, 1) := by decide +kernel
theorem dJ6_bitCount_0f7a4_43 : decode cJ6_bitCount_0f7a4 43 = .ok (.bipush 16, 2) := by decide +kernel
theorem dJ6_bitCount_0f7a4_45 : decode cJ6_bitCount_0f7a4 45 = .ok (.iushr, 1) := by decide +kernel
theorem dJ6_bitCount_0f7a4_46 : decode cJ6_bitCount_0f7a4 46 = .ok (.iadd, 1) := by decide +kernel
theorem dJ6_bitCount_0f7a4_47 : decode cJ6_bitCount_0f7a4 47 = .ok (.istore_n 0, 1) := by decide +kernel
theorem dJ6_bitCount_0f7a4_48 : decode cJ6_bitCount_0f7a4 48 = .ok (.iload_n 0, 1) := by decide +kernel
theorem dJ6_bitCount_0f7a4_49 : decode cJ6_bitCount_0f7a4 49 = .ok (.bipush 63, 2) := by decide +kernel
theorem dJ6_bitCount_0f7a4_51 : decode cJ6_bitCount_0f7a4 51 = .ok (.iand, 1) := by decide +kernel
theorem dJ6_bitCount_0f7a4_52 : decode cJ6_bitCount_0f7a4 52 = .ok (.ireturn, 1) := by decide +kernel
theorem dJ9_min_7cf53_0 : decode cJ9_min_7cf53 0 = .ok (.iload_n 0, 1) := by decide +kernel
theorem dJ9_min_7cf53_1 : decode cJ9_min_7cf53 1 = .ok (.iload_n 1, 1) := by decide +kernel
theorem dJ9_min_7cf53_2 : decode cJ9_min_7cf53 2 = .ok (.if_icmp .gt 7, 3) := by decide +kernel
theorem dJ9_min_7cf53_5 : decode cJ9_min_7cf53 5 = .ok (.iload_n 0, 1) := by decide +kernel
theorem dJ9_min_7cf53_6 : decode cJ9_min_7cf53 6 = .ok (.goto 4, 3) := by decide +kernel
theorem dJ9_min_7cf53_9 : decode cJ9_min_7cf53 9 = .ok (.iload_n 1, 1) := by decide +kernel
theorem dJ9_min_7cf53_10 : decode cJ9_min_7cf53 10 = .ok (.ireturn, 1) := by decide +kernel
set_option maxRecDepth 20000 in
theorem ggL_addClass_X5_addClass : GoodIn wsL_addClass wsX5_addClass := goodIn_ca (goodIn_ca (goodIn_r _ [7, 8, 9, 10, 11, 12, 13, 14, 6, 15, 16, 17, 18, 19, 20, 21, 22, 23, 24, 25, 26, 27, 28, 29, 30, 31, 32, 33] (by decide +kernel) (by decide +kernel)) (goodIn_sub (fun _ h => List.mem_cons_of_mem _ (List.mem_append_left _ (List.mem_append_right _ h))) (by decide +kernel))) (goodIn_sub (fun _ h => List.mem_cons_of_mem _ (List.mem_append_right _ h)) (by decide +kernel))
set_option maxRecDepth 20000 in
theorem gL_addClass_X5_addClass : GoodIn wsL_addClass (wsV RL 7 RX5 yX5_addClass wsX5_addClass) := goodIn_app (goodIn_of _ (by decide +kernel)) ggL_addClass_X5_addClass
theorem dL_addClass_0 : decode cL_addClass 0 = .ok (.aload_n 2, 1) := by decide +kernel
theorem dL_addClass_1 : decode cL_addClass 1 = .ok (.iconst 0, 1) := by decide +kernel
theorem dL_addClass_2 : decode cL_addClass 2 = .ok (.aload_n 0, 1) := by decide +kernel
theorem dL_addClass_3 : decode cL_addClass 3 = .ok (.iload_n 1, 1) := by decide +kernel
theorem dL_addClass_4 : decode cL_addClass 4 = .ok (.invokevirtual 7, 3) := by decide +kernel
theorem dL_addClass_7 : decode cL_addClass 7 = .ok (.i2l, 1) := by decide +kernel
theorem dL_addClass_8 : decode cL_addClass 8 = .ok (.lastore, 1) := by decide +kernel
theorem dL_addClass_9 : decode cL_addClass 9 = .ok (.goto 9, 3) := by decide +kernel
theorem dL_addClass_12 : decode cL_addClass 12 = .ok (.astore_n 3, 1) := by decide +kernel
theorem dL_addClass_13 : decode cL_addClass 13 = .ok (.iconst 1, 1) := by decide +kernel
theorem dL_addClass_14 : decode cL_addClass 14 = .ok (.ireturn, 1) := by decide +kernel
theorem dL_addClass_15 : decode cL_addClass 15 = .ok (.astore_n 3, 1) := by decide +kernel
theorem dL_addClass_16 : decode cL_addClass 16 = .ok (.iconst 2, 1) := by decide +kernel
theorem dL_addClass_17 : decode cL_addClass 17 = .ok (.ireturn, 1) := by decide +kernel
theorem dL_addClass_18 : decode cL_addClass 18 = .ok (.iconst 0, 1) := by decide +kernel
theorem dL_addClass_19 : decode cL_addClass 19 = .ok (.ireturn, 1) := by decide +kernel
set_option maxRecDepth 20000 in
theorem ggL_setLive_X5_setLive : GoodIn wsL_setLive wsX5_setLive := goodIn_ca (goodIn_r _ [6, 7, 8, 9, 10, 11, 5, 12, 13, 14, 15, 16, 17, 18, 19, 20, 21, 22, 23] (by decide +kernel) (by decide +kernel)) (goodIn_sub (fun _ h => List.mem_cons_of_mem _ (List.mem_append_right _ h)) (by decide +kernel))
set_option maxRecDepth 20000 in
theorem gL_setLive_X5_setLive : GoodIn wsL_setLive (wsV RL 17 RX5 yX5_setLive wsX5_setLive) := goodIn_app (goodIn_of _ (by decide +kernel)) ggL_setLive_X5_setLive
theorem dL_setLive_0 : decode cL_setLive 0 = .ok (.aload_n 3, 1) := by decide +kernel
theorem dL_setLive_1 : decode cL_setLive 1 = .ok (.iconst 0, 1) := by decide +kernel
theorem dL_setLive_2 : decode cL_setLive 2 = .ok (.aload_n 0, 1) := by decide +kernel
theorem dL_setLive_3 : decode cL_setLive 3 = .ok (.iload_n 1, 1) := by decide +kernel
theorem dL_setLive_4 : decode cL_setLive 4 = .ok (.iload_n 2, 1) := by decide +kernel
theorem dL_setLive_5 : decode cL_setLive 5 = .ok (.invokevirtual 17, 3) := by decide +kernel
theorem dL_setLive_8 : decode cL_setLive 8 = .ok (.ifCond .eq 7, 3) := by decide +kernel
theorem dL_setLive_11 : decode cL_setLive 11 = .ok (.lconst 1, 1) := by decide +kernel
theorem dL_setLive_12 : decode cL_setLive 12 = .ok (.goto 4, 3) := by decide +kernel
theorem dL_setLive_15 : decode cL_setLive 15 = .ok (.lconst 0, 1) := by decide +kernel
theorem dL_setLive_16 : decode cL_setLive 16 = .ok (.lastore, 1) := by decide +kernel
theorem dL_setLive_17 : decode cL_setLive 17 = .ok (.goto 7, 3) := by decide +kernel
theorem dL_setLive_20 : decode cL_setLive 20 = .ok (.astore 4, 2) := by decide +kernel
theorem dL_setLive_22 : decode cL_setLive 22 = .ok (.iconst 1, 1) := by decide +kernel
theorem dL_setLive_23 : decode cL_setLive 23 = .ok (.ireturn, 1) := by decide +kernel
theorem dL_setLive_24 : decode cL_setLive 24 = .ok (.iconst 0, 1) := by decide +kernel
theorem dL_setLive_25 : decode cL_setLive 25 = .ok (.ireturn, 1) := by decide +kernel
set_option maxRecDepth 20000 in
theorem ggL_parent_X5_parent : GoodIn wsL_parent wsX5_parent := goodIn_ca (goodIn_r _ [6, 7, 8, 9, 10, 11, 5, 12, 13, 14, 15, 16, 17, 18, 19, 20, 21, 22, 23] (by decide +kernel) (by decide +kernel)) (goodIn_sub (fun _ h => List.mem_cons_of_mem _ (List.mem_append_right _ h)) (by decide +kernel))
set_option maxRecDepth 20000 in
theorem gL_parent_X5_parent : GoodIn wsL_parent (wsV RL 21 RX5 yX5_parent wsX5_parent) := goodIn_app (goodIn_of _ (by decide +kernel)) ggL_parent_X5_parent
theorem dL_parent_0 : decode cL_parent 0 = .ok (.aload_n 2, 1) := by decide +kernel
theorem dL_parent_1 : decode cL_parent 1 = .ok (.iconst 0, 1) := by decide +kernel
theorem dL_parent_2 : decode cL_parent 2 = .ok (.aload_n 0, 1) := by decide +kernel
theorem dL_parent_3 : decode cL_parent 3 = .ok (.iload_n 1, 1) := by decide +kernel
theorem dL_parent_4 : decode cL_parent 4 = .ok (.invokevirtual 21, 3) := by decide +kernel
theorem dL_parent_7 : decode cL_parent 7 = .ok (.i2l, 1) := by decide +kernel
theorem dL_parent_8 : decode cL_parent 8 = .ok (.lastore, 1) := by decide +kernel
theorem dL_parent_9 : decode cL_parent 9 = .ok (.goto 6, 3) := by decide +kernel
theorem dL_parent_12 : decode cL_parent 12 = .ok (.astore_n 3, 1) := by decide +kernel
theorem dL_parent_13 : decode cL_parent 13 = .ok (.iconst 1, 1) := by decide +kernel
theorem dL_parent_14 : decode cL_parent 14 = .ok (.ireturn, 1) := by decide +kernel
theorem dL_parent_15 : decode cL_parent 15 = .ok (.iconst 0, 1) := by decide +kernel
theorem dL_parent_16 : decode cL_parent 16 = .ok (.ireturn, 1) := by decide +kernel
set_option maxRecDepth 20000 in
theorem ggL_isBelow_X5_isBelow : GoodIn wsL_isBelow wsX5_isBelow := goodIn_ca (goodIn_r _ [6, 7, 8, 9, 10, 5, 11, 12, 13, 14, 15, 16, 17, 18, 19, 20, 21, 22, 23, 24, 25, 26, 27, 28] (by decide +kernel) (by decide +kernel)) (goodIn_sub (fun _ h => List.mem_cons_of_mem _ (List.mem_append_right _ h)) (by decide +kernel))
set_option maxRecDepth 20000 in
theorem gL_isBelow_X5_isBelow : GoodIn wsL_isBelow (wsV RL 24 RX5 yX5_isBelow wsX5_isBelow) := goodIn_app (goodIn_of _ (by decide +kernel)) ggL_isBelow_X5_isBelow
theorem dL_isBelow_0 : decode cL_isBelow 0 = .ok (.aload_n 3, 1) := by decide +kernel
theorem dL_isBelow_1 : decode cL_isBelow 1 = .ok (.iconst 0, 1) := by decide +kernel
theorem dL_isBelow_2 : decode cL_isBelow 2 = .ok (.aload_n 0, 1) := by decide +kernel
theorem dL_isBelow_3 : decode cL_isBelow 3 = .ok (.iload_n 1, 1) := by decide +kernel
theorem dL_isBelow_4 : decode cL_isBelow 4 = .ok (.iload_n 2, 1) := by decide +kernel
theorem dL_isBelow_5 : decode cL_isBelow 5 = .ok (.invokevirtual 24, 3) := by decide +kernel
theorem dL_isBelow_8 : decode cL_isBelow 8 = .ok (.ifCond .eq 7, 3) := by decide +kernel
theorem dL_isBelow_11 : decode cL_isBelow 11 = .ok (.lconst 1, 1) := by decide +kernel
theorem dL_isBelow_12 : decode cL_isBelow 12 = .ok (.goto 4, 3) := by decide +kernel
theorem dL_isBelow_15 : decode cL_isBelow 15 = .ok (.lconst 0, 1) := by decide +kernel
theorem dL_isBelow_16 : decode cL_isBelow 16 = .ok (.lastore, 1) := by decide +kernel
theorem dL_isBelow_17 : decode cL_isBelow 17 = .ok (.goto 7, 3) := by decide +kernel
theorem dL_isBelow_20 : decode cL_isBelow 20 = .ok (.astore 4, 2) := by decide +kernel
theorem dL_isBelow_22 : decode cL_isBelow 22 = .ok (.iconst 1, 1) := by decide +kernel
theorem dL_isBelow_23 : decode cL_isBelow 23 = .ok (.ireturn, 1) := by decide +kernel
theorem dL_isBelow_24 : decode cL_isBelow 24 = .ok (.iconst 0, 1) := by decide +kernel
theorem dL_isBelow_25 : decode cL_isBelow 25 = .ok (.ireturn, 1) := by decide +kernel
set_option maxRecDepth 20000 in
theorem ggL_liveBelow_X5_liveBelow : GoodIn wsL_liveBelow wsX5_liveBelow := goodIn_ca (goodIn_r _ [6, 7, 8, 9, 10, 11, 12, 5, 13, 14, 15, 16, 17, 18, 19, 20, 21, 22, 23, 24, 25, 26, 27, 28, 29] (by decide +kernel) (by decide +kernel)) (goodIn_sub (fun _ h => List.mem_cons_of_mem _ (List.mem_append_right _ h)) (by decide +kernel))
set_option maxRecDepth 20000 in
theorem gL_liveBelow_X5_liveBelow : GoodIn wsL_liveBelow (wsV RL 28 RX5 yX5_liveBelow wsX5_liveBelow) := goodIn_app (goodIn_of _ (by decide +kernel)) ggL_liveBelow_X5_liveBelow
theorem dL_liveBelow_0 : decode cL_liveBelow 0 = .ok (.aload_n 2, 1) := by decide +kernel
theorem dL_liveBelow_1 : decode cL_liveBelow 1 = .ok (.iconst 0, 1) := by decide +kernel
theorem dL_liveBelow_2 : decode cL_liveBelow 2 = .ok (.aload_n 0, 1) := by decide +kernel
theorem dL_liveBelow_3 : decode cL_liveBelow 3 = .ok (.iload_n 1, 1) := by decide +kernel
theorem dL_liveBelow_4 : decode cL_liveBelow 4 = .ok (.invokevirtual 28, 3) := by decide +kernel
theorem dL_liveBelow_7 : decode cL_liveBelow 7 = .ok (.i2l, 1) := by decide +kernel
theorem dL_liveBelow_8 : decode cL_liveBelow 8 = .ok (.lastore, 1) := by decide +kernel
theorem dL_liveBelow_9 : decode cL_liveBelow 9 = .ok (.goto 6, 3) := by decide +kernel
theorem dL_liveBelow_12 : decode cL_liveBelow 12 = .ok (.astore_n 3, 1) := by decide +kernel
theorem dL_liveBelow_13 : decode cL_liveBelow 13 = .ok (.iconst 1, 1) := by decide +kernel
theorem dL_liveBelow_14 : decode cL_liveBelow 14 = .ok (.ireturn, 1) := by decide +kernel
theorem dL_liveBelow_15 : decode cL_liveBelow 15 = .ok (.iconst 0, 1) := by decide +kernel
theorem dL_liveBelow_16 : decode cL_liveBelow 16 = .ok (.ireturn, 1) := by decide +kernel
set_option maxRecDepth 20000 in
theorem ggL_addMethod_X5_addMethod : GoodIn wsL_addMethod wsX5_addMethod := goodIn_ca (goodIn_ca (goodIn_ca (goodIn_r _ [8, 9, 10, 11, 12, 13, 14, 15, 16, 17, 7, 18, 19, 20, 21, 22, 23, 24, 25, 26, 27, 28, 29, 30, 31, 32, 33, 34, 35, 36, 37, 38, 39, 40, 41, 42, 43, 44, 45, 46, 47, 48, 49, 50, 51, 52, 53, 54] (by decide +kernel) (by decide +kernel)) (goodIn_sub (fun _ h => List.mem_cons_of_mem _ (List.mem_append_left _ (List.mem_append_left _ (List.mem_append_right _ h)))) (by decide +kernel))) (goodIn_sub (fun _ h => List.mem_cons_of_mem _ (List.mem_append_left _ (List.mem_append_right _ h))) (by decide +kernel))) (goodIn_sub (fun _ h => List.mem_cons_of_mem _ (List.mem_append_right _ h)) (by decide +kernel))
set_option maxRecDepth 20000 in
theorem gL_addMethod_X5_addMethod : GoodIn wsL_addMethod (wsV RL 31 RX5 yX5_addMethod wsX5_addMethod) := goodIn_app (goodIn_of _ (by decide +kernel)) ggL_addMethod_X5_addMethod
theorem dL_addMethod_0 : decode cL_addMethod 0 = .ok (.aload 4, 2) := by decide +kernel
theorem dL_addMethod_2 : decode cL_addMethod 2 = .ok (.iconst 0, 1) := by decide +kernel
theorem dL_addMethod_3 : decode cL_addMethod 3 = .ok (.aload_n 0, 1) := by decide +kernel
theorem dL_addMethod_4 : decode cL_addMethod 4 = .ok (.iload_n 1, 1) := by decide +kernel
theorem dL_addMethod_5 : decode cL_addMethod 5 = .ok (.iload_n 2, 1) := by decide +kernel
theorem dL_addMethod_6 : decode cL_addMethod 6 = .ok (.iload_n 3, 1) := by decide +kernel
theorem dL_addMethod_7 : decode cL_addMethod 7 = .ok (.invokevirtual 31, 3) := by decide +kernel
theorem dL_addMethod_10 : decode cL_addMethod 10 = .ok (.i2l, 1) := by decide +kernel
theorem dL_addMethod_11 : decode cL_addMethod 11 = .ok (.lastore, 1) := by decide +kernel
theorem dL_addMethod_12 : decode cL_addMethod 12 = .ok (.goto 15, 3) := by decide +kernel
theorem dL_addMethod_15 : decode cL_addMethod 15 = .ok (.astore 5, 2) := by decide +kernel
theorem dL_addMethod_17 : decode cL_addMethod 17 = .ok (.iconst 1, 1) := by decide +kernel
theorem dL_addMethod_18 : decode cL_addMethod 18 = .ok (.ireturn, 1) := by decide +kernel
theorem dL_addMethod_19 : decode cL_addMethod 19 = .ok (.astore 5, 2) := by decide +kernel
theorem dL_addMethod_21 : decode cL_addMethod 21 = .ok (.iconst 2, 1) := by decide +kernel
theorem dL_addMethod_22 : decode cL_addMethod 22 = .ok (.ireturn, 1) := by decide +kernel
theorem dL_addMethod_23 : decode cL_addMethod 23 = .ok (.astore 5, 2) := by decide +kernel
theorem dL_addMethod_25 : decode cL_addMethod 25 = .ok (.iconst 3, 1) := by decide +kernel
theorem dL_addMethod_26 : decode cL_addMethod 26 = .ok (.ireturn, 1) := by decide +kernel
theorem dL_addMethod_27 : decode cL_addMethod 27 = .ok (.iconst 0, 1) := by decide +kernel
theorem dL_addMethod_28 : decode cL_addMethod 28 = .ok (.ireturn, 1) := by decide +kernel
set_option maxRecDepth 20000 in
theorem ggL_addCall_X5_addCall : GoodIn wsL_addCall wsX5_addCall := goodIn_ca (goodIn_ca (goodIn_ca (goodIn_r _ [8, 9, 10, 11, 12, 13, 14, 15, 16, 17, 18, 7, 19, 20, 21, 22, 23, 24, 25, 26, 27, 28, 29, 30, 31, 32, 33, 34, 35, 36, 37, 38, 39, 40, 41, 42, 43, 44, 45, 46, 47, 48, 49, 50, 51, 52, 53, 54, 55, 56, 57, 58, 59, 60, 61, 62, 63, 64, 65, 66, 67, 68, 69, 70, 71, 72, 73, 74, 75, 76, 77, 78, 79] (by decide +kernel) (by decide +kernel)) (goodIn_sub (fun _ h => List.mem_cons_of_mem _ (List.mem_append_left _ (List.mem_append_left _ (List.mem_append_right _ h)))) (by decide +kernel))) (goodIn_sub (fun _ h => List.mem_cons_of_mem _ (List.mem_append_left _ (List.mem_append_right _ h))) (by decide +kernel))) (goodIn_sub (fun _ h => List.mem_cons_of_mem _ (List.mem_append_right _ h)) (by decide +kernel))
set_option maxRecDepth 20000 in
theorem gL_addCall_X5_addCall : GoodIn wsL_addCall (wsV RL 37 RX5 yX5_addCall wsX5_addCall) := goodIn_app (goodIn_of _ (by decide +kernel)) ggL_addCall_X5_addCall
theorem dL_addCall_0 : decode cL_addCall 0 = .ok (.aload 5, 2) := by decide +kernel
theorem dL_addCall_2 : decode cL_addCall 2 = .ok (.iconst 0, 1) := by decide +kernel
theorem dL_addCall_3 : decode cL_addCall 3 = .ok (.aload_n 0, 1) := by decide +kernel
theorem dL_addCall_4 : decode cL_addCall 4 = .ok (.iload_n 1, 1) := by decide +kernel
theorem dL_addCall_5 : decode cL_addCall 5 = .ok (.iload_n 2, 1) := by decide +kernel
theorem dL_addCall_6 : decode cL_addCall 6 = .ok (.iload_n 3, 1) := by decide +kernel
theorem dL_addCall_7 : decode cL_addCall 7 = .ok (.iload 4, 2) := by decide +kernel
theorem dL_addCall_9 : decode cL_addCall 9 = .ok (.invokevirtual 37, 3) := by decide +kernel
theorem dL_addCall_12 : decode cL_addCall 12 = .ok (.i2l, 1) := by decide +kernel
theorem dL_addCall_13 : decode cL_addCall 13 = .ok (.lastore, 1) := by decide +kernel
theorem dL_addCall_14 : decode cL_addCall 14 = .ok (.goto 15, 3) := by decide +kernel
theorem dL_addCall_17 : decode cL_addCall 17 = .ok (.astore 6, 2) := by decide +kernel
theorem dL_addCall_19 : decode cL_addCall 19 = .ok (.iconst 1, 1) := by decide +kernel
theorem dL_addCall_20 : decode cL_addCall 20 = .ok (.ireturn, 1) := by decide +kernel
theorem dL_addCall_21 : decode cL_addCall 21 = .ok (.astore 6, 2) := by decide +kernel
theorem dL_addCall_23 : decode cL_addCall 23 = .ok (.iconst 2, 1) := by decide +kernel
theorem dL_addCall_24 : decode cL_addCall 24 = .ok (.ireturn, 1) := by decide +kernel
theorem dL_addCall_25 : decode cL_addCall 25 = .ok (.astore 6, 2) := by decide +kernel
theorem dL_addCall_27 : decode cL_addCall 27 = .ok (.iconst 3, 1) := by decide +kernel
theorem dL_addCall_28 : decode cL_addCall 28 = .ok (.ireturn, 1) := by decide +kernel
theorem dL_addCall_29 : decode cL_addCall 29 = .ok (.iconst 0, 1) := by decide +kernel
theorem dL_addCall_30 : decode cL_addCall 30 = .ok (.ireturn, 1) := by decide +kernel
set_option maxRecDepth 20000 in
theorem ggL_found_X5_found : GoodIn wsL_found wsX5_found := goodIn_ca (goodIn_r _ [6, 7, 8, 9, 10, 5, 11, 12, 13, 14, 15, 16, 17, 18, 19, 20, 21, 22, 23, 24, 25, 26, 27, 28, 29, 30, 31, 32, 33, 34, 35, 36, 37, 38, 39, 40, 41, 42, 43] (by decide +kernel) (by decide +kernel)) (goodIn_sub (fun _ h => List.mem_cons_of_mem _ (List.mem_append_right _ h)) (by decide +kernel))
set_option maxRecDepth 20000 in
theorem gL_found_X5_found : GoodIn wsL_found (wsV RL 41 RX5 yX5_found wsX5_found) := goodIn_app (goodIn_of _ (by decide +kernel)) ggL_found_X5_found
theorem dL_found_0 : decode cL_found 0 = .ok (.aload_n 3, 1) := by decide +kernel
theorem dL_found_1 : decode cL_found 1 = .ok (.iconst 0, 1) := by decide +kernel
theorem dL_found_2 : decode cL_found 2 = .ok (.aload_n 0, 1) := by decide +kernel
theorem dL_found_3 : decode cL_found 3 = .ok (.iload_n 1, 1) := by decide +kernel
theorem dL_found_4 : decode cL_found 4 = .ok (.iload_n 2, 1) := by decide +kernel
theorem dL_found_5 : decode cL_found 5 = .ok (.invokevirtual 41, 3) := by decide +kernel
theorem dL_found_8 : decode cL_found 8 = .ok (.i2l, 1) := by decide +kernel
theorem dL_found_9 : decode cL_found 9 = .ok (.lastore, 1) := by decide +kernel
theorem dL_found_10 : decode cL_found 10 = .ok (.goto 7, 3) := by decide +kernel
theorem dL_found_13 : decode cL_found 13 = .ok (.astore 4, 2) := by decide +kernel
theorem dL_found_15 : decode cL_found 15 = .ok (.iconst 1, 1) := by decide +kernel
theorem dL_found_16 : decode cL_found 16 = .ok (.ireturn, 1) := by decide +kernel
theorem dL_found_17 : decode cL_found 17 = .ok (.iconst 0, 1) := by decide +kernel
theorem dL_found_18 : decode cL_found 18 = .ok (.ireturn, 1) := by decide +kernel
set_option maxRecDepth 20000 in
theorem ggL_targetCount_X5_targetCount : GoodIn wsL_targetCount wsX5_targetCount := goodIn_ca (goodIn_r _ [6, 7, 8, 9, 10, 5, 11, 12, 13, 14, 15, 16, 17, 18, 19, 20, 21, 22, 23, 24, 25, 26, 27, 28, 29, 30, 31, 32, 33, 34, 35, 36, 37, 38, 39, 40, 41, 42, 43, 44, 45, 46, 47, 48, 49, 50, 51, 52, 53, 54, 55, 56, 57, 58, 59, 60, 61, 62] (by decide +kernel) (by decide +kernel)) (goodIn_sub (fun _ h => List.mem_cons_of_mem _ (List.mem_append_right _ h)) (by decide +kernel))
set_option maxRecDepth 20000 in
theorem gL_targetCount_X5_targetCount : GoodIn wsL_targetCount (wsV RL 45 RX5 yX5_targetCount wsX5_targetCount) := goodIn_app (goodIn_of _ (by decide +kernel)) ggL_targetCount_X5_targetCount
theorem dL_targetCount_0 : decode cL_targetCount 0 = .ok (.aload_n 3, 1) := by decide +kernel
theorem dL_targetCount_1 : decode cL_targetCount 1 = .ok (.iconst 0, 1) := by decide +kernel
theorem dL_targetCount_2 : decode cL_targetCount 2 = .ok (.aload_n 0, 1) := by decide +kernel
theorem dL_targetCount_3 : decode cL_targetCount 3 = .ok (.iload_n 1, 1) := by decide +kernel
theorem dL_targetCount_4 : decode cL_targetCount 4 = .ok (.iload_n 2, 1) := by decide +kernel
theorem dL_targetCount_5 : decode cL_targetCount 5 = .ok (.invokevirtual 45, 3) := by decide +kernel
theorem dL_targetCount_8 : decode cL_targetCount 8 = .ok (.i2l, 1) := by decide +kernel
theorem dL_targetCount_9 : decode cL_targetCount 9 = .ok (.lastore, 1) := by decide +kernel
theorem dL_targetCount_10 : decode cL_targetCount 10 = .ok (.goto 7, 3) := by decide +kernel
theorem dL_targetCount_13 : decode cL_targetCount 13 = .ok (.astore 4, 2) := by decide +kernel
theorem dL_targetCount_15 : decode cL_targetCount 15 = .ok (.iconst 1, 1) := by decide +kernel
theorem dL_targetCount_16 : decode cL_targetCount 16 = .ok (.ireturn, 1) := by decide +kernel
theorem dL_targetCount_17 : decode cL_targetCount 17 = .ok (.iconst 0, 1) := by decide +kernel
theorem dL_targetCount_18 : decode cL_targetCount 18 = .ok (.ireturn, 1) := by decide +kernel
set_option maxRecDepth 20000 in
theorem ggL_target_X5_target : GoodIn wsL_target wsX5_target := goodIn_ca (goodIn_ca (goodIn_r _ [7, 8, 9, 10, 11, 12, 13, 6, 14, 15, 16, 17, 18, 19, 20, 21, 22, 23, 24, 25, 26, 27, 28, 29, 30, 31, 32, 33, 34, 35, 36, 37, 38, 39, 40, 41, 42, 43, 44, 45, 46, 47, 48, 49, 50, 51, 52, 53, 54, 55, 56, 57, 58, 59, 60, 61, 62, 63, 64, 65, 66] (by decide +kernel) (by decide +kernel)) (goodIn_sub (fun _ h => List.mem_cons_of_mem _ (List.mem_append_left _ (List.mem_append_right _ h))) (by decide +kernel))) (goodIn_sub (fun _ h => List.mem_cons_of_mem _ (List.mem_append_right _ h)) (by decide +kernel))
set_option maxRecDepth 20000 in
theorem gL_target_X5_target : GoodIn wsL_target (wsV RL 48 RX5 yX5_target wsX5_target) := goodIn_app (goodIn_of _ (by decide +kernel)) ggL_target_X5_target
theorem dL_target_0 : decode cL_target 0 = .ok (.aload 4, 2) := by decide +kernel
theorem dL_target_2 : decode cL_target 2 = .ok (.iconst 0, 1) := by decide +kernel
theorem dL_target_3 : decode cL_target 3 = .ok (.aload_n 0, 1) := by decide +kernel
theorem dL_target_4 : decode cL_target 4 = .ok (.iload_n 1, 1) := by decide +kernel
theorem dL_target_5 : decode cL_target 5 = .ok (.iload_n 2, 1) := by decide +kernel
theorem dL_target_6 : decode cL_target 6 = .ok (.iload_n 3, 1) := by decide +kernel
theorem dL_target_7 : decode cL_target 7 = .ok (.invokevirtual 48, 3) := by decide +kernel
theorem dL_target_10 : decode cL_target 10 = .ok (.i2l, 1) := by decide +kernel
theorem dL_target_11 : decode cL_target 11 = .ok (.lastore, 1) := by decide +kernel
theorem dL_target_12 : decode cL_target 12 = .ok (.goto 11, 3) := by decide +kernel
theorem dL_target_15 : decode cL_target 15 = .ok (.astore 5, 2) := by decide +kernel
theorem dL_target_17 : decode cL_target 17 = .ok (.iconst 1, 1) := by decide +kernel
theorem dL_target_18 : decode cL_target 18 = .ok (.ireturn, 1) := by decide +kernel
theorem dL_target_19 : decode cL_target 19 = .ok (.astore 5, 2) := by decide +kernel
theorem dL_target_21 : decode cL_target 21 = .ok (.iconst 2, 1) := by decide +kernel
theorem dL_target_22 : decode cL_target 22 = .ok (.ireturn, 1) := by decide +kernel
theorem dL_target_23 : decode cL_target 23 = .ok (.iconst 0, 1) := by decide +kernel
theorem dL_target_24 : decode cL_target 24 = .ok (.ireturn, 1) := by decide +kernel
set_option maxRecDepth 20000 in
theorem ggL_reached_X5_reached : GoodIn wsL_reached wsX5_reached := goodIn_ca (goodIn_r _ [6, 7, 8, 9, 10, 5, 11, 12, 13, 14, 15, 16, 17, 18, 19, 20, 21, 22, 23, 24, 25, 26, 27, 28, 29, 30, 31, 32, 33, 34, 35, 36, 37, 38, 39, 40, 41, 42, 43, 44, 45, 46, 47, 48, 49, 50, 51, 52, 53, 54, 55, 56, 57, 58, 59, 60, 61, 62, 63, 64, 65, 66, 67, 68, 69, 70, 71, 72, 73, 74, 75] (by decide +kernel) (by decide +kernel)) (goodIn_sub (fun _ h => List.mem_cons_of_mem _ (List.mem_append_right _ h)) (by decide +kernel))
set_option maxRecDepth 20000 in
theorem gL_reached_X5_reached : GoodIn wsL_reached (wsV RL 53 RX5 yX5_reached wsX5_reached) := goodIn_app (goodIn_of _ (by decide +kernel)) ggL_reached_X5_reached
theorem dL_reached_0 : decode cL_reached 0 = .ok (.aload_n 2, 1) := by decide +kernel
theorem dL_reached_1 : decode cL_reached 1 = .ok (.iconst 0, 1) := by decide +kernel
theorem dL_reached_2 : decode cL_reached 2 = .ok (.aload_n 0, 1) := by decide +kernel
theorem dL_reached_3 : decode cL_reached 3 = .ok (.iload_n 1, 1) := by decide +kernel
theorem dL_reached_4 : decode cL_reached 4 = .ok (.invokevirtual 53, 3) := by decide +kernel
theorem dL_reached_7 : decode cL_reached 7 = .ok (.i2l, 1) := by decide +kernel
theorem dL_reached_8 : decode cL_reached 8 = .ok (.lastore, 1) := by decide +kernel
theorem dL_reached_9 : decode cL_reached 9 = .ok (.goto 6, 3) := by decide +kernel
theorem dL_reached_12 : decode cL_reached 12 = .ok (.astore_n 3, 1) := by decide +kernel
theorem dL_reached_13 : decode cL_reached 13 = .ok (.iconst 1, 1) := by decide +kernel
theorem dL_reached_14 : decode cL_reached 14 = .ok (.ireturn, 1) := by decide +kernel
theorem dL_reached_15 : decode cL_reached 15 = .ok (.iconst 0, 1) := by decide +kernel
theorem dL_reached_16 : decode cL_reached 16 = .ok (.ireturn, 1) := by decide +kernel
set_option maxRecDepth 20000 in
theorem ggL_setLimits_X5_setLimits : GoodIn wsL_setLimits wsX5_setLimits := goodIn_ca (goodIn_r _ [6, 7, 8, 9, 10, 11, 12, 13, 14, 15, 16, 17, 18, 19, 20, 21, 22, 23, 24, 25, 26, 27, 28, 29, 30, 31, 32, 33, 34, 35, 36, 37, 38, 39, 40, 41, 42, 43, 44, 45] (by decide +kernel) (by decide +kernel)) (goodIn_sub (fun _ h => List.mem_cons_of_mem _ (List.mem_append_right _ h)) (by decide +kernel))
set_option maxRecDepth 20000 in
theorem gL_setLimits_X5_setLimits : GoodIn wsL_setLimits (wsV RL 56 RX5 yX5_setLimits wsX5_setLimits) := goodIn_app (goodIn_of _ (by decide +kernel)) ggL_setLimits_X5_setLimits
theorem dL_setLimits_0 : decode cL_setLimits 0 = .ok (.aload 4, 2) := by decide +kernel
theorem dL_setLimits_2 : decode cL_setLimits 2 = .ok (.iconst 0, 1) := by decide +kernel
theorem dL_setLimits_3 : decode cL_setLimits 3 = .ok (.aload_n 0, 1) := by decide +kernel
theorem dL_setLimits_4 : decode cL_setLimits 4 = .ok (.iload_n 1, 1) := by decide +kernel
theorem dL_setLimits_5 : decode cL_setLimits 5 = .ok (.iload_n 2, 1) := by decide +kernel
theorem dL_setLimits_6 : decode cL_setLimits 6 = .ok (.iload_n 3, 1) := by decide +kernel
theorem dL_setLimits_7 : decode cL_setLimits 7 = .ok (.invokevirtual 56, 3) := by decide +kernel
theorem dL_setLimits_10 : decode cL_setLimits 10 = .ok (.ifCond .eq 7, 3) := by decide +kernel
theorem dL_setLimits_13 : decode cL_setLimits 13 = .ok (.lconst 1, 1) := by decide +kernel
theorem dL_setLimits_14 : decode cL_setLimits 14 = .ok (.goto 4, 3) := by decide +kernel
theorem dL_setLimits_17 : decode cL_setLimits 17 = .ok (.lconst 0, 1) := by decide +kernel
theorem dL_setLimits_18 : decode cL_setLimits 18 = .ok (.lastore, 1) := by decide +kernel
theorem dL_setLimits_19 : decode cL_setLimits 19 = .ok (.goto 7, 3) := by decide +kernel
theorem dL_setLimits_22 : decode cL_setLimits 22 = .ok (.astore 5, 2) := by decide +kernel
theorem dL_setLimits_24 : decode cL_setLimits 24 = .ok (.iconst 1, 1) := by decide +kernel
theorem dL_setLimits_25 : decode cL_setLimits 25 = .ok (.ireturn, 1) := by decide +kernel
theorem dL_setLimits_26 : decode cL_setLimits 26 = .ok (.iconst 0, 1) := by decide +kernel
theorem dL_setLimits_27 : decode cL_setLimits 27 = .ok (.ireturn, 1) := by decide +kernel
set_option maxRecDepth 20000 in
theorem ggL_plan_X5_plan : GoodIn wsL_plan wsX5_plan := goodIn_ca (goodIn_r _ [6, 7, 8, 9, 10, 11, 5, 12, 13, 14, 15, 16, 17, 18, 19, 20, 21, 22, 23, 24, 25, 26, 27, 28, 29, 30, 31, 32, 33, 34, 35, 36, 37, 38, 39, 40, 41, 42, 43, 44, 45, 46, 47, 48, 49, 50, 51, 52, 53, 54, 55, 56, 57, 58, 59, 60, 61, 62, 63, 64, 65, 66, 67, 68, 69, 70, 71, 72, 73, 74, 75, 76, 77, 78, 79, 80, 81, 82, 83, 84, 85, 86, 87, 88, 89, 90, 91, 92, 93, 94, 95, 96, 97, 98, 99, 100, 101, 102, 103, 104, 105, 106, 107, 108, 109, 110, 111, 112, 113, 114, 115, 116, 117, 118, 119, 120, 121, 122, 123, 124, 125, 126, 127, 128, 129, 130, 131, 132, 133, 134, 135, 136, 137, 138, 139, 140, 141, 142, 143, 144, 145, 146, 147, 148, 149, 150, 151, 152, 153, 154, 155, 156, 157, 158, 159, 160, 161, 162, 163, 164, 165, 166, 167, 168, 169, 170] (by decide +kernel) (by decide +kernel)) (goodIn_sub (fun _ h => List.mem_cons_of_mem _ (List.mem_append_right _ h)) (by decide +kernel))
set_option maxRecDepth 20000 in
theorem gL_plan_X5_plan : GoodIn wsL_plan (wsV RL 60 RX5 yX5_plan wsX5_plan) := goodIn_app (goodIn_of _ (by decide +kernel)) ggL_plan_X5_plan
theorem dL_plan_0 : decode cL_plan 0 = .ok (.aload_n 2, 1) := by decide +kernel
theorem dL_plan_1 : decode cL_plan 1 = .ok (.iconst 0, 1) := by decide +kernel
theorem dL_plan_2 : decode cL_plan 2 = .ok (.aload_n 0, 1) := by decide +kernel
theorem dL_plan_3 : decode cL_plan 3 = .ok (.iload_n 1, 1) := by decide +kernel
theorem dL_plan_4 : decode cL_plan 4 = .ok (.invokevirtual 60, 3) := by decide +kernel
theorem dL_plan_7 : decode cL_plan 7 = .ok (.i2l, 1) := by decide +kernel
theorem dL_plan_8 : decode cL_plan 8 = .ok (.lastore, 1) := by decide +kernel
theorem dL_plan_9 : decode cL_plan 9 = .ok (.goto 6, 3) := by decide +kernel
theorem dL_plan_12 : decode cL_plan 12 = .ok (.astore_n 3, 1) := by decide +kernel
theorem dL_plan_13 : decode cL_plan 13 = .ok (.iconst 1, 1) := by decide +kernel
theorem dL_plan_14 : decode cL_plan 14 = .ok (.ireturn, 1) := by decide +kernel
theorem dL_plan_15 : decode cL_plan 15 = .ok (.iconst 0, 1) := by decide +kernel
theorem dL_plan_16 : decode cL_plan 16 = .ok (.ireturn, 1) := by decide +kernel
set_option maxRecDepth 20000 in
theorem ggL_nodeCount_X5_nodeCount : GoodIn wsL_nodeCount wsX5_nodeCount := goodIn_ca (goodIn_r _ [6, 7, 8, 9, 10, 11, 5, 12, 13, 14, 15, 16, 17, 18, 19, 20, 21, 22, 23, 24, 25, 26, 27, 28, 29, 30, 31, 32, 33, 34, 35, 36, 37] (by decide +kernel) (by decide +kernel)) (goodIn_sub (fun _ h => List.mem_cons_of_mem _ (List.mem_append_right _ h)) (by decide +kernel))
set_option maxRecDepth 20000 in
theorem gL_nodeCount_X5_nodeCount : GoodIn wsL_nodeCount (wsV RL 63 RX5 yX5_nodeCount wsX5_nodeCount) := goodIn_app (goodIn_of _ (by decide +kernel)) ggL_nodeCount_X5_nodeCount
theorem dL_nodeCount_0 : decode cL_nodeCount 0 = .ok (.aload_n 1, 1) := by decide +kernel
theorem dL_nodeCount_1 : decode cL_nodeCount 1 = .ok (.iconst 0, 1) := by decide +kernel
theorem dL_nodeCount_2 : decode cL_nodeCount 2 = .ok (.aload_n 0, 1) := by decide +kernel
theorem dL_nodeCount_3 : decode cL_nodeCount 3 = .ok (.invokevirtual 63, 3) := by decide +kernel
theorem dL_nodeCount_6 : decode cL_nodeCount 6 = .ok (.i2l, 1) := by decide +kernel
theorem dL_nodeCount_7 : decode cL_nodeCount 7 = .ok (.lastore, 1) := by decide +kernel
theorem dL_nodeCount_8 : decode cL_nodeCount 8 = .ok (.goto 6, 3) := by decide +kernel
theorem dL_nodeCount_11 : decode cL_nodeCount 11 = .ok (.astore_n 2, 1) := by decide +kernel
theorem dL_nodeCount_12 : decode cL_nodeCount 12 = .ok (.iconst 1, 1) := by decide +kernel
theorem dL_nodeCount_13 : decode cL_nodeCount 13 = .ok (.ireturn, 1) := by decide +kernel
theorem dL_nodeCount_14 : decode cL_nodeCount 14 = .ok (.iconst 0, 1) := by decide +kernel
theorem dL_nodeCount_15 : decode cL_nodeCount 15 = .ok (.ireturn, 1) := by decide +kernel
set_option maxRecDepth 20000 in
theorem ggL_size_X5_size : GoodIn wsL_size wsX5_size := goodIn_ca (goodIn_r _ [6, 7, 8, 9, 10, 11, 5, 12, 13, 14, 15, 16, 17, 18, 19, 20, 21, 22, 23, 24, 25, 26, 27, 28, 29, 30, 31, 32, 33, 34, 35, 36, 37] (by decide +kernel) (by decide +kernel)) (goodIn_sub (fun _ h => List.mem_cons_of_mem _ (List.mem_append_right _ h)) (by decide +kernel))
set_option maxRecDepth 20000 in
theorem gL_size_X5_size : GoodIn wsL_size (wsV RL 67 RX5 yX5_size wsX5_size) := goodIn_app (goodIn_of _ (by decide +kernel)) ggL_size_X5_size
theorem dL_size_0 : decode cL_size 0 = .ok (.aload_n 1, 1) := by decide +kernel
theorem dL_size_1 : decode cL_size 1 = .ok (.iconst 0, 1) := by decide +kernel
theorem dL_size_2 : decode cL_size 2 = .ok (.aload_n 0, 1) := by decide +kernel
theorem dL_size_3 : decode cL_size 3 = .ok (.invokevirtual 67, 3) := by decide +kernel
theorem dL_size_6 : decode cL_size 6 = .ok (.i2l, 1) := by decide +kernel
theorem dL_size_7 : decode cL_size 7 = .ok (.lastore, 1) := by decide +kernel
theorem dL_size_8 : decode cL_size 8 = .ok (.goto 6, 3) := by decide +kernel
theorem dL_size_11 : decode cL_size 11 = .ok (.astore_n 2, 1) := by decide +kernel
theorem dL_size_12 : decode cL_size 12 = .ok (.iconst 1, 1) := by decide +kernel
theorem dL_size_13 : decode cL_size 13 = .ok (.ireturn, 1) := by decide +kernel
theorem dL_size_14 : decode cL_size 14 = .ok (.iconst 0, 1) := by decide +kernel
theorem dL_size_15 : decode cL_size 15 = .ok (.ireturn, 1) := by decide +kernel
set_option maxRecDepth 20000 in
theorem ggL_method_X5_method : GoodIn wsL_method wsX5_method := goodIn_ca (goodIn_ca (goodIn_r _ [7, 8, 9, 10, 11, 12, 6, 13, 14, 15, 16, 17, 18, 19, 20, 21, 22, 23, 24, 25, 26, 27, 28, 29, 30, 31, 32, 33, 34, 35, 36, 37, 38, 39, 40, 41, 42, 43, 44, 45] (by decide +kernel) (by decide +kernel)) (goodIn_sub (fun _ h => List.mem_cons_of_mem _ (List.mem_append_left _ (List.mem_append_right _ h))) (by decide +kernel))) (goodIn_sub (fun _ h => List.mem_cons_of_mem _ (List.mem_append_right _ h)) (by decide +kernel))
set_option maxRecDepth 20000 in
theorem gL_method_X5_method : GoodIn wsL_method (wsV RL 70 RX5 yX5_method wsX5_method) := goodIn_app (goodIn_of _ (by decide +kernel)) ggL_method_X5_method
theorem dL_method_0 : decode cL_method 0 = .ok (.aload_n 2, 1) := by decide +kernel
theorem dL_method_1 : decode cL_method 1 = .ok (.iconst 0, 1) := by decide +kernel
theorem dL_method_2 : decode cL_method 2 = .ok (.aload_n 0, 1) := by decide +kernel
theorem dL_method_3 : decode cL_method 3 = .ok (.iload_n 1, 1) := by decide +kernel
theorem dL_method_4 : decode cL_method 4 = .ok (.invokevirtual 70, 3) := by decide +kernel
theorem dL_method_7 : decode cL_method 7 = .ok (.i2l, 1) := by decide +kernel
theorem dL_method_8 : decode cL_method 8 = .ok (.lastore, 1) := by decide +kernel
theorem dL_method_9 : decode cL_method 9 = .ok (.goto 9, 3) := by decide +kernel
theorem dL_method_12 : decode cL_method 12 = .ok (.astore_n 3, 1) := by decide +kernel
theorem dL_method_13 : decode cL_method 13 = .ok (.iconst 1, 1) := by decide +kernel
theorem dL_method_14 : decode cL_method 14 = .ok (.ireturn, 1) := by decide +kernel
theorem dL_method_15 : decode cL_method 15 = .ok (.astore_n 3, 1) := by decide +kernel
theorem dL_method_16 : decode cL_method 16 = .ok (.iconst 2, 1) := by decide +kernel
theorem dL_method_17 : decode cL_method 17 = .ok (.ireturn, 1) := by decide +kernel
theorem dL_method_18 : decode cL_method 18 = .ok (.iconst 0, 1) := by decide +kernel
theorem dL_method_19 : decode cL_method 19 = .ok (.ireturn, 1) := by decide +kernel
set_option maxRecDepth 20000 in
theorem ggL_parentNode_X5_parentNode : GoodIn wsL_parentNode wsX5_parentNode := goodIn_ca (goodIn_ca (goodIn_r _ [7, 8, 9, 10, 11, 12, 6, 13, 14, 15, 16, 17, 18, 19, 20, 21, 22, 23, 24, 25, 26, 27, 28, 29, 30, 31, 32, 33, 34, 35, 36, 37, 38, 39, 40, 41, 42, 43, 44, 45] (by decide +kernel) (by decide +kernel)) (goodIn_sub (fun _ h => List.mem_cons_of_mem _ (List.mem_append_left _ (List.mem_append_right _ h))) (by decide +kernel))) (goodIn_sub (fun _ h => List.mem_cons_of_mem _ (List.mem_append_right _ h)) (by decide +kernel))
set_option maxRecDepth 20000 in
theorem gL_parentNode_X5_parentNode : GoodIn wsL_parentNode (wsV RL 73 RX5 yX5_parentNode wsX5_parentNode) := goodIn_app (goodIn_of _ (by decide +kernel)) ggL_parentNode_X5_parentNode
theorem dL_parentNode_0 : decode cL_parentNode 0 = .ok (.aload_n 2, 1) := by decide +kernel
theorem dL_parentNode_1 : decode cL_parentNode 1 = .ok (.iconst 0, 1) := by decide +kernel
theorem dL_parentNode_2 : decode cL_parentNode 2 = .ok (.aload_n 0, 1) := by decide +kernel
theorem dL_parentNode_3 : decode cL_parentNode 3 = .ok (.iload_n 1, 1) := by decide +kernel
theorem dL_parentNode_4 : decode cL_parentNode 4 = .ok (.invokevirtual 73, 3) := by decide +kernel
theorem dL_parentNode_7 : decode cL_parentNode 7 = .ok (.i2l, 1) := by decide +kernel
theorem dL_parentNode_8 : decode cL_parentNode 8 = .ok (.lastore, 1) := by decide +kernel
theorem dL_parentNode_9 : decode cL_parentNode 9 = .ok (.goto 9, 3) := by decide +kernel
theorem dL_parentNode_12 : decode cL_parentNode 12 = .ok (.astore_n 3, 1) := by decide +kernel
theorem dL_parentNode_13 : decode cL_parentNode 13 = .ok (.iconst 1, 1) := by decide +kernel
theorem dL_parentNode_14 : decode cL_parentNode 14 = .ok (.ireturn, 1) := by decide +kernel
theorem dL_parentNode_15 : decode cL_parentNode 15 = .ok (.astore_n 3, 1) := by decide +kernel
theorem dL_parentNode_16 : decode cL_parentNode 16 = .ok (.iconst 2, 1) := by decide +kernel
theorem dL_parentNode_17 : decode cL_parentNode 17 = .ok (.ireturn, 1) := by decide +kernel
theorem dL_parentNode_18 : decode cL_parentNode 18 = .ok (.iconst 0, 1) := by decide +kernel
theorem dL_parentNode_19 : decode cL_parentNode 19 = .ok (.ireturn, 1) := by decide +kernel
set_option maxRecDepth 20000 in
theorem ggL_siteOf_X5_siteOf : GoodIn wsL_siteOf wsX5_siteOf := goodIn_ca (goodIn_ca (goodIn_r _ [7, 8, 9, 10, 11, 12, 6, 13, 14, 15, 16, 17, 18, 19, 20, 21, 22, 23, 24, 25, 26, 27, 28, 29, 30, 31, 32, 33, 34, 35, 36, 37, 38, 39, 40, 41, 42, 43, 44, 45] (by decide +kernel) (by decide +kernel)) (goodIn_sub (fun _ h => List.mem_cons_of_mem _ (List.mem_append_left _ (List.mem_append_right _ h))) (by decide +kernel))) (goodIn_sub (fun _ h => List.mem_cons_of_mem _ (List.mem_append_right _ h)) (by decide +kernel))
set_option maxRecDepth 20000 in
theorem gL_siteOf_X5_siteOf : GoodIn wsL_siteOf (wsV RL 76 RX5 yX5_siteOf wsX5_siteOf) := goodIn_app (goodIn_of _ (by decide +kernel)) ggL_siteOf_X5_siteOf
theorem dL_siteOf_0 : decode cL_siteOf 0 = .ok (.aload_n 2, 1) := by decide +kernel
theorem dL_siteOf_1 : decode cL_siteOf 1 = .ok (.iconst 0, 1) := by decide +kernel
theorem dL_siteOf_2 : decode cL_siteOf 2 = .ok (.aload_n 0, 1) := by decide +kernel
theorem dL_siteOf_3 : decode cL_siteOf 3 = .ok (.iload_n 1, 1) := by decide +kernel
theorem dL_siteOf_4 : decode cL_siteOf 4 = .ok (.invokevirtual 76, 3) := by decide +kernel
theorem dL_siteOf_7 : decode cL_siteOf 7 = .ok (.i2l, 1) := by decide +kernel
theorem dL_siteOf_8 : decode cL_siteOf 8 = .ok (.lastore, 1) := by decide +kernel
theorem dL_siteOf_9 : decode cL_siteOf 9 = .ok (.goto 9, 3) := by decide +kernel
theorem dL_siteOf_12 : decode cL_siteOf 12 = .ok (.astore_n 3, 1) := by decide +kernel
theorem dL_siteOf_13 : decode cL_siteOf 13 = .ok (.iconst 1, 1) := by decide +kernel
theorem dL_siteOf_14 : decode cL_siteOf 14 = .ok (.ireturn, 1) := by decide +kernel
theorem dL_siteOf_15 : decode cL_siteOf 15 = .ok (.astore_n 3, 1) := by decide +kernel
theorem dL_siteOf_16 : decode cL_siteOf 16 = .ok (.iconst 2, 1) := by decide +kernel
theorem dL_siteOf_17 : decode cL_siteOf 17 = .ok (.ireturn, 1) := by decide +kernel
theorem dL_siteOf_18 : decode cL_siteOf 18 = .ok (.iconst 0, 1) := by decide +kernel
theorem dL_siteOf_19 : decode cL_siteOf 19 = .ok (.ireturn, 1) := by decide +kernel
set_option maxRecDepth 20000 in
theorem ggL_depth_X5_depth : GoodIn wsL_depth wsX5_depth := goodIn_ca (goodIn_ca (goodIn_r _ [7, 8, 9, 10, 11, 12, 6, 13, 14, 15, 16, 17, 18, 19, 20, 21, 22, 23, 24, 25, 26, 27, 28, 29, 30, 31, 32, 33, 34, 35, 36, 37, 38, 39, 40, 41, 42, 43, 44, 45] (by decide +kernel) (by decide +kernel)) (goodIn_sub (fun _ h => List.mem_cons_of_mem _ (List.mem_append_left _ (List.mem_append_right _ h))) (by decide +kernel))) (goodIn_sub (fun _ h => List.mem_cons_of_mem _ (List.mem_append_right _ h)) (by decide +kernel))
set_option maxRecDepth 20000 in
theorem gL_depth_X5_depth : GoodIn wsL_depth (wsV RL 79 RX5 yX5_depth wsX5_depth) := goodIn_app (goodIn_of _ (by decide +kernel)) ggL_depth_X5_depth
theorem dL_depth_0 : decode cL_depth 0 = .ok (.aload_n 2, 1) := by decide +kernel
theorem dL_depth_1 : decode cL_depth 1 = .ok (.iconst 0, 1) := by decide +kernel
theorem dL_depth_2 : decode cL_depth 2 = .ok (.aload_n 0, 1) := by decide +kernel
theorem dL_depth_3 : decode cL_depth 3 = .ok (.iload_n 1, 1) := by decide +kernel
theorem dL_depth_4 : decode cL_depth 4 = .ok (.invokevirtual 79, 3) := by decide +kernel
theorem dL_depth_7 : decode cL_depth 7 = .ok (.i2l, 1) := by decide +kernel
theorem dL_depth_8 : decode cL_depth 8 = .ok (.lastore, 1) := by decide +kernel
theorem dL_depth_9 : decode cL_depth 9 = .ok (.goto 9, 3) := by decide +kernel
theorem dL_depth_12 : decode cL_depth 12 = .ok (.astore_n 3, 1) := by decide +kernel
theorem dL_depth_13 : decode cL_depth 13 = .ok (.iconst 1, 1) := by decide +kernel
theorem dL_depth_14 : decode cL_depth 14 = .ok (.ireturn, 1) := by decide +kernel
theorem dL_depth_15 : decode cL_depth 15 = .ok (.astore_n 3, 1) := by decide +kernel
theorem dL_depth_16 : decode cL_depth 16 = .ok (.iconst 2, 1) := by decide +kernel
theorem dL_depth_17 : decode cL_depth 17 = .ok (.ireturn, 1) := by decide +kernel
theorem dL_depth_18 : decode cL_depth 18 = .ok (.iconst 0, 1) := by decide +kernel
theorem dL_depth_19 : decode cL_depth 19 = .ok (.ireturn, 1) := by decide +kernel
set_option maxRecDepth 20000 in
theorem ggL_siteCount_X5_siteCount : GoodIn wsL_siteCount wsX5_siteCount := goodIn_ca (goodIn_ca (goodIn_r _ [7, 8, 9, 10, 11, 6, 12, 13, 14, 15, 16, 17, 18, 19, 20, 21, 22, 23, 24, 25, 26, 27, 28, 29, 30, 31, 32, 33, 34, 35, 36, 37, 38, 39, 40, 41, 42, 43, 44, 45, 46, 47, 48, 49, 50, 51, 52, 53, 54, 55, 56, 57, 58, 59] (by decide +kernel) (by decide +kernel)) (goodIn_sub (fun _ h => List.mem_cons_of_mem _ (List.mem_append_left _ (List.mem_append_right _ h))) (by decide +kernel))) (goodIn_sub (fun _ h => List.mem_cons_of_mem _ (List.mem_append_right _ h)) (by decide +kernel))
set_option maxRecDepth 20000 in
theorem gL_siteCount_X5_siteCount : GoodIn wsL_siteCount (wsV RL 82 RX5 yX5_siteCount wsX5_siteCount) := goodIn_app (goodIn_of _ (by decide +kernel)) ggL_siteCount_X5_siteCount
theorem dL_siteCount_0 : decode cL_siteCount 0 = .ok (.aload_n 2, 1) := by decide +kernel
theorem dL_siteCount_1 : decode cL_siteCount 1 = .ok (.iconst 0, 1) := by decide +kernel
theorem dL_siteCount_2 : decode cL_siteCount 2 = .ok (.aload_n 0, 1) := by decide +kernel
theorem dL_siteCount_3 : decode cL_siteCount 3 = .ok (.iload_n 1, 1) := by decide +kernel
theorem dL_siteCount_4 : decode cL_siteCount 4 = .ok (.invokevirtual 82, 3) := by decide +kernel
theorem dL_siteCount_7 : decode cL_siteCount 7 = .ok (.i2l, 1) := by decide +kernel
theorem dL_siteCount_8 : decode cL_siteCount 8 = .ok (.lastore, 1) := by decide +kernel
theorem dL_siteCount_9 : decode cL_siteCount 9 = .ok (.goto 9, 3) := by decide +kernel
theorem dL_siteCount_12 : decode cL_siteCount 12 = .ok (.astore_n 3, 1) := by decide +kernel
theorem dL_siteCount_13 : decode cL_siteCount 13 = .ok (.iconst 1, 1) := by decide +kernel
theorem dL_siteCount_14 : decode cL_siteCount 14 = .ok (.ireturn, 1) := by decide +kernel
theorem dL_siteCount_15 : decode cL_siteCount 15 = .ok (.astore_n 3, 1) := by decide +kernel
theorem dL_siteCount_16 : decode cL_siteCount 16 = .ok (.iconst 2, 1) := by decide +kernel
theorem dL_siteCount_17 : decode cL_siteCount 17 = .ok (.ireturn, 1) := by decide +kernel
theorem dL_siteCount_18 : decode cL_siteCount 18 = .ok (.iconst 0, 1) := by decide +kernel
theorem dL_siteCount_19 : decode cL_siteCount 19 = .ok (.ireturn, 1) := by decide +kernel
set_option maxRecDepth 20000 in
theorem ggL_verdict_X5_verdict : GoodIn wsL_verdict wsX5_verdict := goodIn_ca (goodIn_ca (goodIn_r _ [7, 8, 9, 10, 11, 12, 6, 13, 14, 15, 16, 17, 18, 19, 20, 21, 22, 23, 24, 25, 26, 27, 28, 29, 30, 31, 32, 33, 34, 35, 36, 37, 38, 39, 40, 41, 42, 43, 44, 45, 46, 47, 48, 49, 50, 51, 52, 53, 54, 55, 56, 57, 58, 59, 60, 61, 62, 63, 64, 65, 66, 67] (by decide +kernel) (by decide +kernel)) (goodIn_sub (fun _ h => List.mem_cons_of_mem _ (List.mem_append_left _ (List.mem_append_right _ h))) (by decide +kernel))) (goodIn_sub (fun _ h => List.mem_cons_of_mem _ (List.mem_append_right _ h)) (by decide +kernel))
set_option maxRecDepth 20000 in
theorem gL_verdict_X5_verdict : GoodIn wsL_verdict (wsV RL 85 RX5 yX5_verdict wsX5_verdict) := goodIn_app (goodIn_of _ (by decide +kernel)) ggL_verdict_X5_verdict
theorem dL_verdict_0 : decode cL_verdict 0 = .ok (.aload_n 3, 1) := by decide +kernel
theorem dL_verdict_1 : decode cL_verdict 1 = .ok (.iconst 0, 1) := by decide +kernel
theorem dL_verdict_2 : decode cL_verdict 2 = .ok (.aload_n 0, 1) := by decide +kernel
theorem dL_verdict_3 : decode cL_verdict 3 = .ok (.iload_n 1, 1) := by decide +kernel
theorem dL_verdict_4 : decode cL_verdict 4 = .ok (.iload_n 2, 1) := by decide +kernel
theorem dL_verdict_5 : decode cL_verdict 5 = .ok (.invokevirtual 85, 3) := by decide +kernel
theorem dL_verdict_8 : decode cL_verdict 8 = .ok (.i2l, 1) := by decide +kernel
theorem dL_verdict_9 : decode cL_verdict 9 = .ok (.lastore, 1) := by decide +kernel
theorem dL_verdict_10 : decode cL_verdict 10 = .ok (.goto 11, 3) := by decide +kernel
theorem dL_verdict_13 : decode cL_verdict 13 = .ok (.astore 4, 2) := by decide +kernel
theorem dL_verdict_15 : decode cL_verdict 15 = .ok (.iconst 1, 1) := by decide +kernel
theorem dL_verdict_16 : decode cL_verdict 16 = .ok (.ireturn, 1) := by decide +kernel
theorem dL_verdict_17 : decode cL_verdict 17 = .ok (.astore 4, 2) := by decide +kernel
theorem dL_verdict_19 : decode cL_verdict 19 = .ok (.iconst 2, 1) := by decide +kernel
theorem dL_verdict_20 : decode cL_verdict 20 = .ok (.ireturn, 1) := by decide +kernel
theorem dL_verdict_21 : decode cL_verdict 21 = .ok (.iconst 0, 1) := by decide +kernel
theorem dL_verdict_22 : decode cL_verdict 22 = .ok (.ireturn, 1) := by decide +kernel
set_option maxRecDepth 20000 in
theorem ggL_weight_X5_weight : GoodIn wsL_weight wsX5_weight := goodIn_ca (goodIn_ca (goodIn_r _ [7, 8, 9, 10, 11, 12, 6, 13, 14, 15, 16, 17, 18, 19, 20, 21, 22, 23, 24, 25, 26, 27, 28, 29, 30, 31, 32, 33, 34, 35, 36, 37, 38, 39, 40, 41, 42, 43, 44, 45, 46, 47, 48, 49, 50, 51, 52, 53, 54, 55, 56, 57, 58, 59, 60, 61, 62, 63, 64, 65, 66, 67] (by decide +kernel) (by decide +kernel)) (goodIn_sub (fun _ h => List.mem_cons_of_mem _ (List.mem_append_left _ (List.mem_append_right _ h))) (by decide +kernel))) (goodIn_sub (fun _ h => List.mem_cons_of_mem _ (List.mem_append_right _ h)) (by decide +kernel))
set_option maxRecDepth 20000 in
theorem gL_weight_X5_weight : GoodIn wsL_weight (wsV RL 88 RX5 yX5_weight wsX5_weight) := goodIn_app (goodIn_of _ (by decide +kernel)) ggL_weight_X5_weight
theorem dL_weight_0 : decode cL_weight 0 = .ok (.aload_n 3, 1) := by decide +kernel
theorem dL_weight_1 : decode cL_weight 1 = .ok (.iconst 0, 1) := by decide +kernel
theorem dL_weight_2 : decode cL_weight 2 = .ok (.aload_n 0, 1) := by decide +kernel
theorem dL_weight_3 : decode cL_weight 3 = .ok (.iload_n 1, 1) := by decide +kernel
theorem dL_weight_4 : decode cL_weight 4 = .ok (.iload_n 2, 1) := by decide +kernel
theorem dL_weight_5 : decode cL_weight 5 = .ok (.invokevirtual 88, 3) := by decide +kernel
theorem dL_weight_8 : decode cL_weight 8 = .ok (.i2l, 1) := by decide +kernel
theorem dL_weight_9 : decode cL_weight 9 = .ok (.lastore, 1) := by decide +kernel
theorem dL_weight_10 : decode cL_weight 10 = .ok (.goto 11, 3) := by decide +kernel
theorem dL_weight_13 : decode cL_weight 13 = .ok (.astore 4, 2) := by decide +kernel
theorem dL_weight_15 : decode cL_weight 15 = .ok (.iconst 1, 1) := by decide +kernel
theorem dL_weight_16 : decode cL_weight 16 = .ok (.ireturn, 1) := by decide +kernel
theorem dL_weight_17 : decode cL_weight 17 = .ok (.astore 4, 2) := by decide +kernel
theorem dL_weight_19 : decode cL_weight 19 = .ok (.iconst 2, 1) := by decide +kernel
theorem dL_weight_20 : decode cL_weight 20 = .ok (.ireturn, 1) := by decide +kernel
theorem dL_weight_21 : decode cL_weight 21 = .ok (.iconst 0, 1) := by decide +kernel
theorem dL_weight_22 : decode cL_weight 22 = .ok (.ireturn, 1) := by decide +kernel
set_option maxRecDepth 20000 in
theorem ggL_weightOf_X5_weightOf : GoodIn wsL_weightOf wsX5_weightOf := goodIn_ca (goodIn_ca (goodIn_r _ [7, 8, 9, 10, 11, 12, 13, 6, 14, 15, 16, 17, 18, 19, 20, 21, 22, 23, 24, 25, 26, 27, 28, 29, 30, 31, 32, 33, 34, 35, 36, 37, 38, 39, 40, 41, 42, 43, 44, 45, 46, 47, 48, 49, 50, 51, 52, 53, 54, 55, 56, 57, 58, 59, 60, 61, 62] (by decide +kernel) (by decide +kernel)) (goodIn_sub (fun _ h => List.mem_cons_of_mem _ (List.mem_append_left _ (List.mem_append_right _ h))) (by decide +kernel))) (goodIn_sub (fun _ h => List.mem_cons_of_mem _ (List.mem_append_right _ h)) (by decide +kernel))
set_option maxRecDepth 20000 in
theorem gL_weightOf_X5_weightOf : GoodIn wsL_weightOf (wsV RL 91 RX5 yX5_weightOf wsX5_weightOf) := goodIn_app (goodIn_of _ (by decide +kernel)) ggL_weightOf_X5_weightOf
theorem dL_weightOf_0 : decode cL_weightOf 0 = .ok (.aload_n 2, 1) := by decide +kernel
theorem dL_weightOf_1 : decode cL_weightOf 1 = .ok (.iconst 0, 1) := by decide +kernel
theorem dL_weightOf_2 : decode cL_weightOf 2 = .ok (.aload_n 0, 1) := by decide +kernel
theorem dL_weightOf_3 : decode cL_weightOf 3 = .ok (.iload_n 1, 1) := by decide +kernel
theorem dL_weightOf_4 : decode cL_weightOf 4 = .ok (.invokevirtual 91, 3) := by decide +kernel
theorem dL_weightOf_7 : decode cL_weightOf 7 = .ok (.lastore, 1) := by decide +kernel
theorem dL_weightOf_8 : decode cL_weightOf 8 = .ok (.goto 9, 3) := by decide +kernel
theorem dL_weightOf_11 : decode cL_weightOf 11 = .ok (.astore_n 3, 1) := by decide +kernel
theorem dL_weightOf_12 : decode cL_weightOf 12 = .ok (.iconst 1, 1) := by decide +kernel
theorem dL_weightOf_13 : decode cL_weightOf 13 = .ok (.ireturn, 1) := by decide +kernel
theorem dL_weightOf_14 : decode cL_weightOf 14 = .ok (.astore_n 3, 1) := by decide +kernel
theorem dL_weightOf_15 : decode cL_weightOf 15 = .ok (.iconst 2, 1) := by decide +kernel
theorem dL_weightOf_16 : decode cL_weightOf 16 = .ok (.ireturn, 1) := by decide +kernel
theorem dL_weightOf_17 : decode cL_weightOf 17 = .ok (.iconst 0, 1) := by decide +kernel
theorem dL_weightOf_18 : decode cL_weightOf 18 = .ok (.ireturn, 1) := by decide +kernel
set_option maxRecDepth 20000 in
theorem ggL_share_X5_share : GoodIn wsL_share wsX5_share := goodIn_ca (goodIn_r _ [6, 7, 8, 9, 10, 5, 11, 12, 13, 14, 15, 16, 17, 18, 19, 20, 21, 22, 23, 24, 25, 26, 27, 28, 29, 30, 31, 32, 33, 34, 35, 36, 37, 38, 39, 40, 41, 42, 43, 44, 45, 46, 47, 48, 49, 50, 51, 52, 53, 54, 55, 56, 57, 58, 59] (by decide +kernel) (by decide +kernel)) (goodIn_sub (fun _ h => List.mem_cons_of_mem _ (List.mem_append_right _ h)) (by decide +kernel))
set_option maxRecDepth 20000 in
theorem gL_share_X5_share : GoodIn wsL_share (wsV RL 95 RX5 yX5_share wsX5_share) := goodIn_app (goodIn_of _ (by decide +kernel)) ggL_share_X5_share
theorem dL_share_0 : decode cL_share 0 = .ok (.aload_n 1, 1) := by decide +kernel
theorem dL_share_1 : decode cL_share 1 = .ok (.iconst 0, 1) := by decide +kernel
theorem dL_share_2 : decode cL_share 2 = .ok (.aload_n 0, 1) := by decide +kernel
theorem dL_share_3 : decode cL_share 3 = .ok (.invokevirtual 95, 3) := by decide +kernel
theorem dL_share_6 : decode cL_share 6 = .ok (.dastore, 1) := by decide +kernel
theorem dL_share_7 : decode cL_share 7 = .ok (.goto 6, 3) := by decide +kernel
theorem dL_share_10 : decode cL_share 10 = .ok (.astore_n 2, 1) := by decide +kernel
theorem dL_share_11 : decode cL_share 11 = .ok (.iconst 1, 1) := by decide +kernel
theorem dL_share_12 : decode cL_share 12 = .ok (.ireturn, 1) := by decide +kernel
theorem dL_share_13 : decode cL_share 13 = .ok (.iconst 0, 1) := by decide +kernel
theorem dL_share_14 : decode cL_share 14 = .ok (.ireturn, 1) := by decide +kernel
set_option maxRecDepth 20000 in
theorem ggL_holds_X5_holds : GoodIn wsL_holds wsX5_holds := goodIn_ca (goodIn_ca (goodIn_r _ [7, 8, 9, 10, 11, 6, 12, 13, 14, 15, 16, 17, 18, 19, 20, 21, 22, 23, 24, 25, 26, 27, 28, 29, 30, 31, 32, 33, 34, 35, 36, 37, 38, 39, 40, 41, 42, 43, 44, 45, 46, 47, 48, 49, 50, 51, 52, 53, 54, 55, 56, 57, 58, 59, 60, 61, 62, 63, 64, 65, 66, 67, 68, 69, 70, 71, 72, 73, 74, 75, 76, 77, 78, 79, 80, 81, 82, 83, 84, 85, 86, 87, 88, 89, 90, 91, 92] (by decide +kernel) (by decide +kernel)) (goodIn_sub (fun _ h => List.mem_cons_of_mem _ (List.mem_append_left _ (List.mem_append_right _ h))) (by decide +kernel))) (goodIn_sub (fun _ h => List.mem_cons_of_mem _ (List.mem_append_right _ h)) (by decide +kernel))
set_option maxRecDepth 20000 in
theorem gL_holds_X5_holds : GoodIn wsL_holds (wsV RL 99 RX5 yX5_holds wsX5_holds) := goodIn_app (goodIn_of _ (by decide +kernel)) ggL_holds_X5_holds
theorem dL_holds_0 : decode cL_holds 0 = .ok (.aload_n 2, 1) := by decide +kernel
theorem dL_holds_1 : decode cL_holds 1 = .ok (.iconst 0, 1) := by decide +kernel
theorem dL_holds_2 : decode cL_holds 2 = .ok (.aload_n 0, 1) := by decide +kernel
theorem dL_holds_3 : decode cL_holds 3 = .ok (.iload_n 1, 1) := by decide +kernel
theorem dL_holds_4 : decode cL_holds 4 = .ok (.invokevirtual 99, 3) := by decide +kernel
theorem dL_holds_7 : decode cL_holds 7 = .ok (.ifCond .eq 7, 3) := by decide +kernel
theorem dL_holds_10 : decode cL_holds 10 = .ok (.lconst 1, 1) := by decide +kernel
theorem dL_holds_11 : decode cL_holds 11 = .ok (.goto 4, 3) := by decide +kernel
theorem dL_holds_14 : decode cL_holds 14 = .ok (.lconst 0, 1) := by decide +kernel
theorem dL_holds_15 : decode cL_holds 15 = .ok (.lastore, 1) := by decide +kernel
theorem dL_holds_16 : decode cL_holds 16 = .ok (.goto 9, 3) := by decide +kernel
theorem dL_holds_19 : decode cL_holds 19 = .ok (.astore_n 3, 1) := by decide +kernel
theorem dL_holds_20 : decode cL_holds 20 = .ok (.iconst 1, 1) := by decide +kernel
theorem dL_holds_21 : decode cL_holds 21 = .ok (.ireturn, 1) := by decide +kernel
theorem dL_holds_22 : decode cL_holds 22 = .ok (.astore_n 3, 1) := by decide +kernel
theorem dL_holds_23 : decode cL_holds 23 = .ok (.iconst 2, 1) := by decide +kernel
theorem dL_holds_24 : decode cL_holds 24 = .ok (.ireturn, 1) := by decide +kernel
theorem dL_holds_25 : decode cL_holds 25 = .ok (.iconst 0, 1) := by decide +kernel
theorem dL_holds_26 : decode cL_holds 26 = .ok (.ireturn, 1) := by decide +kernel
set_option maxRecDepth 20000 in
theorem ggL_firstBroken_X5_firstBroken : GoodIn wsL_firstBroken wsX5_firstBroken := goodIn_ca (goodIn_r _ [6, 7, 8, 9, 10, 11, 5, 12, 13, 14, 15, 16, 17, 18, 19, 20, 21, 22, 23, 24, 25, 26, 27, 28, 29, 30, 31, 32, 33, 34, 35, 36, 37, 38, 39, 40, 41, 42, 43, 44, 45, 46, 47, 48, 49, 50, 51, 52, 53, 54, 55, 56, 57, 58, 59, 60, 61, 62, 63, 64, 65, 66, 67, 68, 69, 70, 71, 72, 73, 74, 75, 76, 77, 78, 79, 80, 81, 82, 83, 84, 85] (by decide +kernel) (by decide +kernel)) (goodIn_sub (fun _ h => List.mem_cons_of_mem _ (List.mem_append_right _ h)) (by decide +kernel))
set_option maxRecDepth 20000 in
theorem gL_firstBroken_X5_firstBroken : GoodIn wsL_firstBroken (wsV RL 103 RX5 yX5_firstBroken wsX5_firstBroken) := goodIn_app (goodIn_of _ (by decide +kernel)) ggL_firstBroken_X5_firstBroken
theorem dL_firstBroken_0 : decode cL_firstBroken 0 = .ok (.aload_n 1, 1) := by decide +kernel
theorem dL_firstBroken_1 : decode cL_firstBroken 1 = .ok (.iconst 0, 1) := by decide +kernel
theorem dL_firstBroken_2 : decode cL_firstBroken 2 = .ok (.aload_n 0, 1) := by decide +kernel
theorem dL_firstBroken_3 : decode cL_firstBroken 3 = .ok (.invokevirtual 103, 3) := by decide +kernel
theorem dL_firstBroken_6 : decode cL_firstBroken 6 = .ok (.i2l, 1) := by decide +kernel
theorem dL_firstBroken_7 : decode cL_firstBroken 7 = .ok (.lastore, 1) := by decide +kernel
theorem dL_firstBroken_8 : decode cL_firstBroken 8 = .ok (.goto 6, 3) := by decide +kernel
theorem dL_firstBroken_11 : decode cL_firstBroken 11 = .ok (.astore_n 2, 1) := by decide +kernel
theorem dL_firstBroken_12 : decode cL_firstBroken 12 = .ok (.iconst 1, 1) := by decide +kernel
theorem dL_firstBroken_13 : decode cL_firstBroken 13 = .ok (.ireturn, 1) := by decide +kernel
theorem dL_firstBroken_14 : decode cL_firstBroken 14 = .ok (.iconst 0, 1) := by decide +kernel
theorem dL_firstBroken_15 : decode cL_firstBroken 15 = .ok (.ireturn, 1) := by decide +kernel
set_option maxRecDepth 20000 in
theorem ggL_prune_X5_prune : GoodIn wsL_prune wsX5_prune := goodIn_ca (goodIn_r _ [6, 7, 8, 9, 10, 11, 5, 12, 13, 14, 15, 16, 17, 18, 19, 20, 21, 22, 23, 24, 25, 26, 27, 28, 29, 30, 31, 32, 33, 34, 35, 36, 37, 38, 39, 40, 41, 42, 43, 44, 45, 46, 47, 48, 49, 50, 51, 52, 53, 54, 55, 56, 57, 58, 59, 60, 61, 62, 63, 64, 65, 66, 67, 68, 69, 70, 71, 72, 73, 74, 75, 76, 77, 78, 79, 80, 81, 82, 83, 84, 85, 86, 87, 88, 89, 90, 91, 92, 93, 94, 95, 96, 97, 98, 99, 100, 101, 102, 103, 104, 105, 106, 107, 108] (by decide +kernel) (by decide +kernel)) (goodIn_sub (fun _ h => List.mem_cons_of_mem _ (List.mem_append_right _ h)) (by decide +kernel))
set_option maxRecDepth 20000 in
theorem gL_prune_X5_prune : GoodIn wsL_prune (wsV RL 106 RX5 yX5_prune wsX5_prune) := goodIn_app (goodIn_of _ (by decide +kernel)) ggL_prune_X5_prune
theorem dL_prune_0 : decode cL_prune 0 = .ok (.aload_n 1, 1) := by decide +kernel
theorem dL_prune_1 : decode cL_prune 1 = .ok (.iconst 0, 1) := by decide +kernel
theorem dL_prune_2 : decode cL_prune 2 = .ok (.aload_n 0, 1) := by decide +kernel
theorem dL_prune_3 : decode cL_prune 3 = .ok (.invokevirtual 106, 3) := by decide +kernel
theorem dL_prune_6 : decode cL_prune 6 = .ok (.i2l, 1) := by decide +kernel
theorem dL_prune_7 : decode cL_prune 7 = .ok (.lastore, 1) := by decide +kernel
theorem dL_prune_8 : decode cL_prune 8 = .ok (.goto 6, 3) := by decide +kernel
theorem dL_prune_11 : decode cL_prune 11 = .ok (.astore_n 2, 1) := by decide +kernel
theorem dL_prune_12 : decode cL_prune 12 = .ok (.iconst 1, 1) := by decide +kernel
theorem dL_prune_13 : decode cL_prune 13 = .ok (.ireturn, 1) := by decide +kernel
theorem dL_prune_14 : decode cL_prune 14 = .ok (.iconst 0, 1) := by decide +kernel
theorem dL_prune_15 : decode cL_prune 15 = .ok (.ireturn, 1) := by decide +kernel
abbrev vwCl : List vw_C := [(RX0, TX0, 4), (RX1, TX1, 3), (RX2, TX2, 8), (RX3, TX3, 13), (RX4, TX4, 3), (RX5, TX5, 4), (RX6, TX6, 22)]
