theorem dX0_init_0 : decode cX0_init 0 = .ok (.aload_n 0, 1) := by decide +kernel
theorem dX0_init_1 : decode cX0_init 1 = .ok (.invokespecial 3, 3) := by decide +kernel
theorem dX0_init_4 : decode cX0_init 4 = .ok (.aload_n 0, 1) := by decide +kernel
theorem dX0_init_5 : decode cX0_init 5 = .ok (.bipush 16, 2) := by decide +kernel
theorem dX0_init_7 : decode cX0_init 7 = .ok (.newarray .int, 2) := by decide +kernel
theorem dX0_init_9 : decode cX0_init 9 = .ok (.putfield 9, 3) := by decide +kernel
theorem dX0_init_12 : decode cX0_init 12 = .ok (.aload_n 0, 1) := by decide +kernel
theorem dX0_init_13 : decode cX0_init 13 = .ok (.bipush 16, 2) := by decide +kernel
theorem dX0_init_15 : decode cX0_init 15 = .ok (.newarray .boolean, 2) := by decide +kernel
theorem dX0_init_17 : decode cX0_init 17 = .ok (.putfield 15, 3) := by decide +kernel
theorem dX0_init_20 : decode cX0_init 20 = .ok (.aload_n 0, 1) := by decide +kernel
theorem dX0_init_21 : decode cX0_init 21 = .ok (.bipush 16, 2) := by decide +kernel
theorem dX0_init_23 : decode cX0_init 23 = .ok (.newarray .int, 2) := by decide +kernel
theorem dX0_init_25 : decode cX0_init 25 = .ok (.putfield 19, 3) := by decide +kernel
theorem dX0_init_28 : decode cX0_init 28 = .ok (.aload_n 0, 1) := by decide +kernel
theorem dX0_init_29 : decode cX0_init 29 = .ok (.iconst 1, 1) := by decide +kernel
theorem dX0_init_30 : decode cX0_init 30 = .ok (.putfield 22, 3) := by decide +kernel
theorem dX0_init_33 : decode cX0_init 33 = .ok (.aload_n 0, 1) := by decide +kernel
theorem dX0_init_34 : decode cX0_init 34 = .ok (.getfield 9, 3) := by decide +kernel
theorem dX0_init_37 : decode cX0_init 37 = .ok (.iconst 0, 1) := by decide +kernel
theorem dX0_init_38 : decode cX0_init 38 = .ok (.iconst (-1), 1) := by decide +kernel
theorem dX0_init_39 : decode cX0_init 39 = .ok (.iastore, 1) := by decide +kernel
theorem dX0_init_40 : decode cX0_init 40 = .ok (.aload_n 0, 1) := by decide +kernel
theorem dX0_init_41 : decode cX0_init 41 = .ok (.getfield 19, 3) := by decide +kernel
theorem dX0_init_44 : decode cX0_init 44 = .ok (.iconst 0, 1) := by decide +kernel
theorem dX0_init_45 : decode cX0_init 45 = .ok (.iconst 1, 1) := by decide +kernel
theorem dX0_init_46 : decode cX0_init 46 = .ok (.iastore, 1) := by decide +kernel
theorem dX0_init_47 : decode cX0_init 47 = .ok (.return_, 1) := by decide +kernel
theorem dX0_append_0 : decode cX0_append 0 = .ok (.aload_n 0, 1) := by decide +kernel
theorem dX0_append_1 : decode cX0_append 1 = .ok (.getfield 22, 3) := by decide +kernel
theorem dX0_append_4 : decode cX0_append 4 = .ok (.istore_n 2, 1) := by decide +kernel
theorem dX0_append_5 : decode cX0_append 5 = .ok (.aload_n 0, 1) := by decide +kernel
theorem dX0_append_6 : decode cX0_append 6 = .ok (.getfield 9, 3) := by decide +kernel
theorem dX0_append_9 : decode cX0_append 9 = .ok (.iload_n 2, 1) := by decide +kernel
theorem dX0_append_10 : decode cX0_append 10 = .ok (.iload_n 1, 1) := by decide +kernel
theorem dX0_append_11 : decode cX0_append 11 = .ok (.iastore, 1) := by decide +kernel
theorem dX0_append_12 : decode cX0_append 12 = .ok (.aload_n 0, 1) := by decide +kernel
theorem dX0_append_13 : decode cX0_append 13 = .ok (.getfield 19, 3) := by decide +kernel
theorem dX0_append_16 : decode cX0_append 16 = .ok (.iload_n 2, 1) := by decide +kernel
theorem dX0_append_17 : decode cX0_append 17 = .ok (.aload_n 0, 1) := by decide +kernel
theorem dX0_append_18 : decode cX0_append 18 = .ok (.getfield 19, 3) := by decide +kernel
theorem dX0_append_21 : decode cX0_append 21 = .ok (.iload_n 1, 1) := by decide +kernel
theorem dX0_append_22 : decode cX0_append 22 = .ok (.iaload, 1) := by decide +kernel
theorem dX0_append_23 : decode cX0_append 23 = .ok (.iconst 1, 1) := by decide +kernel
theorem dX0_append_24 : decode cX0_append 24 = .ok (.iload_n 2, 1) := by decide +kernel
theorem dX0_append_25 : decode cX0_append 25 = .ok (.ishl, 1) := by decide +kernel
theorem dX0_append_26 : decode cX0_append 26 = .ok (.ior, 1) := by decide +kernel
theorem dX0_append_27 : decode cX0_append 27 = .ok (.iastore, 1) := by decide +kernel
theorem dX0_append_28 : decode cX0_append 28 = .ok (.aload_n 0, 1) := by decide +kernel
theorem dX0_append_29 : decode cX0_append 29 = .ok (.dup, 1) := by decide +kernel
theorem dX0_append_30 : decode cX0_append 30 = .ok (.getfield 22, 3) := by decide +kernel
theorem dX0_append_33 : decode cX0_append 33 = .ok (.iconst 1, 1) := by decide +kernel
theorem dX0_append_34 : decode cX0_append 34 = .ok (.iadd, 1) := by decide +kernel
theorem dX0_append_35 : decode cX0_append 35 = .ok (.putfield 22, 3) := by decide +kernel
theorem dX0_append_38 : decode cX0_append 38 = .ok (.iload_n 2, 1) := by decide +kernel
theorem dX0_append_39 : decode cX0_append 39 = .ok (.ireturn, 1) := by decide +kernel
theorem dX0_under_0 : decode cX0_under 0 = .ok (.aload_n 0, 1) := by decide +kernel
theorem dX0_under_1 : decode cX0_under 1 = .ok (.getfield 19, 3) := by decide +kernel
theorem dX0_under_4 : decode cX0_under 4 = .ok (.iload_n 1, 1) := by decide +kernel
theorem dX0_under_5 : decode cX0_under 5 = .ok (.iaload, 1) := by decide +kernel
theorem dX0_under_6 : decode cX0_under 6 = .ok (.iload_n 2, 1) := by decide +kernel
theorem dX0_under_7 : decode cX0_under 7 = .ok (.ishr, 1) := by decide +kernel
theorem dX0_under_8 : decode cX0_under 8 = .ok (.iconst 1, 1) := by decide +kernel
theorem dX0_under_9 : decode cX0_under 9 = .ok (.iand, 1) := by decide +kernel
theorem dX0_under_10 : decode cX0_under 10 = .ok (.iconst 1, 1) := by decide +kernel
theorem dX0_under_11 : decode cX0_under 11 = .ok (.if_icmp .ne 7, 3) := by decide +kernel
theorem dX0_under_14 : decode cX0_under 14 = .ok (.iconst 1, 1) := by decide +kernel
theorem dX0_under_15 : decode cX0_under 15 = .ok (.goto 4, 3) := by decide +kernel
theorem dX0_under_18 : decode cX0_under 18 = .ok (.iconst 0, 1) := by decide +kernel
theorem dX0_under_19 : decode cX0_under 19 = .ok (.ireturn, 1) := by decide +kernel
set_option maxRecDepth 20000 in
theorem ggX0_mixInto_X5_mix : GoodIn wsX0_mixInto wsX5_mix := goodIn_r _ [6, 7] (by decide +kernel) (by decide +kernel)
set_option maxRecDepth 20000 in
theorem gX0_mixInto_X5_mix_n26 : GoodIn wsX0_mixInto (wsX5_mix) := ggX0_mixInto_X5_mix
theorem dX0_mixInto_0 : decode cX0_mixInto 0 = .ok (.lload_n 1, 1) := by decide +kernel
theorem dX0_mixInto_1 : decode cX0_mixInto 1 = .ok (.aload_n 0, 1) := by decide +kernel
theorem dX0_mixInto_2 : decode cX0_mixInto 2 = .ok (.getfield 22, 3) := by decide +kernel
theorem dX0_mixInto_5 : decode cX0_mixInto 5 = .ok (.invokestatic 26, 3) := by decide +kernel
theorem dX0_mixInto_8 : decode cX0_mixInto 8 = .ok (.lstore_n 3, 1) := by decide +kernel
theorem dX0_mixInto_9 : decode cX0_mixInto 9 = .ok (.iconst 0, 1) := by decide +kernel
theorem dX0_mixInto_10 : decode cX0_mixInto 10 = .ok (.istore 5, 2) := by decide +kernel
theorem dX0_mixInto_12 : decode cX0_mixInto 12 = .ok (.iload 5, 2) := by decide +kernel
theorem dX0_mixInto_14 : decode cX0_mixInto 14 = .ok (.aload_n 0, 1) := by decide +kernel
theorem dX0_mixInto_15 : decode cX0_mixInto 15 = .ok (.getfield 22, 3) := by decide +kernel
theorem dX0_mixInto_18 : decode cX0_mixInto 18 = .ok (.if_icmp .ge 41, 3) := by decide +kernel
theorem dX0_mixInto_21 : decode cX0_mixInto 21 = .ok (.lload_n 3, 1) := by decide +kernel
theorem dX0_mixInto_22 : decode cX0_mixInto 22 = .ok (.aload_n 0, 1) := by decide +kernel
theorem dX0_mixInto_23 : decode cX0_mixInto 23 = .ok (.getfield 9, 3) := by decide +kernel
theorem dX0_mixInto_26 : decode cX0_mixInto 26 = .ok (.iload 5, 2) := by decide +kernel
theorem dX0_mixInto_28 : decode cX0_mixInto 28 = .ok (.iaload, 1) := by decide +kernel
theorem dX0_mixInto_29 : decode cX0_mixInto 29 = .ok (.invokestatic 26, 3) := by decide +kernel
theorem dX0_mixInto_32 : decode cX0_mixInto 32 = .ok (.lstore_n 3, 1) := by decide +kernel
theorem dX0_mixInto_33 : decode cX0_mixInto 33 = .ok (.lload_n 3, 1) := by decide +kernel
theorem dX0_mixInto_34 : decode cX0_mixInto 34 = .ok (.aload_n 0, 1) := by decide +kernel
theorem dX0_mixInto_35 : decode cX0_mixInto 35 = .ok (.getfield 15, 3) := by decide +kernel
theorem dX0_mixInto_38 : decode cX0_mixInto 38 = .ok (.iload 5, 2) := by decide +kernel
theorem dX0_mixInto_40 : decode cX0_mixInto 40 = .ok (.baload, 1) := by decide +kernel
theorem dX0_mixInto_41 : decode cX0_mixInto 41 = .ok (.ifCond .eq 7, 3) := by decide +kernel
theorem dX0_mixInto_44 : decode cX0_mixInto 44 = .ok (.iconst 1, 1) := by decide +kernel
theorem dX0_mixInto_45 : decode cX0_mixInto 45 = .ok (.goto 4, 3) := by decide +kernel
theorem dX0_mixInto_48 : decode cX0_mixInto 48 = .ok (.iconst 0, 1) := by decide +kernel
theorem dX0_mixInto_49 : decode cX0_mixInto 49 = .ok (.invokestatic 26, 3) := by decide +kernel
theorem dX0_mixInto_52 : decode cX0_mixInto 52 = .ok (.lstore_n 3, 1) := by decide +kernel
theorem dX0_mixInto_53 : decode cX0_mixInto 53 = .ok (.iinc 5 1, 3) := by decide +kernel
theorem dX0_mixInto_56 : decode cX0_mixInto 56 = .ok (.goto (-44), 3) := by decide +kernel
theorem dX0_mixInto_59 : decode cX0_mixInto 59 = .ok (.lload_n 3, 1) := by decide +kernel
theorem dX0_mixInto_60 : decode cX0_mixInto 60 = .ok (.lreturn, 1) := by decide +kernel
theorem dX1_init_0 : decode cX1_init 0 = .ok (.aload_n 0, 1) := by decide +kernel
theorem dX1_init_1 : decode cX1_init 1 = .ok (.invokespecial 1, 3) := by decide +kernel
theorem dX1_init_4 : decode cX1_init 4 = .ok (.aload_n 0, 1) := by decide +kernel
theorem dX1_init_5 : decode cX1_init 5 = .ok (.sipush 200, 3) := by decide +kernel
theorem dX1_init_8 : decode cX1_init 8 = .ok (.putfield 7, 3) := by decide +kernel
theorem dX1_init_11 : decode cX1_init 11 = .ok (.aload_n 0, 1) := by decide +kernel
theorem dX1_init_12 : decode cX1_init 12 = .ok (.iconst 4, 1) := by decide +kernel
theorem dX1_init_13 : decode cX1_init 13 = .ok (.putfield 13, 3) := by decide +kernel
theorem dX1_init_16 : decode cX1_init 16 = .ok (.aload_n 0, 1) := by decide +kernel
theorem dX1_init_17 : decode cX1_init 17 = .ok (.iconst 1, 1) := by decide +kernel
theorem dX1_init_18 : decode cX1_init 18 = .ok (.putfield 16, 3) := by decide +kernel
theorem dX1_init_21 : decode cX1_init 21 = .ok (.return_, 1) := by decide +kernel
theorem dX1_change_0 : decode cX1_change 0 = .ok (.iload_n 1, 1) := by decide +kernel
theorem dX1_change_1 : decode cX1_change 1 = .ok (.aload_n 0, 1) := by decide +kernel
theorem dX1_change_2 : decode cX1_change 2 = .ok (.getfield 7, 3) := by decide +kernel
theorem dX1_change_5 : decode cX1_change 5 = .ok (.if_icmp .ne 19, 3) := by decide +kernel
theorem dX1_change_8 : decode cX1_change 8 = .ok (.iload_n 2, 1) := by decide +kernel
theorem dX1_change_9 : decode cX1_change 9 = .ok (.aload_n 0, 1) := by decide +kernel
theorem dX1_change_10 : decode cX1_change 10 = .ok (.getfield 13, 3) := by decide +kernel
theorem dX1_change_13 : decode cX1_change 13 = .ok (.if_icmp .ne 11, 3) := by decide +kernel
theorem dX1_change_16 : decode cX1_change 16 = .ok (.iload_n 3, 1) := by decide +kernel
theorem dX1_change_17 : decode cX1_change 17 = .ok (.aload_n 0, 1) := by decide +kernel
theorem dX1_change_18 : decode cX1_change 18 = .ok (.getfield 16, 3) := by decide +kernel
theorem dX1_change_21 : decode cX1_change 21 = .ok (.if_icmp .eq 7, 3) := by decide +kernel
theorem dX1_change_24 : decode cX1_change 24 = .ok (.iconst 1, 1) := by decide +kernel
theorem dX1_change_25 : decode cX1_change 25 = .ok (.goto 4, 3) := by decide +kernel
theorem dX1_change_28 : decode cX1_change 28 = .ok (.iconst 0, 1) := by decide +kernel
theorem dX1_change_29 : decode cX1_change 29 = .ok (.istore 4, 2) := by decide +kernel
theorem dX1_change_31 : decode cX1_change 31 = .ok (.aload_n 0, 1) := by decide +kernel
theorem dX1_change_32 : decode cX1_change 32 = .ok (.iload_n 1, 1) := by decide +kernel
theorem dX1_change_33 : decode cX1_change 33 = .ok (.putfield 7, 3) := by decide +kernel
theorem dX1_change_36 : decode cX1_change 36 = .ok (.aload_n 0, 1) := by decide +kernel
theorem dX1_change_37 : decode cX1_change 37 = .ok (.iload_n 2, 1) := by decide +kernel
theorem dX1_change_38 : decode cX1_change 38 = .ok (.putfield 13, 3) := by decide +kernel
theorem dX1_change_41 : decode cX1_change 41 = .ok (.aload_n 0, 1) := by decide +kernel
theorem dX1_change_42 : decode cX1_change 42 = .ok (.iload_n 3, 1) := by decide +kernel
theorem dX1_change_43 : decode cX1_change 43 = .ok (.putfield 16, 3) := by decide +kernel
theorem dX1_change_46 : decode cX1_change 46 = .ok (.iload 4, 2) := by decide +kernel
theorem dX1_change_48 : decode cX1_change 48 = .ok (.ireturn, 1) := by decide +kernel
set_option maxRecDepth 20000 in
theorem ggX1_mixInto_X5_mix : GoodIn wsX1_mixInto wsX5_mix := goodIn_r _ [6, 7] (by decide +kernel) (by decide +kernel)
set_option maxRecDepth 20000 in
theorem gX1_mixInto_X5_mix_n19 : GoodIn wsX1_mixInto (wsX5_mix) := ggX1_mixInto_X5_mix
theorem dX1_mixInto_0 : decode cX1_mixInto 0 = .ok (.lload_n 1, 1) := by decide +kernel
theorem dX1_mixInto_1 : decode cX1_mixInto 1 = .ok (.aload_n 0, 1) := by decide +kernel
theorem dX1_mixInto_2 : decode cX1_mixInto 2 = .ok (.getfield 7, 3) := by decide +kernel
theorem dX1_mixInto_5 : decode cX1_mixInto 5 = .ok (.invokestatic 19, 3) := by decide +kernel
theorem dX1_mixInto_8 : decode cX1_mixInto 8 = .ok (.aload_n 0, 1) := by decide +kernel
theorem dX1_mixInto_9 : decode cX1_mixInto 9 = .ok (.getfield 13, 3) := by decide +kernel
theorem dX1_mixInto_12 : decode cX1_mixInto 12 = .ok (.invokestatic 19, 3) := by decide +kernel
theorem dX1_mixInto_15 : decode cX1_mixInto 15 = .ok (.aload_n 0, 1) := by decide +kernel
theorem dX1_mixInto_16 : decode cX1_mixInto 16 = .ok (.getfield 16, 3) := by decide +kernel
theorem dX1_mixInto_19 : decode cX1_mixInto 19 = .ok (.invokestatic 19, 3) := by decide +kernel
theorem dX1_mixInto_22 : decode cX1_mixInto 22 = .ok (.lreturn, 1) := by decide +kernel
theorem dX2_init_0 : decode cX2_init 0 = .ok (.aload_n 0, 1) := by decide +kernel
theorem dX2_init_1 : decode cX2_init 1 = .ok (.invokespecial 3, 3) := by decide +kernel
theorem dX2_init_4 : decode cX2_init 4 = .ok (.aload_n 0, 1) := by decide +kernel
theorem dX2_init_5 : decode cX2_init 5 = .ok (.bipush 30, 2) := by decide +kernel
theorem dX2_init_7 : decode cX2_init 7 = .ok (.newarray .int, 2) := by decide +kernel
theorem dX2_init_9 : decode cX2_init 9 = .ok (.putfield 9, 3) := by decide +kernel
theorem dX2_init_12 : decode cX2_init 12 = .ok (.aload_n 0, 1) := by decide +kernel
theorem dX2_init_13 : decode cX2_init 13 = .ok (.bipush 30, 2) := by decide +kernel
theorem dX2_init_15 : decode cX2_init 15 = .ok (.newarray .int, 2) := by decide +kernel
theorem dX2_init_17 : decode cX2_init 17 = .ok (.putfield 15, 3) := by decide +kernel
theorem dX2_init_20 : decode cX2_init 20 = .ok (.aload_n 0, 1) := by decide +kernel
theorem dX2_init_21 : decode cX2_init 21 = .ok (.sipush 240, 3) := by decide +kernel
theorem dX2_init_24 : decode cX2_init 24 = .ok (.newarray .int, 2) := by decide +kernel
theorem dX2_init_26 : decode cX2_init 26 = .ok (.putfield 18, 3) := by decide +kernel
theorem dX2_init_29 : decode cX2_init 29 = .ok (.aload_n 0, 1) := by decide +kernel
theorem dX2_init_30 : decode cX2_init 30 = .ok (.sipush 240, 3) := by decide +kernel
theorem dX2_init_33 : decode cX2_init 33 = .ok (.newarray .int, 2) := by decide +kernel
theorem dX2_init_35 : decode cX2_init 35 = .ok (.putfield 21, 3) := by decide +kernel
theorem dX2_init_38 : decode cX2_init 38 = .ok (.aload_n 0, 1) := by decide +kernel
theorem dX2_init_39 : decode cX2_init 39 = .ok (.sipush 240, 3) := by decide +kernel
theorem dX2_init_42 : decode cX2_init 42 = .ok (.newarray .int, 2) := by decide +kernel
theorem dX2_init_44 : decode cX2_init 44 = .ok (.putfield 24, 3) := by decide +kernel
theorem dX2_init_47 : decode cX2_init 47 = .ok (.aload_n 0, 1) := by decide +kernel
theorem dX2_init_48 : decode cX2_init 48 = .ok (.sipush 128, 3) := by decide +kernel
theorem dX2_init_51 : decode cX2_init 51 = .ok (.newarray .int, 2) := by decide +kernel
theorem dX2_init_53 : decode cX2_init 53 = .ok (.putfield 27, 3) := by decide +kernel
theorem dX2_init_56 : decode cX2_init 56 = .ok (.aload_n 0, 1) := by decide +kernel
theorem dX2_init_57 : decode cX2_init 57 = .ok (.aload_n 1, 1) := by decide +kernel
theorem dX2_init_58 : decode cX2_init 58 = .ok (.putfield 30, 3) := by decide +kernel
theorem dX2_init_61 : decode cX2_init 61 = .ok (.return_, 1) := by decide +kernel
theorem dX2_hasOwn_0 : decode cX2_hasOwn 0 = .ok (.aload_n 0, 1) := by decide +kernel
theorem dX2_hasOwn_1 : decode cX2_hasOwn 1 = .ok (.getfield 27, 3) := by decide +kernel
theorem dX2_hasOwn_4 : decode cX2_hasOwn 4 = .ok (.iload_n 1, 1) := by decide +kernel
theorem dX2_hasOwn_5 : decode cX2_hasOwn 5 = .ok (.bipush 8, 2) := by decide +kernel
theorem dX2_hasOwn_7 : decode cX2_hasOwn 7 = .ok (.imul, 1) := by decide +kernel
theorem dX2_hasOwn_8 : decode cX2_hasOwn 8 = .ok (.iload_n 2, 1) := by decide +kernel
theorem dX2_hasOwn_9 : decode cX2_hasOwn 9 = .ok (.iadd, 1) := by decide +kernel
theorem dX2_hasOwn_10 : decode cX2_hasOwn 10 = .ok (.iaload, 1) := by decide +kernel
theorem dX2_hasOwn_11 : decode cX2_hasOwn 11 = .ok (.ifCond .le 7, 3) := by decide +kernel
theorem dX2_hasOwn_14 : decode cX2_hasOwn 14 = .ok (.iconst 1, 1) := by decide +kernel
theorem dX2_hasOwn_15 : decode cX2_hasOwn 15 = .ok (.goto 4, 3) := by decide +kernel
theorem dX2_hasOwn_18 : decode cX2_hasOwn 18 = .ok (.iconst 0, 1) := by decide +kernel
theorem dX2_hasOwn_19 : decode cX2_hasOwn 19 = .ok (.ireturn, 1) := by decide +kernel
theorem dX2_appendMethod_0 : decode cX2_appendMethod 0 = .ok (.aload_n 0, 1) := by decide +kernel
theorem dX2_appendMethod_1 : decode cX2_appendMethod 1 = .ok (.getfield 34, 3) := by decide +kernel
theorem dX2_appendMethod_4 : decode cX2_appendMethod 4 = .ok (.istore 4, 2) := by decide +kernel
theorem dX2_appendMethod_6 : decode cX2_appendMethod 6 = .ok (.aload_n 0, 1) := by decide +kernel
theorem dX2_appendMethod_7 : decode cX2_appendMethod 7 = .ok (.getfield 9, 3) := by decide +kernel
theorem dX2_appendMethod_10 : decode cX2_appendMethod 10 = .ok (.iload 4, 2) := by decide +kernel
theorem dX2_appendMethod_12 : decode cX2_appendMethod 12 = .ok (.iload_n 3, 1) := by decide +kernel
theorem dX2_appendMethod_13 : decode cX2_appendMethod 13 = .ok (.iastore, 1) := by decide +kernel
theorem dX2_appendMethod_14 : decode cX2_appendMethod 14 = .ok (.aload_n 0, 1) := by decide +kernel
theorem dX2_appendMethod_15 : decode cX2_appendMethod 15 = .ok (.dup, 1) := by decide +kernel
theorem dX2_appendMethod_16 : decode cX2_appendMethod 16 = .ok (.getfield 34, 3) := by decide +kernel
theorem dX2_appendMethod_19 : decode cX2_appendMethod 19 = .ok (.iconst 1, 1) := by decide +kernel
theorem dX2_appendMethod_20 : decode cX2_appendMethod 20 = .ok (.iadd, 1) := by decide +kernel
theorem dX2_appendMethod_21 : decode cX2_appendMethod 21 = .ok (.putfield 34, 3) := by decide +kernel
theorem dX2_appendMethod_24 : decode cX2_appendMethod 24 = .ok (.aload_n 0, 1) := by decide +kernel
theorem dX2_appendMethod_25 : decode cX2_appendMethod 25 = .ok (.getfield 27, 3) := by decide +kernel
theorem dX2_appendMethod_28 : decode cX2_appendMethod 28 = .ok (.iload_n 1, 1) := by decide +kernel
theorem dX2_appendMethod_29 : decode cX2_appendMethod 29 = .ok (.bipush 8, 2) := by decide +kernel
theorem dX2_appendMethod_31 : decode cX2_appendMethod 31 = .ok (.imul, 1) := by decide +kernel
theorem dX2_appendMethod_32 : decode cX2_appendMethod 32 = .ok (.iload_n 2, 1) := by decide +kernel
theorem dX2_appendMethod_33 : decode cX2_appendMethod 33 = .ok (.iadd, 1) := by decide +kernel
theorem dX2_appendMethod_34 : decode cX2_appendMethod 34 = .ok (.aload_n 0, 1) := by decide +kernel
theorem dX2_appendMethod_35 : decode cX2_appendMethod 35 = .ok (.getfield 34, 3) := by decide +kernel
theorem dX2_appendMethod_38 : decode cX2_appendMethod 38 = .ok (.iastore, 1) := by decide +kernel
theorem dX2_appendMethod_39 : decode cX2_appendMethod 39 = .ok (.iload 4, 2) := by decide +kernel
theorem dX2_appendMethod_41 : decode cX2_appendMethod 41 = .ok (.ireturn, 1) := by decide +kernel
set_option maxRecDepth 20000 in
theorem ggX2_appendSite_X5_slot : GoodIn wsX2_appendSite wsX5_slot := goodIn_r _ [7] (by decide +kernel) (by decide +kernel)
set_option maxRecDepth 20000 in
theorem gX2_appendSite_X5_slot_n38 : GoodIn wsX2_appendSite (wsX5_slot) := ggX2_appendSite_X5_slot
theorem dX2_appendSite_0 : decode cX2_appendSite 0 = .ok (.aload_n 0, 1) := by decide +kernel
theorem dX2_appendSite_1 : decode cX2_appendSite 1 = .ok (.getfield 15, 3) := by decide +kernel
theorem dX2_appendSite_4 : decode cX2_appendSite 4 = .ok (.iload_n 1, 1) := by decide +kernel
theorem dX2_appendSite_5 : decode cX2_appendSite 5 = .ok (.iaload, 1) := by decide +kernel
theorem dX2_appendSite_6 : decode cX2_appendSite 6 = .ok (.istore 5, 2) := by decide +kernel
theorem dX2_appendSite_8 : decode cX2_appendSite 8 = .ok (.iload_n 1, 1) := by decide +kernel
theorem dX2_appendSite_9 : decode cX2_appendSite 9 = .ok (.iload 5, 2) := by decide +kernel
theorem dX2_appendSite_11 : decode cX2_appendSite 11 = .ok (.invokestatic 38, 3) := by decide +kernel
theorem dX2_appendSite_14 : decode cX2_appendSite 14 = .ok (.istore 6, 2) := by decide +kernel
theorem dX2_appendSite_16 : decode cX2_appendSite 16 = .ok (.aload_n 0, 1) := by decide +kernel
theorem dX2_appendSite_17 : decode cX2_appendSite 17 = .ok (.getfield 21, 3) := by decide +kernel
theorem dX2_appendSite_20 : decode cX2_appendSite 20 = .ok (.iload 6, 2) := by decide +kernel
theorem dX2_appendSite_22 : decode cX2_appendSite 22 = .ok (.iload_n 2, 1) := by decide +kernel
theorem dX2_appendSite_23 : decode cX2_appendSite 23 = .ok (.iastore, 1) := by decide +kernel
theorem dX2_appendSite_24 : decode cX2_appendSite 24 = .ok (.aload_n 0, 1) := by decide +kernel
theorem dX2_appendSite_25 : decode cX2_appendSite 25 = .ok (.getfield 24, 3) := by decide +kernel
theorem dX2_appendSite_28 : decode cX2_appendSite 28 = .ok (.iload 6, 2) := by decide +kernel
theorem dX2_appendSite_30 : decode cX2_appendSite 30 = .ok (.iload_n 3, 1) := by decide +kernel
theorem dX2_appendSite_31 : decode cX2_appendSite 31 = .ok (.iastore, 1) := by decide +kernel
theorem dX2_appendSite_32 : decode cX2_appendSite 32 = .ok (.aload_n 0, 1) := by decide +kernel
theorem dX2_appendSite_33 : decode cX2_appendSite 33 = .ok (.getfield 18, 3) := by decide +kernel
theorem dX2_appendSite_36 : decode cX2_appendSite 36 = .ok (.iload 6, 2) := by decide +kernel
theorem dX2_appendSite_38 : decode cX2_appendSite 38 = .ok (.iload 4, 2) := by decide +kernel
theorem dX2_appendSite_40 : decode cX2_appendSite 40 = .ok (.iastore, 1) := by decide +kernel
theorem dX2_appendSite_41 : decode cX2_appendSite 41 = .ok (.aload_n 0, 1) := by decide +kernel
theorem dX2_appendSite_42 : decode cX2_appendSite 42 = .ok (.getfield 15, 3) := by decide +kernel
theorem dX2_appendSite_45 : decode cX2_appendSite 45 = .ok (.iload_n 1, 1) := by decide +kernel
theorem dX2_appendSite_46 : decode cX2_appendSite 46 = .ok (.dup2, 1) := by decide +kernel
theorem dX2_appendSite_47 : decode cX2_appendSite 47 = .ok (.iaload, 1) := by decide +kernel
theorem dX2_appendSite_48 : decode cX2_appendSite 48 = .ok (.iconst 1, 1) := by decide +kernel
theorem dX2_appendSite_49 : decode cX2_appendSite 49 = .ok (.iadd, 1) := by decide +kernel
theorem dX2_appendSite_50 : decode cX2_appendSite 50 = .ok (.iastore, 1) := by decide +kernel
theorem dX2_appendSite_51 : decode cX2_appendSite 51 = .ok (.iload 5, 2) := by decide +kernel
theorem dX2_appendSite_53 : decode cX2_appendSite 53 = .ok (.ireturn, 1) := by decide +kernel
theorem dX2_lookUp_0 : decode cX2_lookUp 0 = .ok (.iload_n 1, 1) := by decide +kernel
theorem dX2_lookUp_1 : decode cX2_lookUp 1 = .ok (.istore_n 3, 1) := by decide +kernel
theorem dX2_lookUp_2 : decode cX2_lookUp 2 = .ok (.iconst 0, 1) := by decide +kernel
theorem dX2_lookUp_3 : decode cX2_lookUp 3 = .ok (.istore 4, 2) := by decide +kernel
theorem dX2_lookUp_5 : decode cX2_lookUp 5 = .ok (.iload 4, 2) := by decide +kernel
theorem dX2_lookUp_7 : decode cX2_lookUp 7 = .ok (.bipush 16, 2) := by decide +kernel
theorem dX2_lookUp_9 : decode cX2_lookUp 9 = .ok (.if_icmp .ge 46, 3) := by decide +kernel
theorem dX2_lookUp_12 : decode cX2_lookUp 12 = .ok (.iload_n 3, 1) := by decide +kernel
theorem dX2_lookUp_13 : decode cX2_lookUp 13 = .ok (.ifCond .lt 42, 3) := by decide +kernel
theorem dX2_lookUp_16 : decode cX2_lookUp 16 = .ok (.aload_n 0, 1) := by decide +kernel
theorem dX2_lookUp_17 : decode cX2_lookUp 17 = .ok (.getfield 27, 3) := by decide +kernel
theorem dX2_lookUp_20 : decode cX2_lookUp 20 = .ok (.iload_n 3, 1) := by decide +kernel
theorem dX2_lookUp_21 : decode cX2_lookUp 21 = .ok (.bipush 8, 2) := by decide +kernel
theorem dX2_lookUp_23 : decode cX2_lookUp 23 = .ok (.imul, 1) := by decide +kernel
theorem dX2_lookUp_24 : decode cX2_lookUp 24 = .ok (.iload_n 2, 1) := by decide +kernel
theorem dX2_lookUp_25 : decode cX2_lookUp 25 = .ok (.iadd, 1) := by decide +kernel
theorem dX2_lookUp_26 : decode cX2_lookUp 26 = .ok (.iaload, 1) := by decide +kernel
theorem dX2_lookUp_27 : decode cX2_lookUp 27 = .ok (.iconst 1, 1) := by decide +kernel
theorem dX2_lookUp_28 : decode cX2_lookUp 28 = .ok (.isub, 1) := by decide +kernel
theorem dX2_lookUp_29 : decode cX2_lookUp 29 = .ok (.istore 5, 2) := by decide +kernel
theorem dX2_lookUp_31 : decode cX2_lookUp 31 = .ok (.iload 5, 2) := by decide +kernel
theorem dX2_lookUp_33 : decode cX2_lookUp 33 = .ok (.ifCond .lt 6, 3) := by decide +kernel
theorem dX2_lookUp_36 : decode cX2_lookUp 36 = .ok (.iload 5, 2) := by decide +kernel
theorem dX2_lookUp_38 : decode cX2_lookUp 38 = .ok (.ireturn, 1) := by decide +kernel
theorem dX2_lookUp_39 : decode cX2_lookUp 39 = .ok (.aload_n 0, 1) := by decide +kernel
theorem dX2_lookUp_40 : decode cX2_lookUp 40 = .ok (.getfield 30, 3) := by decide +kernel
theorem dX2_lookUp_43 : decode cX2_lookUp 43 = .ok (.getfield 42, 3) := by decide +kernel
theorem dX2_lookUp_46 : decode cX2_lookUp 46 = .ok (.iload_n 3, 1) := by decide +kernel
theorem dX2_lookUp_47 : decode cX2_lookUp 47 = .ok (.iaload, 1) := by decide +kernel
theorem dX2_lookUp_48 : decode cX2_lookUp 48 = .ok (.istore_n 3, 1) := by decide +kernel
theorem dX2_lookUp_49 : decode cX2_lookUp 49 = .ok (.iinc 4 1, 3) := by decide +kernel
theorem dX2_lookUp_52 : decode cX2_lookUp 52 = .ok (.goto (-47), 3) := by decide +kernel
theorem dX2_lookUp_55 : decode cX2_lookUp 55 = .ok (.iconst (-1), 1) := by decide +kernel
theorem dX2_lookUp_56 : decode cX2_lookUp 56 = .ok (.ireturn, 1) := by decide +kernel
set_option maxRecDepth 20000 in
theorem ggX2_targetSet_X0_under : GoodIn wsX2_targetSet wsX0_under := goodIn_r _ [8, 9, 25, 26, 27, 28] (by decide +kernel) (by decide +kernel)
set_option maxRecDepth 20000 in
theorem gX2_targetSet_X0_under : GoodIn wsX2_targetSet (wsV RX2 52 RX0 yX0_under wsX0_under) := goodIn_app (goodIn_of _ (by decide +kernel)) ggX2_targetSet_X0_under
set_option maxRecDepth 20000 in
theorem ggX2_targetSet_X2_lookUp : GoodIn wsX2_targetSet wsX2_lookUp := goodIn_r _ [14, 15, 1, 16, 17, 18, 19, 20, 21, 22, 23, 24, 25, 26, 27, 28] (by decide +kernel) (by decide +kernel)
set_option maxRecDepth 20000 in
theorem gX2_targetSet_X2_lookUp : GoodIn wsX2_targetSet (wsV RX2 56 RX2 yX2_lookUp wsX2_lookUp) := goodIn_app (goodIn_of _ (by decide +kernel)) ggX2_targetSet_X2_lookUp
theorem dX2_targetSet_0 : decode cX2_targetSet 0 = .ok (.iconst 0, 1) := by decide +kernel
theorem dX2_targetSet_1 : decode cX2_targetSet 1 = .ok (.istore_n 3, 1) := by decide +kernel
theorem dX2_targetSet_2 : decode cX2_targetSet 2 = .ok (.iload_n 1, 1) := by decide +kernel
theorem dX2_targetSet_3 : decode cX2_targetSet 3 = .ok (.istore 4, 2) := by decide +kernel
theorem dX2_targetSet_5 : decode cX2_targetSet 5 = .ok (.iload 4, 2) := by decide +kernel
theorem dX2_targetSet_7 : decode cX2_targetSet 7 = .ok (.aload_n 0, 1) := by decide +kernel
theorem dX2_targetSet_8 : decode cX2_targetSet 8 = .ok (.getfield 30, 3) := by decide +kernel
theorem dX2_targetSet_11 : decode cX2_targetSet 11 = .ok (.getfield 47, 3) := by decide +kernel
theorem dX2_targetSet_14 : decode cX2_targetSet 14 = .ok (.if_icmp .ge 60, 3) := by decide +kernel
theorem dX2_targetSet_17 : decode cX2_targetSet 17 = .ok (.aload_n 0, 1) := by decide +kernel
theorem dX2_targetSet_18 : decode cX2_targetSet 18 = .ok (.getfield 30, 3) := by decide +kernel
theorem dX2_targetSet_21 : decode cX2_targetSet 21 = .ok (.getfield 48, 3) := by decide +kernel
theorem dX2_targetSet_24 : decode cX2_targetSet 24 = .ok (.iload 4, 2) := by decide +kernel
theorem dX2_targetSet_26 : decode cX2_targetSet 26 = .ok (.baload, 1) := by decide +kernel
theorem dX2_targetSet_27 : decode cX2_targetSet 27 = .ok (.ifCond .eq 41, 3) := by decide +kernel
theorem dX2_targetSet_30 : decode cX2_targetSet 30 = .ok (.aload_n 0, 1) := by decide +kernel
theorem dX2_targetSet_31 : decode cX2_targetSet 31 = .ok (.getfield 30, 3) := by decide +kernel
theorem dX2_targetSet_34 : decode cX2_targetSet 34 = .ok (.iload 4, 2) := by decide +kernel
theorem dX2_targetSet_36 : decode cX2_targetSet 36 = .ok (.iload_n 1, 1) := by decide +kernel
theorem dX2_targetSet_37 : decode cX2_targetSet 37 = .ok (.invokevirtual 52, 3) := by decide +kernel
theorem dX2_targetSet_40 : decode cX2_targetSet 40 = .ok (.ifCond .eq 28, 3) := by decide +kernel
theorem dX2_targetSet_43 : decode cX2_targetSet 43 = .ok (.aload_n 0, 1) := by decide +kernel
theorem dX2_targetSet_44 : decode cX2_targetSet 44 = .ok (.iload 4, 2) := by decide +kernel
theorem dX2_targetSet_46 : decode cX2_targetSet 46 = .ok (.iload_n 2, 1) := by decide +kernel
theorem dX2_targetSet_47 : decode cX2_targetSet 47 = .ok (.invokevirtual 56, 3) := by decide +kernel
theorem dX2_targetSet_50 : decode cX2_targetSet 50 = .ok (.istore 5, 2) := by decide +kernel
theorem dX2_targetSet_52 : decode cX2_targetSet 52 = .ok (.iload_n 3, 1) := by decide +kernel
theorem dX2_targetSet_53 : decode cX2_targetSet 53 = .ok (.iload 5, 2) := by decide +kernel
theorem dX2_targetSet_55 : decode cX2_targetSet 55 = .ok (.ifCond .ge 7, 3) := by decide +kernel
theorem dX2_targetSet_58 : decode cX2_targetSet 58 = .ok (.iconst 0, 1) := by decide +kernel
theorem dX2_targetSet_59 : decode cX2_targetSet 59 = .ok (.goto 7, 3) := by decide +kernel
theorem dX2_targetSet_62 : decode cX2_targetSet 62 = .ok (.iconst 1, 1) := by decide +kernel
theorem dX2_targetSet_63 : decode cX2_targetSet 63 = .ok (.iload 5, 2) := by decide +kernel
theorem dX2_targetSet_65 : decode cX2_targetSet 65 = .ok (.ishl, 1) := by decide +kernel
theorem dX2_targetSet_66 : decode cX2_targetSet 66 = .ok (.ior, 1) := by decide +kernel
theorem dX2_targetSet_67 : decode cX2_targetSet 67 = .ok (.istore_n 3, 1) := by decide +kernel
theorem dX2_targetSet_68 : decode cX2_targetSet 68 = .ok (.iinc 4 1, 3) := by decide +kernel
theorem dX2_targetSet_71 : decode cX2_targetSet 71 = .ok (.goto (-66), 3) := by decide +kernel
theorem dX2_targetSet_74 : decode cX2_targetSet 74 = .ok (.iload_n 3, 1) := by decide +kernel
theorem dX2_targetSet_75 : decode cX2_targetSet 75 = .ok (.ireturn, 1) := by decide +kernel
set_option maxRecDepth 20000 in
theorem ggX2_targetsOfSite_X5_slot : GoodIn wsX2_targetsOfSite wsX5_slot := goodIn_r _ [5] (by decide +kernel) (by decide +kernel)
set_option maxRecDepth 20000 in
theorem gX2_targetsOfSite_X5_slot_n38 : GoodIn wsX2_targetsOfSite (wsX5_slot) := ggX2_targetsOfSite_X5_slot
set_option maxRecDepth 20000 in
theorem ggX2_targetsOfSite_X2_targetSet : GoodIn wsX2_targetsOfSite wsX2_targetSet := goodIn_r _ [10, 11, 12, 13, 14, 15, 16, 17, 18, 19, 20, 21, 22, 9, 23, 24, 25, 26, 27, 28, 29, 30, 31, 32, 33, 34, 35, 36, 37] (by decide +kernel) (by decide +kernel)
set_option maxRecDepth 20000 in
theorem gX2_targetsOfSite_X2_targetSet : GoodIn wsX2_targetsOfSite (wsV RX2 59 RX2 yX2_targetSet wsX2_targetSet) := goodIn_app (goodIn_of _ (by decide +kernel)) ggX2_targetsOfSite_X2_targetSet
theorem dX2_targetsOfSite_0 : decode cX2_targetsOfSite 0 = .ok (.iload_n 1, 1) := by decide +kernel
theorem dX2_targetsOfSite_1 : decode cX2_targetsOfSite 1 = .ok (.iload_n 2, 1) := by decide +kernel
theorem dX2_targetsOfSite_2 : decode cX2_targetsOfSite 2 = .ok (.invokestatic 38, 3) := by decide +kernel
theorem dX2_targetsOfSite_5 : decode cX2_targetsOfSite 5 = .ok (.istore_n 3, 1) := by decide +kernel
theorem dX2_targetsOfSite_6 : decode cX2_targetsOfSite 6 = .ok (.aload_n 0, 1) := by decide +kernel
theorem dX2_targetsOfSite_7 : decode cX2_targetsOfSite 7 = .ok (.aload_n 0, 1) := by decide +kernel
theorem dX2_targetsOfSite_8 : decode cX2_targetsOfSite 8 = .ok (.getfield 21, 3) := by decide +kernel
theorem dX2_targetsOfSite_11 : decode cX2_targetsOfSite 11 = .ok (.iload_n 3, 1) := by decide +kernel
theorem dX2_targetsOfSite_12 : decode cX2_targetsOfSite 12 = .ok (.iaload, 1) := by decide +kernel
theorem dX2_targetsOfSite_13 : decode cX2_targetsOfSite 13 = .ok (.aload_n 0, 1) := by decide +kernel
theorem dX2_targetsOfSite_14 : decode cX2_targetsOfSite 14 = .ok (.getfield 24, 3) := by decide +kernel
theorem dX2_targetsOfSite_17 : decode cX2_targetsOfSite 17 = .ok (.iload_n 3, 1) := by decide +kernel
theorem dX2_targetsOfSite_18 : decode cX2_targetsOfSite 18 = .ok (.iaload, 1) := by decide +kernel
theorem dX2_targetsOfSite_19 : decode cX2_targetsOfSite 19 = .ok (.invokevirtual 59, 3) := by decide +kernel
theorem dX2_targetsOfSite_22 : decode cX2_targetsOfSite 22 = .ok (.ireturn, 1) := by decide +kernel
set_option maxRecDepth 20000 in
theorem ggX2_member_X2_contains : GoodIn wsX2_member wsX2_contains := goodIn_r _ [5] (by decide +kernel) (by decide +kernel)
set_option maxRecDepth 20000 in
theorem gX2_member_X2_contains : GoodIn wsX2_member (va_wsS RX2 62 yX2_contains wsX2_contains) := goodIn_app (goodIn_of _ (by decide +kernel)) ggX2_member_X2_contains
theorem dX2_member_0 : decode cX2_member 0 = .ok (.iload_n 2, 1) := by decide +kernel
theorem dX2_member_1 : decode cX2_member 1 = .ok (.istore_n 3, 1) := by decide +kernel
theorem dX2_member_2 : decode cX2_member 2 = .ok (.iconst 0, 1) := by decide +kernel
theorem dX2_member_3 : decode cX2_member 3 = .ok (.istore 4, 2) := by decide +kernel
theorem dX2_member_5 : decode cX2_member 5 = .ok (.iload 4, 2) := by decide +kernel
theorem dX2_member_7 : decode cX2_member 7 = .ok (.aload_n 0, 1) := by decide +kernel
theorem dX2_member_8 : decode cX2_member 8 = .ok (.getfield 34, 3) := by decide +kernel
theorem dX2_member_11 : decode cX2_member 11 = .ok (.if_icmp .ge 28, 3) := by decide +kernel
theorem dX2_member_14 : decode cX2_member 14 = .ok (.iload_n 1, 1) := by decide +kernel
theorem dX2_member_15 : decode cX2_member 15 = .ok (.iload 4, 2) := by decide +kernel
theorem dX2_member_17 : decode cX2_member 17 = .ok (.invokestatic 62, 3) := by decide +kernel
theorem dX2_member_20 : decode cX2_member 20 = .ok (.ifCond .eq 13, 3) := by decide +kernel
theorem dX2_member_23 : decode cX2_member 23 = .ok (.iload_n 3, 1) := by decide +kernel
theorem dX2_member_24 : decode cX2_member 24 = .ok (.ifCond .ne 6, 3) := by decide +kernel
theorem dX2_member_27 : decode cX2_member 27 = .ok (.iload 4, 2) := by decide +kernel
theorem dX2_member_29 : decode cX2_member 29 = .ok (.ireturn, 1) := by decide +kernel
theorem dX2_member_30 : decode cX2_member 30 = .ok (.iinc 3 (-1), 3) := by decide +kernel
theorem dX2_member_33 : decode cX2_member 33 = .ok (.iinc 4 1, 3) := by decide +kernel
theorem dX2_member_36 : decode cX2_member 36 = .ok (.goto (-31), 3) := by decide +kernel
theorem dX2_member_39 : decode cX2_member 39 = .ok (.iconst (-1), 1) := by decide +kernel
theorem dX2_member_40 : decode cX2_member 40 = .ok (.ireturn, 1) := by decide +kernel
set_option maxRecDepth 20000 in
theorem ggX2_reachableSet_X2_member : GoodIn wsX2_reachableSet wsX2_member := goodIn_r _ [6, 1, 7, 8, 5, 9, 43, 44, 45, 46, 47, 48, 49, 50] (by decide +kernel) (by decide +kernel)
set_option maxRecDepth 20000 in
theorem gX2_reachableSet_X2_member : GoodIn wsX2_reachableSet (wsV RX2 65 RX2 yX2_member wsX2_member) := goodIn_app (goodIn_of _ (by decide +kernel)) ggX2_reachableSet_X2_member
set_option maxRecDepth 20000 in
theorem ggX2_reachableSet_X2_calledFrom : GoodIn wsX2_reachableSet wsX2_calledFrom := goodIn_r _ [13, 14, 15, 16, 17, 5, 18, 19, 20, 21, 22, 23, 24, 25, 26, 27, 28, 29, 30, 31, 32, 33, 34, 35, 36, 37, 38, 39, 40, 41, 42, 43, 44, 45, 46, 47, 48, 49, 50, 51, 52, 53, 54] (by decide +kernel) (by decide +kernel)
set_option maxRecDepth 20000 in
theorem gX2_reachableSet_X2_calledFrom : GoodIn wsX2_reachableSet (wsV RX2 68 RX2 yX2_calledFrom wsX2_calledFrom) := goodIn_app (goodIn_of _ (by decide +kernel)) ggX2_reachableSet_X2_calledFrom
theorem dX2_reachableSet_0 : decode cX2_reachableSet 0 = .ok (.iconst 1, 1) := by decide +kernel
theorem dX2_reachableSet_1 : decode cX2_reachableSet 1 = .ok (.iload_n 1, 1) := by decide +kernel
theorem dX2_reachableSet_2 : decode cX2_reachableSet 2 = .ok (.ishl, 1) := by decide +kernel
theorem dX2_reachableSet_3 : decode cX2_reachableSet 3 = .ok (.istore_n 2, 1) := by decide +kernel
theorem dX2_reachableSet_4 : decode cX2_reachableSet 4 = .ok (.iconst 0, 1) := by decide +kernel
theorem dX2_reachableSet_5 : decode cX2_reachableSet 5 = .ok (.istore_n 3, 1) := by decide +kernel
theorem dX2_reachableSet_6 : decode cX2_reachableSet 6 = .ok (.iconst 0, 1) := by decide +kernel
theorem dX2_reachableSet_7 : decode cX2_reachableSet 7 = .ok (.istore 4, 2) := by decide +kernel
theorem dX2_reachableSet_9 : decode cX2_reachableSet 9 = .ok (.iload 4, 2) := by decide +kernel
theorem dX2_reachableSet_11 : decode cX2_reachableSet 11 = .ok (.aload_n 0, 1) := by decide +kernel
theorem dX2_reachableSet_12 : decode cX2_reachableSet 12 = .ok (.getfield 34, 3) := by decide +kernel
theorem dX2_reachableSet_15 : decode cX2_reachableSet 15 = .ok (.if_icmp .ge 44, 3) := by decide +kernel
theorem dX2_reachableSet_18 : decode cX2_reachableSet 18 = .ok (.aload_n 0, 1) := by decide +kernel
theorem dX2_reachableSet_19 : decode cX2_reachableSet 19 = .ok (.iload_n 2, 1) := by decide +kernel
theorem dX2_reachableSet_20 : decode cX2_reachableSet 20 = .ok (.iload_n 3, 1) := by decide +kernel
theorem dX2_reachableSet_21 : decode cX2_reachableSet 21 = .ok (.iconst (-1), 1) := by decide +kernel
theorem dX2_reachableSet_22 : decode cX2_reachableSet 22 = .ok (.ixor, 1) := by decide +kernel
theorem dX2_reachableSet_23 : decode cX2_reachableSet 23 = .ok (.iand, 1) := by decide +kernel
theorem dX2_reachableSet_24 : decode cX2_reachableSet 24 = .ok (.iconst 0, 1) := by decide +kernel
theorem dX2_reachableSet_25 : decode cX2_reachableSet 25 = .ok (.invokevirtual 65, 3) := by decide +kernel
theorem dX2_reachableSet_28 : decode cX2_reachableSet 28 = .ok (.istore 5, 2) := by decide +kernel
theorem dX2_reachableSet_30 : decode cX2_reachableSet 30 = .ok (.iload 5, 2) := by decide +kernel
theorem dX2_reachableSet_32 : decode cX2_reachableSet 32 = .ok (.ifCond .ge 5, 3) := by decide +kernel
theorem dX2_reachableSet_35 : decode cX2_reachableSet 35 = .ok (.iload_n 2, 1) := by decide +kernel
theorem dX2_reachableSet_36 : decode cX2_reachableSet 36 = .ok (.ireturn, 1) := by decide +kernel
theorem dX2_reachableSet_37 : decode cX2_reachableSet 37 = .ok (.iload_n 3, 1) := by decide +kernel
theorem dX2_reachableSet_38 : decode cX2_reachableSet 38 = .ok (.iconst 1, 1) := by decide +kernel
theorem dX2_reachableSet_39 : decode cX2_reachableSet 39 = .ok (.iload 5, 2) := by decide +kernel
theorem dX2_reachableSet_41 : decode cX2_reachableSet 41 = .ok (.ishl, 1) := by decide +kernel
theorem dX2_reachableSet_42 : decode cX2_reachableSet 42 = .ok (.ior, 1) := by decide +kernel
theorem dX2_reachableSet_43 : decode cX2_reachableSet 43 = .ok (.istore_n 3, 1) := by decide +kernel
theorem dX2_reachableSet_44 : decode cX2_reachableSet 44 = .ok (.iload_n 2, 1) := by decide +kernel
theorem dX2_reachableSet_45 : decode cX2_reachableSet 45 = .ok (.aload_n 0, 1) := by decide +kernel
theorem dX2_reachableSet_46 : decode cX2_reachableSet 46 = .ok (.iload 5, 2) := by decide +kernel
theorem dX2_reachableSet_48 : decode cX2_reachableSet 48 = .ok (.invokevirtual 68, 3) := by decide +kernel
theorem dX2_reachableSet_51 : decode cX2_reachableSet 51 = .ok (.ior, 1) := by decide +kernel
theorem dX2_reachableSet_52 : decode cX2_reachableSet 52 = .ok (.istore_n 2, 1) := by decide +kernel
theorem dX2_reachableSet_53 : decode cX2_reachableSet 53 = .ok (.iinc 4 1, 3) := by decide +kernel
theorem dX2_reachableSet_56 : decode cX2_reachableSet 56 = .ok (.goto (-47), 3) := by decide +kernel
theorem dX2_reachableSet_59 : decode cX2_reachableSet 59 = .ok (.iload_n 2, 1) := by decide +kernel
theorem dX2_reachableSet_60 : decode cX2_reachableSet 60 = .ok (.ireturn, 1) := by decide +kernel
set_option maxRecDepth 20000 in
theorem ggX2_calledFrom_X2_targetsOfSite : GoodIn wsX2_calledFrom wsX2_targetsOfSite := goodIn_r _ [6, 7, 8, 9, 10, 11, 12, 13, 14, 5, 15, 16, 17, 18, 19, 20, 21, 22, 23, 24, 25, 26, 27, 28, 29, 30, 31, 32, 33, 34, 35, 36, 37, 38, 39, 40, 41, 42] (by decide +kernel) (by decide +kernel)
set_option maxRecDepth 20000 in
theorem gX2_calledFrom_X2_targetsOfSite : GoodIn wsX2_calledFrom (wsV RX2 72 RX2 yX2_targetsOfSite wsX2_targetsOfSite) := goodIn_app (goodIn_of _ (by decide +kernel)) ggX2_calledFrom_X2_targetsOfSite
theorem dX2_calledFrom_0 : decode cX2_calledFrom 0 = .ok (.iconst 0, 1) := by decide +kernel
theorem dX2_calledFrom_1 : decode cX2_calledFrom 1 = .ok (.istore_n 2, 1) := by decide +kernel
theorem dX2_calledFrom_2 : decode cX2_calledFrom 2 = .ok (.iconst 0, 1) := by decide +kernel
theorem dX2_calledFrom_3 : decode cX2_calledFrom 3 = .ok (.istore_n 3, 1) := by decide +kernel
theorem dX2_calledFrom_4 : decode cX2_calledFrom 4 = .ok (.iload_n 3, 1) := by decide +kernel
theorem dX2_calledFrom_5 : decode cX2_calledFrom 5 = .ok (.aload_n 0, 1) := by decide +kernel
theorem dX2_calledFrom_6 : decode cX2_calledFrom 6 = .ok (.getfield 15, 3) := by decide +kernel
theorem dX2_calledFrom_9 : decode cX2_calledFrom 9 = .ok (.iload_n 1, 1) := by decide +kernel
theorem dX2_calledFrom_10 : decode cX2_calledFrom 10 = .ok (.iaload, 1) := by decide +kernel
theorem dX2_calledFrom_11 : decode cX2_calledFrom 11 = .ok (.if_icmp .ge 18, 3) := by decide +kernel
theorem dX2_calledFrom_14 : decode cX2_calledFrom 14 = .ok (.iload_n 2, 1) := by decide +kernel
theorem dX2_calledFrom_15 : decode cX2_calledFrom 15 = .ok (.aload_n 0, 1) := by decide +kernel
theorem dX2_calledFrom_16 : decode cX2_calledFrom 16 = .ok (.iload_n 1, 1) := by decide +kernel
theorem dX2_calledFrom_17 : decode cX2_calledFrom 17 = .ok (.iload_n 3, 1) := by decide +kernel
theorem dX2_calledFrom_18 : decode cX2_calledFrom 18 = .ok (.invokevirtual 72, 3) := by decide +kernel
theorem dX2_calledFrom_21 : decode cX2_calledFrom 21 = .ok (.ior, 1) := by decide +kernel
theorem dX2_calledFrom_22 : decode cX2_calledFrom 22 = .ok (.istore_n 2, 1) := by decide +kernel
theorem dX2_calledFrom_23 : decode cX2_calledFrom 23 = .ok (.iinc 3 1, 3) := by decide +kernel
theorem dX2_calledFrom_26 : decode cX2_calledFrom 26 = .ok (.goto (-22), 3) := by decide +kernel
theorem dX2_calledFrom_29 : decode cX2_calledFrom 29 = .ok (.iload_n 2, 1) := by decide +kernel
theorem dX2_calledFrom_30 : decode cX2_calledFrom 30 = .ok (.ireturn, 1) := by decide +kernel
theorem dX2_contains_0 : decode cX2_contains 0 = .ok (.iload_n 0, 1) := by decide +kernel
theorem dX2_contains_1 : decode cX2_contains 1 = .ok (.iload_n 1, 1) := by decide +kernel
theorem dX2_contains_2 : decode cX2_contains 2 = .ok (.ishr, 1) := by decide +kernel
theorem dX2_contains_3 : decode cX2_contains 3 = .ok (.iconst 1, 1) := by decide +kernel
theorem dX2_contains_4 : decode cX2_contains 4 = .ok (.iand, 1) := by decide +kernel
theorem dX2_contains_5 : decode cX2_contains 5 = .ok (.iconst 1, 1) := by decide +kernel
theorem dX2_contains_6 : decode cX2_contains 6 = .ok (.if_icmp .ne 7, 3) := by decide +kernel
theorem dX2_contains_9 : decode cX2_contains 9 = .ok (.iconst 1, 1) := by decide +kernel
theorem dX2_contains_10 : decode cX2_contains 10 = .ok (.goto 4, 3) := by decide +kernel
theorem dX2_contains_13 : decode cX2_contains 13 = .ok (.iconst 0, 1) := by decide +kernel
theorem dX2_contains_14 : decode cX2_contains 14 = .ok (.ireturn, 1) := by decide +kernel
set_option maxRecDepth 20000 in
theorem ggX3_init_X4_init : GoodIn wsX3_init wsX4_init := goodIn_r _ [20, 21, 2, 3, 4, 22, 23, 37, 38, 39] (by decide +kernel) (by decide +kernel)
set_option maxRecDepth 20000 in
theorem gX3_init_X4_init_n35 : GoodIn wsX3_init (wsX4_init) := ggX3_init_X4_init
theorem dX3_init_0 : decode cX3_init 0 = .ok (.aload_n 0, 1) := by decide +kernel
theorem dX3_init_1 : decode cX3_init 1 = .ok (.invokespecial 3, 3) := by decide +kernel
theorem dX3_init_4 : decode cX3_init 4 = .ok (.aload_n 0, 1) := by decide +kernel
theorem dX3_init_5 : decode cX3_init 5 = .ok (.bipush 50, 2) := by decide +kernel
theorem dX3_init_7 : decode cX3_init 7 = .ok (.newarray .int, 2) := by decide +kernel
theorem dX3_init_9 : decode cX3_init 9 = .ok (.putfield 9, 3) := by decide +kernel
theorem dX3_init_12 : decode cX3_init 12 = .ok (.aload_n 0, 1) := by decide +kernel
theorem dX3_init_13 : decode cX3_init 13 = .ok (.bipush 50, 2) := by decide +kernel
theorem dX3_init_15 : decode cX3_init 15 = .ok (.newarray .int, 2) := by decide +kernel
theorem dX3_init_17 : decode cX3_init 17 = .ok (.putfield 15, 3) := by decide +kernel
theorem dX3_init_20 : decode cX3_init 20 = .ok (.aload_n 0, 1) := by decide +kernel
theorem dX3_init_21 : decode cX3_init 21 = .ok (.bipush 50, 2) := by decide +kernel
theorem dX3_init_23 : decode cX3_init 23 = .ok (.newarray .int, 2) := by decide +kernel
theorem dX3_init_25 : decode cX3_init 25 = .ok (.putfield 18, 3) := by decide +kernel
theorem dX3_init_28 : decode cX3_init 28 = .ok (.aload_n 0, 1) := by decide +kernel
theorem dX3_init_29 : decode cX3_init 29 = .ok (.bipush 50, 2) := by decide +kernel
theorem dX3_init_31 : decode cX3_init 31 = .ok (.newarray .int, 2) := by decide +kernel
theorem dX3_init_33 : decode cX3_init 33 = .ok (.putfield 21, 3) := by decide +kernel
theorem dX3_init_36 : decode cX3_init 36 = .ok (.aload_n 0, 1) := by decide +kernel
theorem dX3_init_37 : decode cX3_init 37 = .ok (.sipush 400, 3) := by decide +kernel
theorem dX3_init_40 : decode cX3_init 40 = .ok (.newarray .int, 2) := by decide +kernel
theorem dX3_init_42 : decode cX3_init 42 = .ok (.putfield 24, 3) := by decide +kernel
theorem dX3_init_45 : decode cX3_init 45 = .ok (.aload_n 0, 1) := by decide +kernel
theorem dX3_init_46 : decode cX3_init 46 = .ok (.sipush 400, 3) := by decide +kernel
theorem dX3_init_49 : decode cX3_init 49 = .ok (.newarray .int, 2) := by decide +kernel
theorem dX3_init_51 : decode cX3_init 51 = .ok (.putfield 27, 3) := by decide +kernel
theorem dX3_init_54 : decode cX3_init 54 = .ok (.aload_n 0, 1) := by decide +kernel
theorem dX3_init_55 : decode cX3_init 55 = .ok (.sipush 400, 3) := by decide +kernel
theorem dX3_init_58 : decode cX3_init 58 = .ok (.newarray .int, 2) := by decide +kernel
theorem dX3_init_60 : decode cX3_init 60 = .ok (.putfield 30, 3) := by decide +kernel
theorem dX3_init_63 : decode cX3_init 63 = .ok (.aload_n 0, 1) := by decide +kernel
theorem dX3_init_64 : decode cX3_init 64 = .ok (.new 33, 3) := by decide +kernel
theorem dX3_init_67 : decode cX3_init 67 = .ok (.dup, 1) := by decide +kernel
theorem dX3_init_68 : decode cX3_init 68 = .ok (.invokespecial 35, 3) := by decide +kernel
theorem dX3_init_71 : decode cX3_init 71 = .ok (.putfield 36, 3) := by decide +kernel
theorem dX3_init_74 : decode cX3_init 74 = .ok (.aload_n 0, 1) := by decide +kernel
theorem dX3_init_75 : decode cX3_init 75 = .ok (.bipush 50, 2) := by decide +kernel
theorem dX3_init_77 : decode cX3_init 77 = .ok (.newarray .int, 2) := by decide +kernel
theorem dX3_init_79 : decode cX3_init 79 = .ok (.putfield 40, 3) := by decide +kernel
theorem dX3_init_82 : decode cX3_init 82 = .ok (.aload_n 0, 1) := by decide +kernel
theorem dX3_init_83 : decode cX3_init 83 = .ok (.aload_n 1, 1) := by decide +kernel
theorem dX3_init_84 : decode cX3_init 84 = .ok (.putfield 43, 3) := by decide +kernel
theorem dX3_init_87 : decode cX3_init 87 = .ok (.aload_n 0, 1) := by decide +kernel
theorem dX3_init_88 : decode cX3_init 88 = .ok (.aload_n 2, 1) := by decide +kernel
theorem dX3_init_89 : decode cX3_init 89 = .ok (.putfield 47, 3) := by decide +kernel
theorem dX3_init_92 : decode cX3_init 92 = .ok (.return_, 1) := by decide +kernel
theorem dX3_exists_0 : decode cX3_exists 0 = .ok (.aload_n 0, 1) := by decide +kernel
theorem dX3_exists_1 : decode cX3_exists 1 = .ok (.getfield 51, 3) := by decide +kernel
theorem dX3_exists_4 : decode cX3_exists 4 = .ok (.ifCond .le 7, 3) := by decide +kernel
theorem dX3_exists_7 : decode cX3_exists 7 = .ok (.iconst 1, 1) := by decide +kernel
theorem dX3_exists_8 : decode cX3_exists 8 = .ok (.goto 4, 3) := by decide +kernel
theorem dX3_exists_11 : decode cX3_exists 11 = .ok (.iconst 0, 1) := by decide +kernel
theorem dX3_exists_12 : decode cX3_exists 12 = .ok (.ireturn, 1) := by decide +kernel
theorem dX3_remove_0 : decode cX3_remove 0 = .ok (.aload_n 0, 1) := by decide +kernel
theorem dX3_remove_1 : decode cX3_remove 1 = .ok (.iconst 0, 1) := by decide +kernel
theorem dX3_remove_2 : decode cX3_remove 2 = .ok (.putfield 51, 3) := by decide +kernel
theorem dX3_remove_5 : decode cX3_remove 5 = .ok (.aload_n 0, 1) := by decide +kernel
theorem dX3_remove_6 : decode cX3_remove 6 = .ok (.iconst 0, 1) := by decide +kernel
theorem dX3_remove_7 : decode cX3_remove 7 = .ok (.putfield 55, 3) := by decide +kernel
theorem dX3_remove_10 : decode cX3_remove 10 = .ok (.return_, 1) := by decide +kernel
theorem dX3_sitesAt_0 : decode cX3_sitesAt 0 = .ok (.aload_n 0, 1) := by decide +kernel
theorem dX3_sitesAt_1 : decode cX3_sitesAt 1 = .ok (.getfield 43, 3) := by decide +kernel
theorem dX3_sitesAt_4 : decode cX3_sitesAt 4 = .ok (.getfield 58, 3) := by decide +kernel
theorem dX3_sitesAt_7 : decode cX3_sitesAt 7 = .ok (.aload_n 0, 1) := by decide +kernel
theorem dX3_sitesAt_8 : decode cX3_sitesAt 8 = .ok (.getfield 9, 3) := by decide +kernel
theorem dX3_sitesAt_11 : decode cX3_sitesAt 11 = .ok (.iload_n 1, 1) := by decide +kernel
theorem dX3_sitesAt_12 : decode cX3_sitesAt 12 = .ok (.iaload, 1) := by decide +kernel
theorem dX3_sitesAt_13 : decode cX3_sitesAt 13 = .ok (.iaload, 1) := by decide +kernel
theorem dX3_sitesAt_14 : decode cX3_sitesAt 14 = .ok (.ireturn, 1) := by decide +kernel
set_option maxRecDepth 20000 in
theorem ggX3_grow_X3_remove : GoodIn wsX3_grow wsX3_remove := goodIn_r _ [13, 14, 15, 117, 118, 119, 120, 121, 122, 123, 124, 125, 126, 127, 128, 129] (by decide +kernel) (by decide +kernel)
set_option maxRecDepth 20000 in
theorem gX3_grow_X3_remove : GoodIn wsX3_grow (wsV RX3 63 RX3 yX3_remove wsX3_remove) := goodIn_app (goodIn_of _ (by decide +kernel)) ggX3_grow_X3_remove
set_option maxRecDepth 20000 in
theorem ggX3_grow_X3_appendNode : GoodIn wsX3_grow wsX3_appendNode := goodIn_r _ [19, 14, 20, 21, 22, 7, 15, 5, 6, 23, 24, 25, 12, 26, 27, 28, 29, 30, 31, 8, 32, 33, 34, 35, 36, 37, 3, 4, 1, 38, 39, 40, 41, 42, 43, 44, 45, 46, 47, 48, 49, 50, 51, 52, 53, 54, 55, 56, 57, 58, 59, 60, 61, 62, 63, 64, 65, 66, 67, 68, 69, 70, 71, 72, 73, 74, 75, 76, 77, 78, 79, 80, 81, 82, 83, 84, 85, 86, 87, 88, 89, 90, 91, 92, 93, 94, 95, 96, 97, 98, 99, 100, 101, 102, 103, 104, 105, 106, 107, 117, 118, 119, 120, 121, 122, 123, 124, 125, 126, 127, 128, 129, 133, 134, 135, 136, 137, 138, 139, 140, 141, 142, 143, 144, 145, 146, 147, 130, 131, 132] (by decide +kernel) (by decide +kernel)
set_option maxRecDepth 20000 in
theorem gX3_grow_X3_appendNode : GoodIn wsX3_grow (wsV RX3 66 RX3 yX3_appendNode wsX3_appendNode) := goodIn_app (goodIn_of _ (by decide +kernel)) ggX3_grow_X3_appendNode
set_option maxRecDepth 20000 in
theorem ggX3_grow_X4_takeNext : GoodIn wsX3_grow wsX4_takeNext := goodIn_r _ [111, 101, 102, 130, 131, 132] (by decide +kernel) (by decide +kernel)
set_option maxRecDepth 20000 in
theorem gX3_grow_X4_takeNext : GoodIn wsX3_grow (wsV RX3 71 RX4 yX4_takeNext wsX4_takeNext) := goodIn_app (goodIn_of _ (by decide +kernel)) ggX3_grow_X4_takeNext
set_option maxRecDepth 20000 in
theorem ggX3_grow_X3_lateVerdict : GoodIn wsX3_grow wsX3_lateVerdict := goodIn_r _ [115, 15, 86, 116, 14, 117, 118, 119, 120, 121, 122, 123, 124, 125, 126, 127, 128, 129, 145, 146, 147] (by decide +kernel) (by decide +kernel)
set_option maxRecDepth 20000 in
theorem gX3_grow_X3_lateVerdict : GoodIn wsX3_grow (wsV RX3 78 RX3 yX3_lateVerdict wsX3_lateVerdict) := goodIn_app (goodIn_of _ (by decide +kernel)) ggX3_grow_X3_lateVerdict
theorem dX3_grow_0 : decode cX3_grow 0 = .ok (.aload_n 0, 1) := by decide +kernel
theorem dX3_grow_1 : decode cX3_grow 1 = .ok (.invokevirtual 63, 3) := by decide +kernel
theorem dX3_grow_4 : decode cX3_grow 4 = .ok (.aload_n 0, 1) := by decide +kernel
theorem dX3_grow_5 : decode cX3_grow 5 = .ok (.iload_n 1, 1) := by decide +kernel
theorem dX3_grow_6 : decode cX3_grow 6 = .ok (.iconst (-1), 1) := by decide +kernel
theorem dX3_grow_7 : decode cX3_grow 7 = .ok (.iconst (-1), 1) := by decide +kernel
theorem dX3_grow_8 : decode cX3_grow 8 = .ok (.iconst 0, 1) := by decide +kernel
theorem dX3_grow_9 : decode cX3_grow 9 = .ok (.iconst 1, 1) := by decide +kernel
theorem dX3_grow_10 : decode cX3_grow 10 = .ok (.invokevirtual 66, 3) := by decide +kernel
theorem dX3_grow_13 : decode cX3_grow 13 = .ok (.iconst 0, 1) := by decide +kernel
theorem dX3_grow_14 : decode cX3_grow 14 = .ok (.istore_n 2, 1) := by decide +kernel
theorem dX3_grow_15 : decode cX3_grow 15 = .ok (.iload_n 2, 1) := by decide +kernel
theorem dX3_grow_16 : decode cX3_grow 16 = .ok (.sipush 400, 3) := by decide +kernel
theorem dX3_grow_19 : decode cX3_grow 19 = .ok (.if_icmp .ge 97, 3) := by decide +kernel
theorem dX3_grow_22 : decode cX3_grow 22 = .ok (.aload_n 0, 1) := by decide +kernel
theorem dX3_grow_23 : decode cX3_grow 23 = .ok (.getfield 36, 3) := by decide +kernel
theorem dX3_grow_26 : decode cX3_grow 26 = .ok (.getfield 70, 3) := by decide +kernel
theorem dX3_grow_29 : decode cX3_grow 29 = .ok (.ifCond .le 87, 3) := by decide +kernel
theorem dX3_grow_32 : decode cX3_grow 32 = .ok (.aload_n 0, 1) := by decide +kernel
theorem dX3_grow_33 : decode cX3_grow 33 = .ok (.getfield 36, 3) := by decide +kernel
theorem dX3_grow_36 : decode cX3_grow 36 = .ok (.invokevirtual 71, 3) := by decide +kernel
theorem dX3_grow_39 : decode cX3_grow 39 = .ok (.istore_n 3, 1) := by decide +kernel
theorem dX3_grow_40 : decode cX3_grow 40 = .ok (.aload_n 0, 1) := by decide +kernel
theorem dX3_grow_41 : decode cX3_grow 41 = .ok (.getfield 30, 3) := by decide +kernel
theorem dX3_grow_44 : decode cX3_grow 44 = .ok (.iload_n 3, 1) := by decide +kernel
theorem dX3_grow_45 : decode cX3_grow 45 = .ok (.iaload, 1) := by decide +kernel
theorem dX3_grow_46 : decode cX3_grow 46 = .ok (.istore 4, 2) := by decide +kernel
theorem dX3_grow_48 : decode cX3_grow 48 = .ok (.aload_n 0, 1) := by decide +kernel
theorem dX3_grow_49 : decode cX3_grow 49 = .ok (.getfield 24, 3) := by decide +kernel
theorem dX3_grow_52 : decode cX3_grow 52 = .ok (.iload_n 3, 1) := by decide +kernel
theorem dX3_grow_53 : decode cX3_grow 53 = .ok (.aload_n 0, 1) := by decide +kernel
theorem dX3_grow_54 : decode cX3_grow 54 = .ok (.aload_n 0, 1) := by decide +kernel
theorem dX3_grow_55 : decode cX3_grow 55 = .ok (.getfield 43, 3) := by decide +kernel
theorem dX3_grow_58 : decode cX3_grow 58 = .ok (.getfield 75, 3) := by decide +kernel
theorem dX3_grow_61 : decode cX3_grow 61 = .ok (.iload 4, 2) := by decide +kernel
theorem dX3_grow_63 : decode cX3_grow 63 = .ok (.iaload, 1) := by decide +kernel
theorem dX3_grow_64 : decode cX3_grow 64 = .ok (.invokevirtual 78, 3) := by decide +kernel
theorem dX3_grow_67 : decode cX3_grow 67 = .ok (.iastore, 1) := by decide +kernel
theorem dX3_grow_68 : decode cX3_grow 68 = .ok (.aload_n 0, 1) := by decide +kernel
theorem dX3_grow_69 : decode cX3_grow 69 = .ok (.getfield 24, 3) := by decide +kernel
theorem dX3_grow_72 : decode cX3_grow 72 = .ok (.iload_n 3, 1) := by decide +kernel
theorem dX3_grow_73 : decode cX3_grow 73 = .ok (.iaload, 1) := by decide +kernel
theorem dX3_grow_74 : decode cX3_grow 74 = .ok (.ifCond .ne 36, 3) := by decide +kernel
theorem dX3_grow_77 : decode cX3_grow 77 = .ok (.iload_n 3, 1) := by decide +kernel
theorem dX3_grow_78 : decode cX3_grow 78 = .ok (.bipush 8, 2) := by decide +kernel
theorem dX3_grow_80 : decode cX3_grow 80 = .ok (.idiv, 1) := by decide +kernel
theorem dX3_grow_81 : decode cX3_grow 81 = .ok (.istore 5, 2) := by decide +kernel
theorem dX3_grow_83 : decode cX3_grow 83 = .ok (.aload_n 0, 1) := by decide +kernel
theorem dX3_grow_84 : decode cX3_grow 84 = .ok (.iload 4, 2) := by decide +kernel
theorem dX3_grow_86 : decode cX3_grow 86 = .ok (.iload 5, 2) := by decide +kernel
theorem dX3_grow_88 : decode cX3_grow 88 = .ok (.iload_n 3, 1) := by decide +kernel
theorem dX3_grow_89 : decode cX3_grow 89 = .ok (.bipush 8, 2) := by decide +kernel
theorem dX3_grow_91 : decode cX3_grow 91 = .ok (.irem, 1) := by decide +kernel
theorem dX3_grow_92 : decode cX3_grow 92 = .ok (.aload_n 0, 1) := by decide +kernel
theorem dX3_grow_93 : decode cX3_grow 93 = .ok (.getfield 21, 3) := by decide +kernel
theorem dX3_grow_96 : decode cX3_grow 96 = .ok (.iload 5, 2) := by decide +kernel
theorem dX3_grow_98 : decode cX3_grow 98 = .ok (.iaload, 1) := by decide +kernel
theorem dX3_grow_99 : decode cX3_grow 99 = .ok (.iconst 1, 1) := by decide +kernel
theorem dX3_grow_100 : decode cX3_grow 100 = .ok (.iadd, 1) := by decide +kernel
theorem dX3_grow_101 : decode cX3_grow 101 = .ok (.aload_n 0, 1) := by decide +kernel
theorem dX3_grow_102 : decode cX3_grow 102 = .ok (.getfield 27, 3) := by decide +kernel
theorem dX3_grow_105 : decode cX3_grow 105 = .ok (.iload_n 3, 1) := by decide +kernel
theorem dX3_grow_106 : decode cX3_grow 106 = .ok (.iaload, 1) := by decide +kernel
theorem dX3_grow_107 : decode cX3_grow 107 = .ok (.invokevirtual 66, 3) := by decide +kernel
theorem dX3_grow_110 : decode cX3_grow 110 = .ok (.iinc 2 1, 3) := by decide +kernel
theorem dX3_grow_113 : decode cX3_grow 113 = .ok (.goto (-98), 3) := by decide +kernel
theorem dX3_grow_116 : decode cX3_grow 116 = .ok (.return_, 1) := by decide +kernel
set_option maxRecDepth 20000 in
theorem ggX3_appendNode_X3_sitesAt : GoodIn wsX3_appendNode wsX3_sitesAt := goodIn_r _ [13, 7, 14, 2, 99, 100, 101, 102, 103, 104, 105, 106, 107, 108, 109, 110, 111, 112, 113, 114, 115, 116, 117, 118, 119] (by decide +kernel) (by decide +kernel)
set_option maxRecDepth 20000 in
theorem gX3_appendNode_X3_sitesAt : GoodIn wsX3_appendNode (wsV RX3 82 RX3 yX3_sitesAt wsX3_sitesAt) := goodIn_app (goodIn_of _ (by decide +kernel)) ggX3_appendNode_X3_sitesAt
set_option maxRecDepth 20000 in
theorem ggX3_appendNode_X3_lookAtSite : GoodIn wsX3_appendNode wsX3_lookAtSite := goodIn_r _ [18, 7, 2, 19, 20, 21, 22, 23, 24, 25, 26, 27, 28, 8, 29, 30, 31, 32, 33, 34, 35, 36, 37, 38, 39, 40, 41, 42, 43, 44, 45, 46, 47, 48, 49, 50, 51, 52, 53, 54, 55, 56, 57, 58, 59, 60, 61, 62, 63, 64, 65, 66, 67, 68, 69, 70, 71, 72, 73, 74, 75, 12, 76, 5, 77, 78, 79, 80, 81, 82, 83, 3, 84, 85, 86, 87, 88, 89, 90, 91, 92, 93, 94, 95, 96, 97, 98, 99, 100, 101, 102, 103, 104, 105, 106, 107, 108, 109, 110, 111, 112, 113, 114, 115, 116, 117, 118, 119, 120, 121, 122, 123, 124, 125, 126, 127, 128, 129] (by decide +kernel) (by decide +kernel)
set_option maxRecDepth 20000 in
theorem gX3_appendNode_X3_lookAtSite : GoodIn wsX3_appendNode (wsV RX3 85 RX3 yX3_lookAtSite wsX3_lookAtSite) := goodIn_app (goodIn_of _ (by decide +kernel)) ggX3_appendNode_X3_lookAtSite
theorem dX3_appendNode_0 : decode cX3_appendNode 0 = .ok (.aload_n 0, 1) := by decide +kernel
theorem dX3_appendNode_1 : decode cX3_appendNode 1 = .ok (.getfield 51, 3) := by decide +kernel
theorem dX3_appendNode_4 : decode cX3_appendNode 4 = .ok (.istore 6, 2) := by decide +kernel
theorem dX3_appendNode_6 : decode cX3_appendNode 6 = .ok (.aload_n 0, 1) := by decide +kernel
theorem dX3_appendNode_7 : decode cX3_appendNode 7 = .ok (.getfield 9, 3) := by decide +kernel
theorem dX3_appendNode_10 : decode cX3_appendNode 10 = .ok (.iload 6, 2) := by decide +kernel
theorem dX3_appendNode_12 : decode cX3_appendNode 12 = .ok (.iload_n 1, 1) := by decide +kernel
theorem dX3_appendNode_13 : decode cX3_appendNode 13 = .ok (.iastore, 1) := by decide +kernel
theorem dX3_appendNode_14 : decode cX3_appendNode 14 = .ok (.aload_n 0, 1) := by decide +kernel
theorem dX3_appendNode_15 : decode cX3_appendNode 15 = .ok (.getfield 15, 3) := by decide +kernel
theorem dX3_appendNode_18 : decode cX3_appendNode 18 = .ok (.iload 6, 2) := by decide +kernel
theorem dX3_appendNode_20 : decode cX3_appendNode 20 = .ok (.iload_n 2, 1) := by decide +kernel
theorem dX3_appendNode_21 : decode cX3_appendNode 21 = .ok (.iastore, 1) := by decide +kernel
theorem dX3_appendNode_22 : decode cX3_appendNode 22 = .ok (.aload_n 0, 1) := by decide +kernel
theorem dX3_appendNode_23 : decode cX3_appendNode 23 = .ok (.getfield 18, 3) := by decide +kernel
theorem dX3_appendNode_26 : decode cX3_appendNode 26 = .ok (.iload 6, 2) := by decide +kernel
theorem dX3_appendNode_28 : decode cX3_appendNode 28 = .ok (.iload_n 3, 1) := by decide +kernel
theorem dX3_appendNode_29 : decode cX3_appendNode 29 = .ok (.iastore, 1) := by decide +kernel
theorem dX3_appendNode_30 : decode cX3_appendNode 30 = .ok (.aload_n 0, 1) := by decide +kernel
theorem dX3_appendNode_31 : decode cX3_appendNode 31 = .ok (.getfield 21, 3) := by decide +kernel
theorem dX3_appendNode_34 : decode cX3_appendNode 34 = .ok (.iload 6, 2) := by decide +kernel
theorem dX3_appendNode_36 : decode cX3_appendNode 36 = .ok (.iload 4, 2) := by decide +kernel
theorem dX3_appendNode_38 : decode cX3_appendNode 38 = .ok (.iastore, 1) := by decide +kernel
theorem dX3_appendNode_39 : decode cX3_appendNode 39 = .ok (.aload_n 0, 1) := by decide +kernel
theorem dX3_appendNode_40 : decode cX3_appendNode 40 = .ok (.dup, 1) := by decide +kernel
theorem dX3_appendNode_41 : decode cX3_appendNode 41 = .ok (.getfield 51, 3) := by decide +kernel
theorem dX3_appendNode_44 : decode cX3_appendNode 44 = .ok (.iconst 1, 1) := by decide +kernel
theorem dX3_appendNode_45 : decode cX3_appendNode 45 = .ok (.iadd, 1) := by decide +kernel
theorem dX3_appendNode_46 : decode cX3_appendNode 46 = .ok (.putfield 51, 3) := by decide +kernel
theorem dX3_appendNode_49 : decode cX3_appendNode 49 = .ok (.aload_n 0, 1) := by decide +kernel
theorem dX3_appendNode_50 : decode cX3_appendNode 50 = .ok (.dup, 1) := by decide +kernel
theorem dX3_appendNode_51 : decode cX3_appendNode 51 = .ok (.getfield 55, 3) := by decide +kernel
theorem dX3_appendNode_54 : decode cX3_appendNode 54 = .ok (.aload_n 0, 1) := by decide +kernel
theorem dX3_appendNode_55 : decode cX3_appendNode 55 = .ok (.getfield 43, 3) := by decide +kernel
theorem dX3_appendNode_58 : decode cX3_appendNode 58 = .ok (.getfield 75, 3) := by decide +kernel
theorem dX3_appendNode_61 : decode cX3_appendNode 61 = .ok (.iload_n 1, 1) := by decide +kernel
theorem dX3_appendNode_62 : decode cX3_appendNode 62 = .ok (.iaload, 1) := by decide +kernel
theorem dX3_appendNode_63 : decode cX3_appendNode 63 = .ok (.iadd, 1) := by decide +kernel
theorem dX3_appendNode_64 : decode cX3_appendNode 64 = .ok (.putfield 55, 3) := by decide +kernel
theorem dX3_appendNode_67 : decode cX3_appendNode 67 = .ok (.iconst 0, 1) := by decide +kernel
theorem dX3_appendNode_68 : decode cX3_appendNode 68 = .ok (.istore 7, 2) := by decide +kernel
theorem dX3_appendNode_70 : decode cX3_appendNode 70 = .ok (.iload 7, 2) := by decide +kernel
theorem dX3_appendNode_72 : decode cX3_appendNode 72 = .ok (.aload_n 0, 1) := by decide +kernel
theorem dX3_appendNode_73 : decode cX3_appendNode 73 = .ok (.iload 6, 2) := by decide +kernel
theorem dX3_appendNode_75 : decode cX3_appendNode 75 = .ok (.invokevirtual 82, 3) := by decide +kernel
theorem dX3_appendNode_78 : decode cX3_appendNode 78 = .ok (.if_icmp .ge 19, 3) := by decide +kernel
theorem dX3_appendNode_81 : decode cX3_appendNode 81 = .ok (.aload_n 0, 1) := by decide +kernel
theorem dX3_appendNode_82 : decode cX3_appendNode 82 = .ok (.iload 6, 2) := by decide +kernel
theorem dX3_appendNode_84 : decode cX3_appendNode 84 = .ok (.iload 7, 2) := by decide +kernel
theorem dX3_appendNode_86 : decode cX3_appendNode 86 = .ok (.iload 5, 2) := by decide +kernel
theorem dX3_appendNode_88 : decode cX3_appendNode 88 = .ok (.invokevirtual 85, 3) := by decide +kernel
theorem dX3_appendNode_91 : decode cX3_appendNode 91 = .ok (.iinc 7 1, 3) := by decide +kernel
theorem dX3_appendNode_94 : decode cX3_appendNode 94 = .ok (.goto (-24), 3) := by decide +kernel
theorem dX3_appendNode_97 : decode cX3_appendNode 97 = .ok (.return_, 1) := by decide +kernel
set_option maxRecDepth 20000 in
theorem ggX3_lookAtSite_X5_slot : GoodIn wsX3_lookAtSite wsX5_slot := goodIn_r _ [16] (by decide +kernel) (by decide +kernel)
set_option maxRecDepth 20000 in
theorem gX3_lookAtSite_X5_slot_n89 : GoodIn wsX3_lookAtSite (wsX5_slot) := ggX3_lookAtSite_X5_slot
set_option maxRecDepth 20000 in
theorem ggX3_lookAtSite_X2_targetsOfSite : GoodIn wsX3_lookAtSite wsX2_targetsOfSite := goodIn_r _ [21, 22, 23, 14, 15, 16, 24, 25, 26, 20, 27, 28, 29, 30, 31, 32, 33, 34, 35, 36, 37, 38, 39, 40, 41, 42, 100, 101, 102, 103, 104, 105, 106, 107, 108, 109, 110, 111] (by decide +kernel) (by decide +kernel)
set_option maxRecDepth 20000 in
theorem gX3_lookAtSite_X2_targetsOfSite : GoodIn wsX3_lookAtSite (wsV RX3 93 RX2 yX2_targetsOfSite wsX2_targetsOfSite) := goodIn_app (goodIn_of _ (by decide +kernel)) ggX3_lookAtSite_X2_targetsOfSite
set_option maxRecDepth 20000 in
theorem ggX3_lookAtSite_X2_member : GoodIn wsX3_lookAtSite wsX2_member := goodIn_r _ [46, 47, 48, 49, 20, 50, 100, 101, 102, 103, 104, 105, 106, 107] (by decide +kernel) (by decide +kernel)
set_option maxRecDepth 20000 in
theorem gX3_lookAtSite_X2_member : GoodIn wsX3_lookAtSite (wsV RX3 105 RX2 yX2_member wsX2_member) := goodIn_app (goodIn_of _ (by decide +kernel)) ggX3_lookAtSite_X2_member
set_option maxRecDepth 20000 in
theorem ggX3_lookAtSite_J6_bitCount_0f7a4 : GoodIn wsX3_lookAtSite wsJ6_bitCount_0f7a4 := goodIn_r _ [54, 55, 56, 57] (by decide +kernel) (by decide +kernel)
set_option maxRecDepth 20000 in
theorem gX3_lookAtSite_J6_bitCount_0f7a4 : GoodIn wsX3_lookAtSite (va_wsS RX3 108 yJ6_bitCount_0f7a4 wsJ6_bitCount_0f7a4) := goodIn_app (goodIn_of _ (by decide +kernel)) ggX3_lookAtSite_J6_bitCount_0f7a4
set_option maxRecDepth 20000 in
theorem ggX3_lookAtSite_X3_earlyVerdict : GoodIn wsX3_lookAtSite wsX3_earlyVerdict := goodIn_r _ [62, 63, 64, 65, 66, 67, 68, 69, 61, 70, 2, 71, 87, 88, 89, 90, 91, 92, 93, 94, 95, 96, 97, 98, 99, 112, 113, 114] (by decide +kernel) (by decide +kernel)
set_option maxRecDepth 20000 in
theorem gX3_lookAtSite_X3_earlyVerdict : GoodIn wsX3_lookAtSite (wsV RX3 113 RX3 yX3_earlyVerdict wsX3_earlyVerdict) := goodIn_app (goodIn_of _ (by decide +kernel)) ggX3_lookAtSite_X3_earlyVerdict
set_option maxRecDepth 20000 in
theorem ggX3_lookAtSite_X3_merit : GoodIn wsX3_lookAtSite wsX3_merit := goodIn_r _ [74] (by decide +kernel) (by decide +kernel)
set_option maxRecDepth 20000 in
theorem gX3_lookAtSite_X3_merit : GoodIn wsX3_lookAtSite (va_wsS RX3 117 yX3_merit wsX3_merit) := goodIn_app (goodIn_of _ (by decide +kernel)) ggX3_lookAtSite_X3_merit
set_option maxRecDepth 20000 in
theorem ggX3_lookAtSite_X4_insert : GoodIn wsX3_lookAtSite wsX4_insert := goodIn_r _ [79, 80, 81, 82, 83, 84, 85, 78, 86, 115, 116, 117] (by decide +kernel) (by decide +kernel)
set_option maxRecDepth 20000 in
theorem gX3_lookAtSite_X4_insert : GoodIn wsX3_lookAtSite (wsV RX3 120 RX4 yX4_insert wsX4_insert) := goodIn_app (goodIn_of _ (by decide +kernel)) ggX3_lookAtSite_X4_insert
theorem dX3_lookAtSite_0 : decode cX3_lookAtSite 0 = .ok (.iload_n 1, 1) := by decide +kernel
theorem dX3_lookAtSite_1 : decode cX3_lookAtSite 1 = .ok (.iload_n 2, 1) := by decide +kernel
theorem dX3_lookAtSite_2 : decode cX3_lookAtSite 2 = .ok (.invokestatic 89, 3) := by decide +kernel
theorem dX3_lookAtSite_5 : decode cX3_lookAtSite 5 = .ok (.istore 4, 2) := by decide +kernel
theorem dX3_lookAtSite_7 : decode cX3_lookAtSite 7 = .ok (.aload_n 0, 1) := by decide +kernel
theorem dX3_lookAtSite_8 : decode cX3_lookAtSite 8 = .ok (.getfield 43, 3) := by decide +kernel
theorem dX3_lookAtSite_11 : decode cX3_lookAtSite 11 = .ok (.aload_n 0, 1) := by decide +kernel
theorem dX3_lookAtSite_12 : decode cX3_lookAtSite 12 = .ok (.getfield 9, 3) := by decide +kernel
theorem dX3_lookAtSite_15 : decode cX3_lookAtSite 15 = .ok (.iload_n 1, 1) := by decide +kernel
theorem dX3_lookAtSite_16 : decode cX3_lookAtSite 16 = .ok (.iaload, 1) := by decide +kernel
theorem dX3_lookAtSite_17 : decode cX3_lookAtSite 17 = .ok (.iload_n 2, 1) := by decide +kernel
theorem dX3_lookAtSite_18 : decode cX3_lookAtSite 18 = .ok (.invokevirtual 93, 3) := by decide +kernel
theorem dX3_lookAtSite_21 : decode cX3_lookAtSite 21 = .ok (.istore 5, 2) := by decide +kernel
theorem dX3_lookAtSite_23 : decode cX3_lookAtSite 23 = .ok (.aload_n 0, 1) := by decide +kernel
theorem dX3_lookAtSite_24 : decode cX3_lookAtSite 24 = .ok (.getfield 27, 3) := by decide +kernel
theorem dX3_lookAtSite_27 : decode cX3_lookAtSite 27 = .ok (.iload 4, 2) := by decide +kernel
theorem dX3_lookAtSite_29 : decode cX3_lookAtSite 29 = .ok (.ldc 96, 2) := by decide +kernel
theorem dX3_lookAtSite_31 : decode cX3_lookAtSite 31 = .ok (.iload_n 3, 1) := by decide +kernel
theorem dX3_lookAtSite_32 : decode cX3_lookAtSite 32 = .ok (.aload_n 0, 1) := by decide +kernel
theorem dX3_lookAtSite_33 : decode cX3_lookAtSite 33 = .ok (.getfield 43, 3) := by decide +kernel
theorem dX3_lookAtSite_36 : decode cX3_lookAtSite 36 = .ok (.getfield 97, 3) := by decide +kernel
theorem dX3_lookAtSite_39 : decode cX3_lookAtSite 39 = .ok (.aload_n 0, 1) := by decide +kernel
theorem dX3_lookAtSite_40 : decode cX3_lookAtSite 40 = .ok (.getfield 9, 3) := by decide +kernel
theorem dX3_lookAtSite_43 : decode cX3_lookAtSite 43 = .ok (.iload_n 1, 1) := by decide +kernel
theorem dX3_lookAtSite_44 : decode cX3_lookAtSite 44 = .ok (.iaload, 1) := by decide +kernel
theorem dX3_lookAtSite_45 : decode cX3_lookAtSite 45 = .ok (.iload_n 2, 1) := by decide +kernel
theorem dX3_lookAtSite_46 : decode cX3_lookAtSite 46 = .ok (.invokestatic 89, 3) := by decide +kernel
theorem dX3_lookAtSite_49 : decode cX3_lookAtSite 49 = .ok (.iaload, 1) := by decide +kernel
theorem dX3_lookAtSite_50 : decode cX3_lookAtSite 50 = .ok (.imul, 1) := by decide +kernel
theorem dX3_lookAtSite_51 : decode cX3_lookAtSite 51 = .ok (.invokestatic 100, 3) := by decide +kernel
theorem dX3_lookAtSite_54 : decode cX3_lookAtSite 54 = .ok (.iastore, 1) := by decide +kernel
theorem dX3_lookAtSite_55 : decode cX3_lookAtSite 55 = .ok (.aload_n 0, 1) := by decide +kernel
theorem dX3_lookAtSite_56 : decode cX3_lookAtSite 56 = .ok (.getfield 30, 3) := by decide +kernel
theorem dX3_lookAtSite_59 : decode cX3_lookAtSite 59 = .ok (.iload 4, 2) := by decide +kernel
theorem dX3_lookAtSite_61 : decode cX3_lookAtSite 61 = .ok (.aload_n 0, 1) := by decide +kernel
theorem dX3_lookAtSite_62 : decode cX3_lookAtSite 62 = .ok (.getfield 43, 3) := by decide +kernel
theorem dX3_lookAtSite_65 : decode cX3_lookAtSite 65 = .ok (.iload 5, 2) := by decide +kernel
theorem dX3_lookAtSite_67 : decode cX3_lookAtSite 67 = .ok (.iconst 0, 1) := by decide +kernel
theorem dX3_lookAtSite_68 : decode cX3_lookAtSite 68 = .ok (.invokevirtual 105, 3) := by decide +kernel
theorem dX3_lookAtSite_71 : decode cX3_lookAtSite 71 = .ok (.iastore, 1) := by decide +kernel
theorem dX3_lookAtSite_72 : decode cX3_lookAtSite 72 = .ok (.aload_n 0, 1) := by decide +kernel
theorem dX3_lookAtSite_73 : decode cX3_lookAtSite 73 = .ok (.getfield 24, 3) := by decide +kernel
theorem dX3_lookAtSite_76 : decode cX3_lookAtSite 76 = .ok (.iload 4, 2) := by decide +kernel
theorem dX3_lookAtSite_78 : decode cX3_lookAtSite 78 = .ok (.aload_n 0, 1) := by decide +kernel
theorem dX3_lookAtSite_79 : decode cX3_lookAtSite 79 = .ok (.iload_n 1, 1) := by decide +kernel
theorem dX3_lookAtSite_80 : decode cX3_lookAtSite 80 = .ok (.iload 5, 2) := by decide +kernel
theorem dX3_lookAtSite_82 : decode cX3_lookAtSite 82 = .ok (.invokestatic 108, 3) := by decide +kernel
theorem dX3_lookAtSite_85 : decode cX3_lookAtSite 85 = .ok (.aload_n 0, 1) := by decide +kernel
theorem dX3_lookAtSite_86 : decode cX3_lookAtSite 86 = .ok (.getfield 30, 3) := by decide +kernel
theorem dX3_lookAtSite_89 : decode cX3_lookAtSite 89 = .ok (.iload 4, 2) := by decide +kernel
theorem dX3_lookAtSite_91 : decode cX3_lookAtSite 91 = .ok (.iaload, 1) := by decide +kernel
theorem dX3_lookAtSite_92 : decode cX3_lookAtSite 92 = .ok (.invokevirtual 113, 3) := by decide +kernel
theorem dX3_lookAtSite_95 : decode cX3_lookAtSite 95 = .ok (.iastore, 1) := by decide +kernel
theorem dX3_lookAtSite_96 : decode cX3_lookAtSite 96 = .ok (.aload_n 0, 1) := by decide +kernel
theorem dX3_lookAtSite_97 : decode cX3_lookAtSite 97 = .ok (.getfield 24, 3) := by decide +kernel
theorem dX3_lookAtSite_100 : decode cX3_lookAtSite 100 = .ok (.iload 4, 2) := by decide +kernel
theorem dX3_lookAtSite_102 : decode cX3_lookAtSite 102 = .ok (.iaload, 1) := by decide +kernel
theorem dX3_lookAtSite_103 : decode cX3_lookAtSite 103 = .ok (.iconst (-1), 1) := by decide +kernel
theorem dX3_lookAtSite_104 : decode cX3_lookAtSite 104 = .ok (.if_icmp .ne 37, 3) := by decide +kernel
theorem dX3_lookAtSite_107 : decode cX3_lookAtSite 107 = .ok (.aload_n 0, 1) := by decide +kernel
theorem dX3_lookAtSite_108 : decode cX3_lookAtSite 108 = .ok (.getfield 36, 3) := by decide +kernel
theorem dX3_lookAtSite_111 : decode cX3_lookAtSite 111 = .ok (.iload 4, 2) := by decide +kernel
theorem dX3_lookAtSite_113 : decode cX3_lookAtSite 113 = .ok (.aload_n 0, 1) := by decide +kernel
theorem dX3_lookAtSite_114 : decode cX3_lookAtSite 114 = .ok (.getfield 27, 3) := by decide +kernel
theorem dX3_lookAtSite_117 : decode cX3_lookAtSite 117 = .ok (.iload 4, 2) := by decide +kernel
theorem dX3_lookAtSite_119 : decode cX3_lookAtSite 119 = .ok (.iaload, 1) := by decide +kernel
theorem dX3_lookAtSite_120 : decode cX3_lookAtSite 120 = .ok (.aload_n 0, 1) := by decide +kernel
theorem dX3_lookAtSite_121 : decode cX3_lookAtSite 121 = .ok (.getfield 43, 3) := by decide +kernel
theorem dX3_lookAtSite_124 : decode cX3_lookAtSite 124 = .ok (.getfield 75, 3) := by decide +kernel
theorem dX3_lookAtSite_127 : decode cX3_lookAtSite 127 = .ok (.aload_n 0, 1) := by decide +kernel
theorem dX3_lookAtSite_128 : decode cX3_lookAtSite 128 = .ok (.getfield 30, 3) := by decide +kernel
theorem dX3_lookAtSite_131 : decode cX3_lookAtSite 131 = .ok (.iload 4, 2) := by decide +kernel
theorem dX3_lookAtSite_133 : decode cX3_lookAtSite 133 = .ok (.iaload, 1) := by decide +kernel
theorem dX3_lookAtSite_134 : decode cX3_lookAtSite 134 = .ok (.iaload, 1) := by decide +kernel
theorem dX3_lookAtSite_135 : decode cX3_lookAtSite 135 = .ok (.invokestatic 117, 3) := by decide +kernel
theorem dX3_lookAtSite_138 : decode cX3_lookAtSite 138 = .ok (.invokevirtual 120, 3) := by decide +kernel
theorem dX3_lookAtSite_141 : decode cX3_lookAtSite 141 = .ok (.return_, 1) := by decide +kernel
theorem dX3_merit_0 : decode cX3_merit 0 = .ok (.iload_n 1, 1) := by decide +kernel
theorem dX3_merit_1 : decode cX3_merit 1 = .ok (.iconst 1, 1) := by decide +kernel
theorem dX3_merit_2 : decode cX3_merit 2 = .ok (.if_icmp .ge 7, 3) := by decide +kernel
theorem dX3_merit_5 : decode cX3_merit 5 = .ok (.iconst 0, 1) := by decide +kernel
theorem dX3_merit_6 : decode cX3_merit 6 = .ok (.goto 10, 3) := by decide +kernel
theorem dX3_merit_9 : decode cX3_merit 9 = .ok (.sipush 1000, 3) := by decide +kernel
theorem dX3_merit_12 : decode cX3_merit 12 = .ok (.iload_n 0, 1) := by decide +kernel
theorem dX3_merit_13 : decode cX3_merit 13 = .ok (.imul, 1) := by decide +kernel
theorem dX3_merit_14 : decode cX3_merit 14 = .ok (.iload_n 1, 1) := by decide +kernel
theorem dX3_merit_15 : decode cX3_merit 15 = .ok (.idiv, 1) := by decide +kernel
theorem dX3_merit_16 : decode cX3_merit 16 = .ok (.ireturn, 1) := by decide +kernel
set_option maxRecDepth 20000 in
theorem ggX3_earlyVerdict_X3_copiesOnPath : GoodIn wsX3_earlyVerdict wsX3_copiesOnPath := goodIn_r _ [9, 10, 11, 12, 13, 14, 15, 16, 17, 18, 19, 20, 21, 22, 23, 24] (by decide +kernel) (by decide +kernel)
set_option maxRecDepth 20000 in
theorem gX3_earlyVerdict_X3_copiesOnPath : GoodIn wsX3_earlyVerdict (wsV RX3 129 RX3 yX3_copiesOnPath wsX3_copiesOnPath) := goodIn_app (goodIn_of _ (by decide +kernel)) ggX3_earlyVerdict_X3_copiesOnPath
theorem dX3_earlyVerdict_0 : decode cX3_earlyVerdict 0 = .ok (.iload_n 2, 1) := by decide +kernel
theorem dX3_earlyVerdict_1 : decode cX3_earlyVerdict 1 = .ok (.ifCond .ne 5, 3) := by decide +kernel
theorem dX3_earlyVerdict_4 : decode cX3_earlyVerdict 4 = .ok (.iconst 1, 1) := by decide +kernel
theorem dX3_earlyVerdict_5 : decode cX3_earlyVerdict 5 = .ok (.ireturn, 1) := by decide +kernel
theorem dX3_earlyVerdict_6 : decode cX3_earlyVerdict 6 = .ok (.iload_n 2, 1) := by decide +kernel
theorem dX3_earlyVerdict_7 : decode cX3_earlyVerdict 7 = .ok (.iconst 1, 1) := by decide +kernel
theorem dX3_earlyVerdict_8 : decode cX3_earlyVerdict 8 = .ok (.if_icmp .le 5, 3) := by decide +kernel
theorem dX3_earlyVerdict_11 : decode cX3_earlyVerdict 11 = .ok (.iconst 2, 1) := by decide +kernel
theorem dX3_earlyVerdict_12 : decode cX3_earlyVerdict 12 = .ok (.ireturn, 1) := by decide +kernel
theorem dX3_earlyVerdict_13 : decode cX3_earlyVerdict 13 = .ok (.aload_n 0, 1) := by decide +kernel
theorem dX3_earlyVerdict_14 : decode cX3_earlyVerdict 14 = .ok (.getfield 21, 3) := by decide +kernel
theorem dX3_earlyVerdict_17 : decode cX3_earlyVerdict 17 = .ok (.iload_n 1, 1) := by decide +kernel
theorem dX3_earlyVerdict_18 : decode cX3_earlyVerdict 18 = .ok (.iaload, 1) := by decide +kernel
theorem dX3_earlyVerdict_19 : decode cX3_earlyVerdict 19 = .ok (.aload_n 0, 1) := by decide +kernel
theorem dX3_earlyVerdict_20 : decode cX3_earlyVerdict 20 = .ok (.getfield 47, 3) := by decide +kernel
theorem dX3_earlyVerdict_23 : decode cX3_earlyVerdict 23 = .ok (.getfield 124, 3) := by decide +kernel
theorem dX3_earlyVerdict_26 : decode cX3_earlyVerdict 26 = .ok (.if_icmp .lt 5, 3) := by decide +kernel
theorem dX3_earlyVerdict_29 : decode cX3_earlyVerdict 29 = .ok (.iconst 3, 1) := by decide +kernel
theorem dX3_earlyVerdict_30 : decode cX3_earlyVerdict 30 = .ok (.ireturn, 1) := by decide +kernel
theorem dX3_earlyVerdict_31 : decode cX3_earlyVerdict 31 = .ok (.aload_n 0, 1) := by decide +kernel
theorem dX3_earlyVerdict_32 : decode cX3_earlyVerdict 32 = .ok (.iload_n 1, 1) := by decide +kernel
theorem dX3_earlyVerdict_33 : decode cX3_earlyVerdict 33 = .ok (.iload_n 3, 1) := by decide +kernel
theorem dX3_earlyVerdict_34 : decode cX3_earlyVerdict 34 = .ok (.invokevirtual 129, 3) := by decide +kernel
theorem dX3_earlyVerdict_37 : decode cX3_earlyVerdict 37 = .ok (.aload_n 0, 1) := by decide +kernel
theorem dX3_earlyVerdict_38 : decode cX3_earlyVerdict 38 = .ok (.getfield 47, 3) := by decide +kernel
theorem dX3_earlyVerdict_41 : decode cX3_earlyVerdict 41 = .ok (.getfield 132, 3) := by decide +kernel
theorem dX3_earlyVerdict_44 : decode cX3_earlyVerdict 44 = .ok (.if_icmp .le 7, 3) := by decide +kernel
theorem dX3_earlyVerdict_47 : decode cX3_earlyVerdict 47 = .ok (.iconst 4, 1) := by decide +kernel
theorem dX3_earlyVerdict_48 : decode cX3_earlyVerdict 48 = .ok (.goto 4, 3) := by decide +kernel
theorem dX3_earlyVerdict_51 : decode cX3_earlyVerdict 51 = .ok (.iconst (-1), 1) := by decide +kernel
theorem dX3_earlyVerdict_52 : decode cX3_earlyVerdict 52 = .ok (.ireturn, 1) := by decide +kernel
theorem dX3_lateVerdict_0 : decode cX3_lateVerdict 0 = .ok (.aload_n 0, 1) := by decide +kernel
theorem dX3_lateVerdict_1 : decode cX3_lateVerdict 1 = .ok (.getfield 55, 3) := by decide +kernel
theorem dX3_lateVerdict_4 : decode cX3_lateVerdict 4 = .ok (.iload_n 1, 1) := by decide +kernel
theorem dX3_lateVerdict_5 : decode cX3_lateVerdict 5 = .ok (.iadd, 1) := by decide +kernel
theorem dX3_lateVerdict_6 : decode cX3_lateVerdict 6 = .ok (.aload_n 0, 1) := by decide +kernel
theorem dX3_lateVerdict_7 : decode cX3_lateVerdict 7 = .ok (.getfield 47, 3) := by decide +kernel
theorem dX3_lateVerdict_10 : decode cX3_lateVerdict 10 = .ok (.getfield 135, 3) := by decide +kernel
theorem dX3_lateVerdict_13 : decode cX3_lateVerdict 13 = .ok (.if_icmp .le 5, 3) := by decide +kernel
theorem dX3_lateVerdict_16 : decode cX3_lateVerdict 16 = .ok (.iconst 5, 1) := by decide +kernel
theorem dX3_lateVerdict_17 : decode cX3_lateVerdict 17 = .ok (.ireturn, 1) := by decide +kernel
theorem dX3_lateVerdict_18 : decode cX3_lateVerdict 18 = .ok (.aload_n 0, 1) := by decide +kernel
theorem dX3_lateVerdict_19 : decode cX3_lateVerdict 19 = .ok (.getfield 51, 3) := by decide +kernel
theorem dX3_lateVerdict_22 : decode cX3_lateVerdict 22 = .ok (.bipush 50, 2) := by decide +kernel
theorem dX3_lateVerdict_24 : decode cX3_lateVerdict 24 = .ok (.if_icmp .lt 8, 3) := by decide +kernel
theorem dX3_lateVerdict_27 : decode cX3_lateVerdict 27 = .ok (.bipush 6, 2) := by decide +kernel
theorem dX3_lateVerdict_29 : decode cX3_lateVerdict 29 = .ok (.goto 4, 3) := by decide +kernel
theorem dX3_lateVerdict_32 : decode cX3_lateVerdict 32 = .ok (.iconst 0, 1) := by decide +kernel
theorem dX3_lateVerdict_33 : decode cX3_lateVerdict 33 = .ok (.ireturn, 1) := by decide +kernel
theorem dX3_copiesOnPath_0 : decode cX3_copiesOnPath 0 = .ok (.iconst 0, 1) := by decide +kernel
theorem dX3_copiesOnPath_1 : decode cX3_copiesOnPath 1 = .ok (.istore_n 3, 1) := by decide +kernel
theorem dX3_copiesOnPath_2 : decode cX3_copiesOnPath 2 = .ok (.iload_n 1, 1) := by decide +kernel
theorem dX3_copiesOnPath_3 : decode cX3_copiesOnPath 3 = .ok (.istore 4, 2) := by decide +kernel
theorem dX3_copiesOnPath_5 : decode cX3_copiesOnPath 5 = .ok (.iconst 0, 1) := by decide +kernel
theorem dX3_copiesOnPath_6 : decode cX3_copiesOnPath 6 = .ok (.istore 5, 2) := by decide +kernel
theorem dX3_copiesOnPath_8 : decode cX3_copiesOnPath 8 = .ok (.iload 5, 2) := by decide +kernel
theorem dX3_copiesOnPath_10 : decode cX3_copiesOnPath 10 = .ok (.bipush 10, 2) := by decide +kernel
theorem dX3_copiesOnPath_12 : decode cX3_copiesOnPath 12 = .ok (.if_icmp .gt 37, 3) := by decide +kernel
theorem dX3_copiesOnPath_15 : decode cX3_copiesOnPath 15 = .ok (.iload 4, 2) := by decide +kernel
theorem dX3_copiesOnPath_17 : decode cX3_copiesOnPath 17 = .ok (.ifCond .lt 32, 3) := by decide +kernel
theorem dX3_copiesOnPath_20 : decode cX3_copiesOnPath 20 = .ok (.aload_n 0, 1) := by decide +kernel
theorem dX3_copiesOnPath_21 : decode cX3_copiesOnPath 21 = .ok (.getfield 9, 3) := by decide +kernel
theorem dX3_copiesOnPath_24 : decode cX3_copiesOnPath 24 = .ok (.iload 4, 2) := by decide +kernel
theorem dX3_copiesOnPath_26 : decode cX3_copiesOnPath 26 = .ok (.iaload, 1) := by decide +kernel
theorem dX3_copiesOnPath_27 : decode cX3_copiesOnPath 27 = .ok (.iload_n 2, 1) := by decide +kernel
theorem dX3_copiesOnPath_28 : decode cX3_copiesOnPath 28 = .ok (.if_icmp .ne 6, 3) := by decide +kernel
theorem dX3_copiesOnPath_31 : decode cX3_copiesOnPath 31 = .ok (.iinc 3 1, 3) := by decide +kernel
theorem dX3_copiesOnPath_34 : decode cX3_copiesOnPath 34 = .ok (.aload_n 0, 1) := by decide +kernel
theorem dX3_copiesOnPath_35 : decode cX3_copiesOnPath 35 = .ok (.getfield 15, 3) := by decide +kernel
theorem dX3_copiesOnPath_38 : decode cX3_copiesOnPath 38 = .ok (.iload 4, 2) := by decide +kernel
theorem dX3_copiesOnPath_40 : decode cX3_copiesOnPath 40 = .ok (.iaload, 1) := by decide +kernel
theorem dX3_copiesOnPath_41 : decode cX3_copiesOnPath 41 = .ok (.istore 4, 2) := by decide +kernel
theorem dX3_copiesOnPath_43 : decode cX3_copiesOnPath 43 = .ok (.iinc 5 1, 3) := by decide +kernel
theorem dX3_copiesOnPath_46 : decode cX3_copiesOnPath 46 = .ok (.goto (-38), 3) := by decide +kernel
theorem dX3_copiesOnPath_49 : decode cX3_copiesOnPath 49 = .ok (.iload_n 3, 1) := by decide +kernel
theorem dX3_copiesOnPath_50 : decode cX3_copiesOnPath 50 = .ok (.ireturn, 1) := by decide +kernel
set_option maxRecDepth 20000 in
theorem ggX3_weightBetween_X3_sitesAt : GoodIn wsX3_weightBetween wsX3_sitesAt := goodIn_r _ [8, 9, 10, 11, 15, 16, 17, 18, 19, 20, 21, 22, 23, 24, 25, 26, 27, 28, 29, 30, 31, 32, 33, 34, 35] (by decide +kernel) (by decide +kernel)
set_option maxRecDepth 20000 in
theorem gX3_weightBetween_X3_sitesAt : GoodIn wsX3_weightBetween (wsV RX3 82 RX3 yX3_sitesAt wsX3_sitesAt) := goodIn_app (goodIn_of _ (by decide +kernel)) ggX3_weightBetween_X3_sitesAt
set_option maxRecDepth 20000 in
theorem ggX3_weightBetween_X5_slot : GoodIn wsX3_weightBetween wsX5_slot := goodIn_r _ [14] (by decide +kernel) (by decide +kernel)
set_option maxRecDepth 20000 in
theorem gX3_weightBetween_X5_slot_n89 : GoodIn wsX3_weightBetween (wsX5_slot) := ggX3_weightBetween_X5_slot
theorem dX3_weightBetween_0 : decode cX3_weightBetween 0 = .ok (.lconst 0, 1) := by decide +kernel
theorem dX3_weightBetween_1 : decode cX3_weightBetween 1 = .ok (.lstore_n 3, 1) := by decide +kernel
theorem dX3_weightBetween_2 : decode cX3_weightBetween 2 = .ok (.iconst 0, 1) := by decide +kernel
theorem dX3_weightBetween_3 : decode cX3_weightBetween 3 = .ok (.istore 5, 2) := by decide +kernel
theorem dX3_weightBetween_5 : decode cX3_weightBetween 5 = .ok (.iload 5, 2) := by decide +kernel
theorem dX3_weightBetween_7 : decode cX3_weightBetween 7 = .ok (.aload_n 0, 1) := by decide +kernel
theorem dX3_weightBetween_8 : decode cX3_weightBetween 8 = .ok (.getfield 51, 3) := by decide +kernel
theorem dX3_weightBetween_11 : decode cX3_weightBetween 11 = .ok (.if_icmp .ge 71, 3) := by decide +kernel
theorem dX3_weightBetween_14 : decode cX3_weightBetween 14 = .ok (.iconst 0, 1) := by decide +kernel
theorem dX3_weightBetween_15 : decode cX3_weightBetween 15 = .ok (.istore 6, 2) := by decide +kernel
theorem dX3_weightBetween_17 : decode cX3_weightBetween 17 = .ok (.iload 6, 2) := by decide +kernel
theorem dX3_weightBetween_19 : decode cX3_weightBetween 19 = .ok (.aload_n 0, 1) := by decide +kernel
theorem dX3_weightBetween_20 : decode cX3_weightBetween 20 = .ok (.iload 5, 2) := by decide +kernel
theorem dX3_weightBetween_22 : decode cX3_weightBetween 22 = .ok (.invokevirtual 82, 3) := by decide +kernel
theorem dX3_weightBetween_25 : decode cX3_weightBetween 25 = .ok (.if_icmp .ge 51, 3) := by decide +kernel
theorem dX3_weightBetween_28 : decode cX3_weightBetween 28 = .ok (.iload 5, 2) := by decide +kernel
theorem dX3_weightBetween_30 : decode cX3_weightBetween 30 = .ok (.iload 6, 2) := by decide +kernel
theorem dX3_weightBetween_32 : decode cX3_weightBetween 32 = .ok (.invokestatic 89, 3) := by decide +kernel
theorem dX3_weightBetween_35 : decode cX3_weightBetween 35 = .ok (.istore 7, 2) := by decide +kernel
theorem dX3_weightBetween_37 : decode cX3_weightBetween 37 = .ok (.aload_n 0, 1) := by decide +kernel
theorem dX3_weightBetween_38 : decode cX3_weightBetween 38 = .ok (.getfield 24, 3) := by decide +kernel
theorem dX3_weightBetween_41 : decode cX3_weightBetween 41 = .ok (.iload 7, 2) := by decide +kernel
theorem dX3_weightBetween_43 : decode cX3_weightBetween 43 = .ok (.iaload, 1) := by decide +kernel
theorem dX3_weightBetween_44 : decode cX3_weightBetween 44 = .ok (.iload_n 1, 1) := by decide +kernel
theorem dX3_weightBetween_45 : decode cX3_weightBetween 45 = .ok (.if_icmp .lt 25, 3) := by decide +kernel
theorem dX3_weightBetween_48 : decode cX3_weightBetween 48 = .ok (.aload_n 0, 1) := by decide +kernel
theorem dX3_weightBetween_49 : decode cX3_weightBetween 49 = .ok (.getfield 24, 3) := by decide +kernel
theorem dX3_weightBetween_52 : decode cX3_weightBetween 52 = .ok (.iload 7, 2) := by decide +kernel
theorem dX3_weightBetween_54 : decode cX3_weightBetween 54 = .ok (.iaload, 1) := by decide +kernel
theorem dX3_weightBetween_55 : decode cX3_weightBetween 55 = .ok (.iload_n 2, 1) := by decide +kernel
theorem dX3_weightBetween_56 : decode cX3_weightBetween 56 = .ok (.if_icmp .gt 14, 3) := by decide +kernel
theorem dX3_weightBetween_59 : decode cX3_weightBetween 59 = .ok (.lload_n 3, 1) := by decide +kernel
theorem dX3_weightBetween_60 : decode cX3_weightBetween 60 = .ok (.aload_n 0, 1) := by decide +kernel
theorem dX3_weightBetween_61 : decode cX3_weightBetween 61 = .ok (.getfield 27, 3) := by decide +kernel
theorem dX3_weightBetween_64 : decode cX3_weightBetween 64 = .ok (.iload 7, 2) := by decide +kernel
theorem dX3_weightBetween_66 : decode cX3_weightBetween 66 = .ok (.iaload, 1) := by decide +kernel
theorem dX3_weightBetween_67 : decode cX3_weightBetween 67 = .ok (.i2l, 1) := by decide +kernel
theorem dX3_weightBetween_68 : decode cX3_weightBetween 68 = .ok (.ladd, 1) := by decide +kernel
theorem dX3_weightBetween_69 : decode cX3_weightBetween 69 = .ok (.lstore_n 3, 1) := by decide +kernel
theorem dX3_weightBetween_70 : decode cX3_weightBetween 70 = .ok (.iinc 6 1, 3) := by decide +kernel
theorem dX3_weightBetween_73 : decode cX3_weightBetween 73 = .ok (.goto (-56), 3) := by decide +kernel
theorem dX3_weightBetween_76 : decode cX3_weightBetween 76 = .ok (.iinc 5 1, 3) := by decide +kernel
theorem dX3_weightBetween_79 : decode cX3_weightBetween 79 = .ok (.goto (-74), 3) := by decide +kernel
theorem dX3_weightBetween_82 : decode cX3_weightBetween 82 = .ok (.lload_n 3, 1) := by decide +kernel
theorem dX3_weightBetween_83 : decode cX3_weightBetween 83 = .ok (.lreturn, 1) := by decide +kernel
set_option maxRecDepth 20000 in
theorem ggX3_isSound_X2_targetsOfSite : GoodIn wsX3_isSound wsX2_targetsOfSite := goodIn_r _ [9, 10, 11, 12, 13, 14, 15, 16, 17, 8, 18, 19, 20, 21, 22, 23, 24, 25, 26, 27, 28, 29, 30, 31, 32, 33, 47, 48, 49, 50, 51, 52, 53, 54, 55, 56, 57, 58] (by decide +kernel) (by decide +kernel)
set_option maxRecDepth 20000 in
theorem gX3_isSound_X2_targetsOfSite : GoodIn wsX3_isSound (wsV RX3 93 RX2 yX2_targetsOfSite wsX2_targetsOfSite) := goodIn_app (goodIn_of _ (by decide +kernel)) ggX3_isSound_X2_targetsOfSite
theorem dX3_isSound_0 : decode cX3_isSound 0 = .ok (.aload_n 0, 1) := by decide +kernel
theorem dX3_isSound_1 : decode cX3_isSound 1 = .ok (.getfield 15, 3) := by decide +kernel
theorem dX3_isSound_4 : decode cX3_isSound 4 = .ok (.iload_n 1, 1) := by decide +kernel
theorem dX3_isSound_5 : decode cX3_isSound 5 = .ok (.iaload, 1) := by decide +kernel
theorem dX3_isSound_6 : decode cX3_isSound 6 = .ok (.istore_n 2, 1) := by decide +kernel
theorem dX3_isSound_7 : decode cX3_isSound 7 = .ok (.iload_n 2, 1) := by decide +kernel
theorem dX3_isSound_8 : decode cX3_isSound 8 = .ok (.ifCond .lt 33, 3) := by decide +kernel
theorem dX3_isSound_11 : decode cX3_isSound 11 = .ok (.aload_n 0, 1) := by decide +kernel
theorem dX3_isSound_12 : decode cX3_isSound 12 = .ok (.getfield 43, 3) := by decide +kernel
theorem dX3_isSound_15 : decode cX3_isSound 15 = .ok (.aload_n 0, 1) := by decide +kernel
theorem dX3_isSound_16 : decode cX3_isSound 16 = .ok (.getfield 9, 3) := by decide +kernel
theorem dX3_isSound_19 : decode cX3_isSound 19 = .ok (.iload_n 2, 1) := by decide +kernel
theorem dX3_isSound_20 : decode cX3_isSound 20 = .ok (.iaload, 1) := by decide +kernel
theorem dX3_isSound_21 : decode cX3_isSound 21 = .ok (.aload_n 0, 1) := by decide +kernel
theorem dX3_isSound_22 : decode cX3_isSound 22 = .ok (.getfield 18, 3) := by decide +kernel
theorem dX3_isSound_25 : decode cX3_isSound 25 = .ok (.iload_n 1, 1) := by decide +kernel
theorem dX3_isSound_26 : decode cX3_isSound 26 = .ok (.iaload, 1) := by decide +kernel
theorem dX3_isSound_27 : decode cX3_isSound 27 = .ok (.invokevirtual 93, 3) := by decide +kernel
theorem dX3_isSound_30 : decode cX3_isSound 30 = .ok (.iconst 1, 1) := by decide +kernel
theorem dX3_isSound_31 : decode cX3_isSound 31 = .ok (.aload_n 0, 1) := by decide +kernel
theorem dX3_isSound_32 : decode cX3_isSound 32 = .ok (.getfield 9, 3) := by decide +kernel
theorem dX3_isSound_35 : decode cX3_isSound 35 = .ok (.iload_n 1, 1) := by decide +kernel
theorem dX3_isSound_36 : decode cX3_isSound 36 = .ok (.iaload, 1) := by decide +kernel
theorem dX3_isSound_37 : decode cX3_isSound 37 = .ok (.ishl, 1) := by decide +kernel
theorem dX3_isSound_38 : decode cX3_isSound 38 = .ok (.if_icmp .ne 7, 3) := by decide +kernel
theorem dX3_isSound_41 : decode cX3_isSound 41 = .ok (.iconst 1, 1) := by decide +kernel
theorem dX3_isSound_42 : decode cX3_isSound 42 = .ok (.goto 4, 3) := by decide +kernel
theorem dX3_isSound_45 : decode cX3_isSound 45 = .ok (.iconst 0, 1) := by decide +kernel
theorem dX3_isSound_46 : decode cX3_isSound 46 = .ok (.ireturn, 1) := by decide +kernel
set_option maxRecDepth 20000 in
theorem ggX3_cutBroken_X3_numberAnew : GoodIn wsX3_cutBroken wsX3_numberAnew := goodIn_r _ [11, 2, 12, 3, 13, 14, 15, 16, 17, 10, 18, 4, 6, 19, 20, 21, 22, 23, 24, 25, 26, 27, 28, 29, 30, 31, 32, 33, 34, 35, 36, 37, 38, 39, 40, 41, 42, 43, 44, 45, 46, 47, 59, 60, 61, 62, 63, 64, 65, 66, 67, 68, 69, 70, 71, 72, 73, 74, 75, 76, 77, 78, 79, 80, 81, 82, 83] (by decide +kernel) (by decide +kernel)
set_option maxRecDepth 20000 in
theorem gX3_cutBroken_X3_numberAnew : GoodIn wsX3_cutBroken (wsV RX3 138 RX3 yX3_numberAnew wsX3_numberAnew) := goodIn_app (goodIn_of _ (by decide +kernel)) ggX3_cutBroken_X3_numberAnew
set_option maxRecDepth 20000 in
theorem ggX3_cutBroken_X3_move : GoodIn wsX3_cutBroken wsX3_move := goodIn_r _ [51, 6, 12, 3, 14, 52, 13, 53, 54, 55, 56, 10, 57, 4, 58, 26, 27, 28, 59, 60, 61, 62, 63, 64, 65, 66, 67, 68, 69, 70, 71, 72, 73, 74, 75, 76, 77, 78, 79] (by decide +kernel) (by decide +kernel)
set_option maxRecDepth 20000 in
theorem gX3_cutBroken_X3_move : GoodIn wsX3_cutBroken (wsV RX3 141 RX3 yX3_move wsX3_move) := goodIn_app (goodIn_of _ (by decide +kernel)) ggX3_cutBroken_X3_move
theorem dX3_cutBroken_0 : decode cX3_cutBroken 0 = .ok (.aload_n 0, 1) := by decide +kernel
theorem dX3_cutBroken_1 : decode cX3_cutBroken 1 = .ok (.invokevirtual 138, 3) := by decide +kernel
theorem dX3_cutBroken_4 : decode cX3_cutBroken 4 = .ok (.istore_n 1, 1) := by decide +kernel
theorem dX3_cutBroken_5 : decode cX3_cutBroken 5 = .ok (.aload_n 0, 1) := by decide +kernel
theorem dX3_cutBroken_6 : decode cX3_cutBroken 6 = .ok (.iconst 0, 1) := by decide +kernel
theorem dX3_cutBroken_7 : decode cX3_cutBroken 7 = .ok (.putfield 55, 3) := by decide +kernel
theorem dX3_cutBroken_10 : decode cX3_cutBroken 10 = .ok (.iconst 0, 1) := by decide +kernel
theorem dX3_cutBroken_11 : decode cX3_cutBroken 11 = .ok (.istore_n 2, 1) := by decide +kernel
theorem dX3_cutBroken_12 : decode cX3_cutBroken 12 = .ok (.iload_n 2, 1) := by decide +kernel
theorem dX3_cutBroken_13 : decode cX3_cutBroken 13 = .ok (.aload_n 0, 1) := by decide +kernel
theorem dX3_cutBroken_14 : decode cX3_cutBroken 14 = .ok (.getfield 51, 3) := by decide +kernel
theorem dX3_cutBroken_17 : decode cX3_cutBroken 17 = .ok (.if_icmp .ge 57, 3) := by decide +kernel
theorem dX3_cutBroken_20 : decode cX3_cutBroken 20 = .ok (.aload_n 0, 1) := by decide +kernel
theorem dX3_cutBroken_21 : decode cX3_cutBroken 21 = .ok (.getfield 40, 3) := by decide +kernel
theorem dX3_cutBroken_24 : decode cX3_cutBroken 24 = .ok (.iload_n 2, 1) := by decide +kernel
theorem dX3_cutBroken_25 : decode cX3_cutBroken 25 = .ok (.iaload, 1) := by decide +kernel
theorem dX3_cutBroken_26 : decode cX3_cutBroken 26 = .ok (.ifCond .lt 42, 3) := by decide +kernel
theorem dX3_cutBroken_29 : decode cX3_cutBroken 29 = .ok (.aload_n 0, 1) := by decide +kernel
theorem dX3_cutBroken_30 : decode cX3_cutBroken 30 = .ok (.iload_n 2, 1) := by decide +kernel
theorem dX3_cutBroken_31 : decode cX3_cutBroken 31 = .ok (.aload_n 0, 1) := by decide +kernel
theorem dX3_cutBroken_32 : decode cX3_cutBroken 32 = .ok (.getfield 40, 3) := by decide +kernel
theorem dX3_cutBroken_35 : decode cX3_cutBroken 35 = .ok (.iload_n 2, 1) := by decide +kernel
theorem dX3_cutBroken_36 : decode cX3_cutBroken 36 = .ok (.iaload, 1) := by decide +kernel
theorem dX3_cutBroken_37 : decode cX3_cutBroken 37 = .ok (.invokevirtual 141, 3) := by decide +kernel
theorem dX3_cutBroken_40 : decode cX3_cutBroken 40 = .ok (.aload_n 0, 1) := by decide +kernel
theorem dX3_cutBroken_41 : decode cX3_cutBroken 41 = .ok (.dup, 1) := by decide +kernel
theorem dX3_cutBroken_42 : decode cX3_cutBroken 42 = .ok (.getfield 55, 3) := by decide +kernel
theorem dX3_cutBroken_45 : decode cX3_cutBroken 45 = .ok (.aload_n 0, 1) := by decide +kernel
theorem dX3_cutBroken_46 : decode cX3_cutBroken 46 = .ok (.getfield 43, 3) := by decide +kernel
theorem dX3_cutBroken_49 : decode cX3_cutBroken 49 = .ok (.getfield 75, 3) := by decide +kernel
theorem dX3_cutBroken_52 : decode cX3_cutBroken 52 = .ok (.aload_n 0, 1) := by decide +kernel
theorem dX3_cutBroken_53 : decode cX3_cutBroken 53 = .ok (.getfield 9, 3) := by decide +kernel
theorem dX3_cutBroken_56 : decode cX3_cutBroken 56 = .ok (.aload_n 0, 1) := by decide +kernel
theorem dX3_cutBroken_57 : decode cX3_cutBroken 57 = .ok (.getfield 40, 3) := by decide +kernel
theorem dX3_cutBroken_60 : decode cX3_cutBroken 60 = .ok (.iload_n 2, 1) := by decide +kernel
theorem dX3_cutBroken_61 : decode cX3_cutBroken 61 = .ok (.iaload, 1) := by decide +kernel
theorem dX3_cutBroken_62 : decode cX3_cutBroken 62 = .ok (.iaload, 1) := by decide +kernel
theorem dX3_cutBroken_63 : decode cX3_cutBroken 63 = .ok (.iaload, 1) := by decide +kernel
theorem dX3_cutBroken_64 : decode cX3_cutBroken 64 = .ok (.iadd, 1) := by decide +kernel
theorem dX3_cutBroken_65 : decode cX3_cutBroken 65 = .ok (.putfield 55, 3) := by decide +kernel
theorem dX3_cutBroken_68 : decode cX3_cutBroken 68 = .ok (.iinc 2 1, 3) := by decide +kernel
theorem dX3_cutBroken_71 : decode cX3_cutBroken 71 = .ok (.goto (-59), 3) := by decide +kernel
theorem dX3_cutBroken_74 : decode cX3_cutBroken 74 = .ok (.aload_n 0, 1) := by decide +kernel
theorem dX3_cutBroken_75 : decode cX3_cutBroken 75 = .ok (.iload_n 1, 1) := by decide +kernel
theorem dX3_cutBroken_76 : decode cX3_cutBroken 76 = .ok (.putfield 51, 3) := by decide +kernel
theorem dX3_cutBroken_79 : decode cX3_cutBroken 79 = .ok (.return_, 1) := by decide +kernel
set_option maxRecDepth 20000 in
theorem ggX3_numberAnew_X3_isSound : GoodIn wsX3_numberAnew wsX3_isSound := goodIn_r _ [10, 2, 11, 12, 5, 13, 14, 15, 16, 17, 18, 19, 20, 21, 22, 23, 24, 25, 26, 27, 28, 29, 30, 31, 32, 33, 34, 35, 36, 37, 38, 39, 40, 41, 42, 43, 44, 45, 46, 47, 48, 49, 50, 51, 52, 53, 54, 55, 56, 57, 58, 59, 60, 61, 62, 63, 64, 65, 66] (by decide +kernel) (by decide +kernel)
set_option maxRecDepth 20000 in
theorem gX3_numberAnew_X3_isSound : GoodIn wsX3_numberAnew (wsV RX3 144 RX3 yX3_isSound wsX3_isSound) := goodIn_app (goodIn_of _ (by decide +kernel)) ggX3_numberAnew_X3_isSound
set_option maxRecDepth 20000 in
theorem ggX3_numberAnew_X5_slot : GoodIn wsX3_numberAnew wsX5_slot := goodIn_r _ [22] (by decide +kernel) (by decide +kernel)
set_option maxRecDepth 20000 in
theorem gX3_numberAnew_X5_slot_n89 : GoodIn wsX3_numberAnew (wsX5_slot) := ggX3_numberAnew_X5_slot
theorem dX3_numberAnew_0 : decode cX3_numberAnew 0 = .ok (.iconst 0, 1) := by decide +kernel
theorem dX3_numberAnew_1 : decode cX3_numberAnew 1 = .ok (.istore_n 1, 1) := by decide +kernel
theorem dX3_numberAnew_2 : decode cX3_numberAnew 2 = .ok (.iconst 0, 1) := by decide +kernel
theorem dX3_numberAnew_3 : decode cX3_numberAnew 3 = .ok (.istore_n 2, 1) := by decide +kernel
theorem dX3_numberAnew_4 : decode cX3_numberAnew 4 = .ok (.iload_n 2, 1) := by decide +kernel
theorem dX3_numberAnew_5 : decode cX3_numberAnew 5 = .ok (.aload_n 0, 1) := by decide +kernel
theorem dX3_numberAnew_6 : decode cX3_numberAnew 6 = .ok (.getfield 51, 3) := by decide +kernel
theorem dX3_numberAnew_9 : decode cX3_numberAnew 9 = .ok (.if_icmp .ge 105, 3) := by decide +kernel
theorem dX3_numberAnew_12 : decode cX3_numberAnew 12 = .ok (.aload_n 0, 1) := by decide +kernel
theorem dX3_numberAnew_13 : decode cX3_numberAnew 13 = .ok (.getfield 15, 3) := by decide +kernel
theorem dX3_numberAnew_16 : decode cX3_numberAnew 16 = .ok (.iload_n 2, 1) := by decide +kernel
theorem dX3_numberAnew_17 : decode cX3_numberAnew 17 = .ok (.iaload, 1) := by decide +kernel
theorem dX3_numberAnew_18 : decode cX3_numberAnew 18 = .ok (.istore_n 3, 1) := by decide +kernel
theorem dX3_numberAnew_19 : decode cX3_numberAnew 19 = .ok (.iload_n 3, 1) := by decide +kernel
theorem dX3_numberAnew_20 : decode cX3_numberAnew 20 = .ok (.ifCond .lt 12, 3) := by decide +kernel
theorem dX3_numberAnew_23 : decode cX3_numberAnew 23 = .ok (.aload_n 0, 1) := by decide +kernel
theorem dX3_numberAnew_24 : decode cX3_numberAnew 24 = .ok (.getfield 40, 3) := by decide +kernel
theorem dX3_numberAnew_27 : decode cX3_numberAnew 27 = .ok (.iload_n 3, 1) := by decide +kernel
theorem dX3_numberAnew_28 : decode cX3_numberAnew 28 = .ok (.iaload, 1) := by decide +kernel
theorem dX3_numberAnew_29 : decode cX3_numberAnew 29 = .ok (.ifCond .lt 7, 3) := by decide +kernel
theorem dX3_numberAnew_32 : decode cX3_numberAnew 32 = .ok (.iconst 1, 1) := by decide +kernel
theorem dX3_numberAnew_33 : decode cX3_numberAnew 33 = .ok (.goto 4, 3) := by decide +kernel
theorem dX3_numberAnew_36 : decode cX3_numberAnew 36 = .ok (.iconst 0, 1) := by decide +kernel
theorem dX3_numberAnew_37 : decode cX3_numberAnew 37 = .ok (.istore 4, 2) := by decide +kernel
theorem dX3_numberAnew_39 : decode cX3_numberAnew 39 = .ok (.iload 4, 2) := by decide +kernel
theorem dX3_numberAnew_41 : decode cX3_numberAnew 41 = .ok (.ifCond .eq 15, 3) := by decide +kernel
theorem dX3_numberAnew_44 : decode cX3_numberAnew 44 = .ok (.aload_n 0, 1) := by decide +kernel
theorem dX3_numberAnew_45 : decode cX3_numberAnew 45 = .ok (.iload_n 2, 1) := by decide +kernel
theorem dX3_numberAnew_46 : decode cX3_numberAnew 46 = .ok (.invokevirtual 144, 3) := by decide +kernel
theorem dX3_numberAnew_49 : decode cX3_numberAnew 49 = .ok (.ifCond .eq 7, 3) := by decide +kernel
theorem dX3_numberAnew_52 : decode cX3_numberAnew 52 = .ok (.iconst 1, 1) := by decide +kernel
theorem dX3_numberAnew_53 : decode cX3_numberAnew 53 = .ok (.goto 4, 3) := by decide +kernel
theorem dX3_numberAnew_56 : decode cX3_numberAnew 56 = .ok (.iconst 0, 1) := by decide +kernel
theorem dX3_numberAnew_57 : decode cX3_numberAnew 57 = .ok (.istore 5, 2) := by decide +kernel
theorem dX3_numberAnew_59 : decode cX3_numberAnew 59 = .ok (.aload_n 0, 1) := by decide +kernel
theorem dX3_numberAnew_60 : decode cX3_numberAnew 60 = .ok (.getfield 40, 3) := by decide +kernel
theorem dX3_numberAnew_63 : decode cX3_numberAnew 63 = .ok (.iload_n 2, 1) := by decide +kernel
theorem dX3_numberAnew_64 : decode cX3_numberAnew 64 = .ok (.iload 5, 2) := by decide +kernel
theorem dX3_numberAnew_66 : decode cX3_numberAnew 66 = .ok (.ifCond .eq 7, 3) := by decide +kernel
theorem dX3_numberAnew_69 : decode cX3_numberAnew 69 = .ok (.iload_n 1, 1) := by decide +kernel
theorem dX3_numberAnew_70 : decode cX3_numberAnew 70 = .ok (.goto 4, 3) := by decide +kernel
theorem dX3_numberAnew_73 : decode cX3_numberAnew 73 = .ok (.iconst (-1), 1) := by decide +kernel
theorem dX3_numberAnew_74 : decode cX3_numberAnew 74 = .ok (.iastore, 1) := by decide +kernel
theorem dX3_numberAnew_75 : decode cX3_numberAnew 75 = .ok (.iload 5, 2) := by decide +kernel
theorem dX3_numberAnew_77 : decode cX3_numberAnew 77 = .ok (.ifCond .eq 9, 3) := by decide +kernel
theorem dX3_numberAnew_80 : decode cX3_numberAnew 80 = .ok (.iinc 1 1, 3) := by decide +kernel
theorem dX3_numberAnew_83 : decode cX3_numberAnew 83 = .ok (.goto 25, 3) := by decide +kernel
theorem dX3_numberAnew_86 : decode cX3_numberAnew 86 = .ok (.iload 4, 2) := by decide +kernel
theorem dX3_numberAnew_88 : decode cX3_numberAnew 88 = .ok (.ifCond .eq 20, 3) := by decide +kernel
theorem dX3_numberAnew_91 : decode cX3_numberAnew 91 = .ok (.aload_n 0, 1) := by decide +kernel
theorem dX3_numberAnew_92 : decode cX3_numberAnew 92 = .ok (.getfield 24, 3) := by decide +kernel
theorem dX3_numberAnew_95 : decode cX3_numberAnew 95 = .ok (.iload_n 3, 1) := by decide +kernel
theorem dX3_numberAnew_96 : decode cX3_numberAnew 96 = .ok (.aload_n 0, 1) := by decide +kernel
theorem dX3_numberAnew_97 : decode cX3_numberAnew 97 = .ok (.getfield 18, 3) := by decide +kernel
theorem dX3_numberAnew_100 : decode cX3_numberAnew 100 = .ok (.iload_n 2, 1) := by decide +kernel
theorem dX3_numberAnew_101 : decode cX3_numberAnew 101 = .ok (.iaload, 1) := by decide +kernel
theorem dX3_numberAnew_102 : decode cX3_numberAnew 102 = .ok (.invokestatic 89, 3) := by decide +kernel
theorem dX3_numberAnew_105 : decode cX3_numberAnew 105 = .ok (.bipush 7, 2) := by decide +kernel
theorem dX3_numberAnew_107 : decode cX3_numberAnew 107 = .ok (.iastore, 1) := by decide +kernel
theorem dX3_numberAnew_108 : decode cX3_numberAnew 108 = .ok (.iinc 2 1, 3) := by decide +kernel
theorem dX3_numberAnew_111 : decode cX3_numberAnew 111 = .ok (.goto (-107), 3) := by decide +kernel
theorem dX3_numberAnew_114 : decode cX3_numberAnew 114 = .ok (.iload_n 1, 1) := by decide +kernel
theorem dX3_numberAnew_115 : decode cX3_numberAnew 115 = .ok (.ireturn, 1) := by decide +kernel
set_option maxRecDepth 20000 in
theorem ggX3_move_X3_sitesAt : GoodIn wsX3_move wsX3_sitesAt := goodIn_r _ [12, 13, 14, 1, 18, 19, 20, 21, 22, 23, 24, 25, 26, 27, 28, 29, 30, 31, 32, 33, 34, 35, 36, 37, 38] (by decide +kernel) (by decide +kernel)
set_option maxRecDepth 20000 in
theorem gX3_move_X3_sitesAt : GoodIn wsX3_move (wsV RX3 82 RX3 yX3_sitesAt wsX3_sitesAt) := goodIn_app (goodIn_of _ (by decide +kernel)) ggX3_move_X3_sitesAt
set_option maxRecDepth 20000 in
theorem ggX3_move_X5_slot : GoodIn wsX3_move wsX5_slot := goodIn_r _ [17] (by decide +kernel) (by decide +kernel)
set_option maxRecDepth 20000 in
theorem gX3_move_X5_slot_n89 : GoodIn wsX3_move (wsX5_slot) := ggX3_move_X5_slot
theorem dX3_move_0 : decode cX3_move 0 = .ok (.aload_n 0, 1) := by decide +kernel
theorem dX3_move_1 : decode cX3_move 1 = .ok (.getfield 9, 3) := by decide +kernel
theorem dX3_move_4 : decode cX3_move 4 = .ok (.iload_n 2, 1) := by decide +kernel
theorem dX3_move_5 : decode cX3_move 5 = .ok (.aload_n 0, 1) := by decide +kernel
theorem dX3_move_6 : decode cX3_move 6 = .ok (.getfield 9, 3) := by decide +kernel
theorem dX3_move_9 : decode cX3_move 9 = .ok (.iload_n 1, 1) := by decide +kernel
theorem dX3_move_10 : decode cX3_move 10 = .ok (.iaload, 1) := by decide +kernel
theorem dX3_move_11 : decode cX3_move 11 = .ok (.iastore, 1) := by decide +kernel
theorem dX3_move_12 : decode cX3_move 12 = .ok (.aload_n 0, 1) := by decide +kernel
theorem dX3_move_13 : decode cX3_move 13 = .ok (.getfield 15, 3) := by decide +kernel
theorem dX3_move_16 : decode cX3_move 16 = .ok (.iload_n 2, 1) := by decide +kernel
theorem dX3_move_17 : decode cX3_move 17 = .ok (.aload_n 0, 1) := by decide +kernel
theorem dX3_move_18 : decode cX3_move 18 = .ok (.getfield 15, 3) := by decide +kernel
theorem dX3_move_21 : decode cX3_move 21 = .ok (.iload_n 1, 1) := by decide +kernel
theorem dX3_move_22 : decode cX3_move 22 = .ok (.iaload, 1) := by decide +kernel
theorem dX3_move_23 : decode cX3_move 23 = .ok (.ifCond .ge 7, 3) := by decide +kernel
theorem dX3_move_26 : decode cX3_move 26 = .ok (.iconst (-1), 1) := by decide +kernel
theorem dX3_move_27 : decode cX3_move 27 = .ok (.goto 14, 3) := by decide +kernel
theorem dX3_move_30 : decode cX3_move 30 = .ok (.aload_n 0, 1) := by decide +kernel
theorem dX3_move_31 : decode cX3_move 31 = .ok (.getfield 40, 3) := by decide +kernel
theorem dX3_move_34 : decode cX3_move 34 = .ok (.aload_n 0, 1) := by decide +kernel
theorem dX3_move_35 : decode cX3_move 35 = .ok (.getfield 15, 3) := by decide +kernel
theorem dX3_move_38 : decode cX3_move 38 = .ok (.iload_n 1, 1) := by decide +kernel
theorem dX3_move_39 : decode cX3_move 39 = .ok (.iaload, 1) := by decide +kernel
theorem dX3_move_40 : decode cX3_move 40 = .ok (.iaload, 1) := by decide +kernel
theorem dX3_move_41 : decode cX3_move 41 = .ok (.iastore, 1) := by decide +kernel
theorem dX3_move_42 : decode cX3_move 42 = .ok (.aload_n 0, 1) := by decide +kernel
theorem dX3_move_43 : decode cX3_move 43 = .ok (.getfield 18, 3) := by decide +kernel
theorem dX3_move_46 : decode cX3_move 46 = .ok (.iload_n 2, 1) := by decide +kernel
theorem dX3_move_47 : decode cX3_move 47 = .ok (.aload_n 0, 1) := by decide +kernel
theorem dX3_move_48 : decode cX3_move 48 = .ok (.getfield 18, 3) := by decide +kernel
theorem dX3_move_51 : decode cX3_move 51 = .ok (.iload_n 1, 1) := by decide +kernel
theorem dX3_move_52 : decode cX3_move 52 = .ok (.iaload, 1) := by decide +kernel
theorem dX3_move_53 : decode cX3_move 53 = .ok (.iastore, 1) := by decide +kernel
theorem dX3_move_54 : decode cX3_move 54 = .ok (.aload_n 0, 1) := by decide +kernel
theorem dX3_move_55 : decode cX3_move 55 = .ok (.getfield 21, 3) := by decide +kernel
theorem dX3_move_58 : decode cX3_move 58 = .ok (.iload_n 2, 1) := by decide +kernel
theorem dX3_move_59 : decode cX3_move 59 = .ok (.aload_n 0, 1) := by decide +kernel
theorem dX3_move_60 : decode cX3_move 60 = .ok (.getfield 21, 3) := by decide +kernel
theorem dX3_move_63 : decode cX3_move 63 = .ok (.iload_n 1, 1) := by decide +kernel
theorem dX3_move_64 : decode cX3_move 64 = .ok (.iaload, 1) := by decide +kernel
theorem dX3_move_65 : decode cX3_move 65 = .ok (.iastore, 1) := by decide +kernel
theorem dX3_move_66 : decode cX3_move 66 = .ok (.iconst 0, 1) := by decide +kernel
theorem dX3_move_67 : decode cX3_move 67 = .ok (.istore_n 3, 1) := by decide +kernel
theorem dX3_move_68 : decode cX3_move 68 = .ok (.iload_n 3, 1) := by decide +kernel
theorem dX3_move_69 : decode cX3_move 69 = .ok (.aload_n 0, 1) := by decide +kernel
theorem dX3_move_70 : decode cX3_move 70 = .ok (.iload_n 2, 1) := by decide +kernel
theorem dX3_move_71 : decode cX3_move 71 = .ok (.invokevirtual 82, 3) := by decide +kernel
theorem dX3_move_74 : decode cX3_move 74 = .ok (.if_icmp .ge 49, 3) := by decide +kernel
theorem dX3_move_77 : decode cX3_move 77 = .ok (.aload_n 0, 1) := by decide +kernel
theorem dX3_move_78 : decode cX3_move 78 = .ok (.getfield 24, 3) := by decide +kernel
theorem dX3_move_81 : decode cX3_move 81 = .ok (.iload_n 2, 1) := by decide +kernel
theorem dX3_move_82 : decode cX3_move 82 = .ok (.iload_n 3, 1) := by decide +kernel
theorem dX3_move_83 : decode cX3_move 83 = .ok (.invokestatic 89, 3) := by decide +kernel
theorem dX3_move_86 : decode cX3_move 86 = .ok (.aload_n 0, 1) := by decide +kernel
theorem dX3_move_87 : decode cX3_move 87 = .ok (.getfield 24, 3) := by decide +kernel
theorem dX3_move_90 : decode cX3_move 90 = .ok (.iload_n 1, 1) := by decide +kernel
theorem dX3_move_91 : decode cX3_move 91 = .ok (.iload_n 3, 1) := by decide +kernel
theorem dX3_move_92 : decode cX3_move 92 = .ok (.invokestatic 89, 3) := by decide +kernel
theorem dX3_move_95 : decode cX3_move 95 = .ok (.iaload, 1) := by decide +kernel
theorem dX3_move_96 : decode cX3_move 96 = .ok (.iastore, 1) := by decide +kernel
theorem dX3_move_97 : decode cX3_move 97 = .ok (.aload_n 0, 1) := by decide +kernel
theorem dX3_move_98 : decode cX3_move 98 = .ok (.getfield 27, 3) := by decide +kernel
theorem dX3_move_101 : decode cX3_move 101 = .ok (.iload_n 2, 1) := by decide +kernel
theorem dX3_move_102 : decode cX3_move 102 = .ok (.iload_n 3, 1) := by decide +kernel
theorem dX3_move_103 : decode cX3_move 103 = .ok (.invokestatic 89, 3) := by decide +kernel
theorem dX3_move_106 : decode cX3_move 106 = .ok (.aload_n 0, 1) := by decide +kernel
theorem dX3_move_107 : decode cX3_move 107 = .ok (.getfield 27, 3) := by decide +kernel
theorem dX3_move_110 : decode cX3_move 110 = .ok (.iload_n 1, 1) := by decide +kernel
theorem dX3_move_111 : decode cX3_move 111 = .ok (.iload_n 3, 1) := by decide +kernel
theorem dX3_move_112 : decode cX3_move 112 = .ok (.invokestatic 89, 3) := by decide +kernel
theorem dX3_move_115 : decode cX3_move 115 = .ok (.iaload, 1) := by decide +kernel
theorem dX3_move_116 : decode cX3_move 116 = .ok (.iastore, 1) := by decide +kernel
theorem dX3_move_117 : decode cX3_move 117 = .ok (.iinc 3 1, 3) := by decide +kernel
theorem dX3_move_120 : decode cX3_move 120 = .ok (.goto (-52), 3) := by decide +kernel
theorem dX3_move_123 : decode cX3_move 123 = .ok (.return_, 1) := by decide +kernel
set_option maxRecDepth 20000 in
theorem ggX3_mixInto_X5_mix : GoodIn wsX3_mixInto wsX5_mix := goodIn_r _ [8, 9] (by decide +kernel) (by decide +kernel)
set_option maxRecDepth 20000 in
theorem gX3_mixInto_X5_mix_n148 : GoodIn wsX3_mixInto (wsX5_mix) := ggX3_mixInto_X5_mix
set_option maxRecDepth 20000 in
theorem ggX3_mixInto_X3_sitesAt : GoodIn wsX3_mixInto wsX3_sitesAt := goodIn_r _ [14, 15, 16, 2, 19, 20, 21, 22, 23, 24, 25, 26, 27, 28, 29, 30, 31, 32, 33, 34, 35, 36, 37, 38, 39] (by decide +kernel) (by decide +kernel)
set_option maxRecDepth 20000 in
theorem gX3_mixInto_X3_sitesAt : GoodIn wsX3_mixInto (wsV RX3 82 RX3 yX3_sitesAt wsX3_sitesAt) := goodIn_app (goodIn_of _ (by decide +kernel)) ggX3_mixInto_X3_sitesAt
set_option maxRecDepth 20000 in
theorem ggX3_mixInto_X5_slot : GoodIn wsX3_mixInto wsX5_slot := goodIn_r _ [18] (by decide +kernel) (by decide +kernel)
set_option maxRecDepth 20000 in
theorem gX3_mixInto_X5_slot_n89 : GoodIn wsX3_mixInto (wsX5_slot) := ggX3_mixInto_X5_slot
theorem dX3_mixInto_0 : decode cX3_mixInto 0 = .ok (.lload_n 1, 1) := by decide +kernel
theorem dX3_mixInto_1 : decode cX3_mixInto 1 = .ok (.aload_n 0, 1) := by decide +kernel
theorem dX3_mixInto_2 : decode cX3_mixInto 2 = .ok (.getfield 51, 3) := by decide +kernel
theorem dX3_mixInto_5 : decode cX3_mixInto 5 = .ok (.invokestatic 148, 3) := by decide +kernel
theorem dX3_mixInto_8 : decode cX3_mixInto 8 = .ok (.lstore_n 3, 1) := by decide +kernel
theorem dX3_mixInto_9 : decode cX3_mixInto 9 = .ok (.iconst 0, 1) := by decide +kernel
theorem dX3_mixInto_10 : decode cX3_mixInto 10 = .ok (.istore 5, 2) := by decide +kernel
theorem dX3_mixInto_12 : decode cX3_mixInto 12 = .ok (.iload 5, 2) := by decide +kernel
theorem dX3_mixInto_14 : decode cX3_mixInto 14 = .ok (.aload_n 0, 1) := by decide +kernel
theorem dX3_mixInto_15 : decode cX3_mixInto 15 = .ok (.getfield 51, 3) := by decide +kernel
theorem dX3_mixInto_18 : decode cX3_mixInto 18 = .ok (.if_icmp .ge 83, 3) := by decide +kernel
theorem dX3_mixInto_21 : decode cX3_mixInto 21 = .ok (.lload_n 3, 1) := by decide +kernel
theorem dX3_mixInto_22 : decode cX3_mixInto 22 = .ok (.aload_n 0, 1) := by decide +kernel
theorem dX3_mixInto_23 : decode cX3_mixInto 23 = .ok (.getfield 9, 3) := by decide +kernel
theorem dX3_mixInto_26 : decode cX3_mixInto 26 = .ok (.iload 5, 2) := by decide +kernel
theorem dX3_mixInto_28 : decode cX3_mixInto 28 = .ok (.iaload, 1) := by decide +kernel
theorem dX3_mixInto_29 : decode cX3_mixInto 29 = .ok (.invokestatic 148, 3) := by decide +kernel
theorem dX3_mixInto_32 : decode cX3_mixInto 32 = .ok (.aload_n 0, 1) := by decide +kernel
theorem dX3_mixInto_33 : decode cX3_mixInto 33 = .ok (.getfield 15, 3) := by decide +kernel
theorem dX3_mixInto_36 : decode cX3_mixInto 36 = .ok (.iload 5, 2) := by decide +kernel
theorem dX3_mixInto_38 : decode cX3_mixInto 38 = .ok (.iaload, 1) := by decide +kernel
theorem dX3_mixInto_39 : decode cX3_mixInto 39 = .ok (.invokestatic 148, 3) := by decide +kernel
theorem dX3_mixInto_42 : decode cX3_mixInto 42 = .ok (.lstore_n 3, 1) := by decide +kernel
theorem dX3_mixInto_43 : decode cX3_mixInto 43 = .ok (.iconst 0, 1) := by decide +kernel
theorem dX3_mixInto_44 : decode cX3_mixInto 44 = .ok (.istore 6, 2) := by decide +kernel
theorem dX3_mixInto_46 : decode cX3_mixInto 46 = .ok (.iload 6, 2) := by decide +kernel
theorem dX3_mixInto_48 : decode cX3_mixInto 48 = .ok (.aload_n 0, 1) := by decide +kernel
theorem dX3_mixInto_49 : decode cX3_mixInto 49 = .ok (.iload 5, 2) := by decide +kernel
theorem dX3_mixInto_51 : decode cX3_mixInto 51 = .ok (.invokevirtual 82, 3) := by decide +kernel
theorem dX3_mixInto_54 : decode cX3_mixInto 54 = .ok (.if_icmp .ge 41, 3) := by decide +kernel
theorem dX3_mixInto_57 : decode cX3_mixInto 57 = .ok (.lload_n 3, 1) := by decide +kernel
theorem dX3_mixInto_58 : decode cX3_mixInto 58 = .ok (.aload_n 0, 1) := by decide +kernel
theorem dX3_mixInto_59 : decode cX3_mixInto 59 = .ok (.getfield 24, 3) := by decide +kernel
theorem dX3_mixInto_62 : decode cX3_mixInto 62 = .ok (.iload 5, 2) := by decide +kernel
theorem dX3_mixInto_64 : decode cX3_mixInto 64 = .ok (.iload 6, 2) := by decide +kernel
theorem dX3_mixInto_66 : decode cX3_mixInto 66 = .ok (.invokestatic 89, 3) := by decide +kernel
theorem dX3_mixInto_69 : decode cX3_mixInto 69 = .ok (.iaload, 1) := by decide +kernel
theorem dX3_mixInto_70 : decode cX3_mixInto 70 = .ok (.invokestatic 148, 3) := by decide +kernel
theorem dX3_mixInto_73 : decode cX3_mixInto 73 = .ok (.aload_n 0, 1) := by decide +kernel
theorem dX3_mixInto_74 : decode cX3_mixInto 74 = .ok (.getfield 27, 3) := by decide +kernel
theorem dX3_mixInto_77 : decode cX3_mixInto 77 = .ok (.iload 5, 2) := by decide +kernel
theorem dX3_mixInto_79 : decode cX3_mixInto 79 = .ok (.iload 6, 2) := by decide +kernel
theorem dX3_mixInto_81 : decode cX3_mixInto 81 = .ok (.invokestatic 89, 3) := by decide +kernel
theorem dX3_mixInto_84 : decode cX3_mixInto 84 = .ok (.iaload, 1) := by decide +kernel
theorem dX3_mixInto_85 : decode cX3_mixInto 85 = .ok (.invokestatic 148, 3) := by decide +kernel
theorem dX3_mixInto_88 : decode cX3_mixInto 88 = .ok (.lstore_n 3, 1) := by decide +kernel
theorem dX3_mixInto_89 : decode cX3_mixInto 89 = .ok (.iinc 6 1, 3) := by decide +kernel
theorem dX3_mixInto_92 : decode cX3_mixInto 92 = .ok (.goto (-46), 3) := by decide +kernel
theorem dX3_mixInto_95 : decode cX3_mixInto 95 = .ok (.iinc 5 1, 3) := by decide +kernel
theorem dX3_mixInto_98 : decode cX3_mixInto 98 = .ok (.goto (-86), 3) := by decide +kernel
theorem dX3_mixInto_101 : decode cX3_mixInto 101 = .ok (.lload_n 3, 1) := by decide +kernel
theorem dX3_mixInto_102 : decode cX3_mixInto 102 = .ok (.lreturn, 1) := by decide +kernel
theorem dX4_init_0 : decode cX4_init 0 = .ok (.aload_n 0, 1) := by decide +kernel
theorem dX4_init_1 : decode cX4_init 1 = .ok (.invokespecial 3, 3) := by decide +kernel
theorem dX4_init_4 : decode cX4_init 4 = .ok (.aload_n 0, 1) := by decide +kernel
theorem dX4_init_5 : decode cX4_init 5 = .ok (.sipush 400, 3) := by decide +kernel
theorem dX4_init_8 : decode cX4_init 8 = .ok (.newarray .int, 2) := by decide +kernel
theorem dX4_init_10 : decode cX4_init 10 = .ok (.putfield 9, 3) := by decide +kernel
theorem dX4_init_13 : decode cX4_init 13 = .ok (.aload_n 0, 1) := by decide +kernel
theorem dX4_init_14 : decode cX4_init 14 = .ok (.sipush 400, 3) := by decide +kernel
theorem dX4_init_17 : decode cX4_init 17 = .ok (.newarray .int, 2) := by decide +kernel
theorem dX4_init_19 : decode cX4_init 19 = .ok (.putfield 15, 3) := by decide +kernel
theorem dX4_init_22 : decode cX4_init 22 = .ok (.return_, 1) := by decide +kernel
set_option maxRecDepth 20000 in
theorem ggX4_insert_X4_isTakenBefore : GoodIn wsX4_insert wsX4_isTakenBefore := goodIn_r _ [8, 3, 2, 9, 10, 11] (by decide +kernel) (by decide +kernel)
set_option maxRecDepth 20000 in
theorem gX4_insert_X4_isTakenBefore : GoodIn wsX4_insert (wsV RX4 22 RX4 yX4_isTakenBefore wsX4_isTakenBefore) := goodIn_app (goodIn_of _ (by decide +kernel)) ggX4_insert_X4_isTakenBefore
theorem dX4_insert_0 : decode cX4_insert 0 = .ok (.aload_n 0, 1) := by decide +kernel
theorem dX4_insert_1 : decode cX4_insert 1 = .ok (.getfield 18, 3) := by decide +kernel
theorem dX4_insert_4 : decode cX4_insert 4 = .ok (.istore_n 3, 1) := by decide +kernel
theorem dX4_insert_5 : decode cX4_insert 5 = .ok (.iload_n 3, 1) := by decide +kernel
theorem dX4_insert_6 : decode cX4_insert 6 = .ok (.ifCond .le 49, 3) := by decide +kernel
theorem dX4_insert_9 : decode cX4_insert 9 = .ok (.aload_n 0, 1) := by decide +kernel
theorem dX4_insert_10 : decode cX4_insert 10 = .ok (.iload_n 1, 1) := by decide +kernel
theorem dX4_insert_11 : decode cX4_insert 11 = .ok (.iload_n 2, 1) := by decide +kernel
theorem dX4_insert_12 : decode cX4_insert 12 = .ok (.iload_n 3, 1) := by decide +kernel
theorem dX4_insert_13 : decode cX4_insert 13 = .ok (.iconst 1, 1) := by decide +kernel
theorem dX4_insert_14 : decode cX4_insert 14 = .ok (.isub, 1) := by decide +kernel
theorem dX4_insert_15 : decode cX4_insert 15 = .ok (.invokevirtual 22, 3) := by decide +kernel
theorem dX4_insert_18 : decode cX4_insert 18 = .ok (.ifCond .ne 37, 3) := by decide +kernel
theorem dX4_insert_21 : decode cX4_insert 21 = .ok (.aload_n 0, 1) := by decide +kernel
theorem dX4_insert_22 : decode cX4_insert 22 = .ok (.getfield 9, 3) := by decide +kernel
theorem dX4_insert_25 : decode cX4_insert 25 = .ok (.iload_n 3, 1) := by decide +kernel
theorem dX4_insert_26 : decode cX4_insert 26 = .ok (.aload_n 0, 1) := by decide +kernel
theorem dX4_insert_27 : decode cX4_insert 27 = .ok (.getfield 9, 3) := by decide +kernel
theorem dX4_insert_30 : decode cX4_insert 30 = .ok (.iload_n 3, 1) := by decide +kernel
theorem dX4_insert_31 : decode cX4_insert 31 = .ok (.iconst 1, 1) := by decide +kernel
theorem dX4_insert_32 : decode cX4_insert 32 = .ok (.isub, 1) := by decide +kernel
theorem dX4_insert_33 : decode cX4_insert 33 = .ok (.iaload, 1) := by decide +kernel
theorem dX4_insert_34 : decode cX4_insert 34 = .ok (.iastore, 1) := by decide +kernel
theorem dX4_insert_35 : decode cX4_insert 35 = .ok (.aload_n 0, 1) := by decide +kernel
theorem dX4_insert_36 : decode cX4_insert 36 = .ok (.getfield 15, 3) := by decide +kernel
theorem dX4_insert_39 : decode cX4_insert 39 = .ok (.iload_n 3, 1) := by decide +kernel
theorem dX4_insert_40 : decode cX4_insert 40 = .ok (.aload_n 0, 1) := by decide +kernel
theorem dX4_insert_41 : decode cX4_insert 41 = .ok (.getfield 15, 3) := by decide +kernel
theorem dX4_insert_44 : decode cX4_insert 44 = .ok (.iload_n 3, 1) := by decide +kernel
theorem dX4_insert_45 : decode cX4_insert 45 = .ok (.iconst 1, 1) := by decide +kernel
theorem dX4_insert_46 : decode cX4_insert 46 = .ok (.isub, 1) := by decide +kernel
theorem dX4_insert_47 : decode cX4_insert 47 = .ok (.iaload, 1) := by decide +kernel
theorem dX4_insert_48 : decode cX4_insert 48 = .ok (.iastore, 1) := by decide +kernel
theorem dX4_insert_49 : decode cX4_insert 49 = .ok (.iinc 3 (-1), 3) := by decide +kernel
theorem dX4_insert_52 : decode cX4_insert 52 = .ok (.goto (-47), 3) := by decide +kernel
theorem dX4_insert_55 : decode cX4_insert 55 = .ok (.aload_n 0, 1) := by decide +kernel
theorem dX4_insert_56 : decode cX4_insert 56 = .ok (.getfield 9, 3) := by decide +kernel
theorem dX4_insert_59 : decode cX4_insert 59 = .ok (.iload_n 3, 1) := by decide +kernel
theorem dX4_insert_60 : decode cX4_insert 60 = .ok (.iload_n 1, 1) := by decide +kernel
theorem dX4_insert_61 : decode cX4_insert 61 = .ok (.iastore, 1) := by decide +kernel
theorem dX4_insert_62 : decode cX4_insert 62 = .ok (.aload_n 0, 1) := by decide +kernel
theorem dX4_insert_63 : decode cX4_insert 63 = .ok (.getfield 15, 3) := by decide +kernel
theorem dX4_insert_66 : decode cX4_insert 66 = .ok (.iload_n 3, 1) := by decide +kernel
theorem dX4_insert_67 : decode cX4_insert 67 = .ok (.iload_n 2, 1) := by decide +kernel
theorem dX4_insert_68 : decode cX4_insert 68 = .ok (.iastore, 1) := by decide +kernel
theorem dX4_insert_69 : decode cX4_insert 69 = .ok (.aload_n 0, 1) := by decide +kernel
theorem dX4_insert_70 : decode cX4_insert 70 = .ok (.dup, 1) := by decide +kernel
theorem dX4_insert_71 : decode cX4_insert 71 = .ok (.getfield 18, 3) := by decide +kernel
theorem dX4_insert_74 : decode cX4_insert 74 = .ok (.iconst 1, 1) := by decide +kernel
theorem dX4_insert_75 : decode cX4_insert 75 = .ok (.iadd, 1) := by decide +kernel
theorem dX4_insert_76 : decode cX4_insert 76 = .ok (.putfield 18, 3) := by decide +kernel
theorem dX4_insert_79 : decode cX4_insert 79 = .ok (.return_, 1) := by decide +kernel
theorem dX4_takeNext_0 : decode cX4_takeNext 0 = .ok (.aload_n 0, 1) := by decide +kernel
theorem dX4_takeNext_1 : decode cX4_takeNext 1 = .ok (.dup, 1) := by decide +kernel
theorem dX4_takeNext_2 : decode cX4_takeNext 2 = .ok (.getfield 18, 3) := by decide +kernel
theorem dX4_takeNext_5 : decode cX4_takeNext 5 = .ok (.iconst 1, 1) := by decide +kernel
theorem dX4_takeNext_6 : decode cX4_takeNext 6 = .ok (.isub, 1) := by decide +kernel
theorem dX4_takeNext_7 : decode cX4_takeNext 7 = .ok (.putfield 18, 3) := by decide +kernel
theorem dX4_takeNext_10 : decode cX4_takeNext 10 = .ok (.aload_n 0, 1) := by decide +kernel
theorem dX4_takeNext_11 : decode cX4_takeNext 11 = .ok (.getfield 9, 3) := by decide +kernel
theorem dX4_takeNext_14 : decode cX4_takeNext 14 = .ok (.aload_n 0, 1) := by decide +kernel
theorem dX4_takeNext_15 : decode cX4_takeNext 15 = .ok (.getfield 18, 3) := by decide +kernel
theorem dX4_takeNext_18 : decode cX4_takeNext 18 = .ok (.iaload, 1) := by decide +kernel
theorem dX4_takeNext_19 : decode cX4_takeNext 19 = .ok (.ireturn, 1) := by decide +kernel
theorem dX4_isTakenBefore_0 : decode cX4_isTakenBefore 0 = .ok (.iload_n 2, 1) := by decide +kernel
theorem dX4_isTakenBefore_1 : decode cX4_isTakenBefore 1 = .ok (.aload_n 0, 1) := by decide +kernel
theorem dX4_isTakenBefore_2 : decode cX4_isTakenBefore 2 = .ok (.getfield 15, 3) := by decide +kernel
theorem dX4_isTakenBefore_5 : decode cX4_isTakenBefore 5 = .ok (.iload_n 3, 1) := by decide +kernel
theorem dX4_isTakenBefore_6 : decode cX4_isTakenBefore 6 = .ok (.iaload, 1) := by decide +kernel
theorem dX4_isTakenBefore_7 : decode cX4_isTakenBefore 7 = .ok (.if_icmp .ne 21, 3) := by decide +kernel
theorem dX4_isTakenBefore_10 : decode cX4_isTakenBefore 10 = .ok (.iload_n 1, 1) := by decide +kernel
theorem dX4_isTakenBefore_11 : decode cX4_isTakenBefore 11 = .ok (.aload_n 0, 1) := by decide +kernel
theorem dX4_isTakenBefore_12 : decode cX4_isTakenBefore 12 = .ok (.getfield 9, 3) := by decide +kernel
theorem dX4_isTakenBefore_15 : decode cX4_isTakenBefore 15 = .ok (.iload_n 3, 1) := by decide +kernel
theorem dX4_isTakenBefore_16 : decode cX4_isTakenBefore 16 = .ok (.iaload, 1) := by decide +kernel
theorem dX4_isTakenBefore_17 : decode cX4_isTakenBefore 17 = .ok (.if_icmp .ge 7, 3) := by decide +kernel
theorem dX4_isTakenBefore_20 : decode cX4_isTakenBefore 20 = .ok (.iconst 1, 1) := by decide +kernel
theorem dX4_isTakenBefore_21 : decode cX4_isTakenBefore 21 = .ok (.goto 22, 3) := by decide +kernel
theorem dX4_isTakenBefore_24 : decode cX4_isTakenBefore 24 = .ok (.iconst 0, 1) := by decide +kernel
theorem dX4_isTakenBefore_25 : decode cX4_isTakenBefore 25 = .ok (.goto 18, 3) := by decide +kernel
theorem dX4_isTakenBefore_28 : decode cX4_isTakenBefore 28 = .ok (.iload_n 2, 1) := by decide +kernel
theorem dX4_isTakenBefore_29 : decode cX4_isTakenBefore 29 = .ok (.aload_n 0, 1) := by decide +kernel
theorem dX4_isTakenBefore_30 : decode cX4_isTakenBefore 30 = .ok (.getfield 15, 3) := by decide +kernel
theorem dX4_isTakenBefore_33 : decode cX4_isTakenBefore 33 = .ok (.iload_n 3, 1) := by decide +kernel
theorem dX4_isTakenBefore_34 : decode cX4_isTakenBefore 34 = .ok (.iaload, 1) := by decide +kernel
theorem dX4_isTakenBefore_35 : decode cX4_isTakenBefore 35 = .ok (.if_icmp .le 7, 3) := by decide +kernel
theorem dX4_isTakenBefore_38 : decode cX4_isTakenBefore 38 = .ok (.iconst 1, 1) := by decide +kernel
theorem dX4_isTakenBefore_39 : decode cX4_isTakenBefore 39 = .ok (.goto 4, 3) := by decide +kernel
theorem dX4_isTakenBefore_42 : decode cX4_isTakenBefore 42 = .ok (.iconst 0, 1) := by decide +kernel
theorem dX4_isTakenBefore_43 : decode cX4_isTakenBefore 43 = .ok (.ireturn, 1) := by decide +kernel
set_option maxRecDepth 20000 in
theorem ggX5_init_X0_init : GoodIn wsX5_init wsX0_init := goodIn_r _ [22, 23, 2, 3, 24, 25, 26, 27, 28, 29, 70, 71, 72, 73] (by decide +kernel) (by decide +kernel)
set_option maxRecDepth 20000 in
theorem gX5_init_X0_init : GoodIn wsX5_init (wsX0_init) := ggX5_init_X0_init
set_option maxRecDepth 20000 in
theorem ggX5_init_X2_init : GoodIn wsX5_init wsX2_init := goodIn_r _ [32, 33, 2, 3, 24, 34, 35, 36, 37, 38, 39, 40, 78, 79, 80, 81, 82, 83, 84, 85] (by decide +kernel) (by decide +kernel)
set_option maxRecDepth 20000 in
theorem gX5_init_X2_init : GoodIn wsX5_init (wsX2_init) := ggX5_init_X2_init
set_option maxRecDepth 20000 in
theorem ggX5_init_X1_init : GoodIn wsX5_init wsX1_init := goodIn_r _ [42, 43, 2, 3, 44, 45, 46, 86, 87, 88] (by decide +kernel) (by decide +kernel)
set_option maxRecDepth 20000 in
theorem gX5_init_X1_init_n27 : GoodIn wsX5_init (wsX1_init) := ggX5_init_X1_init
set_option maxRecDepth 20000 in
theorem ggX5_init_X3_init : GoodIn wsX5_init wsX3_init := goodIn_r _ [49, 50, 2, 3, 24, 51, 52, 53, 54, 55, 56, 57, 58, 59, 60, 61, 62, 63, 64, 65, 66, 67, 68, 69, 89, 90, 91, 92, 93, 94, 95, 96, 97, 98, 99, 100, 101, 102, 103, 104] (by decide +kernel) (by decide +kernel)
set_option maxRecDepth 20000 in
theorem gX5_init_X3_init : GoodIn wsX5_init (wsX3_init) := ggX5_init_X3_init
theorem dX5_init_0 : decode cX5_init 0 = .ok (.aload_n 0, 1) := by decide +kernel
theorem dX5_init_1 : decode cX5_init 1 = .ok (.invokespecial 3, 3) := by decide +kernel
theorem dX5_init_4 : decode cX5_init 4 = .ok (.aload_n 0, 1) := by decide +kernel
theorem dX5_init_5 : decode cX5_init 5 = .ok (.new 9, 3) := by decide +kernel
theorem dX5_init_8 : decode cX5_init 8 = .ok (.dup, 1) := by decide +kernel
theorem dX5_init_9 : decode cX5_init 9 = .ok (.invokespecial 11, 3) := by decide +kernel
theorem dX5_init_12 : decode cX5_init 12 = .ok (.putfield 12, 3) := by decide +kernel
theorem dX5_init_15 : decode cX5_init 15 = .ok (.aload_n 0, 1) := by decide +kernel
theorem dX5_init_16 : decode cX5_init 16 = .ok (.new 16, 3) := by decide +kernel
theorem dX5_init_19 : decode cX5_init 19 = .ok (.dup, 1) := by decide +kernel
theorem dX5_init_20 : decode cX5_init 20 = .ok (.aload_n 0, 1) := by decide +kernel
theorem dX5_init_21 : decode cX5_init 21 = .ok (.getfield 12, 3) := by decide +kernel
theorem dX5_init_24 : decode cX5_init 24 = .ok (.invokespecial 18, 3) := by decide +kernel
theorem dX5_init_27 : decode cX5_init 27 = .ok (.putfield 21, 3) := by decide +kernel
theorem dX5_init_30 : decode cX5_init 30 = .ok (.aload_n 0, 1) := by decide +kernel
theorem dX5_init_31 : decode cX5_init 31 = .ok (.new 25, 3) := by decide +kernel
theorem dX5_init_34 : decode cX5_init 34 = .ok (.dup, 1) := by decide +kernel
theorem dX5_init_35 : decode cX5_init 35 = .ok (.invokespecial 27, 3) := by decide +kernel
theorem dX5_init_38 : decode cX5_init 38 = .ok (.putfield 28, 3) := by decide +kernel
theorem dX5_init_41 : decode cX5_init 41 = .ok (.aload_n 0, 1) := by decide +kernel
theorem dX5_init_42 : decode cX5_init 42 = .ok (.new 32, 3) := by decide +kernel
theorem dX5_init_45 : decode cX5_init 45 = .ok (.dup, 1) := by decide +kernel
theorem dX5_init_46 : decode cX5_init 46 = .ok (.aload_n 0, 1) := by decide +kernel
theorem dX5_init_47 : decode cX5_init 47 = .ok (.getfield 21, 3) := by decide +kernel
theorem dX5_init_50 : decode cX5_init 50 = .ok (.aload_n 0, 1) := by decide +kernel
theorem dX5_init_51 : decode cX5_init 51 = .ok (.getfield 28, 3) := by decide +kernel
theorem dX5_init_54 : decode cX5_init 54 = .ok (.invokespecial 34, 3) := by decide +kernel
theorem dX5_init_57 : decode cX5_init 57 = .ok (.putfield 37, 3) := by decide +kernel
theorem dX5_init_60 : decode cX5_init 60 = .ok (.return_, 1) := by decide +kernel
set_option maxRecDepth 20000 in
theorem ggX5_addClass_X5_checkClass : GoodIn wsX5_addClass wsX5_checkClass := goodIn_ca (goodIn_r _ [9, 10, 11, 3, 4, 20, 21, 22, 23, 24, 25, 26, 27] (by decide +kernel) (by decide +kernel)) (goodIn_sub (fun _ h => List.mem_cons_of_mem _ (List.mem_append_right _ h)) (by decide +kernel))
set_option maxRecDepth 20000 in
theorem gX5_addClass_X5_checkClass : GoodIn wsX5_addClass (wsV RX5 41 RX5 yX5_checkClass wsX5_checkClass) := goodIn_app (goodIn_of _ (by decide +kernel)) ggX5_addClass_X5_checkClass
set_option maxRecDepth 20000 in
theorem ggX5_addClass_X0_append : GoodIn wsX5_addClass wsX0_append := goodIn_r _ [16, 17, 18, 19, 24, 25, 26, 27] (by decide +kernel) (by decide +kernel)
set_option maxRecDepth 20000 in
theorem gX5_addClass_X0_append : GoodIn wsX5_addClass (wsV RX5 56 RX0 yX0_append wsX0_append) := goodIn_app (goodIn_of _ (by decide +kernel)) ggX5_addClass_X0_append
theorem dX5_addClass_0 : decode cX5_addClass 0 = .ok (.aload_n 0, 1) := by decide +kernel
theorem dX5_addClass_1 : decode cX5_addClass 1 = .ok (.iload_n 1, 1) := by decide +kernel
theorem dX5_addClass_2 : decode cX5_addClass 2 = .ok (.invokevirtual 41, 3) := by decide +kernel
theorem dX5_addClass_5 : decode cX5_addClass 5 = .ok (.aload_n 0, 1) := by decide +kernel
theorem dX5_addClass_6 : decode cX5_addClass 6 = .ok (.getfield 12, 3) := by decide +kernel
theorem dX5_addClass_9 : decode cX5_addClass 9 = .ok (.getfield 45, 3) := by decide +kernel
theorem dX5_addClass_12 : decode cX5_addClass 12 = .ok (.bipush 16, 2) := by decide +kernel
theorem dX5_addClass_14 : decode cX5_addClass 14 = .ok (.if_icmp .lt 13, 3) := by decide +kernel
theorem dX5_addClass_17 : decode cX5_addClass 17 = .ok (.new 49, 3) := by decide +kernel
theorem dX5_addClass_20 : decode cX5_addClass 20 = .ok (.dup, 1) := by decide +kernel
theorem dX5_addClass_21 : decode cX5_addClass 21 = .ok (.ldc 51, 2) := by decide +kernel
theorem dX5_addClass_23 : decode cX5_addClass 23 = .ok (.invokespecial 53, 3) := by decide +kernel
theorem dX5_addClass_26 : decode cX5_addClass 26 = .ok (.athrow, 1) := by decide +kernel
theorem dX5_addClass_27 : decode cX5_addClass 27 = .ok (.aload_n 0, 1) := by decide +kernel
theorem dX5_addClass_28 : decode cX5_addClass 28 = .ok (.getfield 12, 3) := by decide +kernel
theorem dX5_addClass_31 : decode cX5_addClass 31 = .ok (.iload_n 1, 1) := by decide +kernel
theorem dX5_addClass_32 : decode cX5_addClass 32 = .ok (.invokevirtual 56, 3) := by decide +kernel
theorem dX5_addClass_35 : decode cX5_addClass 35 = .ok (.ireturn, 1) := by decide +kernel
set_option maxRecDepth 20000 in
theorem ggX5_setLive_X5_checkClass : GoodIn wsX5_setLive wsX5_checkClass := goodIn_ca (goodIn_r _ [7, 8, 9, 1, 10, 11, 12, 13, 14, 15, 16, 17, 18] (by decide +kernel) (by decide +kernel)) (goodIn_sub (fun _ h => List.mem_cons_of_mem _ (List.mem_append_right _ h)) (by decide +kernel))
set_option maxRecDepth 20000 in
theorem gX5_setLive_X5_checkClass : GoodIn wsX5_setLive (wsV RX5 41 RX5 yX5_checkClass wsX5_checkClass) := goodIn_app (goodIn_of _ (by decide +kernel)) ggX5_setLive_X5_checkClass
theorem dX5_setLive_0 : decode cX5_setLive 0 = .ok (.aload_n 0, 1) := by decide +kernel
theorem dX5_setLive_1 : decode cX5_setLive 1 = .ok (.iload_n 1, 1) := by decide +kernel
theorem dX5_setLive_2 : decode cX5_setLive 2 = .ok (.invokevirtual 41, 3) := by decide +kernel
theorem dX5_setLive_5 : decode cX5_setLive 5 = .ok (.aload_n 0, 1) := by decide +kernel
theorem dX5_setLive_6 : decode cX5_setLive 6 = .ok (.getfield 12, 3) := by decide +kernel
theorem dX5_setLive_9 : decode cX5_setLive 9 = .ok (.getfield 60, 3) := by decide +kernel
theorem dX5_setLive_12 : decode cX5_setLive 12 = .ok (.iload_n 1, 1) := by decide +kernel
theorem dX5_setLive_13 : decode cX5_setLive 13 = .ok (.baload, 1) := by decide +kernel
theorem dX5_setLive_14 : decode cX5_setLive 14 = .ok (.istore_n 3, 1) := by decide +kernel
theorem dX5_setLive_15 : decode cX5_setLive 15 = .ok (.aload_n 0, 1) := by decide +kernel
theorem dX5_setLive_16 : decode cX5_setLive 16 = .ok (.getfield 12, 3) := by decide +kernel
theorem dX5_setLive_19 : decode cX5_setLive 19 = .ok (.getfield 60, 3) := by decide +kernel
theorem dX5_setLive_22 : decode cX5_setLive 22 = .ok (.iload_n 1, 1) := by decide +kernel
theorem dX5_setLive_23 : decode cX5_setLive 23 = .ok (.iload_n 2, 1) := by decide +kernel
theorem dX5_setLive_24 : decode cX5_setLive 24 = .ok (.bastore, 1) := by decide +kernel
theorem dX5_setLive_25 : decode cX5_setLive 25 = .ok (.iload_n 3, 1) := by decide +kernel
theorem dX5_setLive_26 : decode cX5_setLive 26 = .ok (.ireturn, 1) := by decide +kernel
theorem dX5_classCount_0 : decode cX5_classCount 0 = .ok (.aload_n 0, 1) := by decide +kernel
theorem dX5_classCount_1 : decode cX5_classCount 1 = .ok (.getfield 12, 3) := by decide +kernel
theorem dX5_classCount_4 : decode cX5_classCount 4 = .ok (.getfield 45, 3) := by decide +kernel
theorem dX5_classCount_7 : decode cX5_classCount 7 = .ok (.ireturn, 1) := by decide +kernel
set_option maxRecDepth 20000 in
theorem ggX5_parent_X5_checkClass : GoodIn wsX5_parent wsX5_checkClass := goodIn_ca (goodIn_r _ [7, 8, 9, 1, 10, 11, 12, 13, 14, 15, 16, 17, 18] (by decide +kernel) (by decide +kernel)) (goodIn_sub (fun _ h => List.mem_cons_of_mem _ (List.mem_append_right _ h)) (by decide +kernel))
set_option maxRecDepth 20000 in
theorem gX5_parent_X5_checkClass : GoodIn wsX5_parent (wsV RX5 41 RX5 yX5_checkClass wsX5_checkClass) := goodIn_app (goodIn_of _ (by decide +kernel)) ggX5_parent_X5_checkClass
theorem dX5_parent_0 : decode cX5_parent 0 = .ok (.aload_n 0, 1) := by decide +kernel
theorem dX5_parent_1 : decode cX5_parent 1 = .ok (.iload_n 1, 1) := by decide +kernel
theorem dX5_parent_2 : decode cX5_parent 2 = .ok (.invokevirtual 41, 3) := by decide +kernel
theorem dX5_parent_5 : decode cX5_parent 5 = .ok (.aload_n 0, 1) := by decide +kernel
theorem dX5_parent_6 : decode cX5_parent 6 = .ok (.getfield 12, 3) := by decide +kernel
theorem dX5_parent_9 : decode cX5_parent 9 = .ok (.getfield 64, 3) := by decide +kernel
theorem dX5_parent_12 : decode cX5_parent 12 = .ok (.iload_n 1, 1) := by decide +kernel
theorem dX5_parent_13 : decode cX5_parent 13 = .ok (.iaload, 1) := by decide +kernel
theorem dX5_parent_14 : decode cX5_parent 14 = .ok (.ireturn, 1) := by decide +kernel
set_option maxRecDepth 20000 in
theorem ggX5_isBelow_X5_checkClass : GoodIn wsX5_isBelow wsX5_checkClass := goodIn_ca (goodIn_r _ [6, 7, 8, 1, 9, 16, 17, 18, 19, 20, 21, 22, 23] (by decide +kernel) (by decide +kernel)) (goodIn_sub (fun _ h => List.mem_cons_of_mem _ (List.mem_append_right _ h)) (by decide +kernel))
set_option maxRecDepth 20000 in
theorem gX5_isBelow_X5_checkClass : GoodIn wsX5_isBelow (wsV RX5 41 RX5 yX5_checkClass wsX5_checkClass) := goodIn_app (goodIn_of _ (by decide +kernel)) ggX5_isBelow_X5_checkClass
set_option maxRecDepth 20000 in
theorem ggX5_isBelow_X0_under : GoodIn wsX5_isBelow wsX0_under := goodIn_r _ [14, 15, 20, 21, 22, 23] (by decide +kernel) (by decide +kernel)
set_option maxRecDepth 20000 in
theorem gX5_isBelow_X0_under : GoodIn wsX5_isBelow (wsV RX5 68 RX0 yX0_under wsX0_under) := goodIn_app (goodIn_of _ (by decide +kernel)) ggX5_isBelow_X0_under
theorem dX5_isBelow_0 : decode cX5_isBelow 0 = .ok (.aload_n 0, 1) := by decide +kernel
theorem dX5_isBelow_1 : decode cX5_isBelow 1 = .ok (.iload_n 1, 1) := by decide +kernel
theorem dX5_isBelow_2 : decode cX5_isBelow 2 = .ok (.invokevirtual 41, 3) := by decide +kernel
theorem dX5_isBelow_5 : decode cX5_isBelow 5 = .ok (.aload_n 0, 1) := by decide +kernel
theorem dX5_isBelow_6 : decode cX5_isBelow 6 = .ok (.iload_n 2, 1) := by decide +kernel
theorem dX5_isBelow_7 : decode cX5_isBelow 7 = .ok (.invokevirtual 41, 3) := by decide +kernel
theorem dX5_isBelow_10 : decode cX5_isBelow 10 = .ok (.aload_n 0, 1) := by decide +kernel
theorem dX5_isBelow_11 : decode cX5_isBelow 11 = .ok (.getfield 12, 3) := by decide +kernel
theorem dX5_isBelow_14 : decode cX5_isBelow 14 = .ok (.iload_n 1, 1) := by decide +kernel
theorem dX5_isBelow_15 : decode cX5_isBelow 15 = .ok (.iload_n 2, 1) := by decide +kernel
theorem dX5_isBelow_16 : decode cX5_isBelow 16 = .ok (.invokevirtual 68, 3) := by decide +kernel
theorem dX5_isBelow_19 : decode cX5_isBelow 19 = .ok (.ireturn, 1) := by decide +kernel
set_option maxRecDepth 20000 in
theorem ggX5_liveBelow_X5_checkClass : GoodIn wsX5_liveBelow wsX5_checkClass := goodIn_ca (goodIn_r _ [8, 9, 10, 1, 2, 17, 18, 19, 20, 21, 22, 23, 24] (by decide +kernel) (by decide +kernel)) (goodIn_sub (fun _ h => List.mem_cons_of_mem _ (List.mem_append_right _ h)) (by decide +kernel))
set_option maxRecDepth 20000 in
theorem gX5_liveBelow_X5_checkClass : GoodIn wsX5_liveBelow (wsV RX5 41 RX5 yX5_checkClass wsX5_checkClass) := goodIn_app (goodIn_of _ (by decide +kernel)) ggX5_liveBelow_X5_checkClass
set_option maxRecDepth 20000 in
theorem ggX5_liveBelow_X0_under : GoodIn wsX5_liveBelow wsX0_under := goodIn_r _ [15, 16, 21, 22, 23, 24] (by decide +kernel) (by decide +kernel)
set_option maxRecDepth 20000 in
theorem gX5_liveBelow_X0_under : GoodIn wsX5_liveBelow (wsV RX5 68 RX0 yX0_under wsX0_under) := goodIn_app (goodIn_of _ (by decide +kernel)) ggX5_liveBelow_X0_under
theorem dX5_liveBelow_0 : decode cX5_liveBelow 0 = .ok (.aload_n 0, 1) := by decide +kernel
theorem dX5_liveBelow_1 : decode cX5_liveBelow 1 = .ok (.iload_n 1, 1) := by decide +kernel
theorem dX5_liveBelow_2 : decode cX5_liveBelow 2 = .ok (.invokevirtual 41, 3) := by decide +kernel
theorem dX5_liveBelow_5 : decode cX5_liveBelow 5 = .ok (.iconst 0, 1) := by decide +kernel
theorem dX5_liveBelow_6 : decode cX5_liveBelow 6 = .ok (.istore_n 2, 1) := by decide +kernel
theorem dX5_liveBelow_7 : decode cX5_liveBelow 7 = .ok (.iconst 0, 1) := by decide +kernel
theorem dX5_liveBelow_8 : decode cX5_liveBelow 8 = .ok (.istore_n 3, 1) := by decide +kernel
theorem dX5_liveBelow_9 : decode cX5_liveBelow 9 = .ok (.iload_n 3, 1) := by decide +kernel
theorem dX5_liveBelow_10 : decode cX5_liveBelow 10 = .ok (.aload_n 0, 1) := by decide +kernel
theorem dX5_liveBelow_11 : decode cX5_liveBelow 11 = .ok (.getfield 12, 3) := by decide +kernel
theorem dX5_liveBelow_14 : decode cX5_liveBelow 14 = .ok (.getfield 45, 3) := by decide +kernel
theorem dX5_liveBelow_17 : decode cX5_liveBelow 17 = .ok (.if_icmp .ge 36, 3) := by decide +kernel
theorem dX5_liveBelow_20 : decode cX5_liveBelow 20 = .ok (.aload_n 0, 1) := by decide +kernel
theorem dX5_liveBelow_21 : decode cX5_liveBelow 21 = .ok (.getfield 12, 3) := by decide +kernel
theorem dX5_liveBelow_24 : decode cX5_liveBelow 24 = .ok (.getfield 60, 3) := by decide +kernel
theorem dX5_liveBelow_27 : decode cX5_liveBelow 27 = .ok (.iload_n 3, 1) := by decide +kernel
theorem dX5_liveBelow_28 : decode cX5_liveBelow 28 = .ok (.baload, 1) := by decide +kernel
theorem dX5_liveBelow_29 : decode cX5_liveBelow 29 = .ok (.ifCond .eq 18, 3) := by decide +kernel
theorem dX5_liveBelow_32 : decode cX5_liveBelow 32 = .ok (.aload_n 0, 1) := by decide +kernel
theorem dX5_liveBelow_33 : decode cX5_liveBelow 33 = .ok (.getfield 12, 3) := by decide +kernel
theorem dX5_liveBelow_36 : decode cX5_liveBelow 36 = .ok (.iload_n 3, 1) := by decide +kernel
theorem dX5_liveBelow_37 : decode cX5_liveBelow 37 = .ok (.iload_n 1, 1) := by decide +kernel
theorem dX5_liveBelow_38 : decode cX5_liveBelow 38 = .ok (.invokevirtual 68, 3) := by decide +kernel
theorem dX5_liveBelow_41 : decode cX5_liveBelow 41 = .ok (.ifCond .eq 6, 3) := by decide +kernel
theorem dX5_liveBelow_44 : decode cX5_liveBelow 44 = .ok (.iinc 2 1, 3) := by decide +kernel
theorem dX5_liveBelow_47 : decode cX5_liveBelow 47 = .ok (.iinc 3 1, 3) := by decide +kernel
theorem dX5_liveBelow_50 : decode cX5_liveBelow 50 = .ok (.goto (-41), 3) := by decide +kernel
theorem dX5_liveBelow_53 : decode cX5_liveBelow 53 = .ok (.iload_n 2, 1) := by decide +kernel
theorem dX5_liveBelow_54 : decode cX5_liveBelow 54 = .ok (.ireturn, 1) := by decide +kernel
set_option maxRecDepth 20000 in
theorem ggX5_addMethod_X5_checkClass : GoodIn wsX5_addMethod wsX5_checkClass := goodIn_ca (goodIn_r _ [11, 12, 13, 14, 15, 32, 33, 34, 35, 44, 45, 46, 47] (by decide +kernel) (by decide +kernel)) (goodIn_sub (fun _ h => List.mem_cons_of_mem _ (List.mem_append_right _ h)) (by decide +kernel))
set_option maxRecDepth 20000 in
theorem gX5_addMethod_X5_checkClass : GoodIn wsX5_addMethod (wsV RX5 41 RX5 yX5_checkClass wsX5_checkClass) := goodIn_app (goodIn_of _ (by decide +kernel)) ggX5_addMethod_X5_checkClass
set_option maxRecDepth 20000 in
theorem ggX5_addMethod_X5_checkSelector : GoodIn wsX5_addMethod wsX5_checkSelector := goodIn_ca (goodIn_r _ [19, 12, 13] (by decide +kernel) (by decide +kernel)) (goodIn_sub (fun _ h => List.mem_cons_of_mem _ (List.mem_append_right _ h)) (by decide +kernel))
set_option maxRecDepth 20000 in
theorem gX5_addMethod_X5_checkSelector : GoodIn wsX5_addMethod (wsV RX5 72 RX5 yX5_checkSelector wsX5_checkSelector) := goodIn_app (goodIn_of _ (by decide +kernel)) ggX5_addMethod_X5_checkSelector
set_option maxRecDepth 20000 in
theorem ggX5_addMethod_X2_hasOwn : GoodIn wsX5_addMethod wsX2_hasOwn := goodIn_r _ [24, 25, 36, 37, 38, 39, 40, 41, 42, 43] (by decide +kernel) (by decide +kernel)
set_option maxRecDepth 20000 in
theorem gX5_addMethod_X2_hasOwn : GoodIn wsX5_addMethod (wsV RX5 80 RX2 yX2_hasOwn wsX2_hasOwn) := goodIn_app (goodIn_of _ (by decide +kernel)) ggX5_addMethod_X2_hasOwn
set_option maxRecDepth 20000 in
theorem ggX5_addMethod_X2_appendMethod : GoodIn wsX5_addMethod wsX2_appendMethod := goodIn_r _ [29, 30, 31, 25, 36, 37, 38, 39, 40, 41, 42, 43] (by decide +kernel) (by decide +kernel)
set_option maxRecDepth 20000 in
theorem gX5_addMethod_X2_appendMethod : GoodIn wsX5_addMethod (wsV RX5 88 RX2 yX2_appendMethod wsX2_appendMethod) := goodIn_app (goodIn_of _ (by decide +kernel)) ggX5_addMethod_X2_appendMethod
theorem dX5_addMethod_0 : decode cX5_addMethod 0 = .ok (.aload_n 0, 1) := by decide +kernel
theorem dX5_addMethod_1 : decode cX5_addMethod 1 = .ok (.iload_n 1, 1) := by decide +kernel
theorem dX5_addMethod_2 : decode cX5_addMethod 2 = .ok (.invokevirtual 41, 3) := by decide +kernel
theorem dX5_addMethod_5 : decode cX5_addMethod 5 = .ok (.aload_n 0, 1) := by decide +kernel
theorem dX5_addMethod_6 : decode cX5_addMethod 6 = .ok (.iload_n 2, 1) := by decide +kernel
theorem dX5_addMethod_7 : decode cX5_addMethod 7 = .ok (.invokevirtual 72, 3) := by decide +kernel
theorem dX5_addMethod_10 : decode cX5_addMethod 10 = .ok (.iload_n 3, 1) := by decide +kernel
theorem dX5_addMethod_11 : decode cX5_addMethod 11 = .ok (.iconst 1, 1) := by decide +kernel
theorem dX5_addMethod_12 : decode cX5_addMethod 12 = .ok (.if_icmp .lt 9, 3) := by decide +kernel
theorem dX5_addMethod_15 : decode cX5_addMethod 15 = .ok (.iload_n 3, 1) := by decide +kernel
theorem dX5_addMethod_16 : decode cX5_addMethod 16 = .ok (.bipush 100, 2) := by decide +kernel
theorem dX5_addMethod_18 : decode cX5_addMethod 18 = .ok (.if_icmp .le 13, 3) := by decide +kernel
theorem dX5_addMethod_21 : decode cX5_addMethod 21 = .ok (.new 75, 3) := by decide +kernel
theorem dX5_addMethod_24 : decode cX5_addMethod 24 = .ok (.dup, 1) := by decide +kernel
theorem dX5_addMethod_25 : decode cX5_addMethod 25 = .ok (.ldc 77, 2) := by decide +kernel
theorem dX5_addMethod_27 : decode cX5_addMethod 27 = .ok (.invokespecial 79, 3) := by decide +kernel
theorem dX5_addMethod_30 : decode cX5_addMethod 30 = .ok (.athrow, 1) := by decide +kernel
theorem dX5_addMethod_31 : decode cX5_addMethod 31 = .ok (.aload_n 0, 1) := by decide +kernel
theorem dX5_addMethod_32 : decode cX5_addMethod 32 = .ok (.getfield 21, 3) := by decide +kernel
theorem dX5_addMethod_35 : decode cX5_addMethod 35 = .ok (.iload_n 1, 1) := by decide +kernel
theorem dX5_addMethod_36 : decode cX5_addMethod 36 = .ok (.iload_n 2, 1) := by decide +kernel
theorem dX5_addMethod_37 : decode cX5_addMethod 37 = .ok (.invokevirtual 80, 3) := by decide +kernel
theorem dX5_addMethod_40 : decode cX5_addMethod 40 = .ok (.ifCond .eq 13, 3) := by decide +kernel
theorem dX5_addMethod_43 : decode cX5_addMethod 43 = .ok (.new 75, 3) := by decide +kernel
theorem dX5_addMethod_46 : decode cX5_addMethod 46 = .ok (.dup, 1) := by decide +kernel
theorem dX5_addMethod_47 : decode cX5_addMethod 47 = .ok (.ldc 83, 2) := by decide +kernel
theorem dX5_addMethod_49 : decode cX5_addMethod 49 = .ok (.invokespecial 79, 3) := by decide +kernel
theorem dX5_addMethod_52 : decode cX5_addMethod 52 = .ok (.athrow, 1) := by decide +kernel
theorem dX5_addMethod_53 : decode cX5_addMethod 53 = .ok (.aload_n 0, 1) := by decide +kernel
theorem dX5_addMethod_54 : decode cX5_addMethod 54 = .ok (.getfield 21, 3) := by decide +kernel
theorem dX5_addMethod_57 : decode cX5_addMethod 57 = .ok (.getfield 85, 3) := by decide +kernel
theorem dX5_addMethod_60 : decode cX5_addMethod 60 = .ok (.bipush 30, 2) := by decide +kernel
theorem dX5_addMethod_62 : decode cX5_addMethod 62 = .ok (.if_icmp .lt 13, 3) := by decide +kernel
theorem dX5_addMethod_65 : decode cX5_addMethod 65 = .ok (.new 49, 3) := by decide +kernel
theorem dX5_addMethod_68 : decode cX5_addMethod 68 = .ok (.dup, 1) := by decide +kernel
theorem dX5_addMethod_69 : decode cX5_addMethod 69 = .ok (.ldc 86, 2) := by decide +kernel
theorem dX5_addMethod_71 : decode cX5_addMethod 71 = .ok (.invokespecial 53, 3) := by decide +kernel
theorem dX5_addMethod_74 : decode cX5_addMethod 74 = .ok (.athrow, 1) := by decide +kernel
theorem dX5_addMethod_75 : decode cX5_addMethod 75 = .ok (.aload_n 0, 1) := by decide +kernel
theorem dX5_addMethod_76 : decode cX5_addMethod 76 = .ok (.getfield 21, 3) := by decide +kernel
theorem dX5_addMethod_79 : decode cX5_addMethod 79 = .ok (.iload_n 1, 1) := by decide +kernel
theorem dX5_addMethod_80 : decode cX5_addMethod 80 = .ok (.iload_n 2, 1) := by decide +kernel
theorem dX5_addMethod_81 : decode cX5_addMethod 81 = .ok (.iload_n 3, 1) := by decide +kernel
theorem dX5_addMethod_82 : decode cX5_addMethod 82 = .ok (.invokevirtual 88, 3) := by decide +kernel
theorem dX5_addMethod_85 : decode cX5_addMethod 85 = .ok (.ireturn, 1) := by decide +kernel
set_option maxRecDepth 20000 in
theorem ggX5_addCall_X5_checkMethod : GoodIn wsX5_addCall wsX5_checkMethod := goodIn_ca (goodIn_r _ [12, 13, 14, 5, 15, 44, 45, 46, 47, 48, 49, 50, 51, 52, 53, 54, 55] (by decide +kernel) (by decide +kernel)) (goodIn_sub (fun _ h => List.mem_cons_of_mem _ (List.mem_append_right _ h)) (by decide +kernel))
set_option maxRecDepth 20000 in
theorem gX5_addCall_X5_checkMethod : GoodIn wsX5_addCall (wsV RX5 92 RX5 yX5_checkMethod wsX5_checkMethod) := goodIn_app (goodIn_of _ (by decide +kernel)) ggX5_addCall_X5_checkMethod
set_option maxRecDepth 20000 in
theorem ggX5_addCall_X5_checkClass : GoodIn wsX5_addCall wsX5_checkClass := goodIn_ca (goodIn_r _ [19, 13, 14, 20, 21, 44, 45, 46, 47, 56, 57, 58, 59] (by decide +kernel) (by decide +kernel)) (goodIn_sub (fun _ h => List.mem_cons_of_mem _ (List.mem_append_right _ h)) (by decide +kernel))
set_option maxRecDepth 20000 in
theorem gX5_addCall_X5_checkClass : GoodIn wsX5_addCall (wsV RX5 41 RX5 yX5_checkClass wsX5_checkClass) := goodIn_app (goodIn_of _ (by decide +kernel)) ggX5_addCall_X5_checkClass
set_option maxRecDepth 20000 in
theorem ggX5_addCall_X5_checkSelector : GoodIn wsX5_addCall wsX5_checkSelector := goodIn_ca (goodIn_r _ [25, 13, 14] (by decide +kernel) (by decide +kernel)) (goodIn_sub (fun _ h => List.mem_cons_of_mem _ (List.mem_append_right _ h)) (by decide +kernel))
set_option maxRecDepth 20000 in
theorem gX5_addCall_X5_checkSelector : GoodIn wsX5_addCall (wsV RX5 72 RX5 yX5_checkSelector wsX5_checkSelector) := goodIn_app (goodIn_of _ (by decide +kernel)) ggX5_addCall_X5_checkSelector
set_option maxRecDepth 20000 in
theorem ggX5_addCall_X3_remove : GoodIn wsX5_addCall wsX3_remove := goodIn_r _ [30, 31, 32, 60, 61, 62, 63, 64, 65, 66, 67, 68, 69, 70, 71, 72] (by decide +kernel) (by decide +kernel)
set_option maxRecDepth 20000 in
theorem gX5_addCall_X3_remove : GoodIn wsX5_addCall (wsV RX5 102 RX3 yX3_remove wsX3_remove) := goodIn_app (goodIn_of _ (by decide +kernel)) ggX5_addCall_X3_remove
set_option maxRecDepth 20000 in
theorem ggX5_addCall_X2_appendSite : GoodIn wsX5_addCall wsX2_appendSite := goodIn_r _ [37, 38, 39, 40, 41, 42, 11, 43, 48, 49, 50, 51, 52, 53, 54, 55] (by decide +kernel) (by decide +kernel)
set_option maxRecDepth 20000 in
theorem gX5_addCall_X2_appendSite : GoodIn wsX5_addCall (wsV RX5 105 RX2 yX2_appendSite wsX2_appendSite) := goodIn_app (goodIn_of _ (by decide +kernel)) ggX5_addCall_X2_appendSite
theorem dX5_addCall_0 : decode cX5_addCall 0 = .ok (.aload_n 0, 1) := by decide +kernel
theorem dX5_addCall_1 : decode cX5_addCall 1 = .ok (.iload_n 1, 1) := by decide +kernel
theorem dX5_addCall_2 : decode cX5_addCall 2 = .ok (.invokevirtual 92, 3) := by decide +kernel
theorem dX5_addCall_5 : decode cX5_addCall 5 = .ok (.aload_n 0, 1) := by decide +kernel
theorem dX5_addCall_6 : decode cX5_addCall 6 = .ok (.iload_n 2, 1) := by decide +kernel
theorem dX5_addCall_7 : decode cX5_addCall 7 = .ok (.invokevirtual 41, 3) := by decide +kernel
theorem dX5_addCall_10 : decode cX5_addCall 10 = .ok (.aload_n 0, 1) := by decide +kernel
theorem dX5_addCall_11 : decode cX5_addCall 11 = .ok (.iload_n 3, 1) := by decide +kernel
theorem dX5_addCall_12 : decode cX5_addCall 12 = .ok (.invokevirtual 72, 3) := by decide +kernel
theorem dX5_addCall_15 : decode cX5_addCall 15 = .ok (.iload 4, 2) := by decide +kernel
theorem dX5_addCall_17 : decode cX5_addCall 17 = .ok (.iconst 1, 1) := by decide +kernel
theorem dX5_addCall_18 : decode cX5_addCall 18 = .ok (.if_icmp .lt 10, 3) := by decide +kernel
theorem dX5_addCall_21 : decode cX5_addCall 21 = .ok (.iload 4, 2) := by decide +kernel
theorem dX5_addCall_23 : decode cX5_addCall 23 = .ok (.bipush 20, 2) := by decide +kernel
theorem dX5_addCall_25 : decode cX5_addCall 25 = .ok (.if_icmp .le 13, 3) := by decide +kernel
theorem dX5_addCall_28 : decode cX5_addCall 28 = .ok (.new 75, 3) := by decide +kernel
theorem dX5_addCall_31 : decode cX5_addCall 31 = .ok (.dup, 1) := by decide +kernel
theorem dX5_addCall_32 : decode cX5_addCall 32 = .ok (.ldc 95, 2) := by decide +kernel
theorem dX5_addCall_34 : decode cX5_addCall 34 = .ok (.invokespecial 79, 3) := by decide +kernel
theorem dX5_addCall_37 : decode cX5_addCall 37 = .ok (.athrow, 1) := by decide +kernel
theorem dX5_addCall_38 : decode cX5_addCall 38 = .ok (.aload_n 0, 1) := by decide +kernel
theorem dX5_addCall_39 : decode cX5_addCall 39 = .ok (.getfield 21, 3) := by decide +kernel
theorem dX5_addCall_42 : decode cX5_addCall 42 = .ok (.getfield 97, 3) := by decide +kernel
theorem dX5_addCall_45 : decode cX5_addCall 45 = .ok (.iload_n 1, 1) := by decide +kernel
theorem dX5_addCall_46 : decode cX5_addCall 46 = .ok (.iaload, 1) := by decide +kernel
theorem dX5_addCall_47 : decode cX5_addCall 47 = .ok (.bipush 8, 2) := by decide +kernel
theorem dX5_addCall_49 : decode cX5_addCall 49 = .ok (.if_icmp .lt 13, 3) := by decide +kernel
theorem dX5_addCall_52 : decode cX5_addCall 52 = .ok (.new 49, 3) := by decide +kernel
theorem dX5_addCall_55 : decode cX5_addCall 55 = .ok (.dup, 1) := by decide +kernel
theorem dX5_addCall_56 : decode cX5_addCall 56 = .ok (.ldc 100, 2) := by decide +kernel
theorem dX5_addCall_58 : decode cX5_addCall 58 = .ok (.invokespecial 53, 3) := by decide +kernel
theorem dX5_addCall_61 : decode cX5_addCall 61 = .ok (.athrow, 1) := by decide +kernel
theorem dX5_addCall_62 : decode cX5_addCall 62 = .ok (.aload_n 0, 1) := by decide +kernel
theorem dX5_addCall_63 : decode cX5_addCall 63 = .ok (.getfield 37, 3) := by decide +kernel
theorem dX5_addCall_66 : decode cX5_addCall 66 = .ok (.invokevirtual 102, 3) := by decide +kernel
theorem dX5_addCall_69 : decode cX5_addCall 69 = .ok (.aload_n 0, 1) := by decide +kernel
theorem dX5_addCall_70 : decode cX5_addCall 70 = .ok (.getfield 21, 3) := by decide +kernel
theorem dX5_addCall_73 : decode cX5_addCall 73 = .ok (.iload_n 1, 1) := by decide +kernel
theorem dX5_addCall_74 : decode cX5_addCall 74 = .ok (.iload_n 2, 1) := by decide +kernel
theorem dX5_addCall_75 : decode cX5_addCall 75 = .ok (.iload_n 3, 1) := by decide +kernel
theorem dX5_addCall_76 : decode cX5_addCall 76 = .ok (.iload 4, 2) := by decide +kernel
theorem dX5_addCall_78 : decode cX5_addCall 78 = .ok (.invokevirtual 105, 3) := by decide +kernel
theorem dX5_addCall_81 : decode cX5_addCall 81 = .ok (.ireturn, 1) := by decide +kernel
