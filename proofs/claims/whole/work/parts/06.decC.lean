theorem dX5_init_0 : decode cX5_init 0 = .ok (.aload_n 0, 1) := by decide +kernel
theorem dX5_init_1 : decode cX5_init 1 = .ok (.invokespecial 1, 3) := by decide +kernel
theorem dX5_init_4 : decode cX5_init 4 = .ok (.aload_n 0, 1) := by decide +kernel
theorem dX5_init_5 : decode cX5_init 5 = .ok (.bipush 120, 2) := by decide +kernel
theorem dX5_init_7 : decode cX5_init 7 = .ok (.newarray .int, 2) := by decide +kernel
theorem dX5_init_9 : decode cX5_init 9 = .ok (.putfield 7, 3) := by decide +kernel
theorem dX5_init_12 : decode cX5_init 12 = .ok (.aload_n 0, 1) := by decide +kernel
theorem dX5_init_13 : decode cX5_init 13 = .ok (.bipush 104, 2) := by decide +kernel
theorem dX5_init_15 : decode cX5_init 15 = .ok (.newarray .int, 2) := by decide +kernel
theorem dX5_init_17 : decode cX5_init 17 = .ok (.putfield 13, 3) := by decide +kernel
theorem dX5_init_20 : decode cX5_init 20 = .ok (.aload_n 0, 1) := by decide +kernel
theorem dX5_init_21 : decode cX5_init 21 = .ok (.bipush 104, 2) := by decide +kernel
theorem dX5_init_23 : decode cX5_init 23 = .ok (.newarray .int, 2) := by decide +kernel
theorem dX5_init_25 : decode cX5_init 25 = .ok (.putfield 16, 3) := by decide +kernel
theorem dX5_init_28 : decode cX5_init 28 = .ok (.aload_n 0, 1) := by decide +kernel
theorem dX5_init_29 : decode cX5_init 29 = .ok (.bipush 104, 2) := by decide +kernel
theorem dX5_init_31 : decode cX5_init 31 = .ok (.newarray .int, 2) := by decide +kernel
theorem dX5_init_33 : decode cX5_init 33 = .ok (.putfield 19, 3) := by decide +kernel
theorem dX5_init_36 : decode cX5_init 36 = .ok (.aload_n 0, 1) := by decide +kernel
theorem dX5_init_37 : decode cX5_init 37 = .ok (.sipush 1456, 3) := by decide +kernel
theorem dX5_init_40 : decode cX5_init 40 = .ok (.newarray .int, 2) := by decide +kernel
theorem dX5_init_42 : decode cX5_init 42 = .ok (.putfield 22, 3) := by decide +kernel
theorem dX5_init_45 : decode cX5_init 45 = .ok (.aload_n 0, 1) := by decide +kernel
theorem dX5_init_46 : decode cX5_init 46 = .ok (.sipush 208, 3) := by decide +kernel
theorem dX5_init_49 : decode cX5_init 49 = .ok (.newarray .int, 2) := by decide +kernel
theorem dX5_init_51 : decode cX5_init 51 = .ok (.putfield 25, 3) := by decide +kernel
theorem dX5_init_54 : decode cX5_init 54 = .ok (.aload_n 0, 1) := by decide +kernel
theorem dX5_init_55 : decode cX5_init 55 = .ok (.iconst 2, 1) := by decide +kernel
theorem dX5_init_56 : decode cX5_init 56 = .ok (.newarray .boolean, 2) := by decide +kernel
theorem dX5_init_58 : decode cX5_init 58 = .ok (.putfield 28, 3) := by decide +kernel
theorem dX5_init_61 : decode cX5_init 61 = .ok (.aload_n 0, 1) := by decide +kernel
theorem dX5_init_62 : decode cX5_init 62 = .ok (.bipush 16, 2) := by decide +kernel
theorem dX5_init_64 : decode cX5_init 64 = .ok (.newarray .int, 2) := by decide +kernel
theorem dX5_init_66 : decode cX5_init 66 = .ok (.putfield 32, 3) := by decide +kernel
theorem dX5_init_69 : decode cX5_init 69 = .ok (.aload_n 0, 1) := by decide +kernel
theorem dX5_init_70 : decode cX5_init 70 = .ok (.getfield 16, 3) := by decide +kernel
theorem dX5_init_73 : decode cX5_init 73 = .ok (.iconst 3, 1) := by decide +kernel
theorem dX5_init_74 : decode cX5_init 74 = .ok (.iconst 2, 1) := by decide +kernel
theorem dX5_init_75 : decode cX5_init 75 = .ok (.iconst 3, 1) := by decide +kernel
theorem dX5_init_76 : decode cX5_init 76 = .ok (.iconst 3, 1) := by decide +kernel
theorem dX5_init_77 : decode cX5_init 77 = .ok (.invokestatic 35, 3) := by decide +kernel
theorem dX5_init_80 : decode cX5_init 80 = .ok (.return_, 1) := by decide +kernel
theorem dX5_thrown_0 : decode cX5_thrown 0 = .ok (.aload_n 0, 1) := by decide +kernel
theorem dX5_thrown_1 : decode cX5_thrown 1 = .ok (.getfield 39, 3) := by decide +kernel
theorem dX5_thrown_4 : decode cX5_thrown 4 = .ok (.ireturn, 1) := by decide +kernel
theorem dX5_refused_0 : decode cX5_refused 0 = .ok (.aload_n 0, 1) := by decide +kernel
theorem dX5_refused_1 : decode cX5_refused 1 = .ok (.iload_n 1, 1) := by decide +kernel
theorem dX5_refused_2 : decode cX5_refused 2 = .ok (.putfield 39, 3) := by decide +kernel
theorem dX5_refused_5 : decode cX5_refused 5 = .ok (.iload_n 1, 1) := by decide +kernel
theorem dX5_refused_6 : decode cX5_refused 6 = .ok (.ifCond .le 7, 3) := by decide +kernel
theorem dX5_refused_9 : decode cX5_refused 9 = .ok (.iconst 1, 1) := by decide +kernel
theorem dX5_refused_10 : decode cX5_refused 10 = .ok (.goto 4, 3) := by decide +kernel
theorem dX5_refused_13 : decode cX5_refused 13 = .ok (.iconst 0, 1) := by decide +kernel
theorem dX5_refused_14 : decode cX5_refused 14 = .ok (.ireturn, 1) := by decide +kernel
theorem dX5_in_0 : decode cX5_in 0 = .ok (.lload_n 0, 1) := by decide +kernel
theorem dX5_in_1 : decode cX5_in 1 = .ok (.lload_n 2, 1) := by decide +kernel
theorem dX5_in_2 : decode cX5_in 2 = .ok (.lcmp, 1) := by decide +kernel
theorem dX5_in_3 : decode cX5_in 3 = .ok (.ifCond .lt 14, 3) := by decide +kernel
theorem dX5_in_6 : decode cX5_in 6 = .ok (.lload_n 0, 1) := by decide +kernel
theorem dX5_in_7 : decode cX5_in 7 = .ok (.lload 4, 2) := by decide +kernel
theorem dX5_in_9 : decode cX5_in 9 = .ok (.lcmp, 1) := by decide +kernel
theorem dX5_in_10 : decode cX5_in 10 = .ok (.ifCond .gt 7, 3) := by decide +kernel
theorem dX5_in_13 : decode cX5_in 13 = .ok (.iconst 1, 1) := by decide +kernel
theorem dX5_in_14 : decode cX5_in 14 = .ok (.goto 4, 3) := by decide +kernel
theorem dX5_in_17 : decode cX5_in 17 = .ok (.iconst 0, 1) := by decide +kernel
theorem dX5_in_18 : decode cX5_in 18 = .ok (.ireturn, 1) := by decide +kernel
theorem dX5_copy_0 : decode cX5_copy 0 = .ok (.iconst 0, 1) := by decide +kernel
theorem dX5_copy_1 : decode cX5_copy 1 = .ok (.istore 5, 2) := by decide +kernel
theorem dX5_copy_3 : decode cX5_copy 3 = .ok (.iload 5, 2) := by decide +kernel
theorem dX5_copy_5 : decode cX5_copy 5 = .ok (.iload 4, 2) := by decide +kernel
theorem dX5_copy_7 : decode cX5_copy 7 = .ok (.if_icmp .ge 21, 3) := by decide +kernel
theorem dX5_copy_10 : decode cX5_copy 10 = .ok (.aload_n 2, 1) := by decide +kernel
theorem dX5_copy_11 : decode cX5_copy 11 = .ok (.iload_n 3, 1) := by decide +kernel
theorem dX5_copy_12 : decode cX5_copy 12 = .ok (.iload 5, 2) := by decide +kernel
theorem dX5_copy_14 : decode cX5_copy 14 = .ok (.iadd, 1) := by decide +kernel
theorem dX5_copy_15 : decode cX5_copy 15 = .ok (.aload_n 0, 1) := by decide +kernel
theorem dX5_copy_16 : decode cX5_copy 16 = .ok (.iload_n 1, 1) := by decide +kernel
theorem dX5_copy_17 : decode cX5_copy 17 = .ok (.iload 5, 2) := by decide +kernel
theorem dX5_copy_19 : decode cX5_copy 19 = .ok (.iadd, 1) := by decide +kernel
theorem dX5_copy_20 : decode cX5_copy 20 = .ok (.iaload, 1) := by decide +kernel
theorem dX5_copy_21 : decode cX5_copy 21 = .ok (.iastore, 1) := by decide +kernel
theorem dX5_copy_22 : decode cX5_copy 22 = .ok (.iinc 5 1, 3) := by decide +kernel
theorem dX5_copy_25 : decode cX5_copy 25 = .ok (.goto (-22), 3) := by decide +kernel
theorem dX5_copy_28 : decode cX5_copy 28 = .ok (.return_, 1) := by decide +kernel
theorem dX5_tenTo_0 : decode cX5_tenTo 0 = .ok (.lconst 1, 1) := by decide +kernel
theorem dX5_tenTo_1 : decode cX5_tenTo 1 = .ok (.lstore_n 1, 1) := by decide +kernel
theorem dX5_tenTo_2 : decode cX5_tenTo 2 = .ok (.iconst 0, 1) := by decide +kernel
theorem dX5_tenTo_3 : decode cX5_tenTo 3 = .ok (.istore_n 3, 1) := by decide +kernel
theorem dX5_tenTo_4 : decode cX5_tenTo 4 = .ok (.iload_n 3, 1) := by decide +kernel
theorem dX5_tenTo_5 : decode cX5_tenTo 5 = .ok (.iload_n 0, 1) := by decide +kernel
theorem dX5_tenTo_6 : decode cX5_tenTo 6 = .ok (.if_icmp .ge 15, 3) := by decide +kernel
theorem dX5_tenTo_9 : decode cX5_tenTo 9 = .ok (.lload_n 1, 1) := by decide +kernel
theorem dX5_tenTo_10 : decode cX5_tenTo 10 = .ok (.ldc2_w 43, 3) := by decide +kernel
theorem dX5_tenTo_13 : decode cX5_tenTo 13 = .ok (.lmul, 1) := by decide +kernel
theorem dX5_tenTo_14 : decode cX5_tenTo 14 = .ok (.lstore_n 1, 1) := by decide +kernel
theorem dX5_tenTo_15 : decode cX5_tenTo 15 = .ok (.iinc 3 1, 3) := by decide +kernel
theorem dX5_tenTo_18 : decode cX5_tenTo 18 = .ok (.goto (-14), 3) := by decide +kernel
theorem dX5_tenTo_21 : decode cX5_tenTo 21 = .ok (.lload_n 1, 1) := by decide +kernel
theorem dX5_tenTo_22 : decode cX5_tenTo 22 = .ok (.lreturn, 1) := by decide +kernel
theorem dX5_bits_0 : decode cX5_bits 0 = .ok (.iconst 0, 1) := by decide +kernel
theorem dX5_bits_1 : decode cX5_bits 1 = .ok (.istore_n 1, 1) := by decide +kernel
theorem dX5_bits_2 : decode cX5_bits 2 = .ok (.iconst 0, 1) := by decide +kernel
theorem dX5_bits_3 : decode cX5_bits 3 = .ok (.istore_n 2, 1) := by decide +kernel
theorem dX5_bits_4 : decode cX5_bits 4 = .ok (.iload_n 2, 1) := by decide +kernel
theorem dX5_bits_5 : decode cX5_bits 5 = .ok (.bipush 16, 2) := by decide +kernel
theorem dX5_bits_7 : decode cX5_bits 7 = .ok (.if_icmp .ge 17, 3) := by decide +kernel
theorem dX5_bits_10 : decode cX5_bits 10 = .ok (.iload_n 1, 1) := by decide +kernel
theorem dX5_bits_11 : decode cX5_bits 11 = .ok (.iload_n 0, 1) := by decide +kernel
theorem dX5_bits_12 : decode cX5_bits 12 = .ok (.iload_n 2, 1) := by decide +kernel
theorem dX5_bits_13 : decode cX5_bits 13 = .ok (.ishr, 1) := by decide +kernel
theorem dX5_bits_14 : decode cX5_bits 14 = .ok (.iconst 1, 1) := by decide +kernel
theorem dX5_bits_15 : decode cX5_bits 15 = .ok (.iand, 1) := by decide +kernel
theorem dX5_bits_16 : decode cX5_bits 16 = .ok (.iadd, 1) := by decide +kernel
theorem dX5_bits_17 : decode cX5_bits 17 = .ok (.istore_n 1, 1) := by decide +kernel
theorem dX5_bits_18 : decode cX5_bits 18 = .ok (.iinc 2 1, 3) := by decide +kernel
theorem dX5_bits_21 : decode cX5_bits 21 = .ok (.goto (-17), 3) := by decide +kernel
theorem dX5_bits_24 : decode cX5_bits 24 = .ok (.iload_n 1, 1) := by decide +kernel
theorem dX5_bits_25 : decode cX5_bits 25 = .ok (.ireturn, 1) := by decide +kernel
theorem dX5_clean_0 : decode cX5_clean 0 = .ok (.iconst 0, 1) := by decide +kernel
theorem dX5_clean_1 : decode cX5_clean 1 = .ok (.istore 5, 2) := by decide +kernel
theorem dX5_clean_3 : decode cX5_clean 3 = .ok (.iload 5, 2) := by decide +kernel
theorem dX5_clean_5 : decode cX5_clean 5 = .ok (.bipush 104, 2) := by decide +kernel
theorem dX5_clean_7 : decode cX5_clean 7 = .ok (.if_icmp .ge 14, 3) := by decide +kernel
theorem dX5_clean_10 : decode cX5_clean 10 = .ok (.aload_n 0, 1) := by decide +kernel
theorem dX5_clean_11 : decode cX5_clean 11 = .ok (.iload 5, 2) := by decide +kernel
theorem dX5_clean_13 : decode cX5_clean 13 = .ok (.iconst 0, 1) := by decide +kernel
theorem dX5_clean_14 : decode cX5_clean 14 = .ok (.iastore, 1) := by decide +kernel
theorem dX5_clean_15 : decode cX5_clean 15 = .ok (.iinc 5 1, 3) := by decide +kernel
theorem dX5_clean_18 : decode cX5_clean 18 = .ok (.goto (-15), 3) := by decide +kernel
theorem dX5_clean_21 : decode cX5_clean 21 = .ok (.aload_n 0, 1) := by decide +kernel
theorem dX5_clean_22 : decode cX5_clean 22 = .ok (.iconst 0, 1) := by decide +kernel
theorem dX5_clean_23 : decode cX5_clean 23 = .ok (.iload_n 1, 1) := by decide +kernel
theorem dX5_clean_24 : decode cX5_clean 24 = .ok (.iastore, 1) := by decide +kernel
theorem dX5_clean_25 : decode cX5_clean 25 = .ok (.aload_n 0, 1) := by decide +kernel
theorem dX5_clean_26 : decode cX5_clean 26 = .ok (.iconst 1, 1) := by decide +kernel
theorem dX5_clean_27 : decode cX5_clean 27 = .ok (.iload_n 2, 1) := by decide +kernel
theorem dX5_clean_28 : decode cX5_clean 28 = .ok (.iastore, 1) := by decide +kernel
theorem dX5_clean_29 : decode cX5_clean 29 = .ok (.aload_n 0, 1) := by decide +kernel
theorem dX5_clean_30 : decode cX5_clean 30 = .ok (.iconst 2, 1) := by decide +kernel
theorem dX5_clean_31 : decode cX5_clean 31 = .ok (.iload_n 3, 1) := by decide +kernel
theorem dX5_clean_32 : decode cX5_clean 32 = .ok (.iastore, 1) := by decide +kernel
theorem dX5_clean_33 : decode cX5_clean 33 = .ok (.aload_n 0, 1) := by decide +kernel
theorem dX5_clean_34 : decode cX5_clean 34 = .ok (.iconst 3, 1) := by decide +kernel
theorem dX5_clean_35 : decode cX5_clean 35 = .ok (.iload 4, 2) := by decide +kernel
theorem dX5_clean_37 : decode cX5_clean 37 = .ok (.iastore, 1) := by decide +kernel
theorem dX5_clean_38 : decode cX5_clean 38 = .ok (.aload_n 0, 1) := by decide +kernel
theorem dX5_clean_39 : decode cX5_clean 39 = .ok (.iconst 5, 1) := by decide +kernel
theorem dX5_clean_40 : decode cX5_clean 40 = .ok (.iconst 2, 1) := by decide +kernel
theorem dX5_clean_41 : decode cX5_clean 41 = .ok (.iastore, 1) := by decide +kernel
theorem dX5_clean_42 : decode cX5_clean 42 = .ok (.return_, 1) := by decide +kernel
set_option maxRecDepth 20000 in
theorem ggX5_remember_X5_copy : GoodIn wsX5_remember wsX5_copy := goodIn_r _ [7] (by decide +kernel) (by decide +kernel)
set_option maxRecDepth 20000 in
theorem gX5_remember_X5_copy : GoodIn wsX5_remember (va_wsS RX5 48 yX5_copy wsX5_copy) := goodIn_app (goodIn_of _ (by decide +kernel)) ggX5_remember_X5_copy
theorem dX5_remember_0 : decode cX5_remember 0 = .ok (.aload_n 0, 1) := by decide +kernel
theorem dX5_remember_1 : decode cX5_remember 1 = .ok (.getfield 45, 3) := by decide +kernel
theorem dX5_remember_4 : decode cX5_remember 4 = .ok (.bipush 14, 2) := by decide +kernel
theorem dX5_remember_6 : decode cX5_remember 6 = .ok (.if_icmp .ne 30, 3) := by decide +kernel
theorem dX5_remember_9 : decode cX5_remember 9 = .ok (.aload_n 0, 1) := by decide +kernel
theorem dX5_remember_10 : decode cX5_remember 10 = .ok (.getfield 22, 3) := by decide +kernel
theorem dX5_remember_13 : decode cX5_remember 13 = .ok (.bipush 104, 2) := by decide +kernel
theorem dX5_remember_15 : decode cX5_remember 15 = .ok (.aload_n 0, 1) := by decide +kernel
theorem dX5_remember_16 : decode cX5_remember 16 = .ok (.getfield 22, 3) := by decide +kernel
theorem dX5_remember_19 : decode cX5_remember 19 = .ok (.iconst 0, 1) := by decide +kernel
theorem dX5_remember_20 : decode cX5_remember 20 = .ok (.sipush 1352, 3) := by decide +kernel
theorem dX5_remember_23 : decode cX5_remember 23 = .ok (.invokestatic 48, 3) := by decide +kernel
theorem dX5_remember_26 : decode cX5_remember 26 = .ok (.aload_n 0, 1) := by decide +kernel
theorem dX5_remember_27 : decode cX5_remember 27 = .ok (.dup, 1) := by decide +kernel
theorem dX5_remember_28 : decode cX5_remember 28 = .ok (.getfield 45, 3) := by decide +kernel
theorem dX5_remember_31 : decode cX5_remember 31 = .ok (.iconst 1, 1) := by decide +kernel
theorem dX5_remember_32 : decode cX5_remember 32 = .ok (.isub, 1) := by decide +kernel
theorem dX5_remember_33 : decode cX5_remember 33 = .ok (.putfield 45, 3) := by decide +kernel
theorem dX5_remember_36 : decode cX5_remember 36 = .ok (.aload_n 0, 1) := by decide +kernel
theorem dX5_remember_37 : decode cX5_remember 37 = .ok (.getfield 16, 3) := by decide +kernel
theorem dX5_remember_40 : decode cX5_remember 40 = .ok (.iconst 0, 1) := by decide +kernel
theorem dX5_remember_41 : decode cX5_remember 41 = .ok (.aload_n 0, 1) := by decide +kernel
theorem dX5_remember_42 : decode cX5_remember 42 = .ok (.getfield 22, 3) := by decide +kernel
theorem dX5_remember_45 : decode cX5_remember 45 = .ok (.bipush 104, 2) := by decide +kernel
theorem dX5_remember_47 : decode cX5_remember 47 = .ok (.aload_n 0, 1) := by decide +kernel
theorem dX5_remember_48 : decode cX5_remember 48 = .ok (.getfield 45, 3) := by decide +kernel
theorem dX5_remember_51 : decode cX5_remember 51 = .ok (.imul, 1) := by decide +kernel
theorem dX5_remember_52 : decode cX5_remember 52 = .ok (.bipush 104, 2) := by decide +kernel
theorem dX5_remember_54 : decode cX5_remember 54 = .ok (.invokestatic 48, 3) := by decide +kernel
theorem dX5_remember_57 : decode cX5_remember 57 = .ok (.aload_n 0, 1) := by decide +kernel
theorem dX5_remember_58 : decode cX5_remember 58 = .ok (.dup, 1) := by decide +kernel
theorem dX5_remember_59 : decode cX5_remember 59 = .ok (.getfield 45, 3) := by decide +kernel
theorem dX5_remember_62 : decode cX5_remember 62 = .ok (.iconst 1, 1) := by decide +kernel
theorem dX5_remember_63 : decode cX5_remember 63 = .ok (.iadd, 1) := by decide +kernel
theorem dX5_remember_64 : decode cX5_remember 64 = .ok (.putfield 45, 3) := by decide +kernel
theorem dX5_remember_67 : decode cX5_remember 67 = .ok (.return_, 1) := by decide +kernel
set_option maxRecDepth 20000 in
theorem ggX5_tryIt_X5_copy : GoodIn wsX5_tryIt wsX5_copy := goodIn_r _ [6] (by decide +kernel) (by decide +kernel)
set_option maxRecDepth 20000 in
theorem gX5_tryIt_X5_copy : GoodIn wsX5_tryIt (va_wsS RX5 48 yX5_copy wsX5_copy) := goodIn_app (goodIn_of _ (by decide +kernel)) ggX5_tryIt_X5_copy
theorem dX5_tryIt_0 : decode cX5_tryIt 0 = .ok (.aload_n 0, 1) := by decide +kernel
theorem dX5_tryIt_1 : decode cX5_tryIt 1 = .ok (.getfield 16, 3) := by decide +kernel
theorem dX5_tryIt_4 : decode cX5_tryIt 4 = .ok (.iconst 0, 1) := by decide +kernel
theorem dX5_tryIt_5 : decode cX5_tryIt 5 = .ok (.aload_n 0, 1) := by decide +kernel
theorem dX5_tryIt_6 : decode cX5_tryIt 6 = .ok (.getfield 19, 3) := by decide +kernel
theorem dX5_tryIt_9 : decode cX5_tryIt 9 = .ok (.iconst 0, 1) := by decide +kernel
theorem dX5_tryIt_10 : decode cX5_tryIt 10 = .ok (.bipush 104, 2) := by decide +kernel
theorem dX5_tryIt_12 : decode cX5_tryIt 12 = .ok (.invokestatic 48, 3) := by decide +kernel
theorem dX5_tryIt_15 : decode cX5_tryIt 15 = .ok (.return_, 1) := by decide +kernel
theorem dX5_callAt_0 : decode cX5_callAt 0 = .ok (.bipush 8, 2) := by decide +kernel
theorem dX5_callAt_2 : decode cX5_callAt 2 = .ok (.iconst 4, 1) := by decide +kernel
theorem dX5_callAt_3 : decode cX5_callAt 3 = .ok (.iload_n 0, 1) := by decide +kernel
theorem dX5_callAt_4 : decode cX5_callAt 4 = .ok (.imul, 1) := by decide +kernel
theorem dX5_callAt_5 : decode cX5_callAt 5 = .ok (.iadd, 1) := by decide +kernel
theorem dX5_callAt_6 : decode cX5_callAt 6 = .ok (.iload_n 1, 1) := by decide +kernel
theorem dX5_callAt_7 : decode cX5_callAt 7 = .ok (.iadd, 1) := by decide +kernel
theorem dX5_callAt_8 : decode cX5_callAt 8 = .ok (.ireturn, 1) := by decide +kernel
theorem dX5_inputs_0 : decode cX5_inputs 0 = .ok (.aload_n 0, 1) := by decide +kernel
theorem dX5_inputs_1 : decode cX5_inputs 1 = .ok (.iconst 0, 1) := by decide +kernel
theorem dX5_inputs_2 : decode cX5_inputs 2 = .ok (.iaload, 1) := by decide +kernel
theorem dX5_inputs_3 : decode cX5_inputs 3 = .ok (.aload_n 0, 1) := by decide +kernel
theorem dX5_inputs_4 : decode cX5_inputs 4 = .ok (.iconst 1, 1) := by decide +kernel
theorem dX5_inputs_5 : decode cX5_inputs 5 = .ok (.iaload, 1) := by decide +kernel
theorem dX5_inputs_6 : decode cX5_inputs 6 = .ok (.imul, 1) := by decide +kernel
theorem dX5_inputs_7 : decode cX5_inputs 7 = .ok (.ireturn, 1) := by decide +kernel
theorem dX5_outputs_0 : decode cX5_outputs 0 = .ok (.aload_n 0, 1) := by decide +kernel
theorem dX5_outputs_1 : decode cX5_outputs 1 = .ok (.iconst 3, 1) := by decide +kernel
theorem dX5_outputs_2 : decode cX5_outputs 2 = .ok (.iaload, 1) := by decide +kernel
theorem dX5_outputs_3 : decode cX5_outputs 3 = .ok (.aload_n 0, 1) := by decide +kernel
theorem dX5_outputs_4 : decode cX5_outputs 4 = .ok (.iconst 1, 1) := by decide +kernel
theorem dX5_outputs_5 : decode cX5_outputs 5 = .ok (.iaload, 1) := by decide +kernel
theorem dX5_outputs_6 : decode cX5_outputs 6 = .ok (.imul, 1) := by decide +kernel
theorem dX5_outputs_7 : decode cX5_outputs 7 = .ok (.ireturn, 1) := by decide +kernel
set_option maxRecDepth 20000 in
theorem ggX5_boards_X5_outputs : GoodIn wsX5_boards wsX5_outputs := goodIn_r _ [4] (by decide +kernel) (by decide +kernel)
set_option maxRecDepth 20000 in
theorem gX5_boards_X5_outputs : GoodIn wsX5_boards (va_wsS RX5 52 yX5_outputs wsX5_outputs) := goodIn_app (goodIn_of _ (by decide +kernel)) ggX5_boards_X5_outputs
set_option maxRecDepth 20000 in
theorem ggX5_boards_X5_callAt : GoodIn wsX5_boards wsX5_callAt := goodIn_r _ [7] (by decide +kernel) (by decide +kernel)
set_option maxRecDepth 20000 in
theorem gX5_boards_X5_callAt : GoodIn wsX5_boards (va_wsS RX5 56 yX5_callAt wsX5_callAt) := goodIn_app (goodIn_of _ (by decide +kernel)) ggX5_boards_X5_callAt
theorem dX5_boards_0 : decode cX5_boards 0 = .ok (.iconst 0, 1) := by decide +kernel
theorem dX5_boards_1 : decode cX5_boards 1 = .ok (.istore_n 2, 1) := by decide +kernel
theorem dX5_boards_2 : decode cX5_boards 2 = .ok (.iconst 0, 1) := by decide +kernel
theorem dX5_boards_3 : decode cX5_boards 3 = .ok (.istore_n 3, 1) := by decide +kernel
theorem dX5_boards_4 : decode cX5_boards 4 = .ok (.iload_n 3, 1) := by decide +kernel
theorem dX5_boards_5 : decode cX5_boards 5 = .ok (.aload_n 0, 1) := by decide +kernel
theorem dX5_boards_6 : decode cX5_boards 6 = .ok (.invokestatic 52, 3) := by decide +kernel
theorem dX5_boards_9 : decode cX5_boards 9 = .ok (.if_icmp .ge 38, 3) := by decide +kernel
theorem dX5_boards_12 : decode cX5_boards 12 = .ok (.iload_n 2, 1) := by decide +kernel
theorem dX5_boards_13 : decode cX5_boards 13 = .ok (.aload_n 0, 1) := by decide +kernel
theorem dX5_boards_14 : decode cX5_boards 14 = .ok (.iload_n 1, 1) := by decide +kernel
theorem dX5_boards_15 : decode cX5_boards 15 = .ok (.iconst 1, 1) := by decide +kernel
theorem dX5_boards_16 : decode cX5_boards 16 = .ok (.invokestatic 56, 3) := by decide +kernel
theorem dX5_boards_19 : decode cX5_boards 19 = .ok (.iaload, 1) := by decide +kernel
theorem dX5_boards_20 : decode cX5_boards 20 = .ok (.iload_n 3, 1) := by decide +kernel
theorem dX5_boards_21 : decode cX5_boards 21 = .ok (.ishr, 1) := by decide +kernel
theorem dX5_boards_22 : decode cX5_boards 22 = .ok (.iconst 1, 1) := by decide +kernel
theorem dX5_boards_23 : decode cX5_boards 23 = .ok (.iand, 1) := by decide +kernel
theorem dX5_boards_24 : decode cX5_boards 24 = .ok (.iconst 1, 1) := by decide +kernel
theorem dX5_boards_25 : decode cX5_boards 25 = .ok (.if_icmp .ne 13, 3) := by decide +kernel
theorem dX5_boards_28 : decode cX5_boards 28 = .ok (.iconst 1, 1) := by decide +kernel
theorem dX5_boards_29 : decode cX5_boards 29 = .ok (.iload_n 3, 1) := by decide +kernel
theorem dX5_boards_30 : decode cX5_boards 30 = .ok (.aload_n 0, 1) := by decide +kernel
theorem dX5_boards_31 : decode cX5_boards 31 = .ok (.iconst 1, 1) := by decide +kernel
theorem dX5_boards_32 : decode cX5_boards 32 = .ok (.iaload, 1) := by decide +kernel
theorem dX5_boards_33 : decode cX5_boards 33 = .ok (.idiv, 1) := by decide +kernel
theorem dX5_boards_34 : decode cX5_boards 34 = .ok (.ishl, 1) := by decide +kernel
theorem dX5_boards_35 : decode cX5_boards 35 = .ok (.goto 4, 3) := by decide +kernel
theorem dX5_boards_38 : decode cX5_boards 38 = .ok (.iconst 0, 1) := by decide +kernel
theorem dX5_boards_39 : decode cX5_boards 39 = .ok (.ior, 1) := by decide +kernel
theorem dX5_boards_40 : decode cX5_boards 40 = .ok (.istore_n 2, 1) := by decide +kernel
theorem dX5_boards_41 : decode cX5_boards 41 = .ok (.iinc 3 1, 3) := by decide +kernel
theorem dX5_boards_44 : decode cX5_boards 44 = .ok (.goto (-40), 3) := by decide +kernel
theorem dX5_boards_47 : decode cX5_boards 47 = .ok (.iload_n 2, 1) := by decide +kernel
theorem dX5_boards_48 : decode cX5_boards 48 = .ok (.ireturn, 1) := by decide +kernel
set_option maxRecDepth 20000 in
theorem ggX5_firstOf_X5_callAt : GoodIn wsX5_firstOf wsX5_callAt := goodIn_r _ [4] (by decide +kernel) (by decide +kernel)
set_option maxRecDepth 20000 in
theorem gX5_firstOf_X5_callAt : GoodIn wsX5_firstOf (va_wsS RX5 56 yX5_callAt wsX5_callAt) := goodIn_app (goodIn_of _ (by decide +kernel)) ggX5_firstOf_X5_callAt
theorem dX5_firstOf_0 : decode cX5_firstOf 0 = .ok (.aload_n 0, 1) := by decide +kernel
theorem dX5_firstOf_1 : decode cX5_firstOf 1 = .ok (.iload_n 1, 1) := by decide +kernel
theorem dX5_firstOf_2 : decode cX5_firstOf 2 = .ok (.iconst 0, 1) := by decide +kernel
theorem dX5_firstOf_3 : decode cX5_firstOf 3 = .ok (.invokestatic 56, 3) := by decide +kernel
theorem dX5_firstOf_6 : decode cX5_firstOf 6 = .ok (.iaload, 1) := by decide +kernel
theorem dX5_firstOf_7 : decode cX5_firstOf 7 = .ok (.aload_n 0, 1) := by decide +kernel
theorem dX5_firstOf_8 : decode cX5_firstOf 8 = .ok (.iconst 1, 1) := by decide +kernel
theorem dX5_firstOf_9 : decode cX5_firstOf 9 = .ok (.iaload, 1) := by decide +kernel
theorem dX5_firstOf_10 : decode cX5_firstOf 10 = .ok (.idiv, 1) := by decide +kernel
theorem dX5_firstOf_11 : decode cX5_firstOf 11 = .ok (.ireturn, 1) := by decide +kernel
set_option maxRecDepth 20000 in
theorem ggX5_clash_X5_firstOf : GoodIn wsX5_clash wsX5_firstOf := goodIn_r _ [4, 5, 6, 3, 7] (by decide +kernel) (by decide +kernel)
set_option maxRecDepth 20000 in
theorem gX5_clash_X5_firstOf : GoodIn wsX5_clash (va_wsS RX5 60 yX5_firstOf wsX5_firstOf) := goodIn_app (goodIn_of _ (by decide +kernel)) ggX5_clash_X5_firstOf
set_option maxRecDepth 20000 in
theorem ggX5_clash_X5_boards : GoodIn wsX5_clash wsX5_boards := goodIn_r _ [10, 11, 12, 3, 13, 5, 6, 7] (by decide +kernel) (by decide +kernel)
set_option maxRecDepth 20000 in
theorem gX5_clash_X5_boards : GoodIn wsX5_clash (va_wsS RX5 64 yX5_boards wsX5_boards) := goodIn_app (goodIn_of _ (by decide +kernel)) ggX5_clash_X5_boards
theorem dX5_clash_0 : decode cX5_clash 0 = .ok (.aload_n 0, 1) := by decide +kernel
theorem dX5_clash_1 : decode cX5_clash 1 = .ok (.iload_n 1, 1) := by decide +kernel
theorem dX5_clash_2 : decode cX5_clash 2 = .ok (.invokestatic 60, 3) := by decide +kernel
theorem dX5_clash_5 : decode cX5_clash 5 = .ok (.aload_n 0, 1) := by decide +kernel
theorem dX5_clash_6 : decode cX5_clash 6 = .ok (.iload_n 2, 1) := by decide +kernel
theorem dX5_clash_7 : decode cX5_clash 7 = .ok (.invokestatic 60, 3) := by decide +kernel
theorem dX5_clash_10 : decode cX5_clash 10 = .ok (.if_icmp .eq 17, 3) := by decide +kernel
theorem dX5_clash_13 : decode cX5_clash 13 = .ok (.aload_n 0, 1) := by decide +kernel
theorem dX5_clash_14 : decode cX5_clash 14 = .ok (.iload_n 1, 1) := by decide +kernel
theorem dX5_clash_15 : decode cX5_clash 15 = .ok (.invokestatic 64, 3) := by decide +kernel
theorem dX5_clash_18 : decode cX5_clash 18 = .ok (.aload_n 0, 1) := by decide +kernel
theorem dX5_clash_19 : decode cX5_clash 19 = .ok (.iload_n 2, 1) := by decide +kernel
theorem dX5_clash_20 : decode cX5_clash 20 = .ok (.invokestatic 64, 3) := by decide +kernel
theorem dX5_clash_23 : decode cX5_clash 23 = .ok (.iand, 1) := by decide +kernel
theorem dX5_clash_24 : decode cX5_clash 24 = .ok (.ifCond .eq 7, 3) := by decide +kernel
theorem dX5_clash_27 : decode cX5_clash 27 = .ok (.iconst 1, 1) := by decide +kernel
theorem dX5_clash_28 : decode cX5_clash 28 = .ok (.goto 4, 3) := by decide +kernel
theorem dX5_clash_31 : decode cX5_clash 31 = .ok (.iconst 0, 1) := by decide +kernel
theorem dX5_clash_32 : decode cX5_clash 32 = .ok (.ireturn, 1) := by decide +kernel
set_option maxRecDepth 20000 in
theorem ggX5_byInput_X5_callAt : GoodIn wsX5_byInput wsX5_callAt := goodIn_r _ [4] (by decide +kernel) (by decide +kernel)
set_option maxRecDepth 20000 in
theorem gX5_byInput_X5_callAt : GoodIn wsX5_byInput (va_wsS RX5 56 yX5_callAt wsX5_callAt) := goodIn_app (goodIn_of _ (by decide +kernel)) ggX5_byInput_X5_callAt
theorem dX5_byInput_0 : decode cX5_byInput 0 = .ok (.iconst (-1), 1) := by decide +kernel
theorem dX5_byInput_1 : decode cX5_byInput 1 = .ok (.istore_n 2, 1) := by decide +kernel
theorem dX5_byInput_2 : decode cX5_byInput 2 = .ok (.iconst 0, 1) := by decide +kernel
theorem dX5_byInput_3 : decode cX5_byInput 3 = .ok (.istore_n 3, 1) := by decide +kernel
theorem dX5_byInput_4 : decode cX5_byInput 4 = .ok (.iload_n 3, 1) := by decide +kernel
theorem dX5_byInput_5 : decode cX5_byInput 5 = .ok (.aload_n 0, 1) := by decide +kernel
theorem dX5_byInput_6 : decode cX5_byInput 6 = .ok (.iconst 4, 1) := by decide +kernel
theorem dX5_byInput_7 : decode cX5_byInput 7 = .ok (.iaload, 1) := by decide +kernel
theorem dX5_byInput_8 : decode cX5_byInput 8 = .ok (.if_icmp .ge 26, 3) := by decide +kernel
theorem dX5_byInput_11 : decode cX5_byInput 11 = .ok (.aload_n 0, 1) := by decide +kernel
theorem dX5_byInput_12 : decode cX5_byInput 12 = .ok (.iload_n 3, 1) := by decide +kernel
theorem dX5_byInput_13 : decode cX5_byInput 13 = .ok (.iconst 0, 1) := by decide +kernel
theorem dX5_byInput_14 : decode cX5_byInput 14 = .ok (.invokestatic 56, 3) := by decide +kernel
theorem dX5_byInput_17 : decode cX5_byInput 17 = .ok (.iaload, 1) := by decide +kernel
theorem dX5_byInput_18 : decode cX5_byInput 18 = .ok (.iload_n 1, 1) := by decide +kernel
theorem dX5_byInput_19 : decode cX5_byInput 19 = .ok (.if_icmp .ne 7, 3) := by decide +kernel
theorem dX5_byInput_22 : decode cX5_byInput 22 = .ok (.iload_n 3, 1) := by decide +kernel
theorem dX5_byInput_23 : decode cX5_byInput 23 = .ok (.goto 4, 3) := by decide +kernel
theorem dX5_byInput_26 : decode cX5_byInput 26 = .ok (.iload_n 2, 1) := by decide +kernel
theorem dX5_byInput_27 : decode cX5_byInput 27 = .ok (.istore_n 2, 1) := by decide +kernel
theorem dX5_byInput_28 : decode cX5_byInput 28 = .ok (.iinc 3 1, 3) := by decide +kernel
theorem dX5_byInput_31 : decode cX5_byInput 31 = .ok (.goto (-27), 3) := by decide +kernel
theorem dX5_byInput_34 : decode cX5_byInput 34 = .ok (.iload_n 2, 1) := by decide +kernel
theorem dX5_byInput_35 : decode cX5_byInput 35 = .ok (.ireturn, 1) := by decide +kernel
set_option maxRecDepth 20000 in
theorem ggX5_byOutput_X5_callAt : GoodIn wsX5_byOutput wsX5_callAt := goodIn_r _ [4] (by decide +kernel) (by decide +kernel)
set_option maxRecDepth 20000 in
theorem gX5_byOutput_X5_callAt : GoodIn wsX5_byOutput (va_wsS RX5 56 yX5_callAt wsX5_callAt) := goodIn_app (goodIn_of _ (by decide +kernel)) ggX5_byOutput_X5_callAt
theorem dX5_byOutput_0 : decode cX5_byOutput 0 = .ok (.iconst (-1), 1) := by decide +kernel
theorem dX5_byOutput_1 : decode cX5_byOutput 1 = .ok (.istore_n 2, 1) := by decide +kernel
theorem dX5_byOutput_2 : decode cX5_byOutput 2 = .ok (.iconst 0, 1) := by decide +kernel
theorem dX5_byOutput_3 : decode cX5_byOutput 3 = .ok (.istore_n 3, 1) := by decide +kernel
theorem dX5_byOutput_4 : decode cX5_byOutput 4 = .ok (.iload_n 3, 1) := by decide +kernel
theorem dX5_byOutput_5 : decode cX5_byOutput 5 = .ok (.aload_n 0, 1) := by decide +kernel
theorem dX5_byOutput_6 : decode cX5_byOutput 6 = .ok (.iconst 4, 1) := by decide +kernel
theorem dX5_byOutput_7 : decode cX5_byOutput 7 = .ok (.iaload, 1) := by decide +kernel
theorem dX5_byOutput_8 : decode cX5_byOutput 8 = .ok (.if_icmp .ge 30, 3) := by decide +kernel
theorem dX5_byOutput_11 : decode cX5_byOutput 11 = .ok (.aload_n 0, 1) := by decide +kernel
theorem dX5_byOutput_12 : decode cX5_byOutput 12 = .ok (.iload_n 3, 1) := by decide +kernel
theorem dX5_byOutput_13 : decode cX5_byOutput 13 = .ok (.iconst 1, 1) := by decide +kernel
theorem dX5_byOutput_14 : decode cX5_byOutput 14 = .ok (.invokestatic 56, 3) := by decide +kernel
theorem dX5_byOutput_17 : decode cX5_byOutput 17 = .ok (.iaload, 1) := by decide +kernel
theorem dX5_byOutput_18 : decode cX5_byOutput 18 = .ok (.iload_n 1, 1) := by decide +kernel
theorem dX5_byOutput_19 : decode cX5_byOutput 19 = .ok (.ishr, 1) := by decide +kernel
theorem dX5_byOutput_20 : decode cX5_byOutput 20 = .ok (.iconst 1, 1) := by decide +kernel
theorem dX5_byOutput_21 : decode cX5_byOutput 21 = .ok (.iand, 1) := by decide +kernel
theorem dX5_byOutput_22 : decode cX5_byOutput 22 = .ok (.iconst 1, 1) := by decide +kernel
theorem dX5_byOutput_23 : decode cX5_byOutput 23 = .ok (.if_icmp .ne 7, 3) := by decide +kernel
theorem dX5_byOutput_26 : decode cX5_byOutput 26 = .ok (.iload_n 3, 1) := by decide +kernel
theorem dX5_byOutput_27 : decode cX5_byOutput 27 = .ok (.goto 4, 3) := by decide +kernel
theorem dX5_byOutput_30 : decode cX5_byOutput 30 = .ok (.iload_n 2, 1) := by decide +kernel
theorem dX5_byOutput_31 : decode cX5_byOutput 31 = .ok (.istore_n 2, 1) := by decide +kernel
theorem dX5_byOutput_32 : decode cX5_byOutput 32 = .ok (.iinc 3 1, 3) := by decide +kernel
theorem dX5_byOutput_35 : decode cX5_byOutput 35 = .ok (.goto (-31), 3) := by decide +kernel
theorem dX5_byOutput_38 : decode cX5_byOutput 38 = .ok (.iload_n 2, 1) := by decide +kernel
theorem dX5_byOutput_39 : decode cX5_byOutput 39 = .ok (.ireturn, 1) := by decide +kernel
set_option maxRecDepth 20000 in
theorem ggX5_links_X5_boards : GoodIn wsX5_links wsX5_boards := goodIn_r _ [4, 5, 6, 3, 7, 8, 9, 10] (by decide +kernel) (by decide +kernel)
set_option maxRecDepth 20000 in
theorem gX5_links_X5_boards : GoodIn wsX5_links (va_wsS RX5 64 yX5_boards wsX5_boards) := goodIn_app (goodIn_of _ (by decide +kernel)) ggX5_links_X5_boards
set_option maxRecDepth 20000 in
theorem ggX5_links_X5_bits : GoodIn wsX5_links wsX5_bits := goodIn_r _ [13] (by decide +kernel) (by decide +kernel)
set_option maxRecDepth 20000 in
theorem gX5_links_X5_bits : GoodIn wsX5_links (va_wsS RX5 67 yX5_bits wsX5_bits) := goodIn_app (goodIn_of _ (by decide +kernel)) ggX5_links_X5_bits
theorem dX5_links_0 : decode cX5_links 0 = .ok (.iconst 0, 1) := by decide +kernel
theorem dX5_links_1 : decode cX5_links 1 = .ok (.istore_n 1, 1) := by decide +kernel
theorem dX5_links_2 : decode cX5_links 2 = .ok (.iconst 0, 1) := by decide +kernel
theorem dX5_links_3 : decode cX5_links 3 = .ok (.istore_n 2, 1) := by decide +kernel
theorem dX5_links_4 : decode cX5_links 4 = .ok (.iload_n 2, 1) := by decide +kernel
theorem dX5_links_5 : decode cX5_links 5 = .ok (.aload_n 0, 1) := by decide +kernel
theorem dX5_links_6 : decode cX5_links 6 = .ok (.iconst 4, 1) := by decide +kernel
theorem dX5_links_7 : decode cX5_links 7 = .ok (.iaload, 1) := by decide +kernel
theorem dX5_links_8 : decode cX5_links 8 = .ok (.if_icmp .ge 22, 3) := by decide +kernel
theorem dX5_links_11 : decode cX5_links 11 = .ok (.iload_n 1, 1) := by decide +kernel
theorem dX5_links_12 : decode cX5_links 12 = .ok (.iconst 1, 1) := by decide +kernel
theorem dX5_links_13 : decode cX5_links 13 = .ok (.aload_n 0, 1) := by decide +kernel
theorem dX5_links_14 : decode cX5_links 14 = .ok (.iload_n 2, 1) := by decide +kernel
theorem dX5_links_15 : decode cX5_links 15 = .ok (.invokestatic 64, 3) := by decide +kernel
theorem dX5_links_18 : decode cX5_links 18 = .ok (.invokestatic 67, 3) := by decide +kernel
theorem dX5_links_21 : decode cX5_links 21 = .ok (.iadd, 1) := by decide +kernel
theorem dX5_links_22 : decode cX5_links 22 = .ok (.iadd, 1) := by decide +kernel
theorem dX5_links_23 : decode cX5_links 23 = .ok (.istore_n 1, 1) := by decide +kernel
theorem dX5_links_24 : decode cX5_links 24 = .ok (.iinc 2 1, 3) := by decide +kernel
theorem dX5_links_27 : decode cX5_links 27 = .ok (.goto (-23), 3) := by decide +kernel
theorem dX5_links_30 : decode cX5_links 30 = .ok (.iload_n 1, 1) := by decide +kernel
theorem dX5_links_31 : decode cX5_links 31 = .ok (.ireturn, 1) := by decide +kernel
set_option maxRecDepth 20000 in
theorem ggX5_fits_X5_clash : GoodIn wsX5_fits wsX5_clash := goodIn_r _ [5, 6, 7, 4, 8, 9, 10, 11, 12, 13, 14, 15, 16, 17] (by decide +kernel) (by decide +kernel)
set_option maxRecDepth 20000 in
theorem gX5_fits_X5_clash : GoodIn wsX5_fits (va_wsS RX5 71 yX5_clash wsX5_clash) := goodIn_app (goodIn_of _ (by decide +kernel)) ggX5_fits_X5_clash
theorem dX5_fits_0 : decode cX5_fits 0 = .ok (.aload_n 0, 1) := by decide +kernel
theorem dX5_fits_1 : decode cX5_fits 1 = .ok (.getfield 32, 3) := by decide +kernel
theorem dX5_fits_4 : decode cX5_fits 4 = .ok (.iload_n 2, 1) := by decide +kernel
theorem dX5_fits_5 : decode cX5_fits 5 = .ok (.iaload, 1) := by decide +kernel
theorem dX5_fits_6 : decode cX5_fits 6 = .ok (.istore 4, 2) := by decide +kernel
theorem dX5_fits_8 : decode cX5_fits 8 = .ok (.aload_n 1, 1) := by decide +kernel
theorem dX5_fits_9 : decode cX5_fits 9 = .ok (.bipush 7, 2) := by decide +kernel
theorem dX5_fits_11 : decode cX5_fits 11 = .ok (.iaload, 1) := by decide +kernel
theorem dX5_fits_12 : decode cX5_fits 12 = .ok (.iload 4, 2) := by decide +kernel
theorem dX5_fits_14 : decode cX5_fits 14 = .ok (.ishr, 1) := by decide +kernel
theorem dX5_fits_15 : decode cX5_fits 15 = .ok (.iconst 1, 1) := by decide +kernel
theorem dX5_fits_16 : decode cX5_fits 16 = .ok (.iand, 1) := by decide +kernel
theorem dX5_fits_17 : decode cX5_fits 17 = .ok (.ifCond .ne 16, 3) := by decide +kernel
theorem dX5_fits_20 : decode cX5_fits 20 = .ok (.iload_n 3, 1) := by decide +kernel
theorem dX5_fits_21 : decode cX5_fits 21 = .ok (.iload 4, 2) := by decide +kernel
theorem dX5_fits_23 : decode cX5_fits 23 = .ok (.ishr, 1) := by decide +kernel
theorem dX5_fits_24 : decode cX5_fits 24 = .ok (.iconst 1, 1) := by decide +kernel
theorem dX5_fits_25 : decode cX5_fits 25 = .ok (.iand, 1) := by decide +kernel
theorem dX5_fits_26 : decode cX5_fits 26 = .ok (.ifCond .ne 7, 3) := by decide +kernel
theorem dX5_fits_29 : decode cX5_fits 29 = .ok (.iconst 1, 1) := by decide +kernel
theorem dX5_fits_30 : decode cX5_fits 30 = .ok (.goto 4, 3) := by decide +kernel
theorem dX5_fits_33 : decode cX5_fits 33 = .ok (.iconst 0, 1) := by decide +kernel
theorem dX5_fits_34 : decode cX5_fits 34 = .ok (.istore 5, 2) := by decide +kernel
theorem dX5_fits_36 : decode cX5_fits 36 = .ok (.iconst 0, 1) := by decide +kernel
theorem dX5_fits_37 : decode cX5_fits 37 = .ok (.istore 6, 2) := by decide +kernel
theorem dX5_fits_39 : decode cX5_fits 39 = .ok (.iload 6, 2) := by decide +kernel
theorem dX5_fits_41 : decode cX5_fits 41 = .ok (.iload_n 2, 1) := by decide +kernel
theorem dX5_fits_42 : decode cX5_fits 42 = .ok (.if_icmp .ge 43, 3) := by decide +kernel
theorem dX5_fits_45 : decode cX5_fits 45 = .ok (.iload 5, 2) := by decide +kernel
theorem dX5_fits_47 : decode cX5_fits 47 = .ok (.ifCond .eq 38, 3) := by decide +kernel
theorem dX5_fits_50 : decode cX5_fits 50 = .ok (.aload_n 0, 1) := by decide +kernel
theorem dX5_fits_51 : decode cX5_fits 51 = .ok (.getfield 32, 3) := by decide +kernel
theorem dX5_fits_54 : decode cX5_fits 54 = .ok (.iload 6, 2) := by decide +kernel
theorem dX5_fits_56 : decode cX5_fits 56 = .ok (.iaload, 1) := by decide +kernel
theorem dX5_fits_57 : decode cX5_fits 57 = .ok (.iload 4, 2) := by decide +kernel
theorem dX5_fits_59 : decode cX5_fits 59 = .ok (.if_icmp .ne 13, 3) := by decide +kernel
theorem dX5_fits_62 : decode cX5_fits 62 = .ok (.aload_n 1, 1) := by decide +kernel
theorem dX5_fits_63 : decode cX5_fits 63 = .ok (.iload_n 2, 1) := by decide +kernel
theorem dX5_fits_64 : decode cX5_fits 64 = .ok (.iload 6, 2) := by decide +kernel
theorem dX5_fits_66 : decode cX5_fits 66 = .ok (.invokestatic 71, 3) := by decide +kernel
theorem dX5_fits_69 : decode cX5_fits 69 = .ok (.ifCond .ne 7, 3) := by decide +kernel
theorem dX5_fits_72 : decode cX5_fits 72 = .ok (.iconst 1, 1) := by decide +kernel
theorem dX5_fits_73 : decode cX5_fits 73 = .ok (.goto 4, 3) := by decide +kernel
theorem dX5_fits_76 : decode cX5_fits 76 = .ok (.iconst 0, 1) := by decide +kernel
theorem dX5_fits_77 : decode cX5_fits 77 = .ok (.istore 5, 2) := by decide +kernel
theorem dX5_fits_79 : decode cX5_fits 79 = .ok (.iinc 6 1, 3) := by decide +kernel
theorem dX5_fits_82 : decode cX5_fits 82 = .ok (.goto (-43), 3) := by decide +kernel
theorem dX5_fits_85 : decode cX5_fits 85 = .ok (.iload 5, 2) := by decide +kernel
theorem dX5_fits_87 : decode cX5_fits 87 = .ok (.ireturn, 1) := by decide +kernel
set_option maxRecDepth 20000 in
theorem ggX5_goesOver_X5_callAt : GoodIn wsX5_goesOver wsX5_callAt := goodIn_r _ [5] (by decide +kernel) (by decide +kernel)
set_option maxRecDepth 20000 in
theorem gX5_goesOver_X5_callAt : GoodIn wsX5_goesOver (va_wsS RX5 56 yX5_callAt wsX5_callAt) := goodIn_app (goodIn_of _ (by decide +kernel)) ggX5_goesOver_X5_callAt
theorem dX5_goesOver_0 : decode cX5_goesOver 0 = .ok (.aload_n 1, 1) := by decide +kernel
theorem dX5_goesOver_1 : decode cX5_goesOver 1 = .ok (.iload_n 2, 1) := by decide +kernel
theorem dX5_goesOver_2 : decode cX5_goesOver 2 = .ok (.iconst 2, 1) := by decide +kernel
theorem dX5_goesOver_3 : decode cX5_goesOver 3 = .ok (.invokestatic 56, 3) := by decide +kernel
theorem dX5_goesOver_6 : decode cX5_goesOver 6 = .ok (.iaload, 1) := by decide +kernel
theorem dX5_goesOver_7 : decode cX5_goesOver 7 = .ok (.iconst (-1), 1) := by decide +kernel
theorem dX5_goesOver_8 : decode cX5_goesOver 8 = .ok (.if_icmp .eq 23, 3) := by decide +kernel
theorem dX5_goesOver_11 : decode cX5_goesOver 11 = .ok (.aload_n 1, 1) := by decide +kernel
theorem dX5_goesOver_12 : decode cX5_goesOver 12 = .ok (.iload_n 2, 1) := by decide +kernel
theorem dX5_goesOver_13 : decode cX5_goesOver 13 = .ok (.iconst 2, 1) := by decide +kernel
theorem dX5_goesOver_14 : decode cX5_goesOver 14 = .ok (.invokestatic 56, 3) := by decide +kernel
theorem dX5_goesOver_17 : decode cX5_goesOver 17 = .ok (.iaload, 1) := by decide +kernel
theorem dX5_goesOver_18 : decode cX5_goesOver 18 = .ok (.aload_n 0, 1) := by decide +kernel
theorem dX5_goesOver_19 : decode cX5_goesOver 19 = .ok (.getfield 32, 3) := by decide +kernel
theorem dX5_goesOver_22 : decode cX5_goesOver 22 = .ok (.iload_n 2, 1) := by decide +kernel
theorem dX5_goesOver_23 : decode cX5_goesOver 23 = .ok (.iaload, 1) := by decide +kernel
theorem dX5_goesOver_24 : decode cX5_goesOver 24 = .ok (.if_icmp .eq 7, 3) := by decide +kernel
theorem dX5_goesOver_27 : decode cX5_goesOver 27 = .ok (.iconst 1, 1) := by decide +kernel
theorem dX5_goesOver_28 : decode cX5_goesOver 28 = .ok (.goto 4, 3) := by decide +kernel
theorem dX5_goesOver_31 : decode cX5_goesOver 31 = .ok (.iconst 0, 1) := by decide +kernel
theorem dX5_goesOver_32 : decode cX5_goesOver 32 = .ok (.ireturn, 1) := by decide +kernel
set_option maxRecDepth 20000 in
theorem ggX5_hasPlan_X5_goesOver : GoodIn wsX5_hasPlan wsX5_goesOver := goodIn_r _ [6, 1, 7, 8, 5, 9, 26, 27, 28, 29, 30, 31, 32, 33, 34, 35, 36, 37, 38, 39] (by decide +kernel) (by decide +kernel)
set_option maxRecDepth 20000 in
theorem gX5_hasPlan_X5_goesOver : GoodIn wsX5_hasPlan (wsV RX5 75 RX5 yX5_goesOver wsX5_goesOver) := goodIn_app (goodIn_of _ (by decide +kernel)) ggX5_hasPlan_X5_goesOver
set_option maxRecDepth 20000 in
theorem ggX5_hasPlan_X5_fits : GoodIn wsX5_hasPlan wsX5_fits := goodIn_r _ [13, 1, 14, 15, 5, 16, 17, 18, 19, 7, 8, 9, 20, 21, 22, 23, 24, 25, 26, 27, 28, 29, 30, 31, 32, 33, 34, 35, 36, 37, 38, 39] (by decide +kernel) (by decide +kernel)
set_option maxRecDepth 20000 in
theorem gX5_hasPlan_X5_fits : GoodIn wsX5_hasPlan (wsV RX5 79 RX5 yX5_fits wsX5_fits) := goodIn_app (goodIn_of _ (by decide +kernel)) ggX5_hasPlan_X5_fits
theorem dX5_hasPlan_0 : decode cX5_hasPlan 0 = .ok (.iconst 0, 1) := by decide +kernel
theorem dX5_hasPlan_1 : decode cX5_hasPlan 1 = .ok (.istore 4, 2) := by decide +kernel
theorem dX5_hasPlan_3 : decode cX5_hasPlan 3 = .ok (.iconst 0, 1) := by decide +kernel
theorem dX5_hasPlan_4 : decode cX5_hasPlan 4 = .ok (.istore 5, 2) := by decide +kernel
theorem dX5_hasPlan_6 : decode cX5_hasPlan 6 = .ok (.iconst 0, 1) := by decide +kernel
theorem dX5_hasPlan_7 : decode cX5_hasPlan 7 = .ok (.istore 6, 2) := by decide +kernel
theorem dX5_hasPlan_9 : decode cX5_hasPlan 9 = .ok (.iload 6, 2) := by decide +kernel
theorem dX5_hasPlan_11 : decode cX5_hasPlan 11 = .ok (.bipush 16, 2) := by decide +kernel
theorem dX5_hasPlan_13 : decode cX5_hasPlan 13 = .ok (.if_icmp .ge 17, 3) := by decide +kernel
theorem dX5_hasPlan_16 : decode cX5_hasPlan 16 = .ok (.aload_n 0, 1) := by decide +kernel
theorem dX5_hasPlan_17 : decode cX5_hasPlan 17 = .ok (.getfield 32, 3) := by decide +kernel
theorem dX5_hasPlan_20 : decode cX5_hasPlan 20 = .ok (.iload 6, 2) := by decide +kernel
theorem dX5_hasPlan_22 : decode cX5_hasPlan 22 = .ok (.iconst (-1), 1) := by decide +kernel
theorem dX5_hasPlan_23 : decode cX5_hasPlan 23 = .ok (.iastore, 1) := by decide +kernel
theorem dX5_hasPlan_24 : decode cX5_hasPlan 24 = .ok (.iinc 6 1, 3) := by decide +kernel
theorem dX5_hasPlan_27 : decode cX5_hasPlan 27 = .ok (.goto (-18), 3) := by decide +kernel
theorem dX5_hasPlan_30 : decode cX5_hasPlan 30 = .ok (.iload 4, 2) := by decide +kernel
theorem dX5_hasPlan_32 : decode cX5_hasPlan 32 = .ok (.ifCond .lt 123, 3) := by decide +kernel
theorem dX5_hasPlan_35 : decode cX5_hasPlan 35 = .ok (.iload 4, 2) := by decide +kernel
theorem dX5_hasPlan_37 : decode cX5_hasPlan 37 = .ok (.aload_n 1, 1) := by decide +kernel
theorem dX5_hasPlan_38 : decode cX5_hasPlan 38 = .ok (.iconst 4, 1) := by decide +kernel
theorem dX5_hasPlan_39 : decode cX5_hasPlan 39 = .ok (.iaload, 1) := by decide +kernel
theorem dX5_hasPlan_40 : decode cX5_hasPlan 40 = .ok (.if_icmp .ge 115, 3) := by decide +kernel
theorem dX5_hasPlan_43 : decode cX5_hasPlan 43 = .ok (.iload 5, 2) := by decide +kernel
theorem dX5_hasPlan_45 : decode cX5_hasPlan 45 = .ok (.aload_n 0, 1) := by decide +kernel
theorem dX5_hasPlan_46 : decode cX5_hasPlan 46 = .ok (.getfield 32, 3) := by decide +kernel
theorem dX5_hasPlan_49 : decode cX5_hasPlan 49 = .ok (.iload 4, 2) := by decide +kernel
theorem dX5_hasPlan_51 : decode cX5_hasPlan 51 = .ok (.iaload, 1) := by decide +kernel
theorem dX5_hasPlan_52 : decode cX5_hasPlan 52 = .ok (.iconst (-1), 1) := by decide +kernel
theorem dX5_hasPlan_53 : decode cX5_hasPlan 53 = .ok (.if_icmp .eq 17, 3) := by decide +kernel
theorem dX5_hasPlan_56 : decode cX5_hasPlan 56 = .ok (.aload_n 0, 1) := by decide +kernel
theorem dX5_hasPlan_57 : decode cX5_hasPlan 57 = .ok (.aload_n 1, 1) := by decide +kernel
theorem dX5_hasPlan_58 : decode cX5_hasPlan 58 = .ok (.iload 4, 2) := by decide +kernel
theorem dX5_hasPlan_60 : decode cX5_hasPlan 60 = .ok (.invokevirtual 75, 3) := by decide +kernel
theorem dX5_hasPlan_63 : decode cX5_hasPlan 63 = .ok (.ifCond .eq 7, 3) := by decide +kernel
theorem dX5_hasPlan_66 : decode cX5_hasPlan 66 = .ok (.iconst 1, 1) := by decide +kernel
theorem dX5_hasPlan_67 : decode cX5_hasPlan 67 = .ok (.goto 4, 3) := by decide +kernel
theorem dX5_hasPlan_70 : decode cX5_hasPlan 70 = .ok (.iconst 0, 1) := by decide +kernel
theorem dX5_hasPlan_71 : decode cX5_hasPlan 71 = .ok (.isub, 1) := by decide +kernel
theorem dX5_hasPlan_72 : decode cX5_hasPlan 72 = .ok (.istore 5, 2) := by decide +kernel
theorem dX5_hasPlan_74 : decode cX5_hasPlan 74 = .ok (.aload_n 0, 1) := by decide +kernel
theorem dX5_hasPlan_75 : decode cX5_hasPlan 75 = .ok (.getfield 32, 3) := by decide +kernel
theorem dX5_hasPlan_78 : decode cX5_hasPlan 78 = .ok (.iload 4, 2) := by decide +kernel
theorem dX5_hasPlan_80 : decode cX5_hasPlan 80 = .ok (.dup2, 1) := by decide +kernel
theorem dX5_hasPlan_81 : decode cX5_hasPlan 81 = .ok (.iaload, 1) := by decide +kernel
theorem dX5_hasPlan_82 : decode cX5_hasPlan 82 = .ok (.iconst 1, 1) := by decide +kernel
theorem dX5_hasPlan_83 : decode cX5_hasPlan 83 = .ok (.iadd, 1) := by decide +kernel
theorem dX5_hasPlan_84 : decode cX5_hasPlan 84 = .ok (.iastore, 1) := by decide +kernel
theorem dX5_hasPlan_85 : decode cX5_hasPlan 85 = .ok (.aload_n 0, 1) := by decide +kernel
theorem dX5_hasPlan_86 : decode cX5_hasPlan 86 = .ok (.getfield 32, 3) := by decide +kernel
theorem dX5_hasPlan_89 : decode cX5_hasPlan 89 = .ok (.iload 4, 2) := by decide +kernel
theorem dX5_hasPlan_91 : decode cX5_hasPlan 91 = .ok (.iaload, 1) := by decide +kernel
theorem dX5_hasPlan_92 : decode cX5_hasPlan 92 = .ok (.aload_n 1, 1) := by decide +kernel
theorem dX5_hasPlan_93 : decode cX5_hasPlan 93 = .ok (.iconst 2, 1) := by decide +kernel
theorem dX5_hasPlan_94 : decode cX5_hasPlan 94 = .ok (.iaload, 1) := by decide +kernel
theorem dX5_hasPlan_95 : decode cX5_hasPlan 95 = .ok (.if_icmp .ne 17, 3) := by decide +kernel
theorem dX5_hasPlan_98 : decode cX5_hasPlan 98 = .ok (.aload_n 0, 1) := by decide +kernel
theorem dX5_hasPlan_99 : decode cX5_hasPlan 99 = .ok (.getfield 32, 3) := by decide +kernel
theorem dX5_hasPlan_102 : decode cX5_hasPlan 102 = .ok (.iload 4, 2) := by decide +kernel
theorem dX5_hasPlan_104 : decode cX5_hasPlan 104 = .ok (.iconst (-1), 1) := by decide +kernel
theorem dX5_hasPlan_105 : decode cX5_hasPlan 105 = .ok (.iastore, 1) := by decide +kernel
theorem dX5_hasPlan_106 : decode cX5_hasPlan 106 = .ok (.iinc 4 (-1), 3) := by decide +kernel
theorem dX5_hasPlan_109 : decode cX5_hasPlan 109 = .ok (.goto (-79), 3) := by decide +kernel
theorem dX5_hasPlan_112 : decode cX5_hasPlan 112 = .ok (.iload 5, 2) := by decide +kernel
theorem dX5_hasPlan_114 : decode cX5_hasPlan 114 = .ok (.aload_n 0, 1) := by decide +kernel
theorem dX5_hasPlan_115 : decode cX5_hasPlan 115 = .ok (.aload_n 1, 1) := by decide +kernel
theorem dX5_hasPlan_116 : decode cX5_hasPlan 116 = .ok (.iload 4, 2) := by decide +kernel
theorem dX5_hasPlan_118 : decode cX5_hasPlan 118 = .ok (.invokevirtual 75, 3) := by decide +kernel
theorem dX5_hasPlan_121 : decode cX5_hasPlan 121 = .ok (.ifCond .eq 7, 3) := by decide +kernel
theorem dX5_hasPlan_124 : decode cX5_hasPlan 124 = .ok (.iconst 1, 1) := by decide +kernel
theorem dX5_hasPlan_125 : decode cX5_hasPlan 125 = .ok (.goto 4, 3) := by decide +kernel
theorem dX5_hasPlan_128 : decode cX5_hasPlan 128 = .ok (.iconst 0, 1) := by decide +kernel
theorem dX5_hasPlan_129 : decode cX5_hasPlan 129 = .ok (.iadd, 1) := by decide +kernel
theorem dX5_hasPlan_130 : decode cX5_hasPlan 130 = .ok (.istore 5, 2) := by decide +kernel
theorem dX5_hasPlan_132 : decode cX5_hasPlan 132 = .ok (.iload 5, 2) := by decide +kernel
theorem dX5_hasPlan_134 : decode cX5_hasPlan 134 = .ok (.iload_n 3, 1) := by decide +kernel
theorem dX5_hasPlan_135 : decode cX5_hasPlan 135 = .ok (.if_icmp .gt (-105), 3) := by decide +kernel
theorem dX5_hasPlan_138 : decode cX5_hasPlan 138 = .ok (.aload_n 0, 1) := by decide +kernel
theorem dX5_hasPlan_139 : decode cX5_hasPlan 139 = .ok (.aload_n 1, 1) := by decide +kernel
theorem dX5_hasPlan_140 : decode cX5_hasPlan 140 = .ok (.iload 4, 2) := by decide +kernel
theorem dX5_hasPlan_142 : decode cX5_hasPlan 142 = .ok (.iload_n 2, 1) := by decide +kernel
theorem dX5_hasPlan_143 : decode cX5_hasPlan 143 = .ok (.invokevirtual 79, 3) := by decide +kernel
theorem dX5_hasPlan_146 : decode cX5_hasPlan 146 = .ok (.ifCond .eq (-116), 3) := by decide +kernel
theorem dX5_hasPlan_149 : decode cX5_hasPlan 149 = .ok (.iinc 4 1, 3) := by decide +kernel
theorem dX5_hasPlan_152 : decode cX5_hasPlan 152 = .ok (.goto (-122), 3) := by decide +kernel
theorem dX5_hasPlan_155 : decode cX5_hasPlan 155 = .ok (.iload 4, 2) := by decide +kernel
theorem dX5_hasPlan_157 : decode cX5_hasPlan 157 = .ok (.ifCond .lt 7, 3) := by decide +kernel
theorem dX5_hasPlan_160 : decode cX5_hasPlan 160 = .ok (.iconst 1, 1) := by decide +kernel
theorem dX5_hasPlan_161 : decode cX5_hasPlan 161 = .ok (.goto 4, 3) := by decide +kernel
theorem dX5_hasPlan_164 : decode cX5_hasPlan 164 = .ok (.iconst 0, 1) := by decide +kernel
theorem dX5_hasPlan_165 : decode cX5_hasPlan 165 = .ok (.ireturn, 1) := by decide +kernel
set_option maxRecDepth 20000 in
theorem ggX5_best_X5_hasPlan : GoodIn wsX5_best wsX5_hasPlan := goodIn_r _ [5, 6, 7, 8, 9, 4, 10, 11, 12, 13, 14, 15, 16, 17, 18, 19, 20, 21, 22, 23, 24, 25, 26, 27, 28, 29, 30, 31, 32, 33, 34, 35, 36, 37, 38, 39, 40, 41, 42, 43] (by decide +kernel) (by decide +kernel)
set_option maxRecDepth 20000 in
theorem gX5_best_X5_hasPlan : GoodIn wsX5_best (wsV RX5 82 RX5 yX5_hasPlan wsX5_hasPlan) := goodIn_app (goodIn_of _ (by decide +kernel)) ggX5_best_X5_hasPlan
theorem dX5_best_0 : decode cX5_best 0 = .ok (.iconst 0, 1) := by decide +kernel
theorem dX5_best_1 : decode cX5_best 1 = .ok (.istore 4, 2) := by decide +kernel
theorem dX5_best_3 : decode cX5_best 3 = .ok (.iload 4, 2) := by decide +kernel
theorem dX5_best_5 : decode cX5_best 5 = .ok (.iload_n 3, 1) := by decide +kernel
theorem dX5_best_6 : decode cX5_best 6 = .ok (.if_icmp .gt 23, 3) := by decide +kernel
theorem dX5_best_9 : decode cX5_best 9 = .ok (.aload_n 0, 1) := by decide +kernel
theorem dX5_best_10 : decode cX5_best 10 = .ok (.aload_n 1, 1) := by decide +kernel
theorem dX5_best_11 : decode cX5_best 11 = .ok (.iload_n 2, 1) := by decide +kernel
theorem dX5_best_12 : decode cX5_best 12 = .ok (.iload 4, 2) := by decide +kernel
theorem dX5_best_14 : decode cX5_best 14 = .ok (.invokevirtual 82, 3) := by decide +kernel
theorem dX5_best_17 : decode cX5_best 17 = .ok (.ifCond .eq 6, 3) := by decide +kernel
theorem dX5_best_20 : decode cX5_best 20 = .ok (.iload 4, 2) := by decide +kernel
theorem dX5_best_22 : decode cX5_best 22 = .ok (.ireturn, 1) := by decide +kernel
theorem dX5_best_23 : decode cX5_best 23 = .ok (.iinc 4 1, 3) := by decide +kernel
theorem dX5_best_26 : decode cX5_best 26 = .ok (.goto (-23), 3) := by decide +kernel
theorem dX5_best_29 : decode cX5_best 29 = .ok (.iconst (-1), 1) := by decide +kernel
theorem dX5_best_30 : decode cX5_best 30 = .ok (.ireturn, 1) := by decide +kernel
set_option maxRecDepth 20000 in
theorem ggX5_moveOver_X5_best : GoodIn wsX5_moveOver wsX5_best := goodIn_r _ [6, 7, 8, 9, 5, 10, 1, 11, 12, 13, 14, 15, 16, 17, 18, 19, 20, 21, 22, 23, 24, 25, 26, 27, 28, 29, 30, 31, 32, 33, 34, 35, 36, 37, 38, 39, 40, 41, 42, 43, 44, 45, 46, 47] (by decide +kernel) (by decide +kernel)
set_option maxRecDepth 20000 in
theorem gX5_moveOver_X5_best : GoodIn wsX5_moveOver (wsV RX5 85 RX5 yX5_best wsX5_best) := goodIn_app (goodIn_of _ (by decide +kernel)) ggX5_moveOver_X5_best
set_option maxRecDepth 20000 in
theorem ggX5_moveOver_X5_callAt : GoodIn wsX5_moveOver wsX5_callAt := goodIn_r _ [17] (by decide +kernel) (by decide +kernel)
set_option maxRecDepth 20000 in
theorem gX5_moveOver_X5_callAt : GoodIn wsX5_moveOver (va_wsS RX5 56 yX5_callAt wsX5_callAt) := goodIn_app (goodIn_of _ (by decide +kernel)) ggX5_moveOver_X5_callAt
set_option maxRecDepth 20000 in
theorem ggX5_moveOver_X5_goesOver : GoodIn wsX5_moveOver wsX5_goesOver := goodIn_r _ [14, 1, 15, 16, 5, 17, 34, 35, 36, 37, 38, 39, 40, 41, 42, 43, 44, 45, 46, 47] (by decide +kernel) (by decide +kernel)
set_option maxRecDepth 20000 in
theorem gX5_moveOver_X5_goesOver : GoodIn wsX5_moveOver (wsV RX5 75 RX5 yX5_goesOver wsX5_goesOver) := goodIn_app (goodIn_of _ (by decide +kernel)) ggX5_moveOver_X5_goesOver
theorem dX5_moveOver_0 : decode cX5_moveOver 0 = .ok (.aload_n 0, 1) := by decide +kernel
theorem dX5_moveOver_1 : decode cX5_moveOver 1 = .ok (.aload_n 1, 1) := by decide +kernel
theorem dX5_moveOver_2 : decode cX5_moveOver 2 = .ok (.iconst 0, 1) := by decide +kernel
theorem dX5_moveOver_3 : decode cX5_moveOver 3 = .ok (.aload_n 1, 1) := by decide +kernel
theorem dX5_moveOver_4 : decode cX5_moveOver 4 = .ok (.iconst 5, 1) := by decide +kernel
theorem dX5_moveOver_5 : decode cX5_moveOver 5 = .ok (.iaload, 1) := by decide +kernel
theorem dX5_moveOver_6 : decode cX5_moveOver 6 = .ok (.invokevirtual 85, 3) := by decide +kernel
theorem dX5_moveOver_9 : decode cX5_moveOver 9 = .ok (.istore_n 3, 1) := by decide +kernel
theorem dX5_moveOver_10 : decode cX5_moveOver 10 = .ok (.iload_n 3, 1) := by decide +kernel
theorem dX5_moveOver_11 : decode cX5_moveOver 11 = .ok (.iconst (-1), 1) := by decide +kernel
theorem dX5_moveOver_12 : decode cX5_moveOver 12 = .ok (.if_icmp .ne 5, 3) := by decide +kernel
theorem dX5_moveOver_15 : decode cX5_moveOver 15 = .ok (.iconst (-1), 1) := by decide +kernel
theorem dX5_moveOver_16 : decode cX5_moveOver 16 = .ok (.ireturn, 1) := by decide +kernel
theorem dX5_moveOver_17 : decode cX5_moveOver 17 = .ok (.aload_n 1, 1) := by decide +kernel
theorem dX5_moveOver_18 : decode cX5_moveOver 18 = .ok (.iload_n 2, 1) := by decide +kernel
theorem dX5_moveOver_19 : decode cX5_moveOver 19 = .ok (.iconst 0, 1) := by decide +kernel
theorem dX5_moveOver_20 : decode cX5_moveOver 20 = .ok (.invokestatic 56, 3) := by decide +kernel
theorem dX5_moveOver_23 : decode cX5_moveOver 23 = .ok (.iaload, 1) := by decide +kernel
theorem dX5_moveOver_24 : decode cX5_moveOver 24 = .ok (.istore 4, 2) := by decide +kernel
theorem dX5_moveOver_26 : decode cX5_moveOver 26 = .ok (.iconst 0, 1) := by decide +kernel
theorem dX5_moveOver_27 : decode cX5_moveOver 27 = .ok (.istore 5, 2) := by decide +kernel
theorem dX5_moveOver_29 : decode cX5_moveOver 29 = .ok (.iload 5, 2) := by decide +kernel
theorem dX5_moveOver_31 : decode cX5_moveOver 31 = .ok (.aload_n 1, 1) := by decide +kernel
theorem dX5_moveOver_32 : decode cX5_moveOver 32 = .ok (.iconst 4, 1) := by decide +kernel
theorem dX5_moveOver_33 : decode cX5_moveOver 33 = .ok (.iaload, 1) := by decide +kernel
theorem dX5_moveOver_34 : decode cX5_moveOver 34 = .ok (.if_icmp .ge 102, 3) := by decide +kernel
theorem dX5_moveOver_37 : decode cX5_moveOver 37 = .ok (.aload_n 0, 1) := by decide +kernel
theorem dX5_moveOver_38 : decode cX5_moveOver 38 = .ok (.aload_n 1, 1) := by decide +kernel
theorem dX5_moveOver_39 : decode cX5_moveOver 39 = .ok (.iload 5, 2) := by decide +kernel
theorem dX5_moveOver_41 : decode cX5_moveOver 41 = .ok (.invokevirtual 75, 3) := by decide +kernel
theorem dX5_moveOver_44 : decode cX5_moveOver 44 = .ok (.ifCond .eq 71, 3) := by decide +kernel
theorem dX5_moveOver_47 : decode cX5_moveOver 47 = .ok (.aload_n 1, 1) := by decide +kernel
theorem dX5_moveOver_48 : decode cX5_moveOver 48 = .ok (.iload 5, 2) := by decide +kernel
theorem dX5_moveOver_50 : decode cX5_moveOver 50 = .ok (.iconst 3, 1) := by decide +kernel
theorem dX5_moveOver_51 : decode cX5_moveOver 51 = .ok (.invokestatic 56, 3) := by decide +kernel
theorem dX5_moveOver_54 : decode cX5_moveOver 54 = .ok (.dup2, 1) := by decide +kernel
theorem dX5_moveOver_55 : decode cX5_moveOver 55 = .ok (.iaload, 1) := by decide +kernel
theorem dX5_moveOver_56 : decode cX5_moveOver 56 = .ok (.iconst 1, 1) := by decide +kernel
theorem dX5_moveOver_57 : decode cX5_moveOver 57 = .ok (.iadd, 1) := by decide +kernel
theorem dX5_moveOver_58 : decode cX5_moveOver 58 = .ok (.iastore, 1) := by decide +kernel
theorem dX5_moveOver_59 : decode cX5_moveOver 59 = .ok (.aload_n 1, 1) := by decide +kernel
theorem dX5_moveOver_60 : decode cX5_moveOver 60 = .ok (.bipush 6, 2) := by decide +kernel
theorem dX5_moveOver_62 : decode cX5_moveOver 62 = .ok (.dup2, 1) := by decide +kernel
theorem dX5_moveOver_63 : decode cX5_moveOver 63 = .ok (.iaload, 1) := by decide +kernel
theorem dX5_moveOver_64 : decode cX5_moveOver 64 = .ok (.iconst 1, 1) := by decide +kernel
theorem dX5_moveOver_65 : decode cX5_moveOver 65 = .ok (.iadd, 1) := by decide +kernel
theorem dX5_moveOver_66 : decode cX5_moveOver 66 = .ok (.iastore, 1) := by decide +kernel
theorem dX5_moveOver_67 : decode cX5_moveOver 67 = .ok (.aload_n 1, 1) := by decide +kernel
theorem dX5_moveOver_68 : decode cX5_moveOver 68 = .ok (.bipush 88, 2) := by decide +kernel
theorem dX5_moveOver_70 : decode cX5_moveOver 70 = .ok (.aload_n 1, 1) := by decide +kernel
theorem dX5_moveOver_71 : decode cX5_moveOver 71 = .ok (.iload 5, 2) := by decide +kernel
theorem dX5_moveOver_73 : decode cX5_moveOver 73 = .ok (.iconst 0, 1) := by decide +kernel
theorem dX5_moveOver_74 : decode cX5_moveOver 74 = .ok (.invokestatic 56, 3) := by decide +kernel
theorem dX5_moveOver_77 : decode cX5_moveOver 77 = .ok (.iaload, 1) := by decide +kernel
theorem dX5_moveOver_78 : decode cX5_moveOver 78 = .ok (.iadd, 1) := by decide +kernel
theorem dX5_moveOver_79 : decode cX5_moveOver 79 = .ok (.dup2, 1) := by decide +kernel
theorem dX5_moveOver_80 : decode cX5_moveOver 80 = .ok (.iaload, 1) := by decide +kernel
theorem dX5_moveOver_81 : decode cX5_moveOver 81 = .ok (.iload 5, 2) := by decide +kernel
theorem dX5_moveOver_83 : decode cX5_moveOver 83 = .ok (.iload_n 2, 1) := by decide +kernel
theorem dX5_moveOver_84 : decode cX5_moveOver 84 = .ok (.if_icmp .ne 7, 3) := by decide +kernel
theorem dX5_moveOver_87 : decode cX5_moveOver 87 = .ok (.iconst 0, 1) := by decide +kernel
theorem dX5_moveOver_88 : decode cX5_moveOver 88 = .ok (.goto 4, 3) := by decide +kernel
theorem dX5_moveOver_91 : decode cX5_moveOver 91 = .ok (.iconst 1, 1) := by decide +kernel
theorem dX5_moveOver_92 : decode cX5_moveOver 92 = .ok (.iadd, 1) := by decide +kernel
theorem dX5_moveOver_93 : decode cX5_moveOver 93 = .ok (.iastore, 1) := by decide +kernel
theorem dX5_moveOver_94 : decode cX5_moveOver 94 = .ok (.aload_n 1, 1) := by decide +kernel
theorem dX5_moveOver_95 : decode cX5_moveOver 95 = .ok (.bipush 72, 2) := by decide +kernel
theorem dX5_moveOver_97 : decode cX5_moveOver 97 = .ok (.iload 4, 2) := by decide +kernel
theorem dX5_moveOver_99 : decode cX5_moveOver 99 = .ok (.iadd, 1) := by decide +kernel
theorem dX5_moveOver_100 : decode cX5_moveOver 100 = .ok (.dup2, 1) := by decide +kernel
theorem dX5_moveOver_101 : decode cX5_moveOver 101 = .ok (.iaload, 1) := by decide +kernel
theorem dX5_moveOver_102 : decode cX5_moveOver 102 = .ok (.iload 5, 2) := by decide +kernel
theorem dX5_moveOver_104 : decode cX5_moveOver 104 = .ok (.iload_n 2, 1) := by decide +kernel
theorem dX5_moveOver_105 : decode cX5_moveOver 105 = .ok (.if_icmp .ne 7, 3) := by decide +kernel
theorem dX5_moveOver_108 : decode cX5_moveOver 108 = .ok (.iconst 0, 1) := by decide +kernel
theorem dX5_moveOver_109 : decode cX5_moveOver 109 = .ok (.goto 4, 3) := by decide +kernel
theorem dX5_moveOver_112 : decode cX5_moveOver 112 = .ok (.iconst 1, 1) := by decide +kernel
theorem dX5_moveOver_113 : decode cX5_moveOver 113 = .ok (.iadd, 1) := by decide +kernel
theorem dX5_moveOver_114 : decode cX5_moveOver 114 = .ok (.iastore, 1) := by decide +kernel
theorem dX5_moveOver_115 : decode cX5_moveOver 115 = .ok (.aload_n 1, 1) := by decide +kernel
theorem dX5_moveOver_116 : decode cX5_moveOver 116 = .ok (.iload 5, 2) := by decide +kernel
theorem dX5_moveOver_118 : decode cX5_moveOver 118 = .ok (.iconst 2, 1) := by decide +kernel
theorem dX5_moveOver_119 : decode cX5_moveOver 119 = .ok (.invokestatic 56, 3) := by decide +kernel
theorem dX5_moveOver_122 : decode cX5_moveOver 122 = .ok (.aload_n 0, 1) := by decide +kernel
theorem dX5_moveOver_123 : decode cX5_moveOver 123 = .ok (.getfield 32, 3) := by decide +kernel
theorem dX5_moveOver_126 : decode cX5_moveOver 126 = .ok (.iload 5, 2) := by decide +kernel
theorem dX5_moveOver_128 : decode cX5_moveOver 128 = .ok (.iaload, 1) := by decide +kernel
theorem dX5_moveOver_129 : decode cX5_moveOver 129 = .ok (.iastore, 1) := by decide +kernel
theorem dX5_moveOver_130 : decode cX5_moveOver 130 = .ok (.iinc 5 1, 3) := by decide +kernel
theorem dX5_moveOver_133 : decode cX5_moveOver 133 = .ok (.goto (-104), 3) := by decide +kernel
theorem dX5_moveOver_136 : decode cX5_moveOver 136 = .ok (.iload_n 3, 1) := by decide +kernel
theorem dX5_moveOver_137 : decode cX5_moveOver 137 = .ok (.ireturn, 1) := by decide +kernel
set_option maxRecDepth 20000 in
theorem ggX5_areFree_X5_byInput : GoodIn wsX5_areFree wsX5_byInput := goodIn_r _ [4, 5, 6, 3, 7] (by decide +kernel) (by decide +kernel)
set_option maxRecDepth 20000 in
theorem gX5_areFree_X5_byInput : GoodIn wsX5_areFree (va_wsS RX5 89 yX5_byInput wsX5_byInput) := goodIn_app (goodIn_of _ (by decide +kernel)) ggX5_areFree_X5_byInput
set_option maxRecDepth 20000 in
theorem ggX5_areFree_X5_byOutput : GoodIn wsX5_areFree wsX5_byOutput := goodIn_r _ [10, 5, 6, 3, 7] (by decide +kernel) (by decide +kernel)
set_option maxRecDepth 20000 in
theorem gX5_areFree_X5_byOutput : GoodIn wsX5_areFree (va_wsS RX5 92 yX5_byOutput wsX5_byOutput) := goodIn_app (goodIn_of _ (by decide +kernel)) ggX5_areFree_X5_byOutput
theorem dX5_areFree_0 : decode cX5_areFree 0 = .ok (.aload_n 0, 1) := by decide +kernel
theorem dX5_areFree_1 : decode cX5_areFree 1 = .ok (.iload_n 1, 1) := by decide +kernel
theorem dX5_areFree_2 : decode cX5_areFree 2 = .ok (.invokestatic 89, 3) := by decide +kernel
theorem dX5_areFree_5 : decode cX5_areFree 5 = .ok (.iconst (-1), 1) := by decide +kernel
theorem dX5_areFree_6 : decode cX5_areFree 6 = .ok (.if_icmp .ne 16, 3) := by decide +kernel
theorem dX5_areFree_9 : decode cX5_areFree 9 = .ok (.aload_n 0, 1) := by decide +kernel
theorem dX5_areFree_10 : decode cX5_areFree 10 = .ok (.iload_n 2, 1) := by decide +kernel
theorem dX5_areFree_11 : decode cX5_areFree 11 = .ok (.invokestatic 92, 3) := by decide +kernel
theorem dX5_areFree_14 : decode cX5_areFree 14 = .ok (.iconst (-1), 1) := by decide +kernel
theorem dX5_areFree_15 : decode cX5_areFree 15 = .ok (.if_icmp .ne 7, 3) := by decide +kernel
theorem dX5_areFree_18 : decode cX5_areFree 18 = .ok (.iconst 1, 1) := by decide +kernel
theorem dX5_areFree_19 : decode cX5_areFree 19 = .ok (.goto 4, 3) := by decide +kernel
theorem dX5_areFree_22 : decode cX5_areFree 22 = .ok (.iconst 0, 1) := by decide +kernel
theorem dX5_areFree_23 : decode cX5_areFree 23 = .ok (.ireturn, 1) := by decide +kernel
set_option maxRecDepth 20000 in
theorem ggX5_connectIn_X5_areFree : GoodIn wsX5_connectIn wsX5_areFree := goodIn_r _ [4, 5, 6, 3, 7, 8, 9, 10, 11, 12, 13] (by decide +kernel) (by decide +kernel)
set_option maxRecDepth 20000 in
theorem gX5_connectIn_X5_areFree : GoodIn wsX5_connectIn (va_wsS RX5 95 yX5_areFree wsX5_areFree) := goodIn_app (goodIn_of _ (by decide +kernel)) ggX5_connectIn_X5_areFree
set_option maxRecDepth 20000 in
theorem ggX5_connectIn_X5_callAt : GoodIn wsX5_connectIn wsX5_callAt := goodIn_r _ [10] (by decide +kernel) (by decide +kernel)
set_option maxRecDepth 20000 in
theorem gX5_connectIn_X5_callAt : GoodIn wsX5_connectIn (va_wsS RX5 56 yX5_callAt wsX5_callAt) := goodIn_app (goodIn_of _ (by decide +kernel)) ggX5_connectIn_X5_callAt
set_option maxRecDepth 20000 in
theorem ggX5_connectIn_X5_moveOver : GoodIn wsX5_connectIn wsX5_moveOver := goodIn_r _ [17, 18, 19, 20, 21, 3, 22, 23, 24, 25, 26, 27, 28, 29, 30, 8, 9, 10, 31, 32, 33, 34, 35, 36, 37, 38, 39, 40, 41, 42, 43, 44, 45, 46, 47, 48, 49, 50, 51, 52, 53, 54, 55, 56, 57, 58, 59, 60] (by decide +kernel) (by decide +kernel)
set_option maxRecDepth 20000 in
theorem gX5_connectIn_X5_moveOver : GoodIn wsX5_connectIn (wsV RX5 98 RX5 yX5_moveOver wsX5_moveOver) := goodIn_app (goodIn_of _ (by decide +kernel)) ggX5_connectIn_X5_moveOver
theorem dX5_connectIn_0 : decode cX5_connectIn 0 = .ok (.aload_n 1, 1) := by decide +kernel
theorem dX5_connectIn_1 : decode cX5_connectIn 1 = .ok (.iload_n 2, 1) := by decide +kernel
theorem dX5_connectIn_2 : decode cX5_connectIn 2 = .ok (.iload_n 3, 1) := by decide +kernel
theorem dX5_connectIn_3 : decode cX5_connectIn 3 = .ok (.invokestatic 95, 3) := by decide +kernel
theorem dX5_connectIn_6 : decode cX5_connectIn 6 = .ok (.ifCond .ne 5, 3) := by decide +kernel
theorem dX5_connectIn_9 : decode cX5_connectIn 9 = .ok (.iconst (-1), 1) := by decide +kernel
theorem dX5_connectIn_10 : decode cX5_connectIn 10 = .ok (.ireturn, 1) := by decide +kernel
theorem dX5_connectIn_11 : decode cX5_connectIn 11 = .ok (.aload_n 1, 1) := by decide +kernel
theorem dX5_connectIn_12 : decode cX5_connectIn 12 = .ok (.iconst 4, 1) := by decide +kernel
theorem dX5_connectIn_13 : decode cX5_connectIn 13 = .ok (.iaload, 1) := by decide +kernel
theorem dX5_connectIn_14 : decode cX5_connectIn 14 = .ok (.istore 4, 2) := by decide +kernel
theorem dX5_connectIn_16 : decode cX5_connectIn 16 = .ok (.aload_n 1, 1) := by decide +kernel
theorem dX5_connectIn_17 : decode cX5_connectIn 17 = .ok (.iload 4, 2) := by decide +kernel
theorem dX5_connectIn_19 : decode cX5_connectIn 19 = .ok (.iconst 0, 1) := by decide +kernel
theorem dX5_connectIn_20 : decode cX5_connectIn 20 = .ok (.invokestatic 56, 3) := by decide +kernel
theorem dX5_connectIn_23 : decode cX5_connectIn 23 = .ok (.iload_n 2, 1) := by decide +kernel
theorem dX5_connectIn_24 : decode cX5_connectIn 24 = .ok (.iastore, 1) := by decide +kernel
theorem dX5_connectIn_25 : decode cX5_connectIn 25 = .ok (.aload_n 1, 1) := by decide +kernel
theorem dX5_connectIn_26 : decode cX5_connectIn 26 = .ok (.iload 4, 2) := by decide +kernel
theorem dX5_connectIn_28 : decode cX5_connectIn 28 = .ok (.iconst 1, 1) := by decide +kernel
theorem dX5_connectIn_29 : decode cX5_connectIn 29 = .ok (.invokestatic 56, 3) := by decide +kernel
theorem dX5_connectIn_32 : decode cX5_connectIn 32 = .ok (.iconst 1, 1) := by decide +kernel
theorem dX5_connectIn_33 : decode cX5_connectIn 33 = .ok (.iload_n 3, 1) := by decide +kernel
theorem dX5_connectIn_34 : decode cX5_connectIn 34 = .ok (.ishl, 1) := by decide +kernel
theorem dX5_connectIn_35 : decode cX5_connectIn 35 = .ok (.iastore, 1) := by decide +kernel
theorem dX5_connectIn_36 : decode cX5_connectIn 36 = .ok (.aload_n 1, 1) := by decide +kernel
theorem dX5_connectIn_37 : decode cX5_connectIn 37 = .ok (.iload 4, 2) := by decide +kernel
theorem dX5_connectIn_39 : decode cX5_connectIn 39 = .ok (.iconst 2, 1) := by decide +kernel
theorem dX5_connectIn_40 : decode cX5_connectIn 40 = .ok (.invokestatic 56, 3) := by decide +kernel
theorem dX5_connectIn_43 : decode cX5_connectIn 43 = .ok (.iconst (-1), 1) := by decide +kernel
theorem dX5_connectIn_44 : decode cX5_connectIn 44 = .ok (.iastore, 1) := by decide +kernel
theorem dX5_connectIn_45 : decode cX5_connectIn 45 = .ok (.aload_n 1, 1) := by decide +kernel
theorem dX5_connectIn_46 : decode cX5_connectIn 46 = .ok (.iload 4, 2) := by decide +kernel
theorem dX5_connectIn_48 : decode cX5_connectIn 48 = .ok (.iconst 3, 1) := by decide +kernel
theorem dX5_connectIn_49 : decode cX5_connectIn 49 = .ok (.invokestatic 56, 3) := by decide +kernel
theorem dX5_connectIn_52 : decode cX5_connectIn 52 = .ok (.iconst 0, 1) := by decide +kernel
theorem dX5_connectIn_53 : decode cX5_connectIn 53 = .ok (.iastore, 1) := by decide +kernel
theorem dX5_connectIn_54 : decode cX5_connectIn 54 = .ok (.aload_n 1, 1) := by decide +kernel
theorem dX5_connectIn_55 : decode cX5_connectIn 55 = .ok (.iconst 4, 1) := by decide +kernel
theorem dX5_connectIn_56 : decode cX5_connectIn 56 = .ok (.dup2, 1) := by decide +kernel
theorem dX5_connectIn_57 : decode cX5_connectIn 57 = .ok (.iaload, 1) := by decide +kernel
theorem dX5_connectIn_58 : decode cX5_connectIn 58 = .ok (.iconst 1, 1) := by decide +kernel
theorem dX5_connectIn_59 : decode cX5_connectIn 59 = .ok (.iadd, 1) := by decide +kernel
theorem dX5_connectIn_60 : decode cX5_connectIn 60 = .ok (.iastore, 1) := by decide +kernel
theorem dX5_connectIn_61 : decode cX5_connectIn 61 = .ok (.aload_n 0, 1) := by decide +kernel
theorem dX5_connectIn_62 : decode cX5_connectIn 62 = .ok (.aload_n 1, 1) := by decide +kernel
theorem dX5_connectIn_63 : decode cX5_connectIn 63 = .ok (.iload 4, 2) := by decide +kernel
theorem dX5_connectIn_65 : decode cX5_connectIn 65 = .ok (.invokevirtual 98, 3) := by decide +kernel
theorem dX5_connectIn_68 : decode cX5_connectIn 68 = .ok (.istore 5, 2) := by decide +kernel
theorem dX5_connectIn_70 : decode cX5_connectIn 70 = .ok (.aload_n 1, 1) := by decide +kernel
theorem dX5_connectIn_71 : decode cX5_connectIn 71 = .ok (.iconst 4, 1) := by decide +kernel
theorem dX5_connectIn_72 : decode cX5_connectIn 72 = .ok (.dup2, 1) := by decide +kernel
theorem dX5_connectIn_73 : decode cX5_connectIn 73 = .ok (.iaload, 1) := by decide +kernel
theorem dX5_connectIn_74 : decode cX5_connectIn 74 = .ok (.iload 5, 2) := by decide +kernel
theorem dX5_connectIn_76 : decode cX5_connectIn 76 = .ok (.iconst (-1), 1) := by decide +kernel
theorem dX5_connectIn_77 : decode cX5_connectIn 77 = .ok (.if_icmp .ne 7, 3) := by decide +kernel
theorem dX5_connectIn_80 : decode cX5_connectIn 80 = .ok (.iconst 1, 1) := by decide +kernel
theorem dX5_connectIn_81 : decode cX5_connectIn 81 = .ok (.goto 4, 3) := by decide +kernel
theorem dX5_connectIn_84 : decode cX5_connectIn 84 = .ok (.iconst 0, 1) := by decide +kernel
theorem dX5_connectIn_85 : decode cX5_connectIn 85 = .ok (.isub, 1) := by decide +kernel
theorem dX5_connectIn_86 : decode cX5_connectIn 86 = .ok (.iastore, 1) := by decide +kernel
theorem dX5_connectIn_87 : decode cX5_connectIn 87 = .ok (.iload 5, 2) := by decide +kernel
theorem dX5_connectIn_89 : decode cX5_connectIn 89 = .ok (.ireturn, 1) := by decide +kernel
set_option maxRecDepth 20000 in
theorem ggX5_joinIn_X5_byOutput : GoodIn wsX5_joinIn wsX5_byOutput := goodIn_r _ [4, 5, 6, 3, 7] (by decide +kernel) (by decide +kernel)
set_option maxRecDepth 20000 in
theorem gX5_joinIn_X5_byOutput : GoodIn wsX5_joinIn (va_wsS RX5 92 yX5_byOutput wsX5_byOutput) := goodIn_app (goodIn_of _ (by decide +kernel)) ggX5_joinIn_X5_byOutput
set_option maxRecDepth 20000 in
theorem ggX5_joinIn_X5_callAt : GoodIn wsX5_joinIn wsX5_callAt := goodIn_r _ [7] (by decide +kernel) (by decide +kernel)
set_option maxRecDepth 20000 in
theorem gX5_joinIn_X5_callAt : GoodIn wsX5_joinIn (va_wsS RX5 56 yX5_callAt wsX5_callAt) := goodIn_app (goodIn_of _ (by decide +kernel)) ggX5_joinIn_X5_callAt
set_option maxRecDepth 20000 in
theorem ggX5_joinIn_X5_bits : GoodIn wsX5_joinIn wsX5_bits := goodIn_r _ [10] (by decide +kernel) (by decide +kernel)
set_option maxRecDepth 20000 in
theorem gX5_joinIn_X5_bits : GoodIn wsX5_joinIn (va_wsS RX5 67 yX5_bits wsX5_bits) := goodIn_app (goodIn_of _ (by decide +kernel)) ggX5_joinIn_X5_bits
set_option maxRecDepth 20000 in
theorem ggX5_joinIn_X5_moveOver : GoodIn wsX5_joinIn wsX5_moveOver := goodIn_r _ [14, 15, 16, 17, 18, 3, 19, 20, 21, 22, 23, 24, 25, 26, 27, 5, 6, 7, 28, 29, 30, 31, 32, 33, 34, 35, 36, 37, 38, 39, 40, 41, 42, 43, 44, 45, 46, 47, 48, 49, 50, 51, 52, 53, 54, 55, 56, 57] (by decide +kernel) (by decide +kernel)
set_option maxRecDepth 20000 in
theorem gX5_joinIn_X5_moveOver : GoodIn wsX5_joinIn (wsV RX5 98 RX5 yX5_moveOver wsX5_moveOver) := goodIn_app (goodIn_of _ (by decide +kernel)) ggX5_joinIn_X5_moveOver
theorem dX5_joinIn_0 : decode cX5_joinIn 0 = .ok (.aload_n 1, 1) := by decide +kernel
theorem dX5_joinIn_1 : decode cX5_joinIn 1 = .ok (.iload_n 3, 1) := by decide +kernel
theorem dX5_joinIn_2 : decode cX5_joinIn 2 = .ok (.invokestatic 92, 3) := by decide +kernel
theorem dX5_joinIn_5 : decode cX5_joinIn 5 = .ok (.iconst (-1), 1) := by decide +kernel
theorem dX5_joinIn_6 : decode cX5_joinIn 6 = .ok (.if_icmp .ne 17, 3) := by decide +kernel
theorem dX5_joinIn_9 : decode cX5_joinIn 9 = .ok (.aload_n 1, 1) := by decide +kernel
theorem dX5_joinIn_10 : decode cX5_joinIn 10 = .ok (.iload_n 2, 1) := by decide +kernel
theorem dX5_joinIn_11 : decode cX5_joinIn 11 = .ok (.iconst 1, 1) := by decide +kernel
theorem dX5_joinIn_12 : decode cX5_joinIn 12 = .ok (.invokestatic 56, 3) := by decide +kernel
theorem dX5_joinIn_15 : decode cX5_joinIn 15 = .ok (.iaload, 1) := by decide +kernel
theorem dX5_joinIn_16 : decode cX5_joinIn 16 = .ok (.invokestatic 67, 3) := by decide +kernel
theorem dX5_joinIn_19 : decode cX5_joinIn 19 = .ok (.iconst 4, 1) := by decide +kernel
theorem dX5_joinIn_20 : decode cX5_joinIn 20 = .ok (.if_icmp .ne 5, 3) := by decide +kernel
theorem dX5_joinIn_23 : decode cX5_joinIn 23 = .ok (.iconst (-1), 1) := by decide +kernel
theorem dX5_joinIn_24 : decode cX5_joinIn 24 = .ok (.ireturn, 1) := by decide +kernel
theorem dX5_joinIn_25 : decode cX5_joinIn 25 = .ok (.aload_n 1, 1) := by decide +kernel
theorem dX5_joinIn_26 : decode cX5_joinIn 26 = .ok (.iload_n 2, 1) := by decide +kernel
theorem dX5_joinIn_27 : decode cX5_joinIn 27 = .ok (.iconst 1, 1) := by decide +kernel
theorem dX5_joinIn_28 : decode cX5_joinIn 28 = .ok (.invokestatic 56, 3) := by decide +kernel
theorem dX5_joinIn_31 : decode cX5_joinIn 31 = .ok (.dup2, 1) := by decide +kernel
theorem dX5_joinIn_32 : decode cX5_joinIn 32 = .ok (.iaload, 1) := by decide +kernel
theorem dX5_joinIn_33 : decode cX5_joinIn 33 = .ok (.iconst 1, 1) := by decide +kernel
theorem dX5_joinIn_34 : decode cX5_joinIn 34 = .ok (.iload_n 3, 1) := by decide +kernel
theorem dX5_joinIn_35 : decode cX5_joinIn 35 = .ok (.ishl, 1) := by decide +kernel
theorem dX5_joinIn_36 : decode cX5_joinIn 36 = .ok (.ior, 1) := by decide +kernel
theorem dX5_joinIn_37 : decode cX5_joinIn 37 = .ok (.iastore, 1) := by decide +kernel
theorem dX5_joinIn_38 : decode cX5_joinIn 38 = .ok (.aload_n 0, 1) := by decide +kernel
theorem dX5_joinIn_39 : decode cX5_joinIn 39 = .ok (.aload_n 1, 1) := by decide +kernel
theorem dX5_joinIn_40 : decode cX5_joinIn 40 = .ok (.iload_n 2, 1) := by decide +kernel
theorem dX5_joinIn_41 : decode cX5_joinIn 41 = .ok (.invokevirtual 98, 3) := by decide +kernel
theorem dX5_joinIn_44 : decode cX5_joinIn 44 = .ok (.istore 4, 2) := by decide +kernel
theorem dX5_joinIn_46 : decode cX5_joinIn 46 = .ok (.aload_n 1, 1) := by decide +kernel
theorem dX5_joinIn_47 : decode cX5_joinIn 47 = .ok (.iload_n 2, 1) := by decide +kernel
theorem dX5_joinIn_48 : decode cX5_joinIn 48 = .ok (.iconst 1, 1) := by decide +kernel
theorem dX5_joinIn_49 : decode cX5_joinIn 49 = .ok (.invokestatic 56, 3) := by decide +kernel
theorem dX5_joinIn_52 : decode cX5_joinIn 52 = .ok (.dup2, 1) := by decide +kernel
theorem dX5_joinIn_53 : decode cX5_joinIn 53 = .ok (.iaload, 1) := by decide +kernel
theorem dX5_joinIn_54 : decode cX5_joinIn 54 = .ok (.iload 4, 2) := by decide +kernel
theorem dX5_joinIn_56 : decode cX5_joinIn 56 = .ok (.iconst (-1), 1) := by decide +kernel
theorem dX5_joinIn_57 : decode cX5_joinIn 57 = .ok (.if_icmp .ne 11, 3) := by decide +kernel
theorem dX5_joinIn_60 : decode cX5_joinIn 60 = .ok (.iconst 1, 1) := by decide +kernel
theorem dX5_joinIn_61 : decode cX5_joinIn 61 = .ok (.iload_n 3, 1) := by decide +kernel
theorem dX5_joinIn_62 : decode cX5_joinIn 62 = .ok (.ishl, 1) := by decide +kernel
theorem dX5_joinIn_63 : decode cX5_joinIn 63 = .ok (.iconst (-1), 1) := by decide +kernel
theorem dX5_joinIn_64 : decode cX5_joinIn 64 = .ok (.ixor, 1) := by decide +kernel
theorem dX5_joinIn_65 : decode cX5_joinIn 65 = .ok (.goto 4, 3) := by decide +kernel
theorem dX5_joinIn_68 : decode cX5_joinIn 68 = .ok (.iconst (-1), 1) := by decide +kernel
theorem dX5_joinIn_69 : decode cX5_joinIn 69 = .ok (.iand, 1) := by decide +kernel
theorem dX5_joinIn_70 : decode cX5_joinIn 70 = .ok (.iastore, 1) := by decide +kernel
theorem dX5_joinIn_71 : decode cX5_joinIn 71 = .ok (.iload 4, 2) := by decide +kernel
theorem dX5_joinIn_73 : decode cX5_joinIn 73 = .ok (.ireturn, 1) := by decide +kernel
set_option maxRecDepth 20000 in
theorem ggX5_hangIn_X5_callAt : GoodIn wsX5_hangIn wsX5_callAt := goodIn_r _ [4] (by decide +kernel) (by decide +kernel)
set_option maxRecDepth 20000 in
theorem gX5_hangIn_X5_callAt : GoodIn wsX5_hangIn (va_wsS RX5 56 yX5_callAt wsX5_callAt) := goodIn_app (goodIn_of _ (by decide +kernel)) ggX5_hangIn_X5_callAt
set_option maxRecDepth 20000 in
theorem ggX5_hangIn_X5_copy : GoodIn wsX5_hangIn wsX5_copy := goodIn_r _ [7] (by decide +kernel) (by decide +kernel)
set_option maxRecDepth 20000 in
theorem gX5_hangIn_X5_copy : GoodIn wsX5_hangIn (va_wsS RX5 48 yX5_copy wsX5_copy) := goodIn_app (goodIn_of _ (by decide +kernel)) ggX5_hangIn_X5_copy
theorem dX5_hangIn_0 : decode cX5_hangIn 0 = .ok (.aload_n 0, 1) := by decide +kernel
theorem dX5_hangIn_1 : decode cX5_hangIn 1 = .ok (.iload_n 1, 1) := by decide +kernel
theorem dX5_hangIn_2 : decode cX5_hangIn 2 = .ok (.iconst 1, 1) := by decide +kernel
theorem dX5_hangIn_3 : decode cX5_hangIn 3 = .ok (.iadd, 1) := by decide +kernel
theorem dX5_hangIn_4 : decode cX5_hangIn 4 = .ok (.iconst 0, 1) := by decide +kernel
theorem dX5_hangIn_5 : decode cX5_hangIn 5 = .ok (.invokestatic 56, 3) := by decide +kernel
theorem dX5_hangIn_8 : decode cX5_hangIn 8 = .ok (.aload_n 0, 1) := by decide +kernel
theorem dX5_hangIn_9 : decode cX5_hangIn 9 = .ok (.iload_n 1, 1) := by decide +kernel
theorem dX5_hangIn_10 : decode cX5_hangIn 10 = .ok (.iconst 0, 1) := by decide +kernel
theorem dX5_hangIn_11 : decode cX5_hangIn 11 = .ok (.invokestatic 56, 3) := by decide +kernel
theorem dX5_hangIn_14 : decode cX5_hangIn 14 = .ok (.iconst 4, 1) := by decide +kernel
theorem dX5_hangIn_15 : decode cX5_hangIn 15 = .ok (.aload_n 0, 1) := by decide +kernel
theorem dX5_hangIn_16 : decode cX5_hangIn 16 = .ok (.iconst 4, 1) := by decide +kernel
theorem dX5_hangIn_17 : decode cX5_hangIn 17 = .ok (.iaload, 1) := by decide +kernel
theorem dX5_hangIn_18 : decode cX5_hangIn 18 = .ok (.iconst 1, 1) := by decide +kernel
theorem dX5_hangIn_19 : decode cX5_hangIn 19 = .ok (.isub, 1) := by decide +kernel
theorem dX5_hangIn_20 : decode cX5_hangIn 20 = .ok (.iload_n 1, 1) := by decide +kernel
theorem dX5_hangIn_21 : decode cX5_hangIn 21 = .ok (.isub, 1) := by decide +kernel
theorem dX5_hangIn_22 : decode cX5_hangIn 22 = .ok (.imul, 1) := by decide +kernel
theorem dX5_hangIn_23 : decode cX5_hangIn 23 = .ok (.invokestatic 48, 3) := by decide +kernel
theorem dX5_hangIn_26 : decode cX5_hangIn 26 = .ok (.aload_n 0, 1) := by decide +kernel
theorem dX5_hangIn_27 : decode cX5_hangIn 27 = .ok (.iconst 4, 1) := by decide +kernel
theorem dX5_hangIn_28 : decode cX5_hangIn 28 = .ok (.dup2, 1) := by decide +kernel
theorem dX5_hangIn_29 : decode cX5_hangIn 29 = .ok (.iaload, 1) := by decide +kernel
theorem dX5_hangIn_30 : decode cX5_hangIn 30 = .ok (.iconst 1, 1) := by decide +kernel
theorem dX5_hangIn_31 : decode cX5_hangIn 31 = .ok (.isub, 1) := by decide +kernel
theorem dX5_hangIn_32 : decode cX5_hangIn 32 = .ok (.iastore, 1) := by decide +kernel
theorem dX5_hangIn_33 : decode cX5_hangIn 33 = .ok (.return_, 1) := by decide +kernel
set_option maxRecDepth 20000 in
theorem ggX5_canDrop_X5_byOutput : GoodIn wsX5_canDrop wsX5_byOutput := goodIn_r _ [4, 5, 6, 3, 7] (by decide +kernel) (by decide +kernel)
set_option maxRecDepth 20000 in
theorem gX5_canDrop_X5_byOutput : GoodIn wsX5_canDrop (va_wsS RX5 92 yX5_byOutput wsX5_byOutput) := goodIn_app (goodIn_of _ (by decide +kernel)) ggX5_canDrop_X5_byOutput
set_option maxRecDepth 20000 in
theorem ggX5_canDrop_X5_callAt : GoodIn wsX5_canDrop wsX5_callAt := goodIn_r _ [7] (by decide +kernel) (by decide +kernel)
set_option maxRecDepth 20000 in
theorem gX5_canDrop_X5_callAt : GoodIn wsX5_canDrop (va_wsS RX5 56 yX5_callAt wsX5_callAt) := goodIn_app (goodIn_of _ (by decide +kernel)) ggX5_canDrop_X5_callAt
set_option maxRecDepth 20000 in
theorem ggX5_canDrop_X5_bits : GoodIn wsX5_canDrop wsX5_bits := goodIn_r _ [10] (by decide +kernel) (by decide +kernel)
set_option maxRecDepth 20000 in
theorem gX5_canDrop_X5_bits : GoodIn wsX5_canDrop (va_wsS RX5 67 yX5_bits wsX5_bits) := goodIn_app (goodIn_of _ (by decide +kernel)) ggX5_canDrop_X5_bits
theorem dX5_canDrop_0 : decode cX5_canDrop 0 = .ok (.aload_n 0, 1) := by decide +kernel
theorem dX5_canDrop_1 : decode cX5_canDrop 1 = .ok (.iload_n 1, 1) := by decide +kernel
theorem dX5_canDrop_2 : decode cX5_canDrop 2 = .ok (.invokestatic 92, 3) := by decide +kernel
theorem dX5_canDrop_5 : decode cX5_canDrop 5 = .ok (.istore_n 2, 1) := by decide +kernel
theorem dX5_canDrop_6 : decode cX5_canDrop 6 = .ok (.iload_n 2, 1) := by decide +kernel
theorem dX5_canDrop_7 : decode cX5_canDrop 7 = .ok (.iconst (-1), 1) := by decide +kernel
theorem dX5_canDrop_8 : decode cX5_canDrop 8 = .ok (.if_icmp .eq 21, 3) := by decide +kernel
theorem dX5_canDrop_11 : decode cX5_canDrop 11 = .ok (.aload_n 0, 1) := by decide +kernel
theorem dX5_canDrop_12 : decode cX5_canDrop 12 = .ok (.iload_n 2, 1) := by decide +kernel
theorem dX5_canDrop_13 : decode cX5_canDrop 13 = .ok (.iconst 1, 1) := by decide +kernel
theorem dX5_canDrop_14 : decode cX5_canDrop 14 = .ok (.invokestatic 56, 3) := by decide +kernel
theorem dX5_canDrop_17 : decode cX5_canDrop 17 = .ok (.iaload, 1) := by decide +kernel
theorem dX5_canDrop_18 : decode cX5_canDrop 18 = .ok (.invokestatic 67, 3) := by decide +kernel
theorem dX5_canDrop_21 : decode cX5_canDrop 21 = .ok (.iconst 1, 1) := by decide +kernel
theorem dX5_canDrop_22 : decode cX5_canDrop 22 = .ok (.if_icmp .le 7, 3) := by decide +kernel
theorem dX5_canDrop_25 : decode cX5_canDrop 25 = .ok (.iconst 1, 1) := by decide +kernel
theorem dX5_canDrop_26 : decode cX5_canDrop 26 = .ok (.goto 4, 3) := by decide +kernel
theorem dX5_canDrop_29 : decode cX5_canDrop 29 = .ok (.iconst 0, 1) := by decide +kernel
theorem dX5_canDrop_30 : decode cX5_canDrop 30 = .ok (.ireturn, 1) := by decide +kernel
set_option maxRecDepth 20000 in
theorem ggX5_dropIn_X5_byOutput : GoodIn wsX5_dropIn wsX5_byOutput := goodIn_r _ [4, 5, 6, 3, 7] (by decide +kernel) (by decide +kernel)
set_option maxRecDepth 20000 in
theorem gX5_dropIn_X5_byOutput : GoodIn wsX5_dropIn (va_wsS RX5 92 yX5_byOutput wsX5_byOutput) := goodIn_app (goodIn_of _ (by decide +kernel)) ggX5_dropIn_X5_byOutput
set_option maxRecDepth 20000 in
theorem ggX5_dropIn_X5_callAt : GoodIn wsX5_dropIn wsX5_callAt := goodIn_r _ [7] (by decide +kernel) (by decide +kernel)
set_option maxRecDepth 20000 in
theorem gX5_dropIn_X5_callAt : GoodIn wsX5_dropIn (va_wsS RX5 56 yX5_callAt wsX5_callAt) := goodIn_app (goodIn_of _ (by decide +kernel)) ggX5_dropIn_X5_callAt
set_option maxRecDepth 20000 in
theorem ggX5_dropIn_X5_bits : GoodIn wsX5_dropIn wsX5_bits := goodIn_r _ [10] (by decide +kernel) (by decide +kernel)
set_option maxRecDepth 20000 in
theorem gX5_dropIn_X5_bits : GoodIn wsX5_dropIn (va_wsS RX5 67 yX5_bits wsX5_bits) := goodIn_app (goodIn_of _ (by decide +kernel)) ggX5_dropIn_X5_bits
theorem dX5_dropIn_0 : decode cX5_dropIn 0 = .ok (.aload_n 0, 1) := by decide +kernel
theorem dX5_dropIn_1 : decode cX5_dropIn 1 = .ok (.iload_n 1, 1) := by decide +kernel
theorem dX5_dropIn_2 : decode cX5_dropIn 2 = .ok (.invokestatic 92, 3) := by decide +kernel
theorem dX5_dropIn_5 : decode cX5_dropIn 5 = .ok (.istore_n 2, 1) := by decide +kernel
theorem dX5_dropIn_6 : decode cX5_dropIn 6 = .ok (.aload_n 0, 1) := by decide +kernel
theorem dX5_dropIn_7 : decode cX5_dropIn 7 = .ok (.iload_n 2, 1) := by decide +kernel
theorem dX5_dropIn_8 : decode cX5_dropIn 8 = .ok (.iconst 1, 1) := by decide +kernel
theorem dX5_dropIn_9 : decode cX5_dropIn 9 = .ok (.invokestatic 56, 3) := by decide +kernel
theorem dX5_dropIn_12 : decode cX5_dropIn 12 = .ok (.dup2, 1) := by decide +kernel
theorem dX5_dropIn_13 : decode cX5_dropIn 13 = .ok (.iaload, 1) := by decide +kernel
theorem dX5_dropIn_14 : decode cX5_dropIn 14 = .ok (.iconst 1, 1) := by decide +kernel
theorem dX5_dropIn_15 : decode cX5_dropIn 15 = .ok (.iload_n 1, 1) := by decide +kernel
theorem dX5_dropIn_16 : decode cX5_dropIn 16 = .ok (.ishl, 1) := by decide +kernel
theorem dX5_dropIn_17 : decode cX5_dropIn 17 = .ok (.iconst (-1), 1) := by decide +kernel
theorem dX5_dropIn_18 : decode cX5_dropIn 18 = .ok (.ixor, 1) := by decide +kernel
theorem dX5_dropIn_19 : decode cX5_dropIn 19 = .ok (.iand, 1) := by decide +kernel
theorem dX5_dropIn_20 : decode cX5_dropIn 20 = .ok (.iastore, 1) := by decide +kernel
theorem dX5_dropIn_21 : decode cX5_dropIn 21 = .ok (.aload_n 0, 1) := by decide +kernel
theorem dX5_dropIn_22 : decode cX5_dropIn 22 = .ok (.iload_n 2, 1) := by decide +kernel
theorem dX5_dropIn_23 : decode cX5_dropIn 23 = .ok (.iconst 1, 1) := by decide +kernel
theorem dX5_dropIn_24 : decode cX5_dropIn 24 = .ok (.invokestatic 56, 3) := by decide +kernel
theorem dX5_dropIn_27 : decode cX5_dropIn 27 = .ok (.iaload, 1) := by decide +kernel
theorem dX5_dropIn_28 : decode cX5_dropIn 28 = .ok (.invokestatic 67, 3) := by decide +kernel
theorem dX5_dropIn_31 : decode cX5_dropIn 31 = .ok (.ireturn, 1) := by decide +kernel
set_option maxRecDepth 20000 in
theorem ggX5_canBreak_X5_callAt : GoodIn wsX5_canBreak wsX5_callAt := goodIn_r _ [4] (by decide +kernel) (by decide +kernel)
set_option maxRecDepth 20000 in
theorem gX5_canBreak_X5_callAt : GoodIn wsX5_canBreak (va_wsS RX5 56 yX5_callAt wsX5_callAt) := goodIn_app (goodIn_of _ (by decide +kernel)) ggX5_canBreak_X5_callAt
theorem dX5_canBreak_0 : decode cX5_canBreak 0 = .ok (.iconst 1, 1) := by decide +kernel
theorem dX5_canBreak_1 : decode cX5_canBreak 1 = .ok (.istore_n 2, 1) := by decide +kernel
theorem dX5_canBreak_2 : decode cX5_canBreak 2 = .ok (.iconst 0, 1) := by decide +kernel
theorem dX5_canBreak_3 : decode cX5_canBreak 3 = .ok (.istore_n 3, 1) := by decide +kernel
theorem dX5_canBreak_4 : decode cX5_canBreak 4 = .ok (.iload_n 3, 1) := by decide +kernel
theorem dX5_canBreak_5 : decode cX5_canBreak 5 = .ok (.aload_n 0, 1) := by decide +kernel
theorem dX5_canBreak_6 : decode cX5_canBreak 6 = .ok (.iconst 4, 1) := by decide +kernel
theorem dX5_canBreak_7 : decode cX5_canBreak 7 = .ok (.iaload, 1) := by decide +kernel
theorem dX5_canBreak_8 : decode cX5_canBreak 8 = .ok (.if_icmp .ge 30, 3) := by decide +kernel
theorem dX5_canBreak_11 : decode cX5_canBreak 11 = .ok (.iload_n 2, 1) := by decide +kernel
theorem dX5_canBreak_12 : decode cX5_canBreak 12 = .ok (.ifCond .eq 18, 3) := by decide +kernel
theorem dX5_canBreak_15 : decode cX5_canBreak 15 = .ok (.aload_n 0, 1) := by decide +kernel
theorem dX5_canBreak_16 : decode cX5_canBreak 16 = .ok (.iload_n 3, 1) := by decide +kernel
theorem dX5_canBreak_17 : decode cX5_canBreak 17 = .ok (.iconst 2, 1) := by decide +kernel
theorem dX5_canBreak_18 : decode cX5_canBreak 18 = .ok (.invokestatic 56, 3) := by decide +kernel
theorem dX5_canBreak_21 : decode cX5_canBreak 21 = .ok (.iaload, 1) := by decide +kernel
theorem dX5_canBreak_22 : decode cX5_canBreak 22 = .ok (.iload_n 1, 1) := by decide +kernel
theorem dX5_canBreak_23 : decode cX5_canBreak 23 = .ok (.if_icmp .eq 7, 3) := by decide +kernel
theorem dX5_canBreak_26 : decode cX5_canBreak 26 = .ok (.iconst 1, 1) := by decide +kernel
theorem dX5_canBreak_27 : decode cX5_canBreak 27 = .ok (.goto 4, 3) := by decide +kernel
theorem dX5_canBreak_30 : decode cX5_canBreak 30 = .ok (.iconst 0, 1) := by decide +kernel
theorem dX5_canBreak_31 : decode cX5_canBreak 31 = .ok (.istore_n 2, 1) := by decide +kernel
theorem dX5_canBreak_32 : decode cX5_canBreak 32 = .ok (.iinc 3 1, 3) := by decide +kernel
theorem dX5_canBreak_35 : decode cX5_canBreak 35 = .ok (.goto (-31), 3) := by decide +kernel
theorem dX5_canBreak_38 : decode cX5_canBreak 38 = .ok (.iload_n 2, 1) := by decide +kernel
theorem dX5_canBreak_39 : decode cX5_canBreak 39 = .ok (.ireturn, 1) := by decide +kernel
theorem dX5_breakIn_0 : decode cX5_breakIn 0 = .ok (.aload_n 0, 1) := by decide +kernel
theorem dX5_breakIn_1 : decode cX5_breakIn 1 = .ok (.bipush 7, 2) := by decide +kernel
theorem dX5_breakIn_3 : decode cX5_breakIn 3 = .ok (.iload_n 2, 1) := by decide +kernel
theorem dX5_breakIn_4 : decode cX5_breakIn 4 = .ok (.ifCond .eq 14, 3) := by decide +kernel
theorem dX5_breakIn_7 : decode cX5_breakIn 7 = .ok (.aload_n 0, 1) := by decide +kernel
theorem dX5_breakIn_8 : decode cX5_breakIn 8 = .ok (.bipush 7, 2) := by decide +kernel
theorem dX5_breakIn_10 : decode cX5_breakIn 10 = .ok (.iaload, 1) := by decide +kernel
theorem dX5_breakIn_11 : decode cX5_breakIn 11 = .ok (.iconst 1, 1) := by decide +kernel
theorem dX5_breakIn_12 : decode cX5_breakIn 12 = .ok (.iload_n 1, 1) := by decide +kernel
theorem dX5_breakIn_13 : decode cX5_breakIn 13 = .ok (.ishl, 1) := by decide +kernel
theorem dX5_breakIn_14 : decode cX5_breakIn 14 = .ok (.ior, 1) := by decide +kernel
theorem dX5_breakIn_15 : decode cX5_breakIn 15 = .ok (.goto 13, 3) := by decide +kernel
theorem dX5_breakIn_18 : decode cX5_breakIn 18 = .ok (.aload_n 0, 1) := by decide +kernel
theorem dX5_breakIn_19 : decode cX5_breakIn 19 = .ok (.bipush 7, 2) := by decide +kernel
theorem dX5_breakIn_21 : decode cX5_breakIn 21 = .ok (.iaload, 1) := by decide +kernel
theorem dX5_breakIn_22 : decode cX5_breakIn 22 = .ok (.iconst 1, 1) := by decide +kernel
theorem dX5_breakIn_23 : decode cX5_breakIn 23 = .ok (.iload_n 1, 1) := by decide +kernel
theorem dX5_breakIn_24 : decode cX5_breakIn 24 = .ok (.ishl, 1) := by decide +kernel
theorem dX5_breakIn_25 : decode cX5_breakIn 25 = .ok (.iconst (-1), 1) := by decide +kernel
theorem dX5_breakIn_26 : decode cX5_breakIn 26 = .ok (.ixor, 1) := by decide +kernel
theorem dX5_breakIn_27 : decode cX5_breakIn 27 = .ok (.iand, 1) := by decide +kernel
theorem dX5_breakIn_28 : decode cX5_breakIn 28 = .ok (.iastore, 1) := by decide +kernel
theorem dX5_breakIn_29 : decode cX5_breakIn 29 = .ok (.return_, 1) := by decide +kernel
set_option maxRecDepth 20000 in
theorem ggX5_append_X5_in : GoodIn wsX5_append wsX5_in := goodIn_r _ [7] (by decide +kernel) (by decide +kernel)
set_option maxRecDepth 20000 in
theorem gX5_append_X5_in : GoodIn wsX5_append (va_wsS RX5 103 yX5_in wsX5_in) := goodIn_app (goodIn_of _ (by decide +kernel)) ggX5_append_X5_in
set_option maxRecDepth 20000 in
theorem ggX5_append_X5_refused : GoodIn wsX5_append wsX5_refused := goodIn_r _ [11, 12, 13, 14, 15, 16, 17, 18, 19, 20, 21, 22, 23, 24, 25, 26] (by decide +kernel) (by decide +kernel)
set_option maxRecDepth 20000 in
theorem gX5_append_X5_refused : GoodIn wsX5_append (wsV RX5 110 RX5 yX5_refused wsX5_refused) := goodIn_app (goodIn_of _ (by decide +kernel)) ggX5_append_X5_refused
theorem dX5_append_0 : decode cX5_append 0 = .ok (.aload_n 0, 1) := by decide +kernel
theorem dX5_append_1 : decode cX5_append 1 = .ok (.iload_n 1, 1) := by decide +kernel
theorem dX5_append_2 : decode cX5_append 2 = .ok (.i2l, 1) := by decide +kernel
theorem dX5_append_3 : decode cX5_append 3 = .ok (.lconst 0, 1) := by decide +kernel
theorem dX5_append_4 : decode cX5_append 4 = .ok (.ldc2_w 101, 3) := by decide +kernel
theorem dX5_append_7 : decode cX5_append 7 = .ok (.invokestatic 103, 3) := by decide +kernel
theorem dX5_append_10 : decode cX5_append 10 = .ok (.ifCond .ne 7, 3) := by decide +kernel
theorem dX5_append_13 : decode cX5_append 13 = .ok (.iconst 1, 1) := by decide +kernel
theorem dX5_append_14 : decode cX5_append 14 = .ok (.goto 17, 3) := by decide +kernel
theorem dX5_append_17 : decode cX5_append 17 = .ok (.aload_n 0, 1) := by decide +kernel
theorem dX5_append_18 : decode cX5_append 18 = .ok (.getfield 107, 3) := by decide +kernel
theorem dX5_append_21 : decode cX5_append 21 = .ok (.bipush 120, 2) := by decide +kernel
theorem dX5_append_23 : decode cX5_append 23 = .ok (.if_icmp .ne 7, 3) := by decide +kernel
theorem dX5_append_26 : decode cX5_append 26 = .ok (.iconst 2, 1) := by decide +kernel
theorem dX5_append_27 : decode cX5_append 27 = .ok (.goto 4, 3) := by decide +kernel
theorem dX5_append_30 : decode cX5_append 30 = .ok (.iconst 0, 1) := by decide +kernel
theorem dX5_append_31 : decode cX5_append 31 = .ok (.invokevirtual 110, 3) := by decide +kernel
theorem dX5_append_34 : decode cX5_append 34 = .ok (.ifCond .eq 5, 3) := by decide +kernel
theorem dX5_append_37 : decode cX5_append 37 = .ok (.iconst 0, 1) := by decide +kernel
theorem dX5_append_38 : decode cX5_append 38 = .ok (.ireturn, 1) := by decide +kernel
theorem dX5_append_39 : decode cX5_append 39 = .ok (.aload_n 0, 1) := by decide +kernel
theorem dX5_append_40 : decode cX5_append 40 = .ok (.getfield 7, 3) := by decide +kernel
theorem dX5_append_43 : decode cX5_append 43 = .ok (.aload_n 0, 1) := by decide +kernel
theorem dX5_append_44 : decode cX5_append 44 = .ok (.getfield 107, 3) := by decide +kernel
theorem dX5_append_47 : decode cX5_append 47 = .ok (.iload_n 1, 1) := by decide +kernel
theorem dX5_append_48 : decode cX5_append 48 = .ok (.iastore, 1) := by decide +kernel
theorem dX5_append_49 : decode cX5_append 49 = .ok (.aload_n 0, 1) := by decide +kernel
theorem dX5_append_50 : decode cX5_append 50 = .ok (.dup, 1) := by decide +kernel
theorem dX5_append_51 : decode cX5_append 51 = .ok (.getfield 107, 3) := by decide +kernel
theorem dX5_append_54 : decode cX5_append 54 = .ok (.iconst 1, 1) := by decide +kernel
theorem dX5_append_55 : decode cX5_append 55 = .ok (.iadd, 1) := by decide +kernel
theorem dX5_append_56 : decode cX5_append 56 = .ok (.putfield 107, 3) := by decide +kernel
theorem dX5_append_59 : decode cX5_append 59 = .ok (.aload_n 0, 1) := by decide +kernel
theorem dX5_append_60 : decode cX5_append 60 = .ok (.getfield 107, 3) := by decide +kernel
theorem dX5_append_63 : decode cX5_append 63 = .ok (.ireturn, 1) := by decide +kernel
theorem dX5_clearText_0 : decode cX5_clearText 0 = .ok (.aload_n 0, 1) := by decide +kernel
theorem dX5_clearText_1 : decode cX5_clearText 1 = .ok (.iconst 0, 1) := by decide +kernel
theorem dX5_clearText_2 : decode cX5_clearText 2 = .ok (.putfield 39, 3) := by decide +kernel
theorem dX5_clearText_5 : decode cX5_clearText 5 = .ok (.aload_n 0, 1) := by decide +kernel
theorem dX5_clearText_6 : decode cX5_clearText 6 = .ok (.getfield 107, 3) := by decide +kernel
theorem dX5_clearText_9 : decode cX5_clearText 9 = .ok (.istore_n 1, 1) := by decide +kernel
theorem dX5_clearText_10 : decode cX5_clearText 10 = .ok (.aload_n 0, 1) := by decide +kernel
theorem dX5_clearText_11 : decode cX5_clearText 11 = .ok (.iconst 0, 1) := by decide +kernel
theorem dX5_clearText_12 : decode cX5_clearText 12 = .ok (.putfield 107, 3) := by decide +kernel
theorem dX5_clearText_15 : decode cX5_clearText 15 = .ok (.iload_n 1, 1) := by decide +kernel
theorem dX5_clearText_16 : decode cX5_clearText 16 = .ok (.ireturn, 1) := by decide +kernel
theorem dX5_isNext_0 : decode cX5_isNext 0 = .ok (.aload_n 0, 1) := by decide +kernel
theorem dX5_isNext_1 : decode cX5_isNext 1 = .ok (.getfield 114, 3) := by decide +kernel
theorem dX5_isNext_4 : decode cX5_isNext 4 = .ok (.aload_n 0, 1) := by decide +kernel
theorem dX5_isNext_5 : decode cX5_isNext 5 = .ok (.getfield 107, 3) := by decide +kernel
theorem dX5_isNext_8 : decode cX5_isNext 8 = .ok (.if_icmp .ge 20, 3) := by decide +kernel
theorem dX5_isNext_11 : decode cX5_isNext 11 = .ok (.aload_n 0, 1) := by decide +kernel
theorem dX5_isNext_12 : decode cX5_isNext 12 = .ok (.getfield 7, 3) := by decide +kernel
theorem dX5_isNext_15 : decode cX5_isNext 15 = .ok (.aload_n 0, 1) := by decide +kernel
theorem dX5_isNext_16 : decode cX5_isNext 16 = .ok (.getfield 114, 3) := by decide +kernel
theorem dX5_isNext_19 : decode cX5_isNext 19 = .ok (.iaload, 1) := by decide +kernel
theorem dX5_isNext_20 : decode cX5_isNext 20 = .ok (.iload_n 1, 1) := by decide +kernel
theorem dX5_isNext_21 : decode cX5_isNext 21 = .ok (.if_icmp .ne 7, 3) := by decide +kernel
theorem dX5_isNext_24 : decode cX5_isNext 24 = .ok (.iconst 1, 1) := by decide +kernel
theorem dX5_isNext_25 : decode cX5_isNext 25 = .ok (.goto 4, 3) := by decide +kernel
theorem dX5_isNext_28 : decode cX5_isNext 28 = .ok (.iconst 0, 1) := by decide +kernel
theorem dX5_isNext_29 : decode cX5_isNext 29 = .ok (.ireturn, 1) := by decide +kernel
theorem dX5_accept_0 : decode cX5_accept 0 = .ok (.aload_n 0, 1) := by decide +kernel
theorem dX5_accept_1 : decode cX5_accept 1 = .ok (.aload_n 0, 1) := by decide +kernel
theorem dX5_accept_2 : decode cX5_accept 2 = .ok (.getfield 117, 3) := by decide +kernel
theorem dX5_accept_5 : decode cX5_accept 5 = .ok (.ifCond .eq 11, 3) := by decide +kernel
theorem dX5_accept_8 : decode cX5_accept 8 = .ok (.iload_n 1, 1) := by decide +kernel
theorem dX5_accept_9 : decode cX5_accept 9 = .ok (.ifCond .eq 7, 3) := by decide +kernel
theorem dX5_accept_12 : decode cX5_accept 12 = .ok (.iconst 1, 1) := by decide +kernel
theorem dX5_accept_13 : decode cX5_accept 13 = .ok (.goto 4, 3) := by decide +kernel
theorem dX5_accept_16 : decode cX5_accept 16 = .ok (.iconst 0, 1) := by decide +kernel
theorem dX5_accept_17 : decode cX5_accept 17 = .ok (.putfield 117, 3) := by decide +kernel
theorem dX5_accept_20 : decode cX5_accept 20 = .ok (.aload_n 0, 1) := by decide +kernel
theorem dX5_accept_21 : decode cX5_accept 21 = .ok (.dup, 1) := by decide +kernel
theorem dX5_accept_22 : decode cX5_accept 22 = .ok (.getfield 114, 3) := by decide +kernel
theorem dX5_accept_25 : decode cX5_accept 25 = .ok (.aload_n 0, 1) := by decide +kernel
theorem dX5_accept_26 : decode cX5_accept 26 = .ok (.getfield 117, 3) := by decide +kernel
theorem dX5_accept_29 : decode cX5_accept 29 = .ok (.ifCond .eq 7, 3) := by decide +kernel
theorem dX5_accept_32 : decode cX5_accept 32 = .ok (.iconst 1, 1) := by decide +kernel
theorem dX5_accept_33 : decode cX5_accept 33 = .ok (.goto 4, 3) := by decide +kernel
theorem dX5_accept_36 : decode cX5_accept 36 = .ok (.iconst 0, 1) := by decide +kernel
theorem dX5_accept_37 : decode cX5_accept 37 = .ok (.iadd, 1) := by decide +kernel
theorem dX5_accept_38 : decode cX5_accept 38 = .ok (.putfield 114, 3) := by decide +kernel
theorem dX5_accept_41 : decode cX5_accept 41 = .ok (.return_, 1) := by decide +kernel
set_option maxRecDepth 20000 in
theorem ggX5_digit_X5_in : GoodIn wsX5_digit wsX5_in := goodIn_r _ [9] (by decide +kernel) (by decide +kernel)
set_option maxRecDepth 20000 in
theorem gX5_digit_X5_in : GoodIn wsX5_digit (va_wsS RX5 103 yX5_in wsX5_in) := goodIn_app (goodIn_of _ (by decide +kernel)) ggX5_digit_X5_in
set_option maxRecDepth 20000 in
theorem ggX5_digit_X5_accept : GoodIn wsX5_digit wsX5_accept := goodIn_r _ [13, 5, 1, 14, 15, 16, 17, 18, 19, 20, 21, 22, 23, 24, 25, 26, 27] (by decide +kernel) (by decide +kernel)
set_option maxRecDepth 20000 in
theorem gX5_digit_X5_accept : GoodIn wsX5_digit (wsV RX5 123 RX5 yX5_accept wsX5_accept) := goodIn_app (goodIn_of _ (by decide +kernel)) ggX5_digit_X5_accept
theorem dX5_digit_0 : decode cX5_digit 0 = .ok (.aload_n 0, 1) := by decide +kernel
theorem dX5_digit_1 : decode cX5_digit 1 = .ok (.getfield 114, 3) := by decide +kernel
theorem dX5_digit_4 : decode cX5_digit 4 = .ok (.aload_n 0, 1) := by decide +kernel
theorem dX5_digit_5 : decode cX5_digit 5 = .ok (.getfield 107, 3) := by decide +kernel
theorem dX5_digit_8 : decode cX5_digit 8 = .ok (.if_icmp .ge 18, 3) := by decide +kernel
theorem dX5_digit_11 : decode cX5_digit 11 = .ok (.aload_n 0, 1) := by decide +kernel
theorem dX5_digit_12 : decode cX5_digit 12 = .ok (.getfield 7, 3) := by decide +kernel
theorem dX5_digit_15 : decode cX5_digit 15 = .ok (.aload_n 0, 1) := by decide +kernel
theorem dX5_digit_16 : decode cX5_digit 16 = .ok (.getfield 114, 3) := by decide +kernel
theorem dX5_digit_19 : decode cX5_digit 19 = .ok (.iaload, 1) := by decide +kernel
theorem dX5_digit_20 : decode cX5_digit 20 = .ok (.bipush 48, 2) := by decide +kernel
theorem dX5_digit_22 : decode cX5_digit 22 = .ok (.isub, 1) := by decide +kernel
theorem dX5_digit_23 : decode cX5_digit 23 = .ok (.goto 4, 3) := by decide +kernel
theorem dX5_digit_26 : decode cX5_digit 26 = .ok (.iconst (-1), 1) := by decide +kernel
theorem dX5_digit_27 : decode cX5_digit 27 = .ok (.istore_n 3, 1) := by decide +kernel
theorem dX5_digit_28 : decode cX5_digit 28 = .ok (.aload_n 0, 1) := by decide +kernel
theorem dX5_digit_29 : decode cX5_digit 29 = .ok (.iload_n 3, 1) := by decide +kernel
theorem dX5_digit_30 : decode cX5_digit 30 = .ok (.i2l, 1) := by decide +kernel
theorem dX5_digit_31 : decode cX5_digit 31 = .ok (.lconst 0, 1) := by decide +kernel
theorem dX5_digit_32 : decode cX5_digit 32 = .ok (.ldc2_w 121, 3) := by decide +kernel
theorem dX5_digit_35 : decode cX5_digit 35 = .ok (.invokestatic 103, 3) := by decide +kernel
theorem dX5_digit_38 : decode cX5_digit 38 = .ok (.ifCond .eq 19, 3) := by decide +kernel
theorem dX5_digit_41 : decode cX5_digit 41 = .ok (.iload_n 3, 1) := by decide +kernel
theorem dX5_digit_42 : decode cX5_digit 42 = .ok (.i2l, 1) := by decide +kernel
theorem dX5_digit_43 : decode cX5_digit 43 = .ok (.iload_n 1, 1) := by decide +kernel
theorem dX5_digit_44 : decode cX5_digit 44 = .ok (.i2l, 1) := by decide +kernel
theorem dX5_digit_45 : decode cX5_digit 45 = .ok (.iload_n 2, 1) := by decide +kernel
theorem dX5_digit_46 : decode cX5_digit 46 = .ok (.i2l, 1) := by decide +kernel
theorem dX5_digit_47 : decode cX5_digit 47 = .ok (.invokestatic 103, 3) := by decide +kernel
theorem dX5_digit_50 : decode cX5_digit 50 = .ok (.ifCond .eq 7, 3) := by decide +kernel
theorem dX5_digit_53 : decode cX5_digit 53 = .ok (.iconst 1, 1) := by decide +kernel
theorem dX5_digit_54 : decode cX5_digit 54 = .ok (.goto 4, 3) := by decide +kernel
theorem dX5_digit_57 : decode cX5_digit 57 = .ok (.iconst 0, 1) := by decide +kernel
theorem dX5_digit_58 : decode cX5_digit 58 = .ok (.invokevirtual 123, 3) := by decide +kernel
theorem dX5_digit_61 : decode cX5_digit 61 = .ok (.aload_n 0, 1) := by decide +kernel
theorem dX5_digit_62 : decode cX5_digit 62 = .ok (.getfield 117, 3) := by decide +kernel
theorem dX5_digit_65 : decode cX5_digit 65 = .ok (.ifCond .eq 7, 3) := by decide +kernel
theorem dX5_digit_68 : decode cX5_digit 68 = .ok (.iload_n 3, 1) := by decide +kernel
theorem dX5_digit_69 : decode cX5_digit 69 = .ok (.goto 4, 3) := by decide +kernel
theorem dX5_digit_72 : decode cX5_digit 72 = .ok (.iload_n 1, 1) := by decide +kernel
theorem dX5_digit_73 : decode cX5_digit 73 = .ok (.ireturn, 1) := by decide +kernel
set_option maxRecDepth 20000 in
theorem ggX5_two_X5_digit : GoodIn wsX5_two wsX5_digit := goodIn_r _ [5, 6, 7, 8, 9, 10, 11, 12, 4, 13, 14, 15, 16, 17, 18, 19, 20, 21, 22, 23, 24, 25, 26, 27, 28, 29, 30, 31] (by decide +kernel) (by decide +kernel)
set_option maxRecDepth 20000 in
theorem gX5_two_X5_digit : GoodIn wsX5_two (wsV RX5 127 RX5 yX5_digit wsX5_digit) := goodIn_app (goodIn_of _ (by decide +kernel)) ggX5_two_X5_digit
theorem dX5_two_0 : decode cX5_two 0 = .ok (.aload_n 0, 1) := by decide +kernel
theorem dX5_two_1 : decode cX5_two 1 = .ok (.iconst 0, 1) := by decide +kernel
theorem dX5_two_2 : decode cX5_two 2 = .ok (.iload_n 1, 1) := by decide +kernel
theorem dX5_two_3 : decode cX5_two 3 = .ok (.bipush 10, 2) := by decide +kernel
theorem dX5_two_5 : decode cX5_two 5 = .ok (.idiv, 1) := by decide +kernel
theorem dX5_two_6 : decode cX5_two 6 = .ok (.invokevirtual 127, 3) := by decide +kernel
theorem dX5_two_9 : decode cX5_two 9 = .ok (.istore_n 2, 1) := by decide +kernel
theorem dX5_two_10 : decode cX5_two 10 = .ok (.iload_n 1, 1) := by decide +kernel
theorem dX5_two_11 : decode cX5_two 11 = .ok (.bipush 10, 2) := by decide +kernel
theorem dX5_two_13 : decode cX5_two 13 = .ok (.iload_n 2, 1) := by decide +kernel
theorem dX5_two_14 : decode cX5_two 14 = .ok (.imul, 1) := by decide +kernel
theorem dX5_two_15 : decode cX5_two 15 = .ok (.isub, 1) := by decide +kernel
theorem dX5_two_16 : decode cX5_two 16 = .ok (.istore_n 3, 1) := by decide +kernel
theorem dX5_two_17 : decode cX5_two 17 = .ok (.bipush 10, 2) := by decide +kernel
theorem dX5_two_19 : decode cX5_two 19 = .ok (.iload_n 2, 1) := by decide +kernel
theorem dX5_two_20 : decode cX5_two 20 = .ok (.imul, 1) := by decide +kernel
theorem dX5_two_21 : decode cX5_two 21 = .ok (.aload_n 0, 1) := by decide +kernel
theorem dX5_two_22 : decode cX5_two 22 = .ok (.iconst 0, 1) := by decide +kernel
theorem dX5_two_23 : decode cX5_two 23 = .ok (.iload_n 3, 1) := by decide +kernel
theorem dX5_two_24 : decode cX5_two 24 = .ok (.bipush 9, 2) := by decide +kernel
theorem dX5_two_26 : decode cX5_two 26 = .ok (.if_icmp .le 8, 3) := by decide +kernel
theorem dX5_two_29 : decode cX5_two 29 = .ok (.bipush 9, 2) := by decide +kernel
theorem dX5_two_31 : decode cX5_two 31 = .ok (.goto 4, 3) := by decide +kernel
theorem dX5_two_34 : decode cX5_two 34 = .ok (.iload_n 3, 1) := by decide +kernel
theorem dX5_two_35 : decode cX5_two 35 = .ok (.invokevirtual 127, 3) := by decide +kernel
theorem dX5_two_38 : decode cX5_two 38 = .ok (.iadd, 1) := by decide +kernel
theorem dX5_two_39 : decode cX5_two 39 = .ok (.ireturn, 1) := by decide +kernel
theorem dX5_count_0 : decode cX5_count 0 = .ok (.aload_n 0, 1) := by decide +kernel
theorem dX5_count_1 : decode cX5_count 1 = .ok (.dup, 1) := by decide +kernel
theorem dX5_count_2 : decode cX5_count 2 = .ok (.getfield 130, 3) := by decide +kernel
theorem dX5_count_5 : decode cX5_count 5 = .ok (.iload_n 1, 1) := by decide +kernel
theorem dX5_count_6 : decode cX5_count 6 = .ok (.ifCond .eq 7, 3) := by decide +kernel
theorem dX5_count_9 : decode cX5_count 9 = .ok (.iconst 0, 1) := by decide +kernel
theorem dX5_count_10 : decode cX5_count 10 = .ok (.goto 4, 3) := by decide +kernel
theorem dX5_count_13 : decode cX5_count 13 = .ok (.iconst 1, 1) := by decide +kernel
theorem dX5_count_14 : decode cX5_count 14 = .ok (.iadd, 1) := by decide +kernel
theorem dX5_count_15 : decode cX5_count 15 = .ok (.putfield 130, 3) := by decide +kernel
theorem dX5_count_18 : decode cX5_count 18 = .ok (.return_, 1) := by decide +kernel
set_option maxRecDepth 20000 in
theorem ggX5_readConnect_X5_inputs : GoodIn wsX5_readConnect wsX5_inputs := goodIn_r _ [6] (by decide +kernel) (by decide +kernel)
set_option maxRecDepth 20000 in
theorem gX5_readConnect_X5_inputs : GoodIn wsX5_readConnect (va_wsS RX5 133 yX5_inputs wsX5_inputs) := goodIn_app (goodIn_of _ (by decide +kernel)) ggX5_readConnect_X5_inputs
set_option maxRecDepth 20000 in
theorem ggX5_readConnect_X5_two : GoodIn wsX5_readConnect wsX5_two := goodIn_r _ [10, 11, 12, 13, 5, 14, 15, 16, 17, 18, 2, 19, 20, 21, 22, 23, 24, 25, 80, 81, 82, 83, 84, 85, 86, 87, 88, 89, 90, 91, 92, 93] (by decide +kernel) (by decide +kernel)
set_option maxRecDepth 20000 in
theorem gX5_readConnect_X5_two : GoodIn wsX5_readConnect (wsV RX5 136 RX5 yX5_two wsX5_two) := goodIn_app (goodIn_of _ (by decide +kernel)) ggX5_readConnect_X5_two
set_option maxRecDepth 20000 in
theorem ggX5_readConnect_X5_outputs : GoodIn wsX5_readConnect wsX5_outputs := goodIn_r _ [28] (by decide +kernel) (by decide +kernel)
set_option maxRecDepth 20000 in
theorem gX5_readConnect_X5_outputs : GoodIn wsX5_readConnect (va_wsS RX5 52 yX5_outputs wsX5_outputs) := goodIn_app (goodIn_of _ (by decide +kernel)) ggX5_readConnect_X5_outputs
set_option maxRecDepth 20000 in
theorem ggX5_readConnect_X5_connectIn : GoodIn wsX5_readConnect wsX5_connectIn := goodIn_r _ [32, 33, 34, 5, 35, 36, 37, 38, 39, 40, 41, 42, 43, 44, 45, 46, 47, 48, 49, 50, 51, 52, 53, 54, 55, 56, 57, 58, 59, 60, 61, 62, 63, 64, 65, 66, 67, 68, 69, 70, 71, 72, 73, 74, 26, 27, 28, 80, 81, 82, 83, 84, 85, 86, 87, 88, 89, 90, 91, 92, 93] (by decide +kernel) (by decide +kernel)
set_option maxRecDepth 20000 in
theorem gX5_readConnect_X5_connectIn : GoodIn wsX5_readConnect (wsV RX5 139 RX5 yX5_connectIn wsX5_connectIn) := goodIn_app (goodIn_of _ (by decide +kernel)) ggX5_readConnect_X5_connectIn
set_option maxRecDepth 20000 in
theorem ggX5_readConnect_X5_count : GoodIn wsX5_readConnect wsX5_count := goodIn_r _ [78, 79, 80, 81, 82, 83, 84, 85, 86, 87, 88, 89, 90, 91, 92, 93] (by decide +kernel) (by decide +kernel)
set_option maxRecDepth 20000 in
theorem gX5_readConnect_X5_count : GoodIn wsX5_readConnect (wsV RX5 142 RX5 yX5_count wsX5_count) := goodIn_app (goodIn_of _ (by decide +kernel)) ggX5_readConnect_X5_count
theorem dX5_readConnect_0 : decode cX5_readConnect 0 = .ok (.aload_n 0, 1) := by decide +kernel
theorem dX5_readConnect_1 : decode cX5_readConnect 1 = .ok (.aload_n 0, 1) := by decide +kernel
theorem dX5_readConnect_2 : decode cX5_readConnect 2 = .ok (.getfield 13, 3) := by decide +kernel
theorem dX5_readConnect_5 : decode cX5_readConnect 5 = .ok (.invokestatic 133, 3) := by decide +kernel
theorem dX5_readConnect_8 : decode cX5_readConnect 8 = .ok (.iconst 1, 1) := by decide +kernel
theorem dX5_readConnect_9 : decode cX5_readConnect 9 = .ok (.isub, 1) := by decide +kernel
theorem dX5_readConnect_10 : decode cX5_readConnect 10 = .ok (.invokevirtual 136, 3) := by decide +kernel
theorem dX5_readConnect_13 : decode cX5_readConnect 13 = .ok (.istore_n 1, 1) := by decide +kernel
theorem dX5_readConnect_14 : decode cX5_readConnect 14 = .ok (.aload_n 0, 1) := by decide +kernel
theorem dX5_readConnect_15 : decode cX5_readConnect 15 = .ok (.aload_n 0, 1) := by decide +kernel
theorem dX5_readConnect_16 : decode cX5_readConnect 16 = .ok (.getfield 13, 3) := by decide +kernel
theorem dX5_readConnect_19 : decode cX5_readConnect 19 = .ok (.invokestatic 52, 3) := by decide +kernel
theorem dX5_readConnect_22 : decode cX5_readConnect 22 = .ok (.iconst 1, 1) := by decide +kernel
theorem dX5_readConnect_23 : decode cX5_readConnect 23 = .ok (.isub, 1) := by decide +kernel
theorem dX5_readConnect_24 : decode cX5_readConnect 24 = .ok (.invokevirtual 136, 3) := by decide +kernel
theorem dX5_readConnect_27 : decode cX5_readConnect 27 = .ok (.istore_n 2, 1) := by decide +kernel
theorem dX5_readConnect_28 : decode cX5_readConnect 28 = .ok (.aload_n 0, 1) := by decide +kernel
theorem dX5_readConnect_29 : decode cX5_readConnect 29 = .ok (.getfield 117, 3) := by decide +kernel
theorem dX5_readConnect_32 : decode cX5_readConnect 32 = .ok (.ifCond .eq 26, 3) := by decide +kernel
theorem dX5_readConnect_35 : decode cX5_readConnect 35 = .ok (.aload_n 0, 1) := by decide +kernel
theorem dX5_readConnect_36 : decode cX5_readConnect 36 = .ok (.aload_n 0, 1) := by decide +kernel
theorem dX5_readConnect_37 : decode cX5_readConnect 37 = .ok (.aload_n 0, 1) := by decide +kernel
theorem dX5_readConnect_38 : decode cX5_readConnect 38 = .ok (.getfield 13, 3) := by decide +kernel
theorem dX5_readConnect_41 : decode cX5_readConnect 41 = .ok (.iload_n 1, 1) := by decide +kernel
theorem dX5_readConnect_42 : decode cX5_readConnect 42 = .ok (.iload_n 2, 1) := by decide +kernel
theorem dX5_readConnect_43 : decode cX5_readConnect 43 = .ok (.invokevirtual 139, 3) := by decide +kernel
theorem dX5_readConnect_46 : decode cX5_readConnect 46 = .ok (.iconst (-1), 1) := by decide +kernel
theorem dX5_readConnect_47 : decode cX5_readConnect 47 = .ok (.if_icmp .eq 7, 3) := by decide +kernel
theorem dX5_readConnect_50 : decode cX5_readConnect 50 = .ok (.iconst 1, 1) := by decide +kernel
theorem dX5_readConnect_51 : decode cX5_readConnect 51 = .ok (.goto 4, 3) := by decide +kernel
theorem dX5_readConnect_54 : decode cX5_readConnect 54 = .ok (.iconst 0, 1) := by decide +kernel
theorem dX5_readConnect_55 : decode cX5_readConnect 55 = .ok (.invokevirtual 142, 3) := by decide +kernel
theorem dX5_readConnect_58 : decode cX5_readConnect 58 = .ok (.return_, 1) := by decide +kernel
set_option maxRecDepth 20000 in
theorem ggX5_readJoin_X5_two : GoodIn wsX5_readJoin wsX5_two := goodIn_r _ [7, 8, 9, 10, 6, 11, 12, 13, 14, 15, 2, 16, 17, 18, 19, 20, 21, 22, 74, 75, 76, 77, 78, 79, 80, 81, 82, 83, 84, 85, 86, 87] (by decide +kernel) (by decide +kernel)
set_option maxRecDepth 20000 in
theorem gX5_readJoin_X5_two : GoodIn wsX5_readJoin (wsV RX5 136 RX5 yX5_two wsX5_two) := goodIn_app (goodIn_of _ (by decide +kernel)) ggX5_readJoin_X5_two
set_option maxRecDepth 20000 in
theorem ggX5_readJoin_X5_outputs : GoodIn wsX5_readJoin wsX5_outputs := goodIn_r _ [25] (by decide +kernel) (by decide +kernel)
set_option maxRecDepth 20000 in
theorem gX5_readJoin_X5_outputs : GoodIn wsX5_readJoin (va_wsS RX5 52 yX5_outputs wsX5_outputs) := goodIn_app (goodIn_of _ (by decide +kernel)) ggX5_readJoin_X5_outputs
set_option maxRecDepth 20000 in
theorem ggX5_readJoin_X5_joinIn : GoodIn wsX5_readJoin wsX5_joinIn := goodIn_r _ [29, 30, 31, 6, 32, 33, 34, 35, 36, 37, 38, 39, 40, 41, 42, 43, 44, 45, 46, 47, 48, 49, 50, 51, 52, 53, 54, 55, 56, 57, 58, 59, 60, 61, 62, 63, 64, 65, 66, 67, 68, 23, 24, 25, 74, 75, 76, 77, 78, 79, 80, 81, 82, 83, 84, 85, 86, 87] (by decide +kernel) (by decide +kernel)
set_option maxRecDepth 20000 in
theorem gX5_readJoin_X5_joinIn : GoodIn wsX5_readJoin (wsV RX5 145 RX5 yX5_joinIn wsX5_joinIn) := goodIn_app (goodIn_of _ (by decide +kernel)) ggX5_readJoin_X5_joinIn
set_option maxRecDepth 20000 in
theorem ggX5_readJoin_X5_count : GoodIn wsX5_readJoin wsX5_count := goodIn_r _ [72, 73, 74, 75, 76, 77, 78, 79, 80, 81, 82, 83, 84, 85, 86, 87] (by decide +kernel) (by decide +kernel)
set_option maxRecDepth 20000 in
theorem gX5_readJoin_X5_count : GoodIn wsX5_readJoin (wsV RX5 142 RX5 yX5_count wsX5_count) := goodIn_app (goodIn_of _ (by decide +kernel)) ggX5_readJoin_X5_count
theorem dX5_readJoin_0 : decode cX5_readJoin 0 = .ok (.aload_n 0, 1) := by decide +kernel
theorem dX5_readJoin_1 : decode cX5_readJoin 1 = .ok (.bipush 15, 2) := by decide +kernel
theorem dX5_readJoin_3 : decode cX5_readJoin 3 = .ok (.invokevirtual 136, 3) := by decide +kernel
theorem dX5_readJoin_6 : decode cX5_readJoin 6 = .ok (.istore_n 1, 1) := by decide +kernel
theorem dX5_readJoin_7 : decode cX5_readJoin 7 = .ok (.aload_n 0, 1) := by decide +kernel
theorem dX5_readJoin_8 : decode cX5_readJoin 8 = .ok (.aload_n 0, 1) := by decide +kernel
theorem dX5_readJoin_9 : decode cX5_readJoin 9 = .ok (.getfield 13, 3) := by decide +kernel
theorem dX5_readJoin_12 : decode cX5_readJoin 12 = .ok (.invokestatic 52, 3) := by decide +kernel
theorem dX5_readJoin_15 : decode cX5_readJoin 15 = .ok (.iconst 1, 1) := by decide +kernel
theorem dX5_readJoin_16 : decode cX5_readJoin 16 = .ok (.isub, 1) := by decide +kernel
theorem dX5_readJoin_17 : decode cX5_readJoin 17 = .ok (.invokevirtual 136, 3) := by decide +kernel
theorem dX5_readJoin_20 : decode cX5_readJoin 20 = .ok (.istore_n 2, 1) := by decide +kernel
theorem dX5_readJoin_21 : decode cX5_readJoin 21 = .ok (.aload_n 0, 1) := by decide +kernel
theorem dX5_readJoin_22 : decode cX5_readJoin 22 = .ok (.getfield 117, 3) := by decide +kernel
theorem dX5_readJoin_25 : decode cX5_readJoin 25 = .ok (.ifCond .eq 36, 3) := by decide +kernel
theorem dX5_readJoin_28 : decode cX5_readJoin 28 = .ok (.aload_n 0, 1) := by decide +kernel
theorem dX5_readJoin_29 : decode cX5_readJoin 29 = .ok (.iload_n 1, 1) := by decide +kernel
theorem dX5_readJoin_30 : decode cX5_readJoin 30 = .ok (.aload_n 0, 1) := by decide +kernel
theorem dX5_readJoin_31 : decode cX5_readJoin 31 = .ok (.getfield 13, 3) := by decide +kernel
theorem dX5_readJoin_34 : decode cX5_readJoin 34 = .ok (.iconst 4, 1) := by decide +kernel
theorem dX5_readJoin_35 : decode cX5_readJoin 35 = .ok (.iaload, 1) := by decide +kernel
theorem dX5_readJoin_36 : decode cX5_readJoin 36 = .ok (.if_icmp .ge 21, 3) := by decide +kernel
theorem dX5_readJoin_39 : decode cX5_readJoin 39 = .ok (.aload_n 0, 1) := by decide +kernel
theorem dX5_readJoin_40 : decode cX5_readJoin 40 = .ok (.aload_n 0, 1) := by decide +kernel
theorem dX5_readJoin_41 : decode cX5_readJoin 41 = .ok (.getfield 13, 3) := by decide +kernel
theorem dX5_readJoin_44 : decode cX5_readJoin 44 = .ok (.iload_n 1, 1) := by decide +kernel
theorem dX5_readJoin_45 : decode cX5_readJoin 45 = .ok (.iload_n 2, 1) := by decide +kernel
theorem dX5_readJoin_46 : decode cX5_readJoin 46 = .ok (.invokevirtual 145, 3) := by decide +kernel
theorem dX5_readJoin_49 : decode cX5_readJoin 49 = .ok (.iconst (-1), 1) := by decide +kernel
theorem dX5_readJoin_50 : decode cX5_readJoin 50 = .ok (.if_icmp .eq 7, 3) := by decide +kernel
theorem dX5_readJoin_53 : decode cX5_readJoin 53 = .ok (.iconst 1, 1) := by decide +kernel
theorem dX5_readJoin_54 : decode cX5_readJoin 54 = .ok (.goto 4, 3) := by decide +kernel
theorem dX5_readJoin_57 : decode cX5_readJoin 57 = .ok (.iconst 0, 1) := by decide +kernel
theorem dX5_readJoin_58 : decode cX5_readJoin 58 = .ok (.invokevirtual 142, 3) := by decide +kernel
theorem dX5_readJoin_61 : decode cX5_readJoin 61 = .ok (.return_, 1) := by decide +kernel
set_option maxRecDepth 20000 in
theorem ggX5_readHang_X5_two : GoodIn wsX5_readHang wsX5_two := goodIn_r _ [7, 8, 9, 10, 6, 11, 12, 13, 14, 15, 1, 16, 17, 18, 19, 20, 21, 22, 37, 38, 39, 40, 41, 42, 43, 44, 45, 46, 47, 48, 49, 50] (by decide +kernel) (by decide +kernel)
set_option maxRecDepth 20000 in
theorem gX5_readHang_X5_two : GoodIn wsX5_readHang (wsV RX5 136 RX5 yX5_two wsX5_two) := goodIn_app (goodIn_of _ (by decide +kernel)) ggX5_readHang_X5_two
set_option maxRecDepth 20000 in
theorem ggX5_readHang_X5_count : GoodIn wsX5_readHang wsX5_count := goodIn_r _ [26, 27, 37, 38, 39, 40, 41, 42, 43, 44, 45, 46, 47, 48, 49, 50] (by decide +kernel) (by decide +kernel)
set_option maxRecDepth 20000 in
theorem gX5_readHang_X5_count : GoodIn wsX5_readHang (wsV RX5 142 RX5 yX5_count wsX5_count) := goodIn_app (goodIn_of _ (by decide +kernel)) ggX5_readHang_X5_count
set_option maxRecDepth 20000 in
theorem ggX5_readHang_X5_hangIn : GoodIn wsX5_readHang wsX5_hangIn := goodIn_r _ [30, 31, 32, 6, 33, 34, 35, 36] (by decide +kernel) (by decide +kernel)
set_option maxRecDepth 20000 in
theorem gX5_readHang_X5_hangIn : GoodIn wsX5_readHang (va_wsS RX5 148 yX5_hangIn wsX5_hangIn) := goodIn_app (goodIn_of _ (by decide +kernel)) ggX5_readHang_X5_hangIn
theorem dX5_readHang_0 : decode cX5_readHang 0 = .ok (.aload_n 0, 1) := by decide +kernel
theorem dX5_readHang_1 : decode cX5_readHang 1 = .ok (.bipush 15, 2) := by decide +kernel
theorem dX5_readHang_3 : decode cX5_readHang 3 = .ok (.invokevirtual 136, 3) := by decide +kernel
theorem dX5_readHang_6 : decode cX5_readHang 6 = .ok (.istore_n 1, 1) := by decide +kernel
theorem dX5_readHang_7 : decode cX5_readHang 7 = .ok (.aload_n 0, 1) := by decide +kernel
theorem dX5_readHang_8 : decode cX5_readHang 8 = .ok (.getfield 117, 3) := by decide +kernel
theorem dX5_readHang_11 : decode cX5_readHang 11 = .ok (.ifCond .eq 40, 3) := by decide +kernel
theorem dX5_readHang_14 : decode cX5_readHang 14 = .ok (.aload_n 0, 1) := by decide +kernel
theorem dX5_readHang_15 : decode cX5_readHang 15 = .ok (.iload_n 1, 1) := by decide +kernel
theorem dX5_readHang_16 : decode cX5_readHang 16 = .ok (.aload_n 0, 1) := by decide +kernel
theorem dX5_readHang_17 : decode cX5_readHang 17 = .ok (.getfield 13, 3) := by decide +kernel
theorem dX5_readHang_20 : decode cX5_readHang 20 = .ok (.iconst 4, 1) := by decide +kernel
theorem dX5_readHang_21 : decode cX5_readHang 21 = .ok (.iaload, 1) := by decide +kernel
theorem dX5_readHang_22 : decode cX5_readHang 22 = .ok (.if_icmp .ge 7, 3) := by decide +kernel
theorem dX5_readHang_25 : decode cX5_readHang 25 = .ok (.iconst 1, 1) := by decide +kernel
theorem dX5_readHang_26 : decode cX5_readHang 26 = .ok (.goto 4, 3) := by decide +kernel
theorem dX5_readHang_29 : decode cX5_readHang 29 = .ok (.iconst 0, 1) := by decide +kernel
theorem dX5_readHang_30 : decode cX5_readHang 30 = .ok (.invokevirtual 142, 3) := by decide +kernel
theorem dX5_readHang_33 : decode cX5_readHang 33 = .ok (.iload_n 1, 1) := by decide +kernel
theorem dX5_readHang_34 : decode cX5_readHang 34 = .ok (.aload_n 0, 1) := by decide +kernel
theorem dX5_readHang_35 : decode cX5_readHang 35 = .ok (.getfield 13, 3) := by decide +kernel
theorem dX5_readHang_38 : decode cX5_readHang 38 = .ok (.iconst 4, 1) := by decide +kernel
theorem dX5_readHang_39 : decode cX5_readHang 39 = .ok (.iaload, 1) := by decide +kernel
theorem dX5_readHang_40 : decode cX5_readHang 40 = .ok (.if_icmp .ge 11, 3) := by decide +kernel
theorem dX5_readHang_43 : decode cX5_readHang 43 = .ok (.aload_n 0, 1) := by decide +kernel
theorem dX5_readHang_44 : decode cX5_readHang 44 = .ok (.getfield 13, 3) := by decide +kernel
theorem dX5_readHang_47 : decode cX5_readHang 47 = .ok (.iload_n 1, 1) := by decide +kernel
theorem dX5_readHang_48 : decode cX5_readHang 48 = .ok (.invokestatic 148, 3) := by decide +kernel
theorem dX5_readHang_51 : decode cX5_readHang 51 = .ok (.return_, 1) := by decide +kernel
set_option maxRecDepth 20000 in
theorem ggX5_readBreak_X5_digit : GoodIn wsX5_readBreak wsX5_digit := goodIn_r _ [7, 8, 9, 10, 11, 2, 12, 13, 6, 14, 15, 16, 17, 18, 33, 34, 35, 36, 37, 38, 39, 40, 41, 42, 43, 44, 45, 46] (by decide +kernel) (by decide +kernel)
set_option maxRecDepth 20000 in
theorem gX5_readBreak_X5_digit : GoodIn wsX5_readBreak (wsV RX5 127 RX5 yX5_digit wsX5_digit) := goodIn_app (goodIn_of _ (by decide +kernel)) ggX5_readBreak_X5_digit
set_option maxRecDepth 20000 in
theorem ggX5_readBreak_X5_canBreak : GoodIn wsX5_readBreak wsX5_canBreak := goodIn_r _ [21, 22, 23, 6, 24] (by decide +kernel) (by decide +kernel)
set_option maxRecDepth 20000 in
theorem gX5_readBreak_X5_canBreak : GoodIn wsX5_readBreak (va_wsS RX5 152 yX5_canBreak wsX5_canBreak) := goodIn_app (goodIn_of _ (by decide +kernel)) ggX5_readBreak_X5_canBreak
set_option maxRecDepth 20000 in
theorem ggX5_readBreak_X5_count : GoodIn wsX5_readBreak wsX5_count := goodIn_r _ [28, 29, 33, 34, 35, 36, 37, 38, 39, 40, 41, 42, 43, 44, 45, 46] (by decide +kernel) (by decide +kernel)
set_option maxRecDepth 20000 in
theorem gX5_readBreak_X5_count : GoodIn wsX5_readBreak (wsV RX5 142 RX5 yX5_count wsX5_count) := goodIn_app (goodIn_of _ (by decide +kernel)) ggX5_readBreak_X5_count
set_option maxRecDepth 20000 in
theorem ggX5_readBreak_X5_breakIn : GoodIn wsX5_readBreak wsX5_breakIn := goodIn_r _ [32] (by decide +kernel) (by decide +kernel)
set_option maxRecDepth 20000 in
theorem gX5_readBreak_X5_breakIn : GoodIn wsX5_readBreak (va_wsS RX5 155 yX5_breakIn wsX5_breakIn) := goodIn_app (goodIn_of _ (by decide +kernel)) ggX5_readBreak_X5_breakIn
theorem dX5_readBreak_0 : decode cX5_readBreak 0 = .ok (.aload_n 0, 1) := by decide +kernel
theorem dX5_readBreak_1 : decode cX5_readBreak 1 = .ok (.iconst 0, 1) := by decide +kernel
theorem dX5_readBreak_2 : decode cX5_readBreak 2 = .ok (.aload_n 0, 1) := by decide +kernel
theorem dX5_readBreak_3 : decode cX5_readBreak 3 = .ok (.getfield 13, 3) := by decide +kernel
theorem dX5_readBreak_6 : decode cX5_readBreak 6 = .ok (.iconst 2, 1) := by decide +kernel
theorem dX5_readBreak_7 : decode cX5_readBreak 7 = .ok (.iaload, 1) := by decide +kernel
theorem dX5_readBreak_8 : decode cX5_readBreak 8 = .ok (.iconst 1, 1) := by decide +kernel
theorem dX5_readBreak_9 : decode cX5_readBreak 9 = .ok (.isub, 1) := by decide +kernel
theorem dX5_readBreak_10 : decode cX5_readBreak 10 = .ok (.invokevirtual 127, 3) := by decide +kernel
theorem dX5_readBreak_13 : decode cX5_readBreak 13 = .ok (.istore_n 1, 1) := by decide +kernel
theorem dX5_readBreak_14 : decode cX5_readBreak 14 = .ok (.aload_n 0, 1) := by decide +kernel
theorem dX5_readBreak_15 : decode cX5_readBreak 15 = .ok (.getfield 117, 3) := by decide +kernel
theorem dX5_readBreak_18 : decode cX5_readBreak 18 = .ok (.ifCond .eq 62, 3) := by decide +kernel
theorem dX5_readBreak_21 : decode cX5_readBreak 21 = .ok (.aload_n 0, 1) := by decide +kernel
theorem dX5_readBreak_22 : decode cX5_readBreak 22 = .ok (.getfield 13, 3) := by decide +kernel
theorem dX5_readBreak_25 : decode cX5_readBreak 25 = .ok (.bipush 7, 2) := by decide +kernel
theorem dX5_readBreak_27 : decode cX5_readBreak 27 = .ok (.iaload, 1) := by decide +kernel
theorem dX5_readBreak_28 : decode cX5_readBreak 28 = .ok (.iload_n 1, 1) := by decide +kernel
theorem dX5_readBreak_29 : decode cX5_readBreak 29 = .ok (.ishr, 1) := by decide +kernel
theorem dX5_readBreak_30 : decode cX5_readBreak 30 = .ok (.iconst 1, 1) := by decide +kernel
theorem dX5_readBreak_31 : decode cX5_readBreak 31 = .ok (.iand, 1) := by decide +kernel
theorem dX5_readBreak_32 : decode cX5_readBreak 32 = .ok (.ifCond .ne 7, 3) := by decide +kernel
theorem dX5_readBreak_35 : decode cX5_readBreak 35 = .ok (.iconst 1, 1) := by decide +kernel
theorem dX5_readBreak_36 : decode cX5_readBreak 36 = .ok (.goto 4, 3) := by decide +kernel
theorem dX5_readBreak_39 : decode cX5_readBreak 39 = .ok (.iconst 0, 1) := by decide +kernel
theorem dX5_readBreak_40 : decode cX5_readBreak 40 = .ok (.istore_n 2, 1) := by decide +kernel
theorem dX5_readBreak_41 : decode cX5_readBreak 41 = .ok (.iload_n 2, 1) := by decide +kernel
theorem dX5_readBreak_42 : decode cX5_readBreak 42 = .ok (.ifCond .eq 14, 3) := by decide +kernel
theorem dX5_readBreak_45 : decode cX5_readBreak 45 = .ok (.aload_n 0, 1) := by decide +kernel
theorem dX5_readBreak_46 : decode cX5_readBreak 46 = .ok (.getfield 13, 3) := by decide +kernel
theorem dX5_readBreak_49 : decode cX5_readBreak 49 = .ok (.iload_n 1, 1) := by decide +kernel
theorem dX5_readBreak_50 : decode cX5_readBreak 50 = .ok (.invokestatic 152, 3) := by decide +kernel
theorem dX5_readBreak_53 : decode cX5_readBreak 53 = .ok (.ifCond .eq 7, 3) := by decide +kernel
theorem dX5_readBreak_56 : decode cX5_readBreak 56 = .ok (.iconst 1, 1) := by decide +kernel
theorem dX5_readBreak_57 : decode cX5_readBreak 57 = .ok (.goto 4, 3) := by decide +kernel
theorem dX5_readBreak_60 : decode cX5_readBreak 60 = .ok (.iconst 0, 1) := by decide +kernel
theorem dX5_readBreak_61 : decode cX5_readBreak 61 = .ok (.istore_n 3, 1) := by decide +kernel
theorem dX5_readBreak_62 : decode cX5_readBreak 62 = .ok (.aload_n 0, 1) := by decide +kernel
theorem dX5_readBreak_63 : decode cX5_readBreak 63 = .ok (.iload_n 3, 1) := by decide +kernel
theorem dX5_readBreak_64 : decode cX5_readBreak 64 = .ok (.invokevirtual 142, 3) := by decide +kernel
theorem dX5_readBreak_67 : decode cX5_readBreak 67 = .ok (.iload_n 3, 1) := by decide +kernel
theorem dX5_readBreak_68 : decode cX5_readBreak 68 = .ok (.ifCond .eq 12, 3) := by decide +kernel
theorem dX5_readBreak_71 : decode cX5_readBreak 71 = .ok (.aload_n 0, 1) := by decide +kernel
theorem dX5_readBreak_72 : decode cX5_readBreak 72 = .ok (.getfield 13, 3) := by decide +kernel
theorem dX5_readBreak_75 : decode cX5_readBreak 75 = .ok (.iload_n 1, 1) := by decide +kernel
theorem dX5_readBreak_76 : decode cX5_readBreak 76 = .ok (.iload_n 2, 1) := by decide +kernel
theorem dX5_readBreak_77 : decode cX5_readBreak 77 = .ok (.invokestatic 155, 3) := by decide +kernel
theorem dX5_readBreak_80 : decode cX5_readBreak 80 = .ok (.return_, 1) := by decide +kernel
set_option maxRecDepth 20000 in
theorem ggX5_readCommand_X5_accept : GoodIn wsX5_readCommand wsX5_accept := goodIn_r _ [9, 3, 2, 115, 116, 117, 118, 119, 120, 121, 122, 123, 124, 125, 126, 127, 128] (by decide +kernel) (by decide +kernel)
set_option maxRecDepth 20000 in
theorem gX5_readCommand_X5_accept : GoodIn wsX5_readCommand (wsV RX5 123 RX5 yX5_accept wsX5_accept) := goodIn_app (goodIn_of _ (by decide +kernel)) ggX5_readCommand_X5_accept
set_option maxRecDepth 20000 in
theorem ggX5_readCommand_X5_readConnect : GoodIn wsX5_readCommand wsX5_readConnect := goodIn_r _ [13, 4, 3, 14, 15, 8, 16, 17, 18, 19, 20, 21, 22, 23, 24, 2, 25, 1, 26, 27, 28, 29, 5, 6, 7, 9, 30, 31, 32, 33, 34, 35, 36, 37, 38, 39, 40, 41, 42, 43, 44, 45, 46, 47, 48, 49, 50, 51, 52, 53, 54, 55, 56, 57, 58, 59, 60, 61, 62, 63, 64, 65, 66, 67, 68, 69, 70, 71, 72, 73, 74, 75, 76, 77, 78, 79, 80, 81, 82, 83, 115, 116, 117, 118, 119, 120, 121, 122, 123, 124, 125, 126, 127, 128] (by decide +kernel) (by decide +kernel)
set_option maxRecDepth 20000 in
theorem gX5_readCommand_X5_readConnect : GoodIn wsX5_readCommand (wsV RX5 159 RX5 yX5_readConnect wsX5_readConnect) := goodIn_app (goodIn_of _ (by decide +kernel)) ggX5_readCommand_X5_readConnect
set_option maxRecDepth 20000 in
theorem ggX5_readCommand_X5_readJoin : GoodIn wsX5_readCommand wsX5_readJoin := goodIn_r _ [87, 4, 3, 17, 18, 19, 8, 20, 21, 22, 23, 24, 2, 25, 1, 26, 27, 28, 29, 5, 6, 7, 9, 30, 31, 32, 88, 89, 90, 91, 46, 47, 48, 43, 44, 45, 92, 93, 94, 49, 50, 51, 52, 53, 54, 55, 56, 57, 58, 59, 60, 61, 62, 63, 64, 65, 66, 67, 68, 69, 70, 71, 72, 73, 74, 75, 76, 77, 78, 79, 80, 81, 82, 83, 115, 116, 117, 118, 119, 120, 121, 122, 123, 124, 125, 126, 127, 128] (by decide +kernel) (by decide +kernel)
set_option maxRecDepth 20000 in
theorem gX5_readCommand_X5_readJoin : GoodIn wsX5_readCommand (wsV RX5 162 RX5 yX5_readJoin wsX5_readJoin) := goodIn_app (goodIn_of _ (by decide +kernel)) ggX5_readCommand_X5_readJoin
set_option maxRecDepth 20000 in
theorem ggX5_readCommand_X5_readHang : GoodIn wsX5_readCommand wsX5_readHang := goodIn_r _ [98, 3, 4, 17, 18, 19, 8, 20, 21, 22, 23, 24, 2, 25, 1, 26, 27, 28, 29, 5, 6, 7, 9, 79, 80, 81, 82, 83, 99, 100, 101, 43, 44, 45, 102, 103, 104, 115, 116, 117, 118, 119, 120, 121, 122, 123, 124, 125, 126, 127, 128] (by decide +kernel) (by decide +kernel)
set_option maxRecDepth 20000 in
theorem gX5_readCommand_X5_readHang : GoodIn wsX5_readCommand (wsV RX5 165 RX5 yX5_readHang wsX5_readHang) := goodIn_app (goodIn_of _ (by decide +kernel)) ggX5_readCommand_X5_readHang
set_option maxRecDepth 20000 in
theorem ggX5_readCommand_X5_readBreak : GoodIn wsX5_readCommand wsX5_readBreak := goodIn_r _ [108, 4, 3, 21, 22, 23, 8, 24, 2, 25, 1, 26, 27, 28, 29, 5, 6, 7, 9, 109, 110, 111, 43, 44, 45, 79, 80, 81, 82, 83, 112, 113, 114, 115, 116, 117, 118, 119, 120, 121, 122, 123, 124, 125, 126, 127, 128] (by decide +kernel) (by decide +kernel)
set_option maxRecDepth 20000 in
theorem gX5_readCommand_X5_readBreak : GoodIn wsX5_readCommand (wsV RX5 168 RX5 yX5_readBreak wsX5_readBreak) := goodIn_app (goodIn_of _ (by decide +kernel)) ggX5_readCommand_X5_readBreak
set_option maxRecDepth 20000 in
theorem ggX5_readCommand_X5_digit : GoodIn wsX5_readCommand wsX5_digit := goodIn_r _ [24, 2, 25, 1, 26, 3, 27, 28, 8, 29, 5, 6, 7, 9, 115, 116, 117, 118, 119, 120, 121, 122, 123, 124, 125, 126, 127, 128] (by decide +kernel) (by decide +kernel)
set_option maxRecDepth 20000 in
theorem gX5_readCommand_X5_digit : GoodIn wsX5_readCommand (wsV RX5 127 RX5 yX5_digit wsX5_digit) := goodIn_app (goodIn_of _ (by decide +kernel)) ggX5_readCommand_X5_digit
theorem dX5_readCommand_0 : decode cX5_readCommand 0 = .ok (.aload_n 0, 1) := by decide +kernel
theorem dX5_readCommand_1 : decode cX5_readCommand 1 = .ok (.getfield 7, 3) := by decide +kernel
theorem dX5_readCommand_4 : decode cX5_readCommand 4 = .ok (.aload_n 0, 1) := by decide +kernel
theorem dX5_readCommand_5 : decode cX5_readCommand 5 = .ok (.getfield 114, 3) := by decide +kernel
theorem dX5_readCommand_8 : decode cX5_readCommand 8 = .ok (.iaload, 1) := by decide +kernel
theorem dX5_readCommand_9 : decode cX5_readCommand 9 = .ok (.istore_n 1, 1) := by decide +kernel
theorem dX5_readCommand_10 : decode cX5_readCommand 10 = .ok (.aload_n 0, 1) := by decide +kernel
theorem dX5_readCommand_11 : decode cX5_readCommand 11 = .ok (.iload_n 1, 1) := by decide +kernel
theorem dX5_readCommand_12 : decode cX5_readCommand 12 = .ok (.bipush 99, 2) := by decide +kernel
theorem dX5_readCommand_14 : decode cX5_readCommand 14 = .ok (.if_icmp .eq 27, 3) := by decide +kernel
theorem dX5_readCommand_17 : decode cX5_readCommand 17 = .ok (.iload_n 1, 1) := by decide +kernel
theorem dX5_readCommand_18 : decode cX5_readCommand 18 = .ok (.bipush 106, 2) := by decide +kernel
theorem dX5_readCommand_20 : decode cX5_readCommand 20 = .ok (.if_icmp .eq 21, 3) := by decide +kernel
theorem dX5_readCommand_23 : decode cX5_readCommand 23 = .ok (.iload_n 1, 1) := by decide +kernel
theorem dX5_readCommand_24 : decode cX5_readCommand 24 = .ok (.bipush 104, 2) := by decide +kernel
theorem dX5_readCommand_26 : decode cX5_readCommand 26 = .ok (.if_icmp .eq 15, 3) := by decide +kernel
theorem dX5_readCommand_29 : decode cX5_readCommand 29 = .ok (.iload_n 1, 1) := by decide +kernel
theorem dX5_readCommand_30 : decode cX5_readCommand 30 = .ok (.bipush 98, 2) := by decide +kernel
theorem dX5_readCommand_32 : decode cX5_readCommand 32 = .ok (.if_icmp .eq 9, 3) := by decide +kernel
theorem dX5_readCommand_35 : decode cX5_readCommand 35 = .ok (.iload_n 1, 1) := by decide +kernel
theorem dX5_readCommand_36 : decode cX5_readCommand 36 = .ok (.bipush 112, 2) := by decide +kernel
theorem dX5_readCommand_38 : decode cX5_readCommand 38 = .ok (.if_icmp .ne 7, 3) := by decide +kernel
theorem dX5_readCommand_41 : decode cX5_readCommand 41 = .ok (.iconst 1, 1) := by decide +kernel
theorem dX5_readCommand_42 : decode cX5_readCommand 42 = .ok (.goto 4, 3) := by decide +kernel
theorem dX5_readCommand_45 : decode cX5_readCommand 45 = .ok (.iconst 0, 1) := by decide +kernel
theorem dX5_readCommand_46 : decode cX5_readCommand 46 = .ok (.invokevirtual 123, 3) := by decide +kernel
theorem dX5_readCommand_49 : decode cX5_readCommand 49 = .ok (.aload_n 0, 1) := by decide +kernel
theorem dX5_readCommand_50 : decode cX5_readCommand 50 = .ok (.getfield 117, 3) := by decide +kernel
theorem dX5_readCommand_53 : decode cX5_readCommand 53 = .ok (.ifCond .ne 4, 3) := by decide +kernel
theorem dX5_readCommand_56 : decode cX5_readCommand 56 = .ok (.return_, 1) := by decide +kernel
theorem dX5_readCommand_57 : decode cX5_readCommand 57 = .ok (.iload_n 1, 1) := by decide +kernel
theorem dX5_readCommand_58 : decode cX5_readCommand 58 = .ok (.bipush 99, 2) := by decide +kernel
theorem dX5_readCommand_60 : decode cX5_readCommand 60 = .ok (.if_icmp .ne 10, 3) := by decide +kernel
theorem dX5_readCommand_63 : decode cX5_readCommand 63 = .ok (.aload_n 0, 1) := by decide +kernel
theorem dX5_readCommand_64 : decode cX5_readCommand 64 = .ok (.invokevirtual 159, 3) := by decide +kernel
theorem dX5_readCommand_67 : decode cX5_readCommand 67 = .ok (.goto 72, 3) := by decide +kernel
theorem dX5_readCommand_70 : decode cX5_readCommand 70 = .ok (.iload_n 1, 1) := by decide +kernel
theorem dX5_readCommand_71 : decode cX5_readCommand 71 = .ok (.bipush 106, 2) := by decide +kernel
theorem dX5_readCommand_73 : decode cX5_readCommand 73 = .ok (.if_icmp .ne 10, 3) := by decide +kernel
theorem dX5_readCommand_76 : decode cX5_readCommand 76 = .ok (.aload_n 0, 1) := by decide +kernel
theorem dX5_readCommand_77 : decode cX5_readCommand 77 = .ok (.invokevirtual 162, 3) := by decide +kernel
theorem dX5_readCommand_80 : decode cX5_readCommand 80 = .ok (.goto 59, 3) := by decide +kernel
theorem dX5_readCommand_83 : decode cX5_readCommand 83 = .ok (.iload_n 1, 1) := by decide +kernel
theorem dX5_readCommand_84 : decode cX5_readCommand 84 = .ok (.bipush 104, 2) := by decide +kernel
theorem dX5_readCommand_86 : decode cX5_readCommand 86 = .ok (.if_icmp .ne 10, 3) := by decide +kernel
theorem dX5_readCommand_89 : decode cX5_readCommand 89 = .ok (.aload_n 0, 1) := by decide +kernel
theorem dX5_readCommand_90 : decode cX5_readCommand 90 = .ok (.invokevirtual 165, 3) := by decide +kernel
theorem dX5_readCommand_93 : decode cX5_readCommand 93 = .ok (.goto 46, 3) := by decide +kernel
theorem dX5_readCommand_96 : decode cX5_readCommand 96 = .ok (.iload_n 1, 1) := by decide +kernel
theorem dX5_readCommand_97 : decode cX5_readCommand 97 = .ok (.bipush 98, 2) := by decide +kernel
theorem dX5_readCommand_99 : decode cX5_readCommand 99 = .ok (.if_icmp .ne 10, 3) := by decide +kernel
theorem dX5_readCommand_102 : decode cX5_readCommand 102 = .ok (.aload_n 0, 1) := by decide +kernel
theorem dX5_readCommand_103 : decode cX5_readCommand 103 = .ok (.invokevirtual 168, 3) := by decide +kernel
theorem dX5_readCommand_106 : decode cX5_readCommand 106 = .ok (.goto 33, 3) := by decide +kernel
theorem dX5_readCommand_109 : decode cX5_readCommand 109 = .ok (.aload_n 0, 1) := by decide +kernel
theorem dX5_readCommand_110 : decode cX5_readCommand 110 = .ok (.iconst 0, 1) := by decide +kernel
theorem dX5_readCommand_111 : decode cX5_readCommand 111 = .ok (.iconst 3, 1) := by decide +kernel
theorem dX5_readCommand_112 : decode cX5_readCommand 112 = .ok (.invokevirtual 127, 3) := by decide +kernel
theorem dX5_readCommand_115 : decode cX5_readCommand 115 = .ok (.istore_n 2, 1) := by decide +kernel
theorem dX5_readCommand_116 : decode cX5_readCommand 116 = .ok (.aload_n 0, 1) := by decide +kernel
theorem dX5_readCommand_117 : decode cX5_readCommand 117 = .ok (.getfield 13, 3) := by decide +kernel
theorem dX5_readCommand_120 : decode cX5_readCommand 120 = .ok (.iconst 5, 1) := by decide +kernel
theorem dX5_readCommand_121 : decode cX5_readCommand 121 = .ok (.aload_n 0, 1) := by decide +kernel
theorem dX5_readCommand_122 : decode cX5_readCommand 122 = .ok (.getfield 117, 3) := by decide +kernel
theorem dX5_readCommand_125 : decode cX5_readCommand 125 = .ok (.ifCond .eq 7, 3) := by decide +kernel
theorem dX5_readCommand_128 : decode cX5_readCommand 128 = .ok (.iload_n 2, 1) := by decide +kernel
theorem dX5_readCommand_129 : decode cX5_readCommand 129 = .ok (.goto 9, 3) := by decide +kernel
theorem dX5_readCommand_132 : decode cX5_readCommand 132 = .ok (.aload_n 0, 1) := by decide +kernel
theorem dX5_readCommand_133 : decode cX5_readCommand 133 = .ok (.getfield 13, 3) := by decide +kernel
theorem dX5_readCommand_136 : decode cX5_readCommand 136 = .ok (.iconst 5, 1) := by decide +kernel
theorem dX5_readCommand_137 : decode cX5_readCommand 137 = .ok (.iaload, 1) := by decide +kernel
theorem dX5_readCommand_138 : decode cX5_readCommand 138 = .ok (.iastore, 1) := by decide +kernel
theorem dX5_readCommand_139 : decode cX5_readCommand 139 = .ok (.return_, 1) := by decide +kernel
set_option maxRecDepth 20000 in
theorem ggX5_readText_X5_isNext : GoodIn wsX5_readText wsX5_isNext := goodIn_r _ [10, 1, 5, 11, 126, 127, 128, 129, 130, 131, 132, 133, 134, 135, 136, 137, 138, 139] (by decide +kernel) (by decide +kernel)
set_option maxRecDepth 20000 in
theorem gX5_readText_X5_isNext : GoodIn wsX5_readText (wsV RX5 171 RX5 yX5_isNext wsX5_isNext) := goodIn_app (goodIn_of _ (by decide +kernel)) ggX5_readText_X5_isNext
set_option maxRecDepth 20000 in
theorem ggX5_readText_X5_accept : GoodIn wsX5_readText wsX5_accept := goodIn_r _ [15, 2, 1, 126, 127, 128, 129, 130, 131, 132, 133, 134, 135, 136, 137, 138, 139] (by decide +kernel) (by decide +kernel)
set_option maxRecDepth 20000 in
theorem gX5_readText_X5_accept : GoodIn wsX5_readText (wsV RX5 123 RX5 yX5_accept wsX5_accept) := goodIn_app (goodIn_of _ (by decide +kernel)) ggX5_readText_X5_accept
set_option maxRecDepth 20000 in
theorem ggX5_readText_X5_digit : GoodIn wsX5_readText wsX5_digit := goodIn_r _ [19, 1, 5, 11, 20, 2, 21, 22, 9, 23, 12, 13, 14, 15, 126, 127, 128, 129, 130, 131, 132, 133, 134, 135, 136, 137, 138, 139] (by decide +kernel) (by decide +kernel)
set_option maxRecDepth 20000 in
theorem gX5_readText_X5_digit : GoodIn wsX5_readText (wsV RX5 127 RX5 yX5_digit wsX5_digit) := goodIn_app (goodIn_of _ (by decide +kernel)) ggX5_readText_X5_digit
set_option maxRecDepth 20000 in
theorem ggX5_readText_X5_clean : GoodIn wsX5_readText wsX5_clean := goodIn_r _ [26] (by decide +kernel) (by decide +kernel)
set_option maxRecDepth 20000 in
theorem gX5_readText_X5_clean : GoodIn wsX5_readText (va_wsS RX5 35 yX5_clean wsX5_clean) := goodIn_app (goodIn_of _ (by decide +kernel)) ggX5_readText_X5_clean
set_option maxRecDepth 20000 in
theorem ggX5_readText_X5_readCommand : GoodIn wsX5_readText wsX5_readCommand := goodIn_r _ [30, 11, 1, 2, 4, 12, 13, 14, 9, 15, 31, 32, 33, 34, 35, 36, 37, 38, 39, 40, 41, 16, 17, 18, 19, 5, 20, 21, 22, 23, 42, 43, 44, 45, 46, 47, 48, 49, 50, 51, 52, 53, 54, 55, 56, 57, 58, 59, 60, 61, 62, 63, 64, 65, 66, 67, 68, 69, 70, 71, 72, 73, 74, 75, 76, 77, 78, 79, 80, 81, 82, 83, 84, 85, 86, 87, 88, 89, 90, 91, 92, 93, 94, 3, 95, 96, 97, 98, 99, 100, 101, 102, 103, 104, 105, 106, 107, 108, 109, 110, 111, 112, 113, 114, 115, 116, 117, 118, 119, 120, 121, 122, 123, 124, 125, 126, 127, 128, 129, 130, 131, 132, 133, 134, 135, 136, 137, 138, 139] (by decide +kernel) (by decide +kernel)
set_option maxRecDepth 20000 in
theorem gX5_readText_X5_readCommand : GoodIn wsX5_readText (wsV RX5 174 RX5 yX5_readCommand wsX5_readCommand) := goodIn_app (goodIn_of _ (by decide +kernel)) ggX5_readText_X5_readCommand
theorem dX5_readText_0 : decode cX5_readText 0 = .ok (.aload_n 0, 1) := by decide +kernel
theorem dX5_readText_1 : decode cX5_readText 1 = .ok (.iconst 0, 1) := by decide +kernel
theorem dX5_readText_2 : decode cX5_readText 2 = .ok (.putfield 114, 3) := by decide +kernel
theorem dX5_readText_5 : decode cX5_readText 5 = .ok (.aload_n 0, 1) := by decide +kernel
theorem dX5_readText_6 : decode cX5_readText 6 = .ok (.iconst 1, 1) := by decide +kernel
theorem dX5_readText_7 : decode cX5_readText 7 = .ok (.putfield 117, 3) := by decide +kernel
theorem dX5_readText_10 : decode cX5_readText 10 = .ok (.aload_n 0, 1) := by decide +kernel
theorem dX5_readText_11 : decode cX5_readText 11 = .ok (.iconst 0, 1) := by decide +kernel
theorem dX5_readText_12 : decode cX5_readText 12 = .ok (.putfield 130, 3) := by decide +kernel
theorem dX5_readText_15 : decode cX5_readText 15 = .ok (.aload_n 0, 1) := by decide +kernel
theorem dX5_readText_16 : decode cX5_readText 16 = .ok (.aload_n 0, 1) := by decide +kernel
theorem dX5_readText_17 : decode cX5_readText 17 = .ok (.bipush 67, 2) := by decide +kernel
theorem dX5_readText_19 : decode cX5_readText 19 = .ok (.invokevirtual 171, 3) := by decide +kernel
theorem dX5_readText_22 : decode cX5_readText 22 = .ok (.invokevirtual 123, 3) := by decide +kernel
theorem dX5_readText_25 : decode cX5_readText 25 = .ok (.aload_n 0, 1) := by decide +kernel
theorem dX5_readText_26 : decode cX5_readText 26 = .ok (.iconst 1, 1) := by decide +kernel
theorem dX5_readText_27 : decode cX5_readText 27 = .ok (.iconst 4, 1) := by decide +kernel
theorem dX5_readText_28 : decode cX5_readText 28 = .ok (.invokevirtual 127, 3) := by decide +kernel
theorem dX5_readText_31 : decode cX5_readText 31 = .ok (.istore_n 1, 1) := by decide +kernel
theorem dX5_readText_32 : decode cX5_readText 32 = .ok (.aload_n 0, 1) := by decide +kernel
theorem dX5_readText_33 : decode cX5_readText 33 = .ok (.iconst 1, 1) := by decide +kernel
theorem dX5_readText_34 : decode cX5_readText 34 = .ok (.iconst 4, 1) := by decide +kernel
theorem dX5_readText_35 : decode cX5_readText 35 = .ok (.invokevirtual 127, 3) := by decide +kernel
theorem dX5_readText_38 : decode cX5_readText 38 = .ok (.istore_n 2, 1) := by decide +kernel
theorem dX5_readText_39 : decode cX5_readText 39 = .ok (.aload_n 0, 1) := by decide +kernel
theorem dX5_readText_40 : decode cX5_readText 40 = .ok (.iconst 1, 1) := by decide +kernel
theorem dX5_readText_41 : decode cX5_readText 41 = .ok (.iconst 4, 1) := by decide +kernel
theorem dX5_readText_42 : decode cX5_readText 42 = .ok (.invokevirtual 127, 3) := by decide +kernel
theorem dX5_readText_45 : decode cX5_readText 45 = .ok (.istore_n 3, 1) := by decide +kernel
theorem dX5_readText_46 : decode cX5_readText 46 = .ok (.aload_n 0, 1) := by decide +kernel
theorem dX5_readText_47 : decode cX5_readText 47 = .ok (.getfield 13, 3) := by decide +kernel
theorem dX5_readText_50 : decode cX5_readText 50 = .ok (.iload_n 1, 1) := by decide +kernel
theorem dX5_readText_51 : decode cX5_readText 51 = .ok (.iload_n 2, 1) := by decide +kernel
theorem dX5_readText_52 : decode cX5_readText 52 = .ok (.iload_n 3, 1) := by decide +kernel
theorem dX5_readText_53 : decode cX5_readText 53 = .ok (.aload_n 0, 1) := by decide +kernel
theorem dX5_readText_54 : decode cX5_readText 54 = .ok (.iconst 1, 1) := by decide +kernel
theorem dX5_readText_55 : decode cX5_readText 55 = .ok (.iconst 4, 1) := by decide +kernel
theorem dX5_readText_56 : decode cX5_readText 56 = .ok (.invokevirtual 127, 3) := by decide +kernel
theorem dX5_readText_59 : decode cX5_readText 59 = .ok (.invokestatic 35, 3) := by decide +kernel
theorem dX5_readText_62 : decode cX5_readText 62 = .ok (.aload_n 0, 1) := by decide +kernel
theorem dX5_readText_63 : decode cX5_readText 63 = .ok (.getfield 117, 3) := by decide +kernel
theorem dX5_readText_66 : decode cX5_readText 66 = .ok (.ifCond .eq 21, 3) := by decide +kernel
theorem dX5_readText_69 : decode cX5_readText 69 = .ok (.aload_n 0, 1) := by decide +kernel
theorem dX5_readText_70 : decode cX5_readText 70 = .ok (.getfield 114, 3) := by decide +kernel
theorem dX5_readText_73 : decode cX5_readText 73 = .ok (.aload_n 0, 1) := by decide +kernel
theorem dX5_readText_74 : decode cX5_readText 74 = .ok (.getfield 107, 3) := by decide +kernel
theorem dX5_readText_77 : decode cX5_readText 77 = .ok (.if_icmp .ge 10, 3) := by decide +kernel
theorem dX5_readText_80 : decode cX5_readText 80 = .ok (.aload_n 0, 1) := by decide +kernel
theorem dX5_readText_81 : decode cX5_readText 81 = .ok (.invokevirtual 174, 3) := by decide +kernel
theorem dX5_readText_84 : decode cX5_readText 84 = .ok (.goto (-22), 3) := by decide +kernel
theorem dX5_readText_87 : decode cX5_readText 87 = .ok (.aload_n 0, 1) := by decide +kernel
theorem dX5_readText_88 : decode cX5_readText 88 = .ok (.getfield 117, 3) := by decide +kernel
theorem dX5_readText_91 : decode cX5_readText 91 = .ok (.ifCond .eq 7, 3) := by decide +kernel
theorem dX5_readText_94 : decode cX5_readText 94 = .ok (.iconst (-1), 1) := by decide +kernel
theorem dX5_readText_95 : decode cX5_readText 95 = .ok (.goto 7, 3) := by decide +kernel
theorem dX5_readText_98 : decode cX5_readText 98 = .ok (.aload_n 0, 1) := by decide +kernel
theorem dX5_readText_99 : decode cX5_readText 99 = .ok (.getfield 114, 3) := by decide +kernel
theorem dX5_readText_102 : decode cX5_readText 102 = .ok (.ireturn, 1) := by decide +kernel
set_option maxRecDepth 20000 in
theorem ggX5_errorPosition_X5_readText : GoodIn wsX5_errorPosition wsX5_readText := goodIn_r _ [6, 7, 8, 9, 10, 11, 12, 13, 14, 5, 15, 16, 17, 18, 19, 20, 21, 22, 23, 24, 25, 26, 27, 28, 29, 30, 31, 32, 33, 34, 35, 36, 37, 38, 39, 40, 41, 42, 43, 44, 45, 46, 47, 48, 49, 50, 51, 52, 53, 54, 55, 56, 57, 58, 59, 60, 61, 62, 63, 64, 65, 66, 67, 68, 69, 70, 71, 72, 73, 74, 75, 76, 77, 78, 79, 80, 81, 82, 83, 84, 85, 86, 87, 88, 89, 90, 91, 92, 93, 94, 95, 96, 97, 98, 99, 100, 101, 102, 103, 104, 105, 106, 107, 108, 109, 110, 111, 112, 113, 114, 115, 116, 117, 118, 119, 120, 121, 122, 123, 124, 125, 126, 127, 128, 129, 130, 131, 132, 133, 134, 135, 136, 137, 138, 139, 140, 141, 142, 143, 144] (by decide +kernel) (by decide +kernel)
set_option maxRecDepth 20000 in
theorem gX5_errorPosition_X5_readText : GoodIn wsX5_errorPosition (wsV RX5 177 RX5 yX5_readText wsX5_readText) := goodIn_app (goodIn_of _ (by decide +kernel)) ggX5_errorPosition_X5_readText
theorem dX5_errorPosition_0 : decode cX5_errorPosition 0 = .ok (.aload_n 0, 1) := by decide +kernel
theorem dX5_errorPosition_1 : decode cX5_errorPosition 1 = .ok (.iconst 0, 1) := by decide +kernel
theorem dX5_errorPosition_2 : decode cX5_errorPosition 2 = .ok (.putfield 39, 3) := by decide +kernel
theorem dX5_errorPosition_5 : decode cX5_errorPosition 5 = .ok (.aload_n 0, 1) := by decide +kernel
theorem dX5_errorPosition_6 : decode cX5_errorPosition 6 = .ok (.invokevirtual 177, 3) := by decide +kernel
theorem dX5_errorPosition_9 : decode cX5_errorPosition 9 = .ok (.ireturn, 1) := by decide +kernel
set_option maxRecDepth 20000 in
theorem ggX5_load_X5_readText : GoodIn wsX5_load wsX5_readText := goodIn_r _ [10, 11, 12, 5, 1, 13, 14, 15, 16, 9, 17, 18, 19, 20, 21, 22, 23, 24, 25, 26, 27, 28, 29, 30, 31, 32, 33, 34, 35, 36, 37, 38, 39, 40, 41, 42, 43, 44, 45, 46, 47, 48, 49, 50, 51, 52, 53, 54, 55, 56, 57, 58, 59, 60, 61, 62, 63, 64, 65, 66, 67, 68, 69, 70, 71, 72, 73, 74, 75, 76, 77, 78, 79, 80, 81, 82, 83, 84, 85, 86, 87, 88, 89, 90, 91, 92, 93, 94, 95, 96, 97, 98, 99, 100, 101, 102, 103, 104, 105, 106, 107, 108, 109, 110, 111, 112, 113, 114, 115, 116, 117, 118, 119, 120, 121, 122, 123, 124, 125, 126, 127, 128, 129, 130, 131, 132, 138, 139, 140, 141, 142, 143, 144, 145, 146, 147, 148, 149, 150, 151] (by decide +kernel) (by decide +kernel)
set_option maxRecDepth 20000 in
theorem gX5_load_X5_readText : GoodIn wsX5_load (wsV RX5 177 RX5 yX5_readText wsX5_readText) := goodIn_app (goodIn_of _ (by decide +kernel)) ggX5_load_X5_readText
set_option maxRecDepth 20000 in
theorem ggX5_load_X5_refused : GoodIn wsX5_load wsX5_refused := goodIn_r _ [136, 137, 138, 139, 140, 141, 142, 143, 144, 145, 146, 147, 148, 149, 150, 151] (by decide +kernel) (by decide +kernel)
set_option maxRecDepth 20000 in
theorem gX5_load_X5_refused : GoodIn wsX5_load (wsV RX5 110 RX5 yX5_refused wsX5_refused) := goodIn_app (goodIn_of _ (by decide +kernel)) ggX5_load_X5_refused
set_option maxRecDepth 20000 in
theorem ggX5_load_X5_copy : GoodIn wsX5_load wsX5_copy := goodIn_r _ [122] (by decide +kernel) (by decide +kernel)
set_option maxRecDepth 20000 in
theorem gX5_load_X5_copy : GoodIn wsX5_load (va_wsS RX5 48 yX5_copy wsX5_copy) := goodIn_app (goodIn_of _ (by decide +kernel)) ggX5_load_X5_copy
theorem dX5_load_0 : decode cX5_load 0 = .ok (.aload_n 0, 1) := by decide +kernel
theorem dX5_load_1 : decode cX5_load 1 = .ok (.aload_n 0, 1) := by decide +kernel
theorem dX5_load_2 : decode cX5_load 2 = .ok (.invokevirtual 177, 3) := by decide +kernel
theorem dX5_load_5 : decode cX5_load 5 = .ok (.iconst (-1), 1) := by decide +kernel
theorem dX5_load_6 : decode cX5_load 6 = .ok (.if_icmp .ne 7, 3) := by decide +kernel
theorem dX5_load_9 : decode cX5_load 9 = .ok (.iconst 0, 1) := by decide +kernel
theorem dX5_load_10 : decode cX5_load 10 = .ok (.goto 4, 3) := by decide +kernel
theorem dX5_load_13 : decode cX5_load 13 = .ok (.iconst 1, 1) := by decide +kernel
theorem dX5_load_14 : decode cX5_load 14 = .ok (.invokevirtual 110, 3) := by decide +kernel
theorem dX5_load_17 : decode cX5_load 17 = .ok (.ifCond .eq 5, 3) := by decide +kernel
theorem dX5_load_20 : decode cX5_load 20 = .ok (.iconst 0, 1) := by decide +kernel
theorem dX5_load_21 : decode cX5_load 21 = .ok (.ireturn, 1) := by decide +kernel
theorem dX5_load_22 : decode cX5_load 22 = .ok (.aload_n 0, 1) := by decide +kernel
theorem dX5_load_23 : decode cX5_load 23 = .ok (.getfield 13, 3) := by decide +kernel
theorem dX5_load_26 : decode cX5_load 26 = .ok (.iconst 0, 1) := by decide +kernel
theorem dX5_load_27 : decode cX5_load 27 = .ok (.aload_n 0, 1) := by decide +kernel
theorem dX5_load_28 : decode cX5_load 28 = .ok (.getfield 16, 3) := by decide +kernel
theorem dX5_load_31 : decode cX5_load 31 = .ok (.iconst 0, 1) := by decide +kernel
theorem dX5_load_32 : decode cX5_load 32 = .ok (.bipush 104, 2) := by decide +kernel
theorem dX5_load_34 : decode cX5_load 34 = .ok (.invokestatic 48, 3) := by decide +kernel
theorem dX5_load_37 : decode cX5_load 37 = .ok (.aload_n 0, 1) := by decide +kernel
theorem dX5_load_38 : decode cX5_load 38 = .ok (.iconst 0, 1) := by decide +kernel
theorem dX5_load_39 : decode cX5_load 39 = .ok (.putfield 45, 3) := by decide +kernel
theorem dX5_load_42 : decode cX5_load 42 = .ok (.aload_n 0, 1) := by decide +kernel
theorem dX5_load_43 : decode cX5_load 43 = .ok (.getfield 28, 3) := by decide +kernel
theorem dX5_load_46 : decode cX5_load 46 = .ok (.iconst 0, 1) := by decide +kernel
theorem dX5_load_47 : decode cX5_load 47 = .ok (.iconst 0, 1) := by decide +kernel
theorem dX5_load_48 : decode cX5_load 48 = .ok (.bastore, 1) := by decide +kernel
theorem dX5_load_49 : decode cX5_load 49 = .ok (.aload_n 0, 1) := by decide +kernel
theorem dX5_load_50 : decode cX5_load 50 = .ok (.getfield 28, 3) := by decide +kernel
theorem dX5_load_53 : decode cX5_load 53 = .ok (.iconst 1, 1) := by decide +kernel
theorem dX5_load_54 : decode cX5_load 54 = .ok (.iconst 0, 1) := by decide +kernel
theorem dX5_load_55 : decode cX5_load 55 = .ok (.bastore, 1) := by decide +kernel
theorem dX5_load_56 : decode cX5_load 56 = .ok (.aload_n 0, 1) := by decide +kernel
theorem dX5_load_57 : decode cX5_load 57 = .ok (.getfield 130, 3) := by decide +kernel
theorem dX5_load_60 : decode cX5_load 60 = .ok (.ireturn, 1) := by decide +kernel
set_option maxRecDepth 20000 in
theorem ggX5_about_X5_in : GoodIn wsX5_about wsX5_in := goodIn_r _ [6] (by decide +kernel) (by decide +kernel)
set_option maxRecDepth 20000 in
theorem gX5_about_X5_in : GoodIn wsX5_about (va_wsS RX5 103 yX5_in wsX5_in) := goodIn_app (goodIn_of _ (by decide +kernel)) ggX5_about_X5_in
set_option maxRecDepth 20000 in
theorem ggX5_about_X5_refused : GoodIn wsX5_about wsX5_refused := goodIn_r _ [10, 11, 27, 28, 29, 30, 31, 32, 33, 34, 35, 36, 37, 38, 39, 40] (by decide +kernel) (by decide +kernel)
set_option maxRecDepth 20000 in
theorem gX5_about_X5_refused : GoodIn wsX5_about (wsV RX5 110 RX5 yX5_refused wsX5_refused) := goodIn_app (goodIn_of _ (by decide +kernel)) ggX5_about_X5_refused
set_option maxRecDepth 20000 in
theorem ggX5_about_X5_links : GoodIn wsX5_about wsX5_links := goodIn_r _ [14, 15, 16, 5, 17, 18, 19, 20, 21, 22, 23, 24, 25, 26] (by decide +kernel) (by decide +kernel)
set_option maxRecDepth 20000 in
theorem gX5_about_X5_links : GoodIn wsX5_about (va_wsS RX5 181 yX5_links wsX5_links) := goodIn_app (goodIn_of _ (by decide +kernel)) ggX5_about_X5_links
set_option maxRecDepth 20000 in
theorem ggX5_about_X5_callAt : GoodIn wsX5_about wsX5_callAt := goodIn_r _ [23] (by decide +kernel) (by decide +kernel)
set_option maxRecDepth 20000 in
theorem gX5_about_X5_callAt : GoodIn wsX5_about (va_wsS RX5 56 yX5_callAt wsX5_callAt) := goodIn_app (goodIn_of _ (by decide +kernel)) ggX5_about_X5_callAt
set_option maxRecDepth 20000 in
theorem ggX5_about_X5_bits : GoodIn wsX5_about wsX5_bits := goodIn_r _ [26] (by decide +kernel) (by decide +kernel)
set_option maxRecDepth 20000 in
theorem gX5_about_X5_bits : GoodIn wsX5_about (va_wsS RX5 67 yX5_bits wsX5_bits) := goodIn_app (goodIn_of _ (by decide +kernel)) ggX5_about_X5_bits
theorem dX5_about_0 : decode cX5_about 0 = .ok (.aload_n 0, 1) := by decide +kernel
theorem dX5_about_1 : decode cX5_about 1 = .ok (.iload_n 1, 1) := by decide +kernel
theorem dX5_about_2 : decode cX5_about 2 = .ok (.i2l, 1) := by decide +kernel
theorem dX5_about_3 : decode cX5_about 3 = .ok (.lconst 0, 1) := by decide +kernel
theorem dX5_about_4 : decode cX5_about 4 = .ok (.ldc2_w 121, 3) := by decide +kernel
theorem dX5_about_7 : decode cX5_about 7 = .ok (.invokestatic 103, 3) := by decide +kernel
theorem dX5_about_10 : decode cX5_about 10 = .ok (.ifCond .eq 7, 3) := by decide +kernel
theorem dX5_about_13 : decode cX5_about 13 = .ok (.iconst 0, 1) := by decide +kernel
theorem dX5_about_14 : decode cX5_about 14 = .ok (.goto 4, 3) := by decide +kernel
theorem dX5_about_17 : decode cX5_about 17 = .ok (.iconst 1, 1) := by decide +kernel
theorem dX5_about_18 : decode cX5_about 18 = .ok (.invokevirtual 110, 3) := by decide +kernel
theorem dX5_about_21 : decode cX5_about 21 = .ok (.ifCond .eq 5, 3) := by decide +kernel
theorem dX5_about_24 : decode cX5_about 24 = .ok (.iconst 0, 1) := by decide +kernel
theorem dX5_about_25 : decode cX5_about 25 = .ok (.ireturn, 1) := by decide +kernel
theorem dX5_about_26 : decode cX5_about 26 = .ok (.iload_n 1, 1) := by decide +kernel
theorem dX5_about_27 : decode cX5_about 27 = .ok (.bipush 7, 2) := by decide +kernel
theorem dX5_about_29 : decode cX5_about 29 = .ok (.if_icmp .ne 11, 3) := by decide +kernel
theorem dX5_about_32 : decode cX5_about 32 = .ok (.aload_n 0, 1) := by decide +kernel
theorem dX5_about_33 : decode cX5_about 33 = .ok (.getfield 16, 3) := by decide +kernel
theorem dX5_about_36 : decode cX5_about 36 = .ok (.invokestatic 181, 3) := by decide +kernel
theorem dX5_about_39 : decode cX5_about 39 = .ok (.ireturn, 1) := by decide +kernel
theorem dX5_about_40 : decode cX5_about 40 = .ok (.iload_n 1, 1) := by decide +kernel
theorem dX5_about_41 : decode cX5_about 41 = .ok (.bipush 8, 2) := by decide +kernel
theorem dX5_about_43 : decode cX5_about 43 = .ok (.if_icmp .ne 11, 3) := by decide +kernel
theorem dX5_about_46 : decode cX5_about 46 = .ok (.aload_n 0, 1) := by decide +kernel
theorem dX5_about_47 : decode cX5_about 47 = .ok (.getfield 16, 3) := by decide +kernel
theorem dX5_about_50 : decode cX5_about 50 = .ok (.bipush 7, 2) := by decide +kernel
theorem dX5_about_52 : decode cX5_about 52 = .ok (.iaload, 1) := by decide +kernel
theorem dX5_about_53 : decode cX5_about 53 = .ok (.ireturn, 1) := by decide +kernel
theorem dX5_about_54 : decode cX5_about 54 = .ok (.iload_n 1, 1) := by decide +kernel
theorem dX5_about_55 : decode cX5_about 55 = .ok (.bipush 9, 2) := by decide +kernel
theorem dX5_about_57 : decode cX5_about 57 = .ok (.if_icmp .ge 10, 3) := by decide +kernel
theorem dX5_about_60 : decode cX5_about 60 = .ok (.aload_n 0, 1) := by decide +kernel
theorem dX5_about_61 : decode cX5_about 61 = .ok (.getfield 16, 3) := by decide +kernel
theorem dX5_about_64 : decode cX5_about 64 = .ok (.iload_n 1, 1) := by decide +kernel
theorem dX5_about_65 : decode cX5_about 65 = .ok (.iaload, 1) := by decide +kernel
theorem dX5_about_66 : decode cX5_about 66 = .ok (.ireturn, 1) := by decide +kernel
theorem dX5_about_67 : decode cX5_about 67 = .ok (.iconst 0, 1) := by decide +kernel
theorem dX5_about_68 : decode cX5_about 68 = .ok (.istore_n 2, 1) := by decide +kernel
theorem dX5_about_69 : decode cX5_about 69 = .ok (.iconst 0, 1) := by decide +kernel
theorem dX5_about_70 : decode cX5_about 70 = .ok (.istore_n 3, 1) := by decide +kernel
theorem dX5_about_71 : decode cX5_about 71 = .ok (.iload_n 3, 1) := by decide +kernel
theorem dX5_about_72 : decode cX5_about 72 = .ok (.aload_n 0, 1) := by decide +kernel
theorem dX5_about_73 : decode cX5_about 73 = .ok (.getfield 16, 3) := by decide +kernel
theorem dX5_about_76 : decode cX5_about 76 = .ok (.iconst 4, 1) := by decide +kernel
theorem dX5_about_77 : decode cX5_about 77 = .ok (.iaload, 1) := by decide +kernel
theorem dX5_about_78 : decode cX5_about 78 = .ok (.if_icmp .ge 25, 3) := by decide +kernel
theorem dX5_about_81 : decode cX5_about 81 = .ok (.iload_n 2, 1) := by decide +kernel
theorem dX5_about_82 : decode cX5_about 82 = .ok (.aload_n 0, 1) := by decide +kernel
theorem dX5_about_83 : decode cX5_about 83 = .ok (.getfield 16, 3) := by decide +kernel
theorem dX5_about_86 : decode cX5_about 86 = .ok (.iload_n 3, 1) := by decide +kernel
theorem dX5_about_87 : decode cX5_about 87 = .ok (.iconst 1, 1) := by decide +kernel
theorem dX5_about_88 : decode cX5_about 88 = .ok (.invokestatic 56, 3) := by decide +kernel
theorem dX5_about_91 : decode cX5_about 91 = .ok (.iaload, 1) := by decide +kernel
theorem dX5_about_92 : decode cX5_about 92 = .ok (.invokestatic 67, 3) := by decide +kernel
theorem dX5_about_95 : decode cX5_about 95 = .ok (.iadd, 1) := by decide +kernel
theorem dX5_about_96 : decode cX5_about 96 = .ok (.istore_n 2, 1) := by decide +kernel
theorem dX5_about_97 : decode cX5_about 97 = .ok (.iinc 3 1, 3) := by decide +kernel
theorem dX5_about_100 : decode cX5_about 100 = .ok (.goto (-29), 3) := by decide +kernel
theorem dX5_about_103 : decode cX5_about 103 = .ok (.iload_n 2, 1) := by decide +kernel
theorem dX5_about_104 : decode cX5_about 104 = .ok (.ireturn, 1) := by decide +kernel
set_option maxRecDepth 20000 in
theorem ggX5_isCall_X5_in : GoodIn wsX5_isCall wsX5_in := goodIn_r _ [5] (by decide +kernel) (by decide +kernel)
set_option maxRecDepth 20000 in
theorem gX5_isCall_X5_in : GoodIn wsX5_isCall (va_wsS RX5 103 yX5_in wsX5_in) := goodIn_app (goodIn_of _ (by decide +kernel)) ggX5_isCall_X5_in
theorem dX5_isCall_0 : decode cX5_isCall 0 = .ok (.iload_n 1, 1) := by decide +kernel
theorem dX5_isCall_1 : decode cX5_isCall 1 = .ok (.i2l, 1) := by decide +kernel
theorem dX5_isCall_2 : decode cX5_isCall 2 = .ok (.lconst 0, 1) := by decide +kernel
theorem dX5_isCall_3 : decode cX5_isCall 3 = .ok (.aload_n 0, 1) := by decide +kernel
theorem dX5_isCall_4 : decode cX5_isCall 4 = .ok (.getfield 16, 3) := by decide +kernel
theorem dX5_isCall_7 : decode cX5_isCall 7 = .ok (.iconst 4, 1) := by decide +kernel
theorem dX5_isCall_8 : decode cX5_isCall 8 = .ok (.iaload, 1) := by decide +kernel
theorem dX5_isCall_9 : decode cX5_isCall 9 = .ok (.iconst 1, 1) := by decide +kernel
theorem dX5_isCall_10 : decode cX5_isCall 10 = .ok (.isub, 1) := by decide +kernel
theorem dX5_isCall_11 : decode cX5_isCall 11 = .ok (.i2l, 1) := by decide +kernel
theorem dX5_isCall_12 : decode cX5_isCall 12 = .ok (.invokestatic 103, 3) := by decide +kernel
theorem dX5_isCall_15 : decode cX5_isCall 15 = .ok (.ireturn, 1) := by decide +kernel
set_option maxRecDepth 20000 in
theorem ggX5_call_X5_isCall : GoodIn wsX5_call wsX5_isCall := goodIn_r _ [7, 2, 8, 9, 6, 10, 28, 29, 30, 31, 32, 33, 34, 35, 36, 37, 38, 39, 40, 41] (by decide +kernel) (by decide +kernel)
set_option maxRecDepth 20000 in
theorem gX5_call_X5_isCall : GoodIn wsX5_call (wsV RX5 184 RX5 yX5_isCall wsX5_isCall) := goodIn_app (goodIn_of _ (by decide +kernel)) ggX5_call_X5_isCall
set_option maxRecDepth 20000 in
theorem ggX5_call_X5_in : GoodIn wsX5_call wsX5_in := goodIn_r _ [10] (by decide +kernel) (by decide +kernel)
set_option maxRecDepth 20000 in
theorem gX5_call_X5_in : GoodIn wsX5_call (va_wsS RX5 103 yX5_in wsX5_in) := goodIn_app (goodIn_of _ (by decide +kernel)) ggX5_call_X5_in
set_option maxRecDepth 20000 in
theorem ggX5_call_X5_refused : GoodIn wsX5_call wsX5_refused := goodIn_r _ [14, 15, 28, 29, 30, 31, 32, 33, 34, 35, 36, 37, 38, 39, 40, 41] (by decide +kernel) (by decide +kernel)
set_option maxRecDepth 20000 in
theorem gX5_call_X5_refused : GoodIn wsX5_call (wsV RX5 110 RX5 yX5_refused wsX5_refused) := goodIn_app (goodIn_of _ (by decide +kernel)) ggX5_call_X5_refused
set_option maxRecDepth 20000 in
theorem ggX5_call_X5_callAt : GoodIn wsX5_call wsX5_callAt := goodIn_r _ [18] (by decide +kernel) (by decide +kernel)
set_option maxRecDepth 20000 in
theorem gX5_call_X5_callAt : GoodIn wsX5_call (va_wsS RX5 56 yX5_callAt wsX5_callAt) := goodIn_app (goodIn_of _ (by decide +kernel)) ggX5_call_X5_callAt
set_option maxRecDepth 20000 in
theorem ggX5_call_X5_boards : GoodIn wsX5_call wsX5_boards := goodIn_r _ [21, 22, 23, 6, 24, 16, 17, 18] (by decide +kernel) (by decide +kernel)
set_option maxRecDepth 20000 in
theorem gX5_call_X5_boards : GoodIn wsX5_call (va_wsS RX5 64 yX5_boards wsX5_boards) := goodIn_app (goodIn_of _ (by decide +kernel)) ggX5_call_X5_boards
set_option maxRecDepth 20000 in
theorem ggX5_call_X5_bits : GoodIn wsX5_call wsX5_bits := goodIn_r _ [27] (by decide +kernel) (by decide +kernel)
set_option maxRecDepth 20000 in
theorem gX5_call_X5_bits : GoodIn wsX5_call (va_wsS RX5 67 yX5_bits wsX5_bits) := goodIn_app (goodIn_of _ (by decide +kernel)) ggX5_call_X5_bits
theorem dX5_call_0 : decode cX5_call 0 = .ok (.aload_n 0, 1) := by decide +kernel
theorem dX5_call_1 : decode cX5_call 1 = .ok (.aload_n 0, 1) := by decide +kernel
theorem dX5_call_2 : decode cX5_call 2 = .ok (.iload_n 1, 1) := by decide +kernel
theorem dX5_call_3 : decode cX5_call 3 = .ok (.invokevirtual 184, 3) := by decide +kernel
theorem dX5_call_6 : decode cX5_call 6 = .ok (.ifCond .ne 7, 3) := by decide +kernel
theorem dX5_call_9 : decode cX5_call 9 = .ok (.iconst 1, 1) := by decide +kernel
theorem dX5_call_10 : decode cX5_call 10 = .ok (.goto 20, 3) := by decide +kernel
theorem dX5_call_13 : decode cX5_call 13 = .ok (.iload_n 2, 1) := by decide +kernel
theorem dX5_call_14 : decode cX5_call 14 = .ok (.i2l, 1) := by decide +kernel
theorem dX5_call_15 : decode cX5_call 15 = .ok (.lconst 0, 1) := by decide +kernel
theorem dX5_call_16 : decode cX5_call 16 = .ok (.ldc2_w 187, 3) := by decide +kernel
theorem dX5_call_19 : decode cX5_call 19 = .ok (.invokestatic 103, 3) := by decide +kernel
theorem dX5_call_22 : decode cX5_call 22 = .ok (.ifCond .eq 7, 3) := by decide +kernel
theorem dX5_call_25 : decode cX5_call 25 = .ok (.iconst 0, 1) := by decide +kernel
theorem dX5_call_26 : decode cX5_call 26 = .ok (.goto 4, 3) := by decide +kernel
theorem dX5_call_29 : decode cX5_call 29 = .ok (.iconst 2, 1) := by decide +kernel
theorem dX5_call_30 : decode cX5_call 30 = .ok (.invokevirtual 110, 3) := by decide +kernel
theorem dX5_call_33 : decode cX5_call 33 = .ok (.ifCond .eq 5, 3) := by decide +kernel
theorem dX5_call_36 : decode cX5_call 36 = .ok (.iconst 0, 1) := by decide +kernel
theorem dX5_call_37 : decode cX5_call 37 = .ok (.ireturn, 1) := by decide +kernel
theorem dX5_call_38 : decode cX5_call 38 = .ok (.iload_n 2, 1) := by decide +kernel
theorem dX5_call_39 : decode cX5_call 39 = .ok (.iconst 4, 1) := by decide +kernel
theorem dX5_call_40 : decode cX5_call 40 = .ok (.if_icmp .ge 16, 3) := by decide +kernel
theorem dX5_call_43 : decode cX5_call 43 = .ok (.aload_n 0, 1) := by decide +kernel
theorem dX5_call_44 : decode cX5_call 44 = .ok (.getfield 16, 3) := by decide +kernel
theorem dX5_call_47 : decode cX5_call 47 = .ok (.iload_n 1, 1) := by decide +kernel
theorem dX5_call_48 : decode cX5_call 48 = .ok (.iload_n 2, 1) := by decide +kernel
theorem dX5_call_49 : decode cX5_call 49 = .ok (.invokestatic 56, 3) := by decide +kernel
theorem dX5_call_52 : decode cX5_call 52 = .ok (.iaload, 1) := by decide +kernel
theorem dX5_call_53 : decode cX5_call 53 = .ok (.goto 16, 3) := by decide +kernel
theorem dX5_call_56 : decode cX5_call 56 = .ok (.iconst 1, 1) := by decide +kernel
theorem dX5_call_57 : decode cX5_call 57 = .ok (.aload_n 0, 1) := by decide +kernel
theorem dX5_call_58 : decode cX5_call 58 = .ok (.getfield 16, 3) := by decide +kernel
theorem dX5_call_61 : decode cX5_call 61 = .ok (.iload_n 1, 1) := by decide +kernel
theorem dX5_call_62 : decode cX5_call 62 = .ok (.invokestatic 64, 3) := by decide +kernel
theorem dX5_call_65 : decode cX5_call 65 = .ok (.invokestatic 67, 3) := by decide +kernel
theorem dX5_call_68 : decode cX5_call 68 = .ok (.iadd, 1) := by decide +kernel
theorem dX5_call_69 : decode cX5_call 69 = .ok (.ireturn, 1) := by decide +kernel
set_option maxRecDepth 20000 in
theorem ggX5_isMiddle_X5_in : GoodIn wsX5_isMiddle wsX5_in := goodIn_r _ [5] (by decide +kernel) (by decide +kernel)
set_option maxRecDepth 20000 in
theorem gX5_isMiddle_X5_in : GoodIn wsX5_isMiddle (va_wsS RX5 103 yX5_in wsX5_in) := goodIn_app (goodIn_of _ (by decide +kernel)) ggX5_isMiddle_X5_in
theorem dX5_isMiddle_0 : decode cX5_isMiddle 0 = .ok (.iload_n 1, 1) := by decide +kernel
theorem dX5_isMiddle_1 : decode cX5_isMiddle 1 = .ok (.i2l, 1) := by decide +kernel
theorem dX5_isMiddle_2 : decode cX5_isMiddle 2 = .ok (.lconst 0, 1) := by decide +kernel
theorem dX5_isMiddle_3 : decode cX5_isMiddle 3 = .ok (.aload_n 0, 1) := by decide +kernel
theorem dX5_isMiddle_4 : decode cX5_isMiddle 4 = .ok (.getfield 16, 3) := by decide +kernel
theorem dX5_isMiddle_7 : decode cX5_isMiddle 7 = .ok (.iconst 2, 1) := by decide +kernel
theorem dX5_isMiddle_8 : decode cX5_isMiddle 8 = .ok (.iaload, 1) := by decide +kernel
theorem dX5_isMiddle_9 : decode cX5_isMiddle 9 = .ok (.iconst 1, 1) := by decide +kernel
theorem dX5_isMiddle_10 : decode cX5_isMiddle 10 = .ok (.isub, 1) := by decide +kernel
theorem dX5_isMiddle_11 : decode cX5_isMiddle 11 = .ok (.i2l, 1) := by decide +kernel
theorem dX5_isMiddle_12 : decode cX5_isMiddle 12 = .ok (.invokestatic 103, 3) := by decide +kernel
theorem dX5_isMiddle_15 : decode cX5_isMiddle 15 = .ok (.ireturn, 1) := by decide +kernel
set_option maxRecDepth 20000 in
theorem ggX5_link_X5_isMiddle : GoodIn wsX5_link wsX5_isMiddle := goodIn_r _ [6, 1, 7, 8, 5, 9, 27, 28, 29, 30, 31, 32, 33, 34, 35, 36, 37, 38, 39, 40] (by decide +kernel) (by decide +kernel)
set_option maxRecDepth 20000 in
theorem gX5_link_X5_isMiddle : GoodIn wsX5_link (wsV RX5 189 RX5 yX5_isMiddle wsX5_isMiddle) := goodIn_app (goodIn_of _ (by decide +kernel)) ggX5_link_X5_isMiddle
set_option maxRecDepth 20000 in
theorem ggX5_link_X5_in : GoodIn wsX5_link wsX5_in := goodIn_r _ [9] (by decide +kernel) (by decide +kernel)
set_option maxRecDepth 20000 in
theorem gX5_link_X5_in : GoodIn wsX5_link (va_wsS RX5 103 yX5_in wsX5_in) := goodIn_app (goodIn_of _ (by decide +kernel)) ggX5_link_X5_in
set_option maxRecDepth 20000 in
theorem ggX5_link_X5_refused : GoodIn wsX5_link wsX5_refused := goodIn_r _ [13, 14, 27, 28, 29, 30, 31, 32, 33, 34, 35, 36, 37, 38, 39, 40] (by decide +kernel) (by decide +kernel)
set_option maxRecDepth 20000 in
theorem gX5_link_X5_refused : GoodIn wsX5_link (wsV RX5 110 RX5 yX5_refused wsX5_refused) := goodIn_app (goodIn_of _ (by decide +kernel)) ggX5_link_X5_refused
set_option maxRecDepth 20000 in
theorem ggX5_link_X5_boards : GoodIn wsX5_link wsX5_boards := goodIn_r _ [17, 18, 19, 5, 20, 21, 22, 23] (by decide +kernel) (by decide +kernel)
set_option maxRecDepth 20000 in
theorem gX5_link_X5_boards : GoodIn wsX5_link (va_wsS RX5 64 yX5_boards wsX5_boards) := goodIn_app (goodIn_of _ (by decide +kernel)) ggX5_link_X5_boards
set_option maxRecDepth 20000 in
theorem ggX5_link_X5_firstOf : GoodIn wsX5_link wsX5_firstOf := goodIn_r _ [26, 21, 22, 5, 23] (by decide +kernel) (by decide +kernel)
set_option maxRecDepth 20000 in
theorem gX5_link_X5_firstOf : GoodIn wsX5_link (va_wsS RX5 60 yX5_firstOf wsX5_firstOf) := goodIn_app (goodIn_of _ (by decide +kernel)) ggX5_link_X5_firstOf
set_option maxRecDepth 20000 in
theorem ggX5_link_X5_callAt : GoodIn wsX5_link wsX5_callAt := goodIn_r _ [23] (by decide +kernel) (by decide +kernel)
set_option maxRecDepth 20000 in
theorem gX5_link_X5_callAt : GoodIn wsX5_link (va_wsS RX5 56 yX5_callAt wsX5_callAt) := goodIn_app (goodIn_of _ (by decide +kernel)) ggX5_link_X5_callAt
theorem dX5_link_0 : decode cX5_link 0 = .ok (.aload_n 0, 1) := by decide +kernel
theorem dX5_link_1 : decode cX5_link 1 = .ok (.iload_n 2, 1) := by decide +kernel
theorem dX5_link_2 : decode cX5_link 2 = .ok (.invokevirtual 189, 3) := by decide +kernel
theorem dX5_link_5 : decode cX5_link 5 = .ok (.ifCond .eq 33, 3) := by decide +kernel
theorem dX5_link_8 : decode cX5_link 8 = .ok (.iload_n 3, 1) := by decide +kernel
theorem dX5_link_9 : decode cX5_link 9 = .ok (.i2l, 1) := by decide +kernel
theorem dX5_link_10 : decode cX5_link 10 = .ok (.lconst 0, 1) := by decide +kernel
theorem dX5_link_11 : decode cX5_link 11 = .ok (.aload_n 0, 1) := by decide +kernel
theorem dX5_link_12 : decode cX5_link 12 = .ok (.getfield 16, 3) := by decide +kernel
theorem dX5_link_15 : decode cX5_link 15 = .ok (.iload_n 1, 1) := by decide +kernel
theorem dX5_link_16 : decode cX5_link 16 = .ok (.ifCond .eq 7, 3) := by decide +kernel
theorem dX5_link_19 : decode cX5_link 19 = .ok (.iconst 3, 1) := by decide +kernel
theorem dX5_link_20 : decode cX5_link 20 = .ok (.goto 4, 3) := by decide +kernel
theorem dX5_link_23 : decode cX5_link 23 = .ok (.iconst 0, 1) := by decide +kernel
theorem dX5_link_24 : decode cX5_link 24 = .ok (.iaload, 1) := by decide +kernel
theorem dX5_link_25 : decode cX5_link 25 = .ok (.iconst 1, 1) := by decide +kernel
theorem dX5_link_26 : decode cX5_link 26 = .ok (.isub, 1) := by decide +kernel
theorem dX5_link_27 : decode cX5_link 27 = .ok (.i2l, 1) := by decide +kernel
theorem dX5_link_28 : decode cX5_link 28 = .ok (.invokestatic 103, 3) := by decide +kernel
theorem dX5_link_31 : decode cX5_link 31 = .ok (.ifCond .eq 7, 3) := by decide +kernel
theorem dX5_link_34 : decode cX5_link 34 = .ok (.iconst 1, 1) := by decide +kernel
theorem dX5_link_35 : decode cX5_link 35 = .ok (.goto 4, 3) := by decide +kernel
theorem dX5_link_38 : decode cX5_link 38 = .ok (.iconst 0, 1) := by decide +kernel
theorem dX5_link_39 : decode cX5_link 39 = .ok (.istore 4, 2) := by decide +kernel
theorem dX5_link_41 : decode cX5_link 41 = .ok (.aload_n 0, 1) := by decide +kernel
theorem dX5_link_42 : decode cX5_link 42 = .ok (.iload 4, 2) := by decide +kernel
theorem dX5_link_44 : decode cX5_link 44 = .ok (.ifCond .eq 7, 3) := by decide +kernel
theorem dX5_link_47 : decode cX5_link 47 = .ok (.iconst 0, 1) := by decide +kernel
theorem dX5_link_48 : decode cX5_link 48 = .ok (.goto 4, 3) := by decide +kernel
theorem dX5_link_51 : decode cX5_link 51 = .ok (.iconst 1, 1) := by decide +kernel
theorem dX5_link_52 : decode cX5_link 52 = .ok (.invokevirtual 110, 3) := by decide +kernel
theorem dX5_link_55 : decode cX5_link 55 = .ok (.ifCond .eq 5, 3) := by decide +kernel
theorem dX5_link_58 : decode cX5_link 58 = .ok (.iconst 0, 1) := by decide +kernel
theorem dX5_link_59 : decode cX5_link 59 = .ok (.ireturn, 1) := by decide +kernel
theorem dX5_link_60 : decode cX5_link 60 = .ok (.iconst (-1), 1) := by decide +kernel
theorem dX5_link_61 : decode cX5_link 61 = .ok (.istore 5, 2) := by decide +kernel
theorem dX5_link_63 : decode cX5_link 63 = .ok (.iconst 0, 1) := by decide +kernel
theorem dX5_link_64 : decode cX5_link 64 = .ok (.istore 6, 2) := by decide +kernel
theorem dX5_link_66 : decode cX5_link 66 = .ok (.iload 6, 2) := by decide +kernel
theorem dX5_link_68 : decode cX5_link 68 = .ok (.aload_n 0, 1) := by decide +kernel
theorem dX5_link_69 : decode cX5_link 69 = .ok (.getfield 16, 3) := by decide +kernel
theorem dX5_link_72 : decode cX5_link 72 = .ok (.iconst 4, 1) := by decide +kernel
theorem dX5_link_73 : decode cX5_link 73 = .ok (.iaload, 1) := by decide +kernel
theorem dX5_link_74 : decode cX5_link 74 = .ok (.if_icmp .ge 87, 3) := by decide +kernel
theorem dX5_link_77 : decode cX5_link 77 = .ok (.iload_n 1, 1) := by decide +kernel
theorem dX5_link_78 : decode cX5_link 78 = .ok (.ifCond .eq 28, 3) := by decide +kernel
theorem dX5_link_81 : decode cX5_link 81 = .ok (.aload_n 0, 1) := by decide +kernel
theorem dX5_link_82 : decode cX5_link 82 = .ok (.getfield 16, 3) := by decide +kernel
theorem dX5_link_85 : decode cX5_link 85 = .ok (.iload 6, 2) := by decide +kernel
theorem dX5_link_87 : decode cX5_link 87 = .ok (.invokestatic 64, 3) := by decide +kernel
theorem dX5_link_90 : decode cX5_link 90 = .ok (.iload_n 3, 1) := by decide +kernel
theorem dX5_link_91 : decode cX5_link 91 = .ok (.ishr, 1) := by decide +kernel
theorem dX5_link_92 : decode cX5_link 92 = .ok (.iconst 1, 1) := by decide +kernel
theorem dX5_link_93 : decode cX5_link 93 = .ok (.iand, 1) := by decide +kernel
theorem dX5_link_94 : decode cX5_link 94 = .ok (.iconst 1, 1) := by decide +kernel
theorem dX5_link_95 : decode cX5_link 95 = .ok (.if_icmp .ne 7, 3) := by decide +kernel
theorem dX5_link_98 : decode cX5_link 98 = .ok (.iconst 1, 1) := by decide +kernel
theorem dX5_link_99 : decode cX5_link 99 = .ok (.goto 25, 3) := by decide +kernel
theorem dX5_link_102 : decode cX5_link 102 = .ok (.iconst 0, 1) := by decide +kernel
theorem dX5_link_103 : decode cX5_link 103 = .ok (.goto 21, 3) := by decide +kernel
theorem dX5_link_106 : decode cX5_link 106 = .ok (.aload_n 0, 1) := by decide +kernel
theorem dX5_link_107 : decode cX5_link 107 = .ok (.getfield 16, 3) := by decide +kernel
theorem dX5_link_110 : decode cX5_link 110 = .ok (.iload 6, 2) := by decide +kernel
theorem dX5_link_112 : decode cX5_link 112 = .ok (.invokestatic 60, 3) := by decide +kernel
theorem dX5_link_115 : decode cX5_link 115 = .ok (.iload_n 3, 1) := by decide +kernel
theorem dX5_link_116 : decode cX5_link 116 = .ok (.if_icmp .ne 7, 3) := by decide +kernel
theorem dX5_link_119 : decode cX5_link 119 = .ok (.iconst 1, 1) := by decide +kernel
theorem dX5_link_120 : decode cX5_link 120 = .ok (.goto 4, 3) := by decide +kernel
theorem dX5_link_123 : decode cX5_link 123 = .ok (.iconst 0, 1) := by decide +kernel
theorem dX5_link_124 : decode cX5_link 124 = .ok (.istore 7, 2) := by decide +kernel
theorem dX5_link_126 : decode cX5_link 126 = .ok (.iload 7, 2) := by decide +kernel
theorem dX5_link_128 : decode cX5_link 128 = .ok (.ifCond .eq 23, 3) := by decide +kernel
theorem dX5_link_131 : decode cX5_link 131 = .ok (.aload_n 0, 1) := by decide +kernel
theorem dX5_link_132 : decode cX5_link 132 = .ok (.getfield 16, 3) := by decide +kernel
theorem dX5_link_135 : decode cX5_link 135 = .ok (.iload 6, 2) := by decide +kernel
theorem dX5_link_137 : decode cX5_link 137 = .ok (.iconst 2, 1) := by decide +kernel
theorem dX5_link_138 : decode cX5_link 138 = .ok (.invokestatic 56, 3) := by decide +kernel
theorem dX5_link_141 : decode cX5_link 141 = .ok (.iaload, 1) := by decide +kernel
theorem dX5_link_142 : decode cX5_link 142 = .ok (.iload_n 2, 1) := by decide +kernel
theorem dX5_link_143 : decode cX5_link 143 = .ok (.if_icmp .ne 8, 3) := by decide +kernel
theorem dX5_link_146 : decode cX5_link 146 = .ok (.iload 6, 2) := by decide +kernel
theorem dX5_link_148 : decode cX5_link 148 = .ok (.goto 5, 3) := by decide +kernel
theorem dX5_link_151 : decode cX5_link 151 = .ok (.iload 5, 2) := by decide +kernel
theorem dX5_link_153 : decode cX5_link 153 = .ok (.istore 5, 2) := by decide +kernel
theorem dX5_link_155 : decode cX5_link 155 = .ok (.iinc 6 1, 3) := by decide +kernel
theorem dX5_link_158 : decode cX5_link 158 = .ok (.goto (-92), 3) := by decide +kernel
theorem dX5_link_161 : decode cX5_link 161 = .ok (.iload 5, 2) := by decide +kernel
theorem dX5_link_163 : decode cX5_link 163 = .ok (.ireturn, 1) := by decide +kernel
set_option maxRecDepth 20000 in
theorem ggX5_isInput_X5_inputs : GoodIn wsX5_isInput wsX5_inputs := goodIn_r _ [5] (by decide +kernel) (by decide +kernel)
set_option maxRecDepth 20000 in
theorem gX5_isInput_X5_inputs : GoodIn wsX5_isInput (va_wsS RX5 133 yX5_inputs wsX5_inputs) := goodIn_app (goodIn_of _ (by decide +kernel)) ggX5_isInput_X5_inputs
set_option maxRecDepth 20000 in
theorem ggX5_isInput_X5_in : GoodIn wsX5_isInput wsX5_in := goodIn_r _ [8] (by decide +kernel) (by decide +kernel)
set_option maxRecDepth 20000 in
theorem gX5_isInput_X5_in : GoodIn wsX5_isInput (va_wsS RX5 103 yX5_in wsX5_in) := goodIn_app (goodIn_of _ (by decide +kernel)) ggX5_isInput_X5_in
theorem dX5_isInput_0 : decode cX5_isInput 0 = .ok (.iload_n 1, 1) := by decide +kernel
theorem dX5_isInput_1 : decode cX5_isInput 1 = .ok (.i2l, 1) := by decide +kernel
theorem dX5_isInput_2 : decode cX5_isInput 2 = .ok (.lconst 0, 1) := by decide +kernel
theorem dX5_isInput_3 : decode cX5_isInput 3 = .ok (.aload_n 0, 1) := by decide +kernel
theorem dX5_isInput_4 : decode cX5_isInput 4 = .ok (.getfield 16, 3) := by decide +kernel
theorem dX5_isInput_7 : decode cX5_isInput 7 = .ok (.invokestatic 133, 3) := by decide +kernel
theorem dX5_isInput_10 : decode cX5_isInput 10 = .ok (.iconst 1, 1) := by decide +kernel
theorem dX5_isInput_11 : decode cX5_isInput 11 = .ok (.isub, 1) := by decide +kernel
theorem dX5_isInput_12 : decode cX5_isInput 12 = .ok (.i2l, 1) := by decide +kernel
theorem dX5_isInput_13 : decode cX5_isInput 13 = .ok (.invokestatic 103, 3) := by decide +kernel
theorem dX5_isInput_16 : decode cX5_isInput 16 = .ok (.ireturn, 1) := by decide +kernel
set_option maxRecDepth 20000 in
theorem ggX5_isOutput_X5_outputs : GoodIn wsX5_isOutput wsX5_outputs := goodIn_r _ [5] (by decide +kernel) (by decide +kernel)
set_option maxRecDepth 20000 in
theorem gX5_isOutput_X5_outputs : GoodIn wsX5_isOutput (va_wsS RX5 52 yX5_outputs wsX5_outputs) := goodIn_app (goodIn_of _ (by decide +kernel)) ggX5_isOutput_X5_outputs
set_option maxRecDepth 20000 in
theorem ggX5_isOutput_X5_in : GoodIn wsX5_isOutput wsX5_in := goodIn_r _ [8] (by decide +kernel) (by decide +kernel)
set_option maxRecDepth 20000 in
theorem gX5_isOutput_X5_in : GoodIn wsX5_isOutput (va_wsS RX5 103 yX5_in wsX5_in) := goodIn_app (goodIn_of _ (by decide +kernel)) ggX5_isOutput_X5_in
theorem dX5_isOutput_0 : decode cX5_isOutput 0 = .ok (.iload_n 1, 1) := by decide +kernel
theorem dX5_isOutput_1 : decode cX5_isOutput 1 = .ok (.i2l, 1) := by decide +kernel
theorem dX5_isOutput_2 : decode cX5_isOutput 2 = .ok (.lconst 0, 1) := by decide +kernel
theorem dX5_isOutput_3 : decode cX5_isOutput 3 = .ok (.aload_n 0, 1) := by decide +kernel
theorem dX5_isOutput_4 : decode cX5_isOutput 4 = .ok (.getfield 16, 3) := by decide +kernel
theorem dX5_isOutput_7 : decode cX5_isOutput 7 = .ok (.invokestatic 52, 3) := by decide +kernel
theorem dX5_isOutput_10 : decode cX5_isOutput 10 = .ok (.iconst 1, 1) := by decide +kernel
theorem dX5_isOutput_11 : decode cX5_isOutput 11 = .ok (.isub, 1) := by decide +kernel
theorem dX5_isOutput_12 : decode cX5_isOutput 12 = .ok (.i2l, 1) := by decide +kernel
theorem dX5_isOutput_13 : decode cX5_isOutput 13 = .ok (.invokestatic 103, 3) := by decide +kernel
theorem dX5_isOutput_16 : decode cX5_isOutput 16 = .ok (.ireturn, 1) := by decide +kernel
set_option maxRecDepth 20000 in
theorem ggX5_at_X5_isOutput : GoodIn wsX5_at wsX5_isOutput := goodIn_r _ [6, 1, 7, 8, 5, 9, 10, 11, 12, 34, 35, 36, 37, 38, 39, 40, 41, 42, 43, 44, 45, 46, 47] (by decide +kernel) (by decide +kernel)
set_option maxRecDepth 20000 in
theorem gX5_at_X5_isOutput : GoodIn wsX5_at (wsV RX5 192 RX5 yX5_isOutput wsX5_isOutput) := goodIn_app (goodIn_of _ (by decide +kernel)) ggX5_at_X5_isOutput
set_option maxRecDepth 20000 in
theorem ggX5_at_X5_isInput : GoodIn wsX5_at wsX5_isInput := goodIn_r _ [16, 1, 17, 18, 5, 19, 10, 11, 12, 34, 35, 36, 37, 38, 39, 40, 41, 42, 43, 44, 45, 46, 47] (by decide +kernel) (by decide +kernel)
set_option maxRecDepth 20000 in
theorem gX5_at_X5_isInput : GoodIn wsX5_at (wsV RX5 195 RX5 yX5_isInput wsX5_isInput) := goodIn_app (goodIn_of _ (by decide +kernel)) ggX5_at_X5_isInput
set_option maxRecDepth 20000 in
theorem ggX5_at_X5_refused : GoodIn wsX5_at wsX5_refused := goodIn_r _ [23, 24, 34, 35, 36, 37, 38, 39, 40, 41, 42, 43, 44, 45, 46, 47] (by decide +kernel) (by decide +kernel)
set_option maxRecDepth 20000 in
theorem gX5_at_X5_refused : GoodIn wsX5_at (wsV RX5 110 RX5 yX5_refused wsX5_refused) := goodIn_app (goodIn_of _ (by decide +kernel)) ggX5_at_X5_refused
set_option maxRecDepth 20000 in
theorem ggX5_at_X5_byOutput : GoodIn wsX5_at wsX5_byOutput := goodIn_r _ [27, 28, 29, 5, 30] (by decide +kernel) (by decide +kernel)
set_option maxRecDepth 20000 in
theorem gX5_at_X5_byOutput : GoodIn wsX5_at (va_wsS RX5 92 yX5_byOutput wsX5_byOutput) := goodIn_app (goodIn_of _ (by decide +kernel)) ggX5_at_X5_byOutput
set_option maxRecDepth 20000 in
theorem ggX5_at_X5_byInput : GoodIn wsX5_at wsX5_byInput := goodIn_r _ [33, 28, 29, 5, 30] (by decide +kernel) (by decide +kernel)
set_option maxRecDepth 20000 in
theorem gX5_at_X5_byInput : GoodIn wsX5_at (va_wsS RX5 89 yX5_byInput wsX5_byInput) := goodIn_app (goodIn_of _ (by decide +kernel)) ggX5_at_X5_byInput
theorem dX5_at_0 : decode cX5_at 0 = .ok (.iload_n 1, 1) := by decide +kernel
theorem dX5_at_1 : decode cX5_at 1 = .ok (.ifCond .eq 11, 3) := by decide +kernel
theorem dX5_at_4 : decode cX5_at 4 = .ok (.aload_n 0, 1) := by decide +kernel
theorem dX5_at_5 : decode cX5_at 5 = .ok (.iload_n 2, 1) := by decide +kernel
theorem dX5_at_6 : decode cX5_at 6 = .ok (.invokevirtual 192, 3) := by decide +kernel
theorem dX5_at_9 : decode cX5_at 9 = .ok (.goto 8, 3) := by decide +kernel
theorem dX5_at_12 : decode cX5_at 12 = .ok (.aload_n 0, 1) := by decide +kernel
theorem dX5_at_13 : decode cX5_at 13 = .ok (.iload_n 2, 1) := by decide +kernel
theorem dX5_at_14 : decode cX5_at 14 = .ok (.invokevirtual 195, 3) := by decide +kernel
theorem dX5_at_17 : decode cX5_at 17 = .ok (.istore_n 3, 1) := by decide +kernel
theorem dX5_at_18 : decode cX5_at 18 = .ok (.aload_n 0, 1) := by decide +kernel
theorem dX5_at_19 : decode cX5_at 19 = .ok (.iload_n 3, 1) := by decide +kernel
theorem dX5_at_20 : decode cX5_at 20 = .ok (.ifCond .eq 7, 3) := by decide +kernel
theorem dX5_at_23 : decode cX5_at 23 = .ok (.iconst 0, 1) := by decide +kernel
theorem dX5_at_24 : decode cX5_at 24 = .ok (.goto 4, 3) := by decide +kernel
theorem dX5_at_27 : decode cX5_at 27 = .ok (.iconst 1, 1) := by decide +kernel
theorem dX5_at_28 : decode cX5_at 28 = .ok (.invokevirtual 110, 3) := by decide +kernel
theorem dX5_at_31 : decode cX5_at 31 = .ok (.ifCond .eq 5, 3) := by decide +kernel
theorem dX5_at_34 : decode cX5_at 34 = .ok (.iconst 0, 1) := by decide +kernel
theorem dX5_at_35 : decode cX5_at 35 = .ok (.ireturn, 1) := by decide +kernel
theorem dX5_at_36 : decode cX5_at 36 = .ok (.iload_n 1, 1) := by decide +kernel
theorem dX5_at_37 : decode cX5_at 37 = .ok (.ifCond .eq 14, 3) := by decide +kernel
theorem dX5_at_40 : decode cX5_at 40 = .ok (.aload_n 0, 1) := by decide +kernel
theorem dX5_at_41 : decode cX5_at 41 = .ok (.getfield 16, 3) := by decide +kernel
theorem dX5_at_44 : decode cX5_at 44 = .ok (.iload_n 2, 1) := by decide +kernel
theorem dX5_at_45 : decode cX5_at 45 = .ok (.invokestatic 92, 3) := by decide +kernel
theorem dX5_at_48 : decode cX5_at 48 = .ok (.goto 11, 3) := by decide +kernel
theorem dX5_at_51 : decode cX5_at 51 = .ok (.aload_n 0, 1) := by decide +kernel
theorem dX5_at_52 : decode cX5_at 52 = .ok (.getfield 16, 3) := by decide +kernel
theorem dX5_at_55 : decode cX5_at 55 = .ok (.iload_n 2, 1) := by decide +kernel
theorem dX5_at_56 : decode cX5_at 56 = .ok (.invokestatic 89, 3) := by decide +kernel
theorem dX5_at_59 : decode cX5_at 59 = .ok (.ireturn, 1) := by decide +kernel
set_option maxRecDepth 20000 in
theorem ggX5_thanks_X5_isInput : GoodIn wsX5_thanks wsX5_isInput := goodIn_r _ [6, 1, 7, 8, 5, 9, 10, 11, 12, 18, 19, 20, 21, 22, 23, 24, 25, 26, 27, 28, 29, 30, 31] (by decide +kernel) (by decide +kernel)
set_option maxRecDepth 20000 in
theorem gX5_thanks_X5_isInput : GoodIn wsX5_thanks (wsV RX5 195 RX5 yX5_isInput wsX5_isInput) := goodIn_app (goodIn_of _ (by decide +kernel)) ggX5_thanks_X5_isInput
set_option maxRecDepth 20000 in
theorem ggX5_thanks_X5_refused : GoodIn wsX5_thanks wsX5_refused := goodIn_r _ [16, 17, 18, 19, 20, 21, 22, 23, 24, 25, 26, 27, 28, 29, 30, 31] (by decide +kernel) (by decide +kernel)
set_option maxRecDepth 20000 in
theorem gX5_thanks_X5_refused : GoodIn wsX5_thanks (wsV RX5 110 RX5 yX5_refused wsX5_refused) := goodIn_app (goodIn_of _ (by decide +kernel)) ggX5_thanks_X5_refused
theorem dX5_thanks_0 : decode cX5_thanks 0 = .ok (.aload_n 0, 1) := by decide +kernel
theorem dX5_thanks_1 : decode cX5_thanks 1 = .ok (.aload_n 0, 1) := by decide +kernel
theorem dX5_thanks_2 : decode cX5_thanks 2 = .ok (.iload_n 1, 1) := by decide +kernel
theorem dX5_thanks_3 : decode cX5_thanks 3 = .ok (.invokevirtual 195, 3) := by decide +kernel
theorem dX5_thanks_6 : decode cX5_thanks 6 = .ok (.ifCond .eq 7, 3) := by decide +kernel
theorem dX5_thanks_9 : decode cX5_thanks 9 = .ok (.iconst 0, 1) := by decide +kernel
theorem dX5_thanks_10 : decode cX5_thanks 10 = .ok (.goto 4, 3) := by decide +kernel
theorem dX5_thanks_13 : decode cX5_thanks 13 = .ok (.iconst 1, 1) := by decide +kernel
theorem dX5_thanks_14 : decode cX5_thanks 14 = .ok (.invokevirtual 110, 3) := by decide +kernel
theorem dX5_thanks_17 : decode cX5_thanks 17 = .ok (.ifCond .eq 7, 3) := by decide +kernel
theorem dX5_thanks_20 : decode cX5_thanks 20 = .ok (.iconst 0, 1) := by decide +kernel
theorem dX5_thanks_21 : decode cX5_thanks 21 = .ok (.goto 21, 3) := by decide +kernel
theorem dX5_thanks_24 : decode cX5_thanks 24 = .ok (.aload_n 0, 1) := by decide +kernel
theorem dX5_thanks_25 : decode cX5_thanks 25 = .ok (.getfield 16, 3) := by decide +kernel
theorem dX5_thanks_28 : decode cX5_thanks 28 = .ok (.iload_n 2, 1) := by decide +kernel
theorem dX5_thanks_29 : decode cX5_thanks 29 = .ok (.ifCond .eq 8, 3) := by decide +kernel
theorem dX5_thanks_32 : decode cX5_thanks 32 = .ok (.bipush 72, 2) := by decide +kernel
theorem dX5_thanks_34 : decode cX5_thanks 34 = .ok (.goto 5, 3) := by decide +kernel
theorem dX5_thanks_37 : decode cX5_thanks 37 = .ok (.bipush 88, 2) := by decide +kernel
theorem dX5_thanks_39 : decode cX5_thanks 39 = .ok (.iload_n 1, 1) := by decide +kernel
theorem dX5_thanks_40 : decode cX5_thanks 40 = .ok (.iadd, 1) := by decide +kernel
theorem dX5_thanks_41 : decode cX5_thanks 41 = .ok (.iaload, 1) := by decide +kernel
theorem dX5_thanks_42 : decode cX5_thanks 42 = .ok (.ireturn, 1) := by decide +kernel
set_option maxRecDepth 20000 in
theorem ggX5_take_X5_refused : GoodIn wsX5_take wsX5_refused := goodIn_r _ [7, 8, 18, 19, 20, 21, 22, 23, 24, 25, 26, 27, 28, 29, 30, 31] (by decide +kernel) (by decide +kernel)
set_option maxRecDepth 20000 in
theorem gX5_take_X5_refused : GoodIn wsX5_take (wsV RX5 110 RX5 yX5_refused wsX5_refused) := goodIn_app (goodIn_of _ (by decide +kernel)) ggX5_take_X5_refused
set_option maxRecDepth 20000 in
theorem ggX5_take_X5_remember : GoodIn wsX5_take wsX5_remember := goodIn_r _ [12, 13, 14, 2, 15, 16, 6, 17, 18, 19, 20, 21, 22, 23, 24, 25, 26, 27, 28, 29, 30, 31] (by decide +kernel) (by decide +kernel)
set_option maxRecDepth 20000 in
theorem gX5_take_X5_remember : GoodIn wsX5_take (wsV RX5 198 RX5 yX5_remember wsX5_remember) := goodIn_app (goodIn_of _ (by decide +kernel)) ggX5_take_X5_remember
set_option maxRecDepth 20000 in
theorem ggX5_take_X5_copy : GoodIn wsX5_take wsX5_copy := goodIn_r _ [17] (by decide +kernel) (by decide +kernel)
set_option maxRecDepth 20000 in
theorem gX5_take_X5_copy : GoodIn wsX5_take (va_wsS RX5 48 yX5_copy wsX5_copy) := goodIn_app (goodIn_of _ (by decide +kernel)) ggX5_take_X5_copy
theorem dX5_take_0 : decode cX5_take 0 = .ok (.aload_n 0, 1) := by decide +kernel
theorem dX5_take_1 : decode cX5_take 1 = .ok (.iload_n 1, 1) := by decide +kernel
theorem dX5_take_2 : decode cX5_take 2 = .ok (.iconst (-1), 1) := by decide +kernel
theorem dX5_take_3 : decode cX5_take 3 = .ok (.if_icmp .ne 7, 3) := by decide +kernel
theorem dX5_take_6 : decode cX5_take 6 = .ok (.iconst 2, 1) := by decide +kernel
theorem dX5_take_7 : decode cX5_take 7 = .ok (.goto 4, 3) := by decide +kernel
theorem dX5_take_10 : decode cX5_take 10 = .ok (.iconst 0, 1) := by decide +kernel
theorem dX5_take_11 : decode cX5_take 11 = .ok (.invokevirtual 110, 3) := by decide +kernel
theorem dX5_take_14 : decode cX5_take 14 = .ok (.ifCond .eq 5, 3) := by decide +kernel
theorem dX5_take_17 : decode cX5_take 17 = .ok (.iconst 0, 1) := by decide +kernel
theorem dX5_take_18 : decode cX5_take 18 = .ok (.ireturn, 1) := by decide +kernel
theorem dX5_take_19 : decode cX5_take 19 = .ok (.aload_n 0, 1) := by decide +kernel
theorem dX5_take_20 : decode cX5_take 20 = .ok (.invokevirtual 198, 3) := by decide +kernel
theorem dX5_take_23 : decode cX5_take 23 = .ok (.aload_n 0, 1) := by decide +kernel
theorem dX5_take_24 : decode cX5_take 24 = .ok (.getfield 19, 3) := by decide +kernel
theorem dX5_take_27 : decode cX5_take 27 = .ok (.iconst 0, 1) := by decide +kernel
theorem dX5_take_28 : decode cX5_take 28 = .ok (.aload_n 0, 1) := by decide +kernel
theorem dX5_take_29 : decode cX5_take 29 = .ok (.getfield 16, 3) := by decide +kernel
theorem dX5_take_32 : decode cX5_take 32 = .ok (.iconst 0, 1) := by decide +kernel
theorem dX5_take_33 : decode cX5_take 33 = .ok (.bipush 104, 2) := by decide +kernel
theorem dX5_take_35 : decode cX5_take 35 = .ok (.invokestatic 48, 3) := by decide +kernel
theorem dX5_take_38 : decode cX5_take 38 = .ok (.iload_n 1, 1) := by decide +kernel
theorem dX5_take_39 : decode cX5_take 39 = .ok (.ireturn, 1) := by decide +kernel
set_option maxRecDepth 20000 in
theorem ggX5_connect_X5_isInput : GoodIn wsX5_connect wsX5_isInput := goodIn_r _ [6, 7, 8, 9, 5, 10, 11, 12, 13, 89, 90, 91, 92, 93, 94, 95, 96, 97, 98, 99, 100, 101, 102] (by decide +kernel) (by decide +kernel)
set_option maxRecDepth 20000 in
theorem gX5_connect_X5_isInput : GoodIn wsX5_connect (wsV RX5 195 RX5 yX5_isInput wsX5_isInput) := goodIn_app (goodIn_of _ (by decide +kernel)) ggX5_connect_X5_isInput
set_option maxRecDepth 20000 in
theorem ggX5_connect_X5_isOutput : GoodIn wsX5_connect wsX5_isOutput := goodIn_r _ [17, 7, 18, 19, 5, 20, 11, 12, 13, 89, 90, 91, 92, 93, 94, 95, 96, 97, 98, 99, 100, 101, 102] (by decide +kernel) (by decide +kernel)
set_option maxRecDepth 20000 in
theorem gX5_connect_X5_isOutput : GoodIn wsX5_connect (wsV RX5 192 RX5 yX5_isOutput wsX5_isOutput) := goodIn_app (goodIn_of _ (by decide +kernel)) ggX5_connect_X5_isOutput
set_option maxRecDepth 20000 in
theorem ggX5_connect_X5_refused : GoodIn wsX5_connect wsX5_refused := goodIn_r _ [24, 25, 89, 90, 91, 92, 93, 94, 95, 96, 97, 98, 99, 100, 101, 102] (by decide +kernel) (by decide +kernel)
set_option maxRecDepth 20000 in
theorem gX5_connect_X5_refused : GoodIn wsX5_connect (wsV RX5 110 RX5 yX5_refused wsX5_refused) := goodIn_app (goodIn_of _ (by decide +kernel)) ggX5_connect_X5_refused
set_option maxRecDepth 20000 in
theorem ggX5_connect_X5_tryIt : GoodIn wsX5_connect wsX5_tryIt := goodIn_r _ [29, 7, 1, 30, 31, 5, 32, 89, 90, 91, 92, 93, 94, 95, 96, 97, 98, 99, 100, 101, 102] (by decide +kernel) (by decide +kernel)
set_option maxRecDepth 20000 in
theorem gX5_connect_X5_tryIt : GoodIn wsX5_connect (wsV RX5 201 RX5 yX5_tryIt wsX5_tryIt) := goodIn_app (goodIn_of _ (by decide +kernel)) ggX5_connect_X5_tryIt
set_option maxRecDepth 20000 in
theorem ggX5_connect_X5_connectIn : GoodIn wsX5_connect wsX5_connectIn := goodIn_r _ [36, 37, 38, 5, 39, 40, 41, 42, 43, 44, 45, 46, 47, 48, 49, 50, 51, 52, 53, 54, 55, 56, 57, 58, 59, 60, 61, 62, 63, 64, 65, 66, 67, 68, 69, 70, 71, 72, 73, 74, 75, 76, 77, 78, 18, 19, 20, 89, 90, 91, 92, 93, 94, 95, 96, 97, 98, 99, 100, 101, 102] (by decide +kernel) (by decide +kernel)
set_option maxRecDepth 20000 in
theorem gX5_connect_X5_connectIn : GoodIn wsX5_connect (wsV RX5 139 RX5 yX5_connectIn wsX5_connectIn) := goodIn_app (goodIn_of _ (by decide +kernel)) ggX5_connect_X5_connectIn
set_option maxRecDepth 20000 in
theorem ggX5_connect_X5_take : GoodIn wsX5_connect wsX5_take := goodIn_r _ [82, 1, 7, 21, 22, 23, 5, 24, 25, 83, 84, 85, 86, 87, 88, 30, 31, 32, 89, 90, 91, 92, 93, 94, 95, 96, 97, 98, 99, 100, 101, 102] (by decide +kernel) (by decide +kernel)
set_option maxRecDepth 20000 in
theorem gX5_connect_X5_take : GoodIn wsX5_connect (wsV RX5 204 RX5 yX5_take wsX5_take) := goodIn_app (goodIn_of _ (by decide +kernel)) ggX5_connect_X5_take
theorem dX5_connect_0 : decode cX5_connect 0 = .ok (.aload_n 0, 1) := by decide +kernel
theorem dX5_connect_1 : decode cX5_connect 1 = .ok (.aload_n 0, 1) := by decide +kernel
theorem dX5_connect_2 : decode cX5_connect 2 = .ok (.iload_n 1, 1) := by decide +kernel
theorem dX5_connect_3 : decode cX5_connect 3 = .ok (.invokevirtual 195, 3) := by decide +kernel
theorem dX5_connect_6 : decode cX5_connect 6 = .ok (.ifCond .eq 15, 3) := by decide +kernel
theorem dX5_connect_9 : decode cX5_connect 9 = .ok (.aload_n 0, 1) := by decide +kernel
theorem dX5_connect_10 : decode cX5_connect 10 = .ok (.iload_n 2, 1) := by decide +kernel
theorem dX5_connect_11 : decode cX5_connect 11 = .ok (.invokevirtual 192, 3) := by decide +kernel
theorem dX5_connect_14 : decode cX5_connect 14 = .ok (.ifCond .eq 7, 3) := by decide +kernel
theorem dX5_connect_17 : decode cX5_connect 17 = .ok (.iconst 0, 1) := by decide +kernel
theorem dX5_connect_18 : decode cX5_connect 18 = .ok (.goto 4, 3) := by decide +kernel
theorem dX5_connect_21 : decode cX5_connect 21 = .ok (.iconst 1, 1) := by decide +kernel
theorem dX5_connect_22 : decode cX5_connect 22 = .ok (.invokevirtual 110, 3) := by decide +kernel
theorem dX5_connect_25 : decode cX5_connect 25 = .ok (.ifCond .eq 5, 3) := by decide +kernel
theorem dX5_connect_28 : decode cX5_connect 28 = .ok (.iconst 0, 1) := by decide +kernel
theorem dX5_connect_29 : decode cX5_connect 29 = .ok (.ireturn, 1) := by decide +kernel
theorem dX5_connect_30 : decode cX5_connect 30 = .ok (.aload_n 0, 1) := by decide +kernel
theorem dX5_connect_31 : decode cX5_connect 31 = .ok (.invokevirtual 201, 3) := by decide +kernel
theorem dX5_connect_34 : decode cX5_connect 34 = .ok (.aload_n 0, 1) := by decide +kernel
theorem dX5_connect_35 : decode cX5_connect 35 = .ok (.aload_n 0, 1) := by decide +kernel
theorem dX5_connect_36 : decode cX5_connect 36 = .ok (.aload_n 0, 1) := by decide +kernel
theorem dX5_connect_37 : decode cX5_connect 37 = .ok (.getfield 19, 3) := by decide +kernel
theorem dX5_connect_40 : decode cX5_connect 40 = .ok (.iload_n 1, 1) := by decide +kernel
theorem dX5_connect_41 : decode cX5_connect 41 = .ok (.iload_n 2, 1) := by decide +kernel
theorem dX5_connect_42 : decode cX5_connect 42 = .ok (.invokevirtual 139, 3) := by decide +kernel
theorem dX5_connect_45 : decode cX5_connect 45 = .ok (.invokevirtual 204, 3) := by decide +kernel
theorem dX5_connect_48 : decode cX5_connect 48 = .ok (.ireturn, 1) := by decide +kernel
set_option maxRecDepth 20000 in
theorem ggX5_join_X5_isCall : GoodIn wsX5_join wsX5_isCall := goodIn_r _ [6, 7, 8, 9, 5, 10, 83, 84, 85, 86, 87, 88, 89, 90, 91, 92, 93, 94, 95, 96] (by decide +kernel) (by decide +kernel)
set_option maxRecDepth 20000 in
theorem gX5_join_X5_isCall : GoodIn wsX5_join (wsV RX5 184 RX5 yX5_isCall wsX5_isCall) := goodIn_app (goodIn_of _ (by decide +kernel)) ggX5_join_X5_isCall
set_option maxRecDepth 20000 in
theorem ggX5_join_X5_isOutput : GoodIn wsX5_join wsX5_isOutput := goodIn_r _ [14, 7, 15, 16, 5, 17, 8, 9, 10, 83, 84, 85, 86, 87, 88, 89, 90, 91, 92, 93, 94, 95, 96] (by decide +kernel) (by decide +kernel)
set_option maxRecDepth 20000 in
theorem gX5_join_X5_isOutput : GoodIn wsX5_join (wsV RX5 192 RX5 yX5_isOutput wsX5_isOutput) := goodIn_app (goodIn_of _ (by decide +kernel)) ggX5_join_X5_isOutput
set_option maxRecDepth 20000 in
theorem ggX5_join_X5_refused : GoodIn wsX5_join wsX5_refused := goodIn_r _ [21, 22, 83, 84, 85, 86, 87, 88, 89, 90, 91, 92, 93, 94, 95, 96] (by decide +kernel) (by decide +kernel)
set_option maxRecDepth 20000 in
theorem gX5_join_X5_refused : GoodIn wsX5_join (wsV RX5 110 RX5 yX5_refused wsX5_refused) := goodIn_app (goodIn_of _ (by decide +kernel)) ggX5_join_X5_refused
set_option maxRecDepth 20000 in
theorem ggX5_join_X5_tryIt : GoodIn wsX5_join wsX5_tryIt := goodIn_r _ [26, 7, 1, 27, 28, 5, 29, 83, 84, 85, 86, 87, 88, 89, 90, 91, 92, 93, 94, 95, 96] (by decide +kernel) (by decide +kernel)
set_option maxRecDepth 20000 in
theorem gX5_join_X5_tryIt : GoodIn wsX5_join (wsV RX5 201 RX5 yX5_tryIt wsX5_tryIt) := goodIn_app (goodIn_of _ (by decide +kernel)) ggX5_join_X5_tryIt
set_option maxRecDepth 20000 in
theorem ggX5_join_X5_joinIn : GoodIn wsX5_join wsX5_joinIn := goodIn_r _ [33, 34, 35, 5, 36, 37, 38, 39, 40, 41, 42, 43, 44, 45, 46, 47, 48, 49, 50, 51, 52, 53, 54, 55, 56, 57, 58, 59, 60, 61, 62, 63, 64, 65, 66, 67, 68, 69, 70, 71, 72, 15, 16, 17, 83, 84, 85, 86, 87, 88, 89, 90, 91, 92, 93, 94, 95, 96] (by decide +kernel) (by decide +kernel)
set_option maxRecDepth 20000 in
theorem gX5_join_X5_joinIn : GoodIn wsX5_join (wsV RX5 145 RX5 yX5_joinIn wsX5_joinIn) := goodIn_app (goodIn_of _ (by decide +kernel)) ggX5_join_X5_joinIn
set_option maxRecDepth 20000 in
theorem ggX5_join_X5_take : GoodIn wsX5_join wsX5_take := goodIn_r _ [76, 1, 7, 18, 19, 20, 5, 21, 22, 77, 78, 79, 80, 81, 82, 27, 28, 29, 83, 84, 85, 86, 87, 88, 89, 90, 91, 92, 93, 94, 95, 96] (by decide +kernel) (by decide +kernel)
set_option maxRecDepth 20000 in
theorem gX5_join_X5_take : GoodIn wsX5_join (wsV RX5 204 RX5 yX5_take wsX5_take) := goodIn_app (goodIn_of _ (by decide +kernel)) ggX5_join_X5_take
theorem dX5_join_0 : decode cX5_join 0 = .ok (.aload_n 0, 1) := by decide +kernel
theorem dX5_join_1 : decode cX5_join 1 = .ok (.aload_n 0, 1) := by decide +kernel
theorem dX5_join_2 : decode cX5_join 2 = .ok (.iload_n 1, 1) := by decide +kernel
theorem dX5_join_3 : decode cX5_join 3 = .ok (.invokevirtual 184, 3) := by decide +kernel
theorem dX5_join_6 : decode cX5_join 6 = .ok (.ifCond .eq 15, 3) := by decide +kernel
theorem dX5_join_9 : decode cX5_join 9 = .ok (.aload_n 0, 1) := by decide +kernel
theorem dX5_join_10 : decode cX5_join 10 = .ok (.iload_n 2, 1) := by decide +kernel
theorem dX5_join_11 : decode cX5_join 11 = .ok (.invokevirtual 192, 3) := by decide +kernel
theorem dX5_join_14 : decode cX5_join 14 = .ok (.ifCond .eq 7, 3) := by decide +kernel
theorem dX5_join_17 : decode cX5_join 17 = .ok (.iconst 0, 1) := by decide +kernel
theorem dX5_join_18 : decode cX5_join 18 = .ok (.goto 4, 3) := by decide +kernel
theorem dX5_join_21 : decode cX5_join 21 = .ok (.iconst 1, 1) := by decide +kernel
theorem dX5_join_22 : decode cX5_join 22 = .ok (.invokevirtual 110, 3) := by decide +kernel
theorem dX5_join_25 : decode cX5_join 25 = .ok (.ifCond .eq 5, 3) := by decide +kernel
theorem dX5_join_28 : decode cX5_join 28 = .ok (.iconst 0, 1) := by decide +kernel
theorem dX5_join_29 : decode cX5_join 29 = .ok (.ireturn, 1) := by decide +kernel
theorem dX5_join_30 : decode cX5_join 30 = .ok (.aload_n 0, 1) := by decide +kernel
theorem dX5_join_31 : decode cX5_join 31 = .ok (.invokevirtual 201, 3) := by decide +kernel
theorem dX5_join_34 : decode cX5_join 34 = .ok (.aload_n 0, 1) := by decide +kernel
theorem dX5_join_35 : decode cX5_join 35 = .ok (.aload_n 0, 1) := by decide +kernel
theorem dX5_join_36 : decode cX5_join 36 = .ok (.aload_n 0, 1) := by decide +kernel
theorem dX5_join_37 : decode cX5_join 37 = .ok (.getfield 19, 3) := by decide +kernel
theorem dX5_join_40 : decode cX5_join 40 = .ok (.iload_n 1, 1) := by decide +kernel
theorem dX5_join_41 : decode cX5_join 41 = .ok (.iload_n 2, 1) := by decide +kernel
theorem dX5_join_42 : decode cX5_join 42 = .ok (.invokevirtual 145, 3) := by decide +kernel
theorem dX5_join_45 : decode cX5_join 45 = .ok (.invokevirtual 204, 3) := by decide +kernel
theorem dX5_join_48 : decode cX5_join 48 = .ok (.ireturn, 1) := by decide +kernel
set_option maxRecDepth 20000 in
theorem ggX5_hang_X5_isCall : GoodIn wsX5_hang wsX5_isCall := goodIn_r _ [6, 1, 7, 8, 5, 9, 30, 31, 32, 33, 34, 35, 36, 37, 38, 39, 40, 41, 42, 43] (by decide +kernel) (by decide +kernel)
set_option maxRecDepth 20000 in
theorem gX5_hang_X5_isCall : GoodIn wsX5_hang (wsV RX5 184 RX5 yX5_isCall wsX5_isCall) := goodIn_app (goodIn_of _ (by decide +kernel)) ggX5_hang_X5_isCall
set_option maxRecDepth 20000 in
theorem ggX5_hang_X5_refused : GoodIn wsX5_hang wsX5_refused := goodIn_r _ [13, 14, 30, 31, 32, 33, 34, 35, 36, 37, 38, 39, 40, 41, 42, 43] (by decide +kernel) (by decide +kernel)
set_option maxRecDepth 20000 in
theorem gX5_hang_X5_refused : GoodIn wsX5_hang (wsV RX5 110 RX5 yX5_refused wsX5_refused) := goodIn_app (goodIn_of _ (by decide +kernel)) ggX5_hang_X5_refused
set_option maxRecDepth 20000 in
theorem ggX5_hang_X5_remember : GoodIn wsX5_hang wsX5_remember := goodIn_r _ [18, 19, 20, 1, 21, 22, 5, 23, 30, 31, 32, 33, 34, 35, 36, 37, 38, 39, 40, 41, 42, 43] (by decide +kernel) (by decide +kernel)
set_option maxRecDepth 20000 in
theorem gX5_hang_X5_remember : GoodIn wsX5_hang (wsV RX5 198 RX5 yX5_remember wsX5_remember) := goodIn_app (goodIn_of _ (by decide +kernel)) ggX5_hang_X5_remember
set_option maxRecDepth 20000 in
theorem ggX5_hang_X5_hangIn : GoodIn wsX5_hang wsX5_hangIn := goodIn_r _ [26, 27, 28, 5, 29, 21, 22, 23] (by decide +kernel) (by decide +kernel)
set_option maxRecDepth 20000 in
theorem gX5_hang_X5_hangIn : GoodIn wsX5_hang (va_wsS RX5 148 yX5_hangIn wsX5_hangIn) := goodIn_app (goodIn_of _ (by decide +kernel)) ggX5_hang_X5_hangIn
theorem dX5_hang_0 : decode cX5_hang 0 = .ok (.aload_n 0, 1) := by decide +kernel
theorem dX5_hang_1 : decode cX5_hang 1 = .ok (.aload_n 0, 1) := by decide +kernel
theorem dX5_hang_2 : decode cX5_hang 2 = .ok (.iload_n 1, 1) := by decide +kernel
theorem dX5_hang_3 : decode cX5_hang 3 = .ok (.invokevirtual 184, 3) := by decide +kernel
theorem dX5_hang_6 : decode cX5_hang 6 = .ok (.ifCond .eq 7, 3) := by decide +kernel
theorem dX5_hang_9 : decode cX5_hang 9 = .ok (.iconst 0, 1) := by decide +kernel
theorem dX5_hang_10 : decode cX5_hang 10 = .ok (.goto 4, 3) := by decide +kernel
theorem dX5_hang_13 : decode cX5_hang 13 = .ok (.iconst 1, 1) := by decide +kernel
theorem dX5_hang_14 : decode cX5_hang 14 = .ok (.invokevirtual 110, 3) := by decide +kernel
theorem dX5_hang_17 : decode cX5_hang 17 = .ok (.ifCond .eq 5, 3) := by decide +kernel
theorem dX5_hang_20 : decode cX5_hang 20 = .ok (.iconst 0, 1) := by decide +kernel
theorem dX5_hang_21 : decode cX5_hang 21 = .ok (.ireturn, 1) := by decide +kernel
theorem dX5_hang_22 : decode cX5_hang 22 = .ok (.aload_n 0, 1) := by decide +kernel
theorem dX5_hang_23 : decode cX5_hang 23 = .ok (.invokevirtual 198, 3) := by decide +kernel
theorem dX5_hang_26 : decode cX5_hang 26 = .ok (.aload_n 0, 1) := by decide +kernel
theorem dX5_hang_27 : decode cX5_hang 27 = .ok (.getfield 16, 3) := by decide +kernel
theorem dX5_hang_30 : decode cX5_hang 30 = .ok (.iload_n 1, 1) := by decide +kernel
theorem dX5_hang_31 : decode cX5_hang 31 = .ok (.invokestatic 148, 3) := by decide +kernel
theorem dX5_hang_34 : decode cX5_hang 34 = .ok (.aload_n 0, 1) := by decide +kernel
theorem dX5_hang_35 : decode cX5_hang 35 = .ok (.getfield 16, 3) := by decide +kernel
theorem dX5_hang_38 : decode cX5_hang 38 = .ok (.iconst 4, 1) := by decide +kernel
theorem dX5_hang_39 : decode cX5_hang 39 = .ok (.iaload, 1) := by decide +kernel
theorem dX5_hang_40 : decode cX5_hang 40 = .ok (.ireturn, 1) := by decide +kernel
set_option maxRecDepth 20000 in
theorem ggX5_drop_X5_isOutput : GoodIn wsX5_drop wsX5_isOutput := goodIn_r _ [6, 1, 7, 8, 5, 9, 10, 11, 12, 42, 43, 44, 45, 46, 47, 48, 49, 50, 51, 52, 53, 54, 55] (by decide +kernel) (by decide +kernel)
set_option maxRecDepth 20000 in
theorem gX5_drop_X5_isOutput : GoodIn wsX5_drop (wsV RX5 192 RX5 yX5_isOutput wsX5_isOutput) := goodIn_app (goodIn_of _ (by decide +kernel)) ggX5_drop_X5_isOutput
set_option maxRecDepth 20000 in
theorem ggX5_drop_X5_canDrop : GoodIn wsX5_drop wsX5_canDrop := goodIn_r _ [15, 16, 17, 5, 18, 19, 20, 21, 22, 23, 24] (by decide +kernel) (by decide +kernel)
set_option maxRecDepth 20000 in
theorem gX5_drop_X5_canDrop : GoodIn wsX5_drop (va_wsS RX5 207 yX5_canDrop wsX5_canDrop) := goodIn_app (goodIn_of _ (by decide +kernel)) ggX5_drop_X5_canDrop
set_option maxRecDepth 20000 in
theorem ggX5_drop_X5_refused : GoodIn wsX5_drop wsX5_refused := goodIn_r _ [28, 29, 42, 43, 44, 45, 46, 47, 48, 49, 50, 51, 52, 53, 54, 55] (by decide +kernel) (by decide +kernel)
set_option maxRecDepth 20000 in
theorem gX5_drop_X5_refused : GoodIn wsX5_drop (wsV RX5 110 RX5 yX5_refused wsX5_refused) := goodIn_app (goodIn_of _ (by decide +kernel)) ggX5_drop_X5_refused
set_option maxRecDepth 20000 in
theorem ggX5_drop_X5_remember : GoodIn wsX5_drop wsX5_remember := goodIn_r _ [33, 34, 35, 1, 36, 37, 5, 38, 42, 43, 44, 45, 46, 47, 48, 49, 50, 51, 52, 53, 54, 55] (by decide +kernel) (by decide +kernel)
set_option maxRecDepth 20000 in
theorem gX5_drop_X5_remember : GoodIn wsX5_drop (wsV RX5 198 RX5 yX5_remember wsX5_remember) := goodIn_app (goodIn_of _ (by decide +kernel)) ggX5_drop_X5_remember
set_option maxRecDepth 20000 in
theorem ggX5_drop_X5_dropIn : GoodIn wsX5_drop wsX5_dropIn := goodIn_r _ [41, 16, 17, 5, 18, 19, 20, 21, 22, 23, 24] (by decide +kernel) (by decide +kernel)
set_option maxRecDepth 20000 in
theorem gX5_drop_X5_dropIn : GoodIn wsX5_drop (va_wsS RX5 210 yX5_dropIn wsX5_dropIn) := goodIn_app (goodIn_of _ (by decide +kernel)) ggX5_drop_X5_dropIn
theorem dX5_drop_0 : decode cX5_drop 0 = .ok (.aload_n 0, 1) := by decide +kernel
theorem dX5_drop_1 : decode cX5_drop 1 = .ok (.aload_n 0, 1) := by decide +kernel
theorem dX5_drop_2 : decode cX5_drop 2 = .ok (.iload_n 1, 1) := by decide +kernel
theorem dX5_drop_3 : decode cX5_drop 3 = .ok (.invokevirtual 192, 3) := by decide +kernel
theorem dX5_drop_6 : decode cX5_drop 6 = .ok (.ifCond .ne 7, 3) := by decide +kernel
theorem dX5_drop_9 : decode cX5_drop 9 = .ok (.iconst 1, 1) := by decide +kernel
theorem dX5_drop_10 : decode cX5_drop 10 = .ok (.goto 19, 3) := by decide +kernel
theorem dX5_drop_13 : decode cX5_drop 13 = .ok (.aload_n 0, 1) := by decide +kernel
theorem dX5_drop_14 : decode cX5_drop 14 = .ok (.getfield 16, 3) := by decide +kernel
theorem dX5_drop_17 : decode cX5_drop 17 = .ok (.iload_n 1, 1) := by decide +kernel
theorem dX5_drop_18 : decode cX5_drop 18 = .ok (.invokestatic 207, 3) := by decide +kernel
theorem dX5_drop_21 : decode cX5_drop 21 = .ok (.ifCond .eq 7, 3) := by decide +kernel
theorem dX5_drop_24 : decode cX5_drop 24 = .ok (.iconst 0, 1) := by decide +kernel
theorem dX5_drop_25 : decode cX5_drop 25 = .ok (.goto 4, 3) := by decide +kernel
theorem dX5_drop_28 : decode cX5_drop 28 = .ok (.iconst 2, 1) := by decide +kernel
theorem dX5_drop_29 : decode cX5_drop 29 = .ok (.invokevirtual 110, 3) := by decide +kernel
theorem dX5_drop_32 : decode cX5_drop 32 = .ok (.ifCond .eq 5, 3) := by decide +kernel
theorem dX5_drop_35 : decode cX5_drop 35 = .ok (.iconst 0, 1) := by decide +kernel
theorem dX5_drop_36 : decode cX5_drop 36 = .ok (.ireturn, 1) := by decide +kernel
theorem dX5_drop_37 : decode cX5_drop 37 = .ok (.aload_n 0, 1) := by decide +kernel
theorem dX5_drop_38 : decode cX5_drop 38 = .ok (.invokevirtual 198, 3) := by decide +kernel
theorem dX5_drop_41 : decode cX5_drop 41 = .ok (.aload_n 0, 1) := by decide +kernel
theorem dX5_drop_42 : decode cX5_drop 42 = .ok (.getfield 16, 3) := by decide +kernel
theorem dX5_drop_45 : decode cX5_drop 45 = .ok (.iload_n 1, 1) := by decide +kernel
theorem dX5_drop_46 : decode cX5_drop 46 = .ok (.invokestatic 210, 3) := by decide +kernel
theorem dX5_drop_49 : decode cX5_drop 49 = .ok (.ireturn, 1) := by decide +kernel
set_option maxRecDepth 20000 in
theorem ggX5_setBroken_X5_isMiddle : GoodIn wsX5_setBroken wsX5_isMiddle := goodIn_r _ [6, 1, 7, 8, 5, 9, 36, 37, 38, 39, 40, 41, 42, 43, 44, 45, 46, 47, 48, 49] (by decide +kernel) (by decide +kernel)
set_option maxRecDepth 20000 in
theorem gX5_setBroken_X5_isMiddle : GoodIn wsX5_setBroken (wsV RX5 189 RX5 yX5_isMiddle wsX5_isMiddle) := goodIn_app (goodIn_of _ (by decide +kernel)) ggX5_setBroken_X5_isMiddle
set_option maxRecDepth 20000 in
theorem ggX5_setBroken_X5_canBreak : GoodIn wsX5_setBroken wsX5_canBreak := goodIn_r _ [12, 13, 14, 5, 15] (by decide +kernel) (by decide +kernel)
set_option maxRecDepth 20000 in
theorem gX5_setBroken_X5_canBreak : GoodIn wsX5_setBroken (va_wsS RX5 152 yX5_canBreak wsX5_canBreak) := goodIn_app (goodIn_of _ (by decide +kernel)) ggX5_setBroken_X5_canBreak
set_option maxRecDepth 20000 in
theorem ggX5_setBroken_X5_refused : GoodIn wsX5_setBroken wsX5_refused := goodIn_r _ [19, 20, 36, 37, 38, 39, 40, 41, 42, 43, 44, 45, 46, 47, 48, 49] (by decide +kernel) (by decide +kernel)
set_option maxRecDepth 20000 in
theorem gX5_setBroken_X5_refused : GoodIn wsX5_setBroken (wsV RX5 110 RX5 yX5_refused wsX5_refused) := goodIn_app (goodIn_of _ (by decide +kernel)) ggX5_setBroken_X5_refused
set_option maxRecDepth 20000 in
theorem ggX5_setBroken_X5_remember : GoodIn wsX5_setBroken wsX5_remember := goodIn_r _ [24, 25, 26, 1, 27, 28, 5, 29, 36, 37, 38, 39, 40, 41, 42, 43, 44, 45, 46, 47, 48, 49] (by decide +kernel) (by decide +kernel)
set_option maxRecDepth 20000 in
theorem gX5_setBroken_X5_remember : GoodIn wsX5_setBroken (wsV RX5 198 RX5 yX5_remember wsX5_remember) := goodIn_app (goodIn_of _ (by decide +kernel)) ggX5_setBroken_X5_remember
set_option maxRecDepth 20000 in
theorem ggX5_setBroken_X5_breakIn : GoodIn wsX5_setBroken wsX5_breakIn := goodIn_r _ [32] (by decide +kernel) (by decide +kernel)
set_option maxRecDepth 20000 in
theorem gX5_setBroken_X5_breakIn : GoodIn wsX5_setBroken (va_wsS RX5 155 yX5_breakIn wsX5_breakIn) := goodIn_app (goodIn_of _ (by decide +kernel)) ggX5_setBroken_X5_breakIn
set_option maxRecDepth 20000 in
theorem ggX5_setBroken_X5_bits : GoodIn wsX5_setBroken wsX5_bits := goodIn_r _ [35] (by decide +kernel) (by decide +kernel)
set_option maxRecDepth 20000 in
theorem gX5_setBroken_X5_bits : GoodIn wsX5_setBroken (va_wsS RX5 67 yX5_bits wsX5_bits) := goodIn_app (goodIn_of _ (by decide +kernel)) ggX5_setBroken_X5_bits
theorem dX5_setBroken_0 : decode cX5_setBroken 0 = .ok (.aload_n 0, 1) := by decide +kernel
theorem dX5_setBroken_1 : decode cX5_setBroken 1 = .ok (.aload_n 0, 1) := by decide +kernel
theorem dX5_setBroken_2 : decode cX5_setBroken 2 = .ok (.iload_n 1, 1) := by decide +kernel
theorem dX5_setBroken_3 : decode cX5_setBroken 3 = .ok (.invokevirtual 189, 3) := by decide +kernel
theorem dX5_setBroken_6 : decode cX5_setBroken 6 = .ok (.ifCond .ne 7, 3) := by decide +kernel
theorem dX5_setBroken_9 : decode cX5_setBroken 9 = .ok (.iconst 1, 1) := by decide +kernel
theorem dX5_setBroken_10 : decode cX5_setBroken 10 = .ok (.goto 23, 3) := by decide +kernel
theorem dX5_setBroken_13 : decode cX5_setBroken 13 = .ok (.iload_n 2, 1) := by decide +kernel
theorem dX5_setBroken_14 : decode cX5_setBroken 14 = .ok (.ifCond .eq 18, 3) := by decide +kernel
theorem dX5_setBroken_17 : decode cX5_setBroken 17 = .ok (.aload_n 0, 1) := by decide +kernel
theorem dX5_setBroken_18 : decode cX5_setBroken 18 = .ok (.getfield 16, 3) := by decide +kernel
theorem dX5_setBroken_21 : decode cX5_setBroken 21 = .ok (.iload_n 1, 1) := by decide +kernel
theorem dX5_setBroken_22 : decode cX5_setBroken 22 = .ok (.invokestatic 152, 3) := by decide +kernel
theorem dX5_setBroken_25 : decode cX5_setBroken 25 = .ok (.ifCond .ne 7, 3) := by decide +kernel
theorem dX5_setBroken_28 : decode cX5_setBroken 28 = .ok (.iconst 2, 1) := by decide +kernel
theorem dX5_setBroken_29 : decode cX5_setBroken 29 = .ok (.goto 4, 3) := by decide +kernel
theorem dX5_setBroken_32 : decode cX5_setBroken 32 = .ok (.iconst 0, 1) := by decide +kernel
theorem dX5_setBroken_33 : decode cX5_setBroken 33 = .ok (.invokevirtual 110, 3) := by decide +kernel
theorem dX5_setBroken_36 : decode cX5_setBroken 36 = .ok (.ifCond .eq 5, 3) := by decide +kernel
theorem dX5_setBroken_39 : decode cX5_setBroken 39 = .ok (.iconst 0, 1) := by decide +kernel
theorem dX5_setBroken_40 : decode cX5_setBroken 40 = .ok (.ireturn, 1) := by decide +kernel
theorem dX5_setBroken_41 : decode cX5_setBroken 41 = .ok (.aload_n 0, 1) := by decide +kernel
theorem dX5_setBroken_42 : decode cX5_setBroken 42 = .ok (.invokevirtual 198, 3) := by decide +kernel
theorem dX5_setBroken_45 : decode cX5_setBroken 45 = .ok (.aload_n 0, 1) := by decide +kernel
theorem dX5_setBroken_46 : decode cX5_setBroken 46 = .ok (.getfield 16, 3) := by decide +kernel
theorem dX5_setBroken_49 : decode cX5_setBroken 49 = .ok (.iload_n 1, 1) := by decide +kernel
theorem dX5_setBroken_50 : decode cX5_setBroken 50 = .ok (.iload_n 2, 1) := by decide +kernel
theorem dX5_setBroken_51 : decode cX5_setBroken 51 = .ok (.invokestatic 155, 3) := by decide +kernel
theorem dX5_setBroken_54 : decode cX5_setBroken 54 = .ok (.aload_n 0, 1) := by decide +kernel
theorem dX5_setBroken_55 : decode cX5_setBroken 55 = .ok (.getfield 16, 3) := by decide +kernel
theorem dX5_setBroken_58 : decode cX5_setBroken 58 = .ok (.iconst 2, 1) := by decide +kernel
theorem dX5_setBroken_59 : decode cX5_setBroken 59 = .ok (.iaload, 1) := by decide +kernel
theorem dX5_setBroken_60 : decode cX5_setBroken 60 = .ok (.aload_n 0, 1) := by decide +kernel
theorem dX5_setBroken_61 : decode cX5_setBroken 61 = .ok (.getfield 16, 3) := by decide +kernel
theorem dX5_setBroken_64 : decode cX5_setBroken 64 = .ok (.bipush 7, 2) := by decide +kernel
theorem dX5_setBroken_66 : decode cX5_setBroken 66 = .ok (.iaload, 1) := by decide +kernel
theorem dX5_setBroken_67 : decode cX5_setBroken 67 = .ok (.invokestatic 67, 3) := by decide +kernel
theorem dX5_setBroken_70 : decode cX5_setBroken 70 = .ok (.isub, 1) := by decide +kernel
theorem dX5_setBroken_71 : decode cX5_setBroken 71 = .ok (.ireturn, 1) := by decide +kernel
set_option maxRecDepth 20000 in
theorem ggX5_setPatience_X5_in : GoodIn wsX5_setPatience wsX5_in := goodIn_r _ [6] (by decide +kernel) (by decide +kernel)
set_option maxRecDepth 20000 in
theorem gX5_setPatience_X5_in : GoodIn wsX5_setPatience (va_wsS RX5 103 yX5_in wsX5_in) := goodIn_app (goodIn_of _ (by decide +kernel)) ggX5_setPatience_X5_in
set_option maxRecDepth 20000 in
theorem ggX5_setPatience_X5_refused : GoodIn wsX5_setPatience wsX5_refused := goodIn_r _ [10, 11, 21, 22, 23, 24, 25, 26, 27, 28, 29, 30, 31, 32, 33, 34] (by decide +kernel) (by decide +kernel)
set_option maxRecDepth 20000 in
theorem gX5_setPatience_X5_refused : GoodIn wsX5_setPatience (wsV RX5 110 RX5 yX5_refused wsX5_refused) := goodIn_app (goodIn_of _ (by decide +kernel)) ggX5_setPatience_X5_refused
set_option maxRecDepth 20000 in
theorem ggX5_setPatience_X5_remember : GoodIn wsX5_setPatience wsX5_remember := goodIn_r _ [15, 16, 17, 2, 18, 19, 5, 20, 21, 22, 23, 24, 25, 26, 27, 28, 29, 30, 31, 32, 33, 34] (by decide +kernel) (by decide +kernel)
set_option maxRecDepth 20000 in
theorem gX5_setPatience_X5_remember : GoodIn wsX5_setPatience (wsV RX5 198 RX5 yX5_remember wsX5_remember) := goodIn_app (goodIn_of _ (by decide +kernel)) ggX5_setPatience_X5_remember
theorem dX5_setPatience_0 : decode cX5_setPatience 0 = .ok (.aload_n 0, 1) := by decide +kernel
theorem dX5_setPatience_1 : decode cX5_setPatience 1 = .ok (.iload_n 1, 1) := by decide +kernel
theorem dX5_setPatience_2 : decode cX5_setPatience 2 = .ok (.i2l, 1) := by decide +kernel
theorem dX5_setPatience_3 : decode cX5_setPatience 3 = .ok (.lconst 0, 1) := by decide +kernel
theorem dX5_setPatience_4 : decode cX5_setPatience 4 = .ok (.ldc2_w 213, 3) := by decide +kernel
theorem dX5_setPatience_7 : decode cX5_setPatience 7 = .ok (.invokestatic 103, 3) := by decide +kernel
theorem dX5_setPatience_10 : decode cX5_setPatience 10 = .ok (.ifCond .eq 7, 3) := by decide +kernel
theorem dX5_setPatience_13 : decode cX5_setPatience 13 = .ok (.iconst 0, 1) := by decide +kernel
theorem dX5_setPatience_14 : decode cX5_setPatience 14 = .ok (.goto 4, 3) := by decide +kernel
theorem dX5_setPatience_17 : decode cX5_setPatience 17 = .ok (.iconst 1, 1) := by decide +kernel
theorem dX5_setPatience_18 : decode cX5_setPatience 18 = .ok (.invokevirtual 110, 3) := by decide +kernel
theorem dX5_setPatience_21 : decode cX5_setPatience 21 = .ok (.ifCond .eq 5, 3) := by decide +kernel
theorem dX5_setPatience_24 : decode cX5_setPatience 24 = .ok (.iconst 0, 1) := by decide +kernel
theorem dX5_setPatience_25 : decode cX5_setPatience 25 = .ok (.ireturn, 1) := by decide +kernel
theorem dX5_setPatience_26 : decode cX5_setPatience 26 = .ok (.aload_n 0, 1) := by decide +kernel
theorem dX5_setPatience_27 : decode cX5_setPatience 27 = .ok (.invokevirtual 198, 3) := by decide +kernel
theorem dX5_setPatience_30 : decode cX5_setPatience 30 = .ok (.aload_n 0, 1) := by decide +kernel
theorem dX5_setPatience_31 : decode cX5_setPatience 31 = .ok (.getfield 16, 3) := by decide +kernel
theorem dX5_setPatience_34 : decode cX5_setPatience 34 = .ok (.iconst 5, 1) := by decide +kernel
theorem dX5_setPatience_35 : decode cX5_setPatience 35 = .ok (.iaload, 1) := by decide +kernel
theorem dX5_setPatience_36 : decode cX5_setPatience 36 = .ok (.istore_n 2, 1) := by decide +kernel
theorem dX5_setPatience_37 : decode cX5_setPatience 37 = .ok (.aload_n 0, 1) := by decide +kernel
theorem dX5_setPatience_38 : decode cX5_setPatience 38 = .ok (.getfield 16, 3) := by decide +kernel
theorem dX5_setPatience_41 : decode cX5_setPatience 41 = .ok (.iconst 5, 1) := by decide +kernel
theorem dX5_setPatience_42 : decode cX5_setPatience 42 = .ok (.iload_n 1, 1) := by decide +kernel
theorem dX5_setPatience_43 : decode cX5_setPatience 43 = .ok (.iastore, 1) := by decide +kernel
theorem dX5_setPatience_44 : decode cX5_setPatience 44 = .ok (.iload_n 2, 1) := by decide +kernel
theorem dX5_setPatience_45 : decode cX5_setPatience 45 = .ok (.ireturn, 1) := by decide +kernel
set_option maxRecDepth 20000 in
theorem ggX5_undo_X5_refused : GoodIn wsX5_undo wsX5_refused := goodIn_r _ [8, 9, 13, 14, 15, 16, 17, 18, 19, 20, 21, 22, 23, 24, 25, 26] (by decide +kernel) (by decide +kernel)
set_option maxRecDepth 20000 in
theorem gX5_undo_X5_refused : GoodIn wsX5_undo (wsV RX5 110 RX5 yX5_refused wsX5_refused) := goodIn_app (goodIn_of _ (by decide +kernel)) ggX5_undo_X5_refused
set_option maxRecDepth 20000 in
theorem ggX5_undo_X5_copy : GoodIn wsX5_undo wsX5_copy := goodIn_r _ [12] (by decide +kernel) (by decide +kernel)
set_option maxRecDepth 20000 in
theorem gX5_undo_X5_copy : GoodIn wsX5_undo (va_wsS RX5 48 yX5_copy wsX5_copy) := goodIn_app (goodIn_of _ (by decide +kernel)) ggX5_undo_X5_copy
theorem dX5_undo_0 : decode cX5_undo 0 = .ok (.aload_n 0, 1) := by decide +kernel
theorem dX5_undo_1 : decode cX5_undo 1 = .ok (.aload_n 0, 1) := by decide +kernel
theorem dX5_undo_2 : decode cX5_undo 2 = .ok (.getfield 45, 3) := by decide +kernel
theorem dX5_undo_5 : decode cX5_undo 5 = .ok (.ifCond .ne 7, 3) := by decide +kernel
theorem dX5_undo_8 : decode cX5_undo 8 = .ok (.iconst 1, 1) := by decide +kernel
theorem dX5_undo_9 : decode cX5_undo 9 = .ok (.goto 4, 3) := by decide +kernel
theorem dX5_undo_12 : decode cX5_undo 12 = .ok (.iconst 0, 1) := by decide +kernel
theorem dX5_undo_13 : decode cX5_undo 13 = .ok (.invokevirtual 110, 3) := by decide +kernel
theorem dX5_undo_16 : decode cX5_undo 16 = .ok (.ifCond .eq 5, 3) := by decide +kernel
theorem dX5_undo_19 : decode cX5_undo 19 = .ok (.iconst 0, 1) := by decide +kernel
theorem dX5_undo_20 : decode cX5_undo 20 = .ok (.ireturn, 1) := by decide +kernel
theorem dX5_undo_21 : decode cX5_undo 21 = .ok (.aload_n 0, 1) := by decide +kernel
theorem dX5_undo_22 : decode cX5_undo 22 = .ok (.dup, 1) := by decide +kernel
theorem dX5_undo_23 : decode cX5_undo 23 = .ok (.getfield 45, 3) := by decide +kernel
theorem dX5_undo_26 : decode cX5_undo 26 = .ok (.iconst 1, 1) := by decide +kernel
theorem dX5_undo_27 : decode cX5_undo 27 = .ok (.isub, 1) := by decide +kernel
theorem dX5_undo_28 : decode cX5_undo 28 = .ok (.putfield 45, 3) := by decide +kernel
theorem dX5_undo_31 : decode cX5_undo 31 = .ok (.aload_n 0, 1) := by decide +kernel
theorem dX5_undo_32 : decode cX5_undo 32 = .ok (.getfield 22, 3) := by decide +kernel
theorem dX5_undo_35 : decode cX5_undo 35 = .ok (.bipush 104, 2) := by decide +kernel
theorem dX5_undo_37 : decode cX5_undo 37 = .ok (.aload_n 0, 1) := by decide +kernel
theorem dX5_undo_38 : decode cX5_undo 38 = .ok (.getfield 45, 3) := by decide +kernel
theorem dX5_undo_41 : decode cX5_undo 41 = .ok (.imul, 1) := by decide +kernel
theorem dX5_undo_42 : decode cX5_undo 42 = .ok (.aload_n 0, 1) := by decide +kernel
theorem dX5_undo_43 : decode cX5_undo 43 = .ok (.getfield 16, 3) := by decide +kernel
theorem dX5_undo_46 : decode cX5_undo 46 = .ok (.iconst 0, 1) := by decide +kernel
theorem dX5_undo_47 : decode cX5_undo 47 = .ok (.bipush 104, 2) := by decide +kernel
theorem dX5_undo_49 : decode cX5_undo 49 = .ok (.invokestatic 48, 3) := by decide +kernel
theorem dX5_undo_52 : decode cX5_undo 52 = .ok (.aload_n 0, 1) := by decide +kernel
theorem dX5_undo_53 : decode cX5_undo 53 = .ok (.getfield 45, 3) := by decide +kernel
theorem dX5_undo_56 : decode cX5_undo 56 = .ok (.ireturn, 1) := by decide +kernel
set_option maxRecDepth 20000 in
theorem ggX5_movesFor_X5_tryIt : GoodIn wsX5_movesFor wsX5_tryIt := goodIn_r _ [6, 7, 1, 8, 9, 5, 10, 60, 61, 62, 63, 64, 65, 66, 67, 68, 69, 70, 71, 72, 73] (by decide +kernel) (by decide +kernel)
set_option maxRecDepth 20000 in
theorem gX5_movesFor_X5_tryIt : GoodIn wsX5_movesFor (wsV RX5 201 RX5 yX5_tryIt wsX5_tryIt) := goodIn_app (goodIn_of _ (by decide +kernel)) ggX5_movesFor_X5_tryIt
set_option maxRecDepth 20000 in
theorem ggX5_movesFor_X5_connectIn : GoodIn wsX5_movesFor wsX5_connectIn := goodIn_r _ [14, 15, 16, 5, 17, 18, 19, 20, 21, 22, 23, 24, 25, 26, 27, 28, 29, 30, 31, 32, 33, 34, 35, 36, 37, 38, 39, 40, 41, 42, 43, 44, 45, 46, 47, 48, 49, 50, 51, 52, 53, 54, 55, 56, 57, 58, 59, 60, 61, 62, 63, 64, 65, 66, 67, 68, 69, 70, 71, 72, 73] (by decide +kernel) (by decide +kernel)
set_option maxRecDepth 20000 in
theorem gX5_movesFor_X5_connectIn : GoodIn wsX5_movesFor (wsV RX5 139 RX5 yX5_connectIn wsX5_connectIn) := goodIn_app (goodIn_of _ (by decide +kernel)) ggX5_movesFor_X5_connectIn
theorem dX5_movesFor_0 : decode cX5_movesFor 0 = .ok (.aload_n 0, 1) := by decide +kernel
theorem dX5_movesFor_1 : decode cX5_movesFor 1 = .ok (.invokevirtual 201, 3) := by decide +kernel
theorem dX5_movesFor_4 : decode cX5_movesFor 4 = .ok (.aload_n 0, 1) := by decide +kernel
theorem dX5_movesFor_5 : decode cX5_movesFor 5 = .ok (.aload_n 0, 1) := by decide +kernel
theorem dX5_movesFor_6 : decode cX5_movesFor 6 = .ok (.getfield 19, 3) := by decide +kernel
theorem dX5_movesFor_9 : decode cX5_movesFor 9 = .ok (.iload_n 1, 1) := by decide +kernel
theorem dX5_movesFor_10 : decode cX5_movesFor 10 = .ok (.iload_n 2, 1) := by decide +kernel
theorem dX5_movesFor_11 : decode cX5_movesFor 11 = .ok (.invokevirtual 139, 3) := by decide +kernel
theorem dX5_movesFor_14 : decode cX5_movesFor 14 = .ok (.ireturn, 1) := by decide +kernel
set_option maxRecDepth 20000 in
theorem ggX5_moves_X5_isInput : GoodIn wsX5_moves wsX5_isInput := goodIn_r _ [5, 6, 7, 8, 4, 9, 10, 11, 12, 83, 84, 85, 86, 87, 88, 89, 90, 91, 92, 93, 94, 95, 96] (by decide +kernel) (by decide +kernel)
set_option maxRecDepth 20000 in
theorem gX5_moves_X5_isInput : GoodIn wsX5_moves (wsV RX5 195 RX5 yX5_isInput wsX5_isInput) := goodIn_app (goodIn_of _ (by decide +kernel)) ggX5_moves_X5_isInput
set_option maxRecDepth 20000 in
theorem ggX5_moves_X5_isOutput : GoodIn wsX5_moves wsX5_isOutput := goodIn_r _ [16, 6, 17, 18, 4, 19, 10, 11, 12, 83, 84, 85, 86, 87, 88, 89, 90, 91, 92, 93, 94, 95, 96] (by decide +kernel) (by decide +kernel)
set_option maxRecDepth 20000 in
theorem gX5_moves_X5_isOutput : GoodIn wsX5_moves (wsV RX5 192 RX5 yX5_isOutput wsX5_isOutput) := goodIn_app (goodIn_of _ (by decide +kernel)) ggX5_moves_X5_isOutput
set_option maxRecDepth 20000 in
theorem ggX5_moves_X5_refused : GoodIn wsX5_moves wsX5_refused := goodIn_r _ [23, 24, 83, 84, 85, 86, 87, 88, 89, 90, 91, 92, 93, 94, 95, 96] (by decide +kernel) (by decide +kernel)
set_option maxRecDepth 20000 in
theorem gX5_moves_X5_refused : GoodIn wsX5_moves (wsV RX5 110 RX5 yX5_refused wsX5_refused) := goodIn_app (goodIn_of _ (by decide +kernel)) ggX5_moves_X5_refused
set_option maxRecDepth 20000 in
theorem ggX5_moves_X5_movesFor : GoodIn wsX5_moves wsX5_movesFor := goodIn_r _ [28, 29, 30, 31, 32, 4, 33, 6, 34, 35, 36, 37, 38, 39, 40, 41, 42, 43, 44, 45, 46, 47, 48, 49, 50, 51, 52, 53, 54, 55, 56, 57, 58, 59, 60, 61, 62, 63, 64, 65, 66, 67, 68, 69, 70, 71, 72, 73, 74, 75, 76, 77, 78, 79, 80, 81, 82, 17, 18, 19, 83, 84, 85, 86, 87, 88, 89, 90, 91, 92, 93, 94, 95, 96] (by decide +kernel) (by decide +kernel)
set_option maxRecDepth 20000 in
theorem gX5_moves_X5_movesFor : GoodIn wsX5_moves (wsV RX5 215 RX5 yX5_movesFor wsX5_movesFor) := goodIn_app (goodIn_of _ (by decide +kernel)) ggX5_moves_X5_movesFor
theorem dX5_moves_0 : decode cX5_moves 0 = .ok (.aload_n 0, 1) := by decide +kernel
theorem dX5_moves_1 : decode cX5_moves 1 = .ok (.aload_n 0, 1) := by decide +kernel
theorem dX5_moves_2 : decode cX5_moves 2 = .ok (.iload_n 1, 1) := by decide +kernel
theorem dX5_moves_3 : decode cX5_moves 3 = .ok (.invokevirtual 195, 3) := by decide +kernel
theorem dX5_moves_6 : decode cX5_moves 6 = .ok (.ifCond .eq 15, 3) := by decide +kernel
theorem dX5_moves_9 : decode cX5_moves 9 = .ok (.aload_n 0, 1) := by decide +kernel
theorem dX5_moves_10 : decode cX5_moves 10 = .ok (.iload_n 2, 1) := by decide +kernel
theorem dX5_moves_11 : decode cX5_moves 11 = .ok (.invokevirtual 192, 3) := by decide +kernel
theorem dX5_moves_14 : decode cX5_moves 14 = .ok (.ifCond .eq 7, 3) := by decide +kernel
theorem dX5_moves_17 : decode cX5_moves 17 = .ok (.iconst 0, 1) := by decide +kernel
theorem dX5_moves_18 : decode cX5_moves 18 = .ok (.goto 4, 3) := by decide +kernel
theorem dX5_moves_21 : decode cX5_moves 21 = .ok (.iconst 1, 1) := by decide +kernel
theorem dX5_moves_22 : decode cX5_moves 22 = .ok (.invokevirtual 110, 3) := by decide +kernel
theorem dX5_moves_25 : decode cX5_moves 25 = .ok (.ifCond .eq 7, 3) := by decide +kernel
theorem dX5_moves_28 : decode cX5_moves 28 = .ok (.iconst 0, 1) := by decide +kernel
theorem dX5_moves_29 : decode cX5_moves 29 = .ok (.goto 9, 3) := by decide +kernel
theorem dX5_moves_32 : decode cX5_moves 32 = .ok (.aload_n 0, 1) := by decide +kernel
theorem dX5_moves_33 : decode cX5_moves 33 = .ok (.iload_n 1, 1) := by decide +kernel
theorem dX5_moves_34 : decode cX5_moves 34 = .ok (.iload_n 2, 1) := by decide +kernel
theorem dX5_moves_35 : decode cX5_moves 35 = .ok (.invokevirtual 215, 3) := by decide +kernel
theorem dX5_moves_38 : decode cX5_moves 38 = .ok (.ireturn, 1) := by decide +kernel
set_option maxRecDepth 20000 in
theorem ggX5_open_X5_in : GoodIn wsX5_open wsX5_in := goodIn_r _ [6] (by decide +kernel) (by decide +kernel)
set_option maxRecDepth 20000 in
theorem gX5_open_X5_in : GoodIn wsX5_open (va_wsS RX5 103 yX5_in wsX5_in) := goodIn_app (goodIn_of _ (by decide +kernel)) ggX5_open_X5_in
set_option maxRecDepth 20000 in
theorem ggX5_open_X5_refused : GoodIn wsX5_open wsX5_refused := goodIn_r _ [10, 11, 76, 77, 78, 79, 80, 81, 82, 83, 84, 85, 86, 87, 88, 89] (by decide +kernel) (by decide +kernel)
set_option maxRecDepth 20000 in
theorem gX5_open_X5_refused : GoodIn wsX5_open (wsV RX5 110 RX5 yX5_refused wsX5_refused) := goodIn_app (goodIn_of _ (by decide +kernel)) ggX5_open_X5_refused
set_option maxRecDepth 20000 in
theorem ggX5_open_X5_inputs : GoodIn wsX5_open wsX5_inputs := goodIn_r _ [14] (by decide +kernel) (by decide +kernel)
set_option maxRecDepth 20000 in
theorem gX5_open_X5_inputs : GoodIn wsX5_open (va_wsS RX5 133 yX5_inputs wsX5_inputs) := goodIn_app (goodIn_of _ (by decide +kernel)) ggX5_open_X5_inputs
set_option maxRecDepth 20000 in
theorem ggX5_open_X5_outputs : GoodIn wsX5_open wsX5_outputs := goodIn_r _ [17] (by decide +kernel) (by decide +kernel)
set_option maxRecDepth 20000 in
theorem gX5_open_X5_outputs : GoodIn wsX5_open (va_wsS RX5 52 yX5_outputs wsX5_outputs) := goodIn_app (goodIn_of _ (by decide +kernel)) ggX5_open_X5_outputs
set_option maxRecDepth 20000 in
theorem ggX5_open_X5_movesFor : GoodIn wsX5_open wsX5_movesFor := goodIn_r _ [21, 22, 23, 24, 25, 5, 26, 2, 27, 28, 29, 30, 31, 32, 33, 34, 35, 36, 37, 38, 39, 40, 41, 42, 43, 44, 45, 46, 47, 48, 49, 50, 51, 52, 53, 54, 55, 56, 57, 58, 59, 60, 61, 62, 63, 64, 65, 66, 67, 68, 69, 70, 71, 72, 73, 74, 75, 15, 16, 17, 76, 77, 78, 79, 80, 81, 82, 83, 84, 85, 86, 87, 88, 89] (by decide +kernel) (by decide +kernel)
set_option maxRecDepth 20000 in
theorem gX5_open_X5_movesFor : GoodIn wsX5_open (wsV RX5 215 RX5 yX5_movesFor wsX5_movesFor) := goodIn_app (goodIn_of _ (by decide +kernel)) ggX5_open_X5_movesFor
theorem dX5_open_0 : decode cX5_open 0 = .ok (.aload_n 0, 1) := by decide +kernel
theorem dX5_open_1 : decode cX5_open 1 = .ok (.iload_n 1, 1) := by decide +kernel
theorem dX5_open_2 : decode cX5_open 2 = .ok (.i2l, 1) := by decide +kernel
theorem dX5_open_3 : decode cX5_open 3 = .ok (.lconst 0, 1) := by decide +kernel
theorem dX5_open_4 : decode cX5_open 4 = .ok (.ldc2_w 213, 3) := by decide +kernel
theorem dX5_open_7 : decode cX5_open 7 = .ok (.invokestatic 103, 3) := by decide +kernel
theorem dX5_open_10 : decode cX5_open 10 = .ok (.ifCond .eq 7, 3) := by decide +kernel
theorem dX5_open_13 : decode cX5_open 13 = .ok (.iconst 0, 1) := by decide +kernel
theorem dX5_open_14 : decode cX5_open 14 = .ok (.goto 4, 3) := by decide +kernel
theorem dX5_open_17 : decode cX5_open 17 = .ok (.iconst 1, 1) := by decide +kernel
theorem dX5_open_18 : decode cX5_open 18 = .ok (.invokevirtual 110, 3) := by decide +kernel
theorem dX5_open_21 : decode cX5_open 21 = .ok (.ifCond .eq 5, 3) := by decide +kernel
theorem dX5_open_24 : decode cX5_open 24 = .ok (.iconst 0, 1) := by decide +kernel
theorem dX5_open_25 : decode cX5_open 25 = .ok (.ireturn, 1) := by decide +kernel
theorem dX5_open_26 : decode cX5_open 26 = .ok (.iconst 0, 1) := by decide +kernel
theorem dX5_open_27 : decode cX5_open 27 = .ok (.istore_n 2, 1) := by decide +kernel
theorem dX5_open_28 : decode cX5_open 28 = .ok (.iconst 0, 1) := by decide +kernel
theorem dX5_open_29 : decode cX5_open 29 = .ok (.istore_n 3, 1) := by decide +kernel
theorem dX5_open_30 : decode cX5_open 30 = .ok (.iload_n 3, 1) := by decide +kernel
theorem dX5_open_31 : decode cX5_open 31 = .ok (.aload_n 0, 1) := by decide +kernel
theorem dX5_open_32 : decode cX5_open 32 = .ok (.getfield 16, 3) := by decide +kernel
theorem dX5_open_35 : decode cX5_open 35 = .ok (.invokestatic 133, 3) := by decide +kernel
theorem dX5_open_38 : decode cX5_open 38 = .ok (.if_icmp .ge 55, 3) := by decide +kernel
theorem dX5_open_41 : decode cX5_open 41 = .ok (.iconst 0, 1) := by decide +kernel
theorem dX5_open_42 : decode cX5_open 42 = .ok (.istore 4, 2) := by decide +kernel
theorem dX5_open_44 : decode cX5_open 44 = .ok (.iload 4, 2) := by decide +kernel
theorem dX5_open_46 : decode cX5_open 46 = .ok (.aload_n 0, 1) := by decide +kernel
theorem dX5_open_47 : decode cX5_open 47 = .ok (.getfield 16, 3) := by decide +kernel
theorem dX5_open_50 : decode cX5_open 50 = .ok (.invokestatic 52, 3) := by decide +kernel
theorem dX5_open_53 : decode cX5_open 53 = .ok (.if_icmp .ge 34, 3) := by decide +kernel
theorem dX5_open_56 : decode cX5_open 56 = .ok (.iload_n 2, 1) := by decide +kernel
theorem dX5_open_57 : decode cX5_open 57 = .ok (.aload_n 0, 1) := by decide +kernel
theorem dX5_open_58 : decode cX5_open 58 = .ok (.iload_n 3, 1) := by decide +kernel
theorem dX5_open_59 : decode cX5_open 59 = .ok (.iload 4, 2) := by decide +kernel
theorem dX5_open_61 : decode cX5_open 61 = .ok (.invokevirtual 215, 3) := by decide +kernel
theorem dX5_open_64 : decode cX5_open 64 = .ok (.i2l, 1) := by decide +kernel
theorem dX5_open_65 : decode cX5_open 65 = .ok (.lconst 0, 1) := by decide +kernel
theorem dX5_open_66 : decode cX5_open 66 = .ok (.iload_n 1, 1) := by decide +kernel
theorem dX5_open_67 : decode cX5_open 67 = .ok (.i2l, 1) := by decide +kernel
theorem dX5_open_68 : decode cX5_open 68 = .ok (.invokestatic 103, 3) := by decide +kernel
theorem dX5_open_71 : decode cX5_open 71 = .ok (.ifCond .eq 7, 3) := by decide +kernel
theorem dX5_open_74 : decode cX5_open 74 = .ok (.iconst 1, 1) := by decide +kernel
theorem dX5_open_75 : decode cX5_open 75 = .ok (.goto 4, 3) := by decide +kernel
theorem dX5_open_78 : decode cX5_open 78 = .ok (.iconst 0, 1) := by decide +kernel
theorem dX5_open_79 : decode cX5_open 79 = .ok (.iadd, 1) := by decide +kernel
theorem dX5_open_80 : decode cX5_open 80 = .ok (.istore_n 2, 1) := by decide +kernel
theorem dX5_open_81 : decode cX5_open 81 = .ok (.iinc 4 1, 3) := by decide +kernel
theorem dX5_open_84 : decode cX5_open 84 = .ok (.goto (-40), 3) := by decide +kernel
theorem dX5_open_87 : decode cX5_open 87 = .ok (.iinc 3 1, 3) := by decide +kernel
theorem dX5_open_90 : decode cX5_open 90 = .ok (.goto (-60), 3) := by decide +kernel
theorem dX5_open_93 : decode cX5_open 93 = .ok (.iload_n 2, 1) := by decide +kernel
theorem dX5_open_94 : decode cX5_open 94 = .ok (.ireturn, 1) := by decide +kernel
set_option maxRecDepth 20000 in
theorem ggX5_fewest_X5_bits : GoodIn wsX5_fewest wsX5_bits := goodIn_r _ [6] (by decide +kernel) (by decide +kernel)
set_option maxRecDepth 20000 in
theorem gX5_fewest_X5_bits : GoodIn wsX5_fewest (va_wsS RX5 67 yX5_bits wsX5_bits) := goodIn_app (goodIn_of _ (by decide +kernel)) ggX5_fewest_X5_bits
set_option maxRecDepth 20000 in
theorem ggX5_fewest_X5_hasPlan : GoodIn wsX5_fewest wsX5_hasPlan := goodIn_r _ [10, 11, 12, 13, 14, 5, 15, 16, 17, 18, 19, 20, 21, 22, 23, 24, 25, 26, 27, 28, 29, 30, 31, 32, 33, 34, 35, 36, 37, 38, 39, 40, 41, 42, 43, 44, 45, 46, 47, 48] (by decide +kernel) (by decide +kernel)
set_option maxRecDepth 20000 in
theorem gX5_fewest_X5_hasPlan : GoodIn wsX5_fewest (wsV RX5 82 RX5 yX5_hasPlan wsX5_hasPlan) := goodIn_app (goodIn_of _ (by decide +kernel)) ggX5_fewest_X5_hasPlan
theorem dX5_fewest_0 : decode cX5_fewest 0 = .ok (.aload_n 0, 1) := by decide +kernel
theorem dX5_fewest_1 : decode cX5_fewest 1 = .ok (.iconst 0, 1) := by decide +kernel
theorem dX5_fewest_2 : decode cX5_fewest 2 = .ok (.putfield 39, 3) := by decide +kernel
theorem dX5_fewest_5 : decode cX5_fewest 5 = .ok (.iconst 0, 1) := by decide +kernel
theorem dX5_fewest_6 : decode cX5_fewest 6 = .ok (.istore_n 1, 1) := by decide +kernel
theorem dX5_fewest_7 : decode cX5_fewest 7 = .ok (.iload_n 1, 1) := by decide +kernel
theorem dX5_fewest_8 : decode cX5_fewest 8 = .ok (.aload_n 0, 1) := by decide +kernel
theorem dX5_fewest_9 : decode cX5_fewest 9 = .ok (.getfield 16, 3) := by decide +kernel
theorem dX5_fewest_12 : decode cX5_fewest 12 = .ok (.iconst 2, 1) := by decide +kernel
theorem dX5_fewest_13 : decode cX5_fewest 13 = .ok (.iaload, 1) := by decide +kernel
theorem dX5_fewest_14 : decode cX5_fewest 14 = .ok (.if_icmp .ge 126, 3) := by decide +kernel
theorem dX5_fewest_17 : decode cX5_fewest 17 = .ok (.iconst 0, 1) := by decide +kernel
theorem dX5_fewest_18 : decode cX5_fewest 18 = .ok (.istore_n 2, 1) := by decide +kernel
theorem dX5_fewest_19 : decode cX5_fewest 19 = .ok (.aload_n 0, 1) := by decide +kernel
theorem dX5_fewest_20 : decode cX5_fewest 20 = .ok (.getfield 16, 3) := by decide +kernel
theorem dX5_fewest_23 : decode cX5_fewest 23 = .ok (.iconst 2, 1) := by decide +kernel
theorem dX5_fewest_24 : decode cX5_fewest 24 = .ok (.iaload, 1) := by decide +kernel
theorem dX5_fewest_25 : decode cX5_fewest 25 = .ok (.aload_n 0, 1) := by decide +kernel
theorem dX5_fewest_26 : decode cX5_fewest 26 = .ok (.getfield 16, 3) := by decide +kernel
theorem dX5_fewest_29 : decode cX5_fewest 29 = .ok (.bipush 7, 2) := by decide +kernel
theorem dX5_fewest_31 : decode cX5_fewest 31 = .ok (.iaload, 1) := by decide +kernel
theorem dX5_fewest_32 : decode cX5_fewest 32 = .ok (.invokestatic 67, 3) := by decide +kernel
theorem dX5_fewest_35 : decode cX5_fewest 35 = .ok (.isub, 1) := by decide +kernel
theorem dX5_fewest_36 : decode cX5_fewest 36 = .ok (.istore_n 3, 1) := by decide +kernel
theorem dX5_fewest_37 : decode cX5_fewest 37 = .ok (.aload_n 0, 1) := by decide +kernel
theorem dX5_fewest_38 : decode cX5_fewest 38 = .ok (.getfield 16, 3) := by decide +kernel
theorem dX5_fewest_41 : decode cX5_fewest 41 = .ok (.iconst 2, 1) := by decide +kernel
theorem dX5_fewest_42 : decode cX5_fewest 42 = .ok (.iaload, 1) := by decide +kernel
theorem dX5_fewest_43 : decode cX5_fewest 43 = .ok (.iconst 1, 1) := by decide +kernel
theorem dX5_fewest_44 : decode cX5_fewest 44 = .ok (.isub, 1) := by decide +kernel
theorem dX5_fewest_45 : decode cX5_fewest 45 = .ok (.istore 4, 2) := by decide +kernel
theorem dX5_fewest_47 : decode cX5_fewest 47 = .ok (.iload 4, 2) := by decide +kernel
theorem dX5_fewest_49 : decode cX5_fewest 49 = .ok (.ifCond .lt 65, 3) := by decide +kernel
theorem dX5_fewest_52 : decode cX5_fewest 52 = .ok (.aload_n 0, 1) := by decide +kernel
theorem dX5_fewest_53 : decode cX5_fewest 53 = .ok (.getfield 16, 3) := by decide +kernel
theorem dX5_fewest_56 : decode cX5_fewest 56 = .ok (.bipush 7, 2) := by decide +kernel
theorem dX5_fewest_58 : decode cX5_fewest 58 = .ok (.iaload, 1) := by decide +kernel
theorem dX5_fewest_59 : decode cX5_fewest 59 = .ok (.iload 4, 2) := by decide +kernel
theorem dX5_fewest_61 : decode cX5_fewest 61 = .ok (.ishr, 1) := by decide +kernel
theorem dX5_fewest_62 : decode cX5_fewest 62 = .ok (.iconst 1, 1) := by decide +kernel
theorem dX5_fewest_63 : decode cX5_fewest 63 = .ok (.iand, 1) := by decide +kernel
theorem dX5_fewest_64 : decode cX5_fewest 64 = .ok (.ifCond .ne 7, 3) := by decide +kernel
theorem dX5_fewest_67 : decode cX5_fewest 67 = .ok (.iconst 1, 1) := by decide +kernel
theorem dX5_fewest_68 : decode cX5_fewest 68 = .ok (.goto 4, 3) := by decide +kernel
theorem dX5_fewest_71 : decode cX5_fewest 71 = .ok (.iconst 0, 1) := by decide +kernel
theorem dX5_fewest_72 : decode cX5_fewest 72 = .ok (.istore 5, 2) := by decide +kernel
theorem dX5_fewest_74 : decode cX5_fewest 74 = .ok (.iload_n 2, 1) := by decide +kernel
theorem dX5_fewest_75 : decode cX5_fewest 75 = .ok (.iload 5, 2) := by decide +kernel
theorem dX5_fewest_77 : decode cX5_fewest 77 = .ok (.ifCond .eq 15, 3) := by decide +kernel
theorem dX5_fewest_80 : decode cX5_fewest 80 = .ok (.iload_n 3, 1) := by decide +kernel
theorem dX5_fewest_81 : decode cX5_fewest 81 = .ok (.iload_n 1, 1) := by decide +kernel
theorem dX5_fewest_82 : decode cX5_fewest 82 = .ok (.if_icmp .le 10, 3) := by decide +kernel
theorem dX5_fewest_85 : decode cX5_fewest 85 = .ok (.iconst 1, 1) := by decide +kernel
theorem dX5_fewest_86 : decode cX5_fewest 86 = .ok (.iload 4, 2) := by decide +kernel
theorem dX5_fewest_88 : decode cX5_fewest 88 = .ok (.ishl, 1) := by decide +kernel
theorem dX5_fewest_89 : decode cX5_fewest 89 = .ok (.goto 4, 3) := by decide +kernel
theorem dX5_fewest_92 : decode cX5_fewest 92 = .ok (.iconst 0, 1) := by decide +kernel
theorem dX5_fewest_93 : decode cX5_fewest 93 = .ok (.ior, 1) := by decide +kernel
theorem dX5_fewest_94 : decode cX5_fewest 94 = .ok (.istore_n 2, 1) := by decide +kernel
theorem dX5_fewest_95 : decode cX5_fewest 95 = .ok (.iload_n 3, 1) := by decide +kernel
theorem dX5_fewest_96 : decode cX5_fewest 96 = .ok (.iload 5, 2) := by decide +kernel
theorem dX5_fewest_98 : decode cX5_fewest 98 = .ok (.ifCond .eq 7, 3) := by decide +kernel
theorem dX5_fewest_101 : decode cX5_fewest 101 = .ok (.iconst 1, 1) := by decide +kernel
theorem dX5_fewest_102 : decode cX5_fewest 102 = .ok (.goto 4, 3) := by decide +kernel
theorem dX5_fewest_105 : decode cX5_fewest 105 = .ok (.iconst 0, 1) := by decide +kernel
theorem dX5_fewest_106 : decode cX5_fewest 106 = .ok (.isub, 1) := by decide +kernel
theorem dX5_fewest_107 : decode cX5_fewest 107 = .ok (.istore_n 3, 1) := by decide +kernel
theorem dX5_fewest_108 : decode cX5_fewest 108 = .ok (.iinc 4 (-1), 3) := by decide +kernel
theorem dX5_fewest_111 : decode cX5_fewest 111 = .ok (.goto (-64), 3) := by decide +kernel
theorem dX5_fewest_114 : decode cX5_fewest 114 = .ok (.aload_n 0, 1) := by decide +kernel
theorem dX5_fewest_115 : decode cX5_fewest 115 = .ok (.aload_n 0, 1) := by decide +kernel
theorem dX5_fewest_116 : decode cX5_fewest 116 = .ok (.getfield 16, 3) := by decide +kernel
theorem dX5_fewest_119 : decode cX5_fewest 119 = .ok (.iload_n 2, 1) := by decide +kernel
theorem dX5_fewest_120 : decode cX5_fewest 120 = .ok (.aload_n 0, 1) := by decide +kernel
theorem dX5_fewest_121 : decode cX5_fewest 121 = .ok (.getfield 16, 3) := by decide +kernel
theorem dX5_fewest_124 : decode cX5_fewest 124 = .ok (.iconst 4, 1) := by decide +kernel
theorem dX5_fewest_125 : decode cX5_fewest 125 = .ok (.iaload, 1) := by decide +kernel
theorem dX5_fewest_126 : decode cX5_fewest 126 = .ok (.invokevirtual 82, 3) := by decide +kernel
theorem dX5_fewest_129 : decode cX5_fewest 129 = .ok (.ifCond .eq 5, 3) := by decide +kernel
theorem dX5_fewest_132 : decode cX5_fewest 132 = .ok (.iload_n 1, 1) := by decide +kernel
theorem dX5_fewest_133 : decode cX5_fewest 133 = .ok (.ireturn, 1) := by decide +kernel
theorem dX5_fewest_134 : decode cX5_fewest 134 = .ok (.iinc 1 1, 3) := by decide +kernel
theorem dX5_fewest_137 : decode cX5_fewest 137 = .ok (.goto (-130), 3) := by decide +kernel
theorem dX5_fewest_140 : decode cX5_fewest 140 = .ok (.aload_n 0, 1) := by decide +kernel
theorem dX5_fewest_141 : decode cX5_fewest 141 = .ok (.getfield 16, 3) := by decide +kernel
theorem dX5_fewest_144 : decode cX5_fewest 144 = .ok (.iconst 2, 1) := by decide +kernel
theorem dX5_fewest_145 : decode cX5_fewest 145 = .ok (.iaload, 1) := by decide +kernel
theorem dX5_fewest_146 : decode cX5_fewest 146 = .ok (.ireturn, 1) := by decide +kernel
set_option maxRecDepth 20000 in
theorem ggX5_weakest_X5_best : GoodIn wsX5_weakest wsX5_best := goodIn_r _ [7, 8, 9, 10, 6, 11, 12, 13, 14, 15, 16, 17, 18, 19, 20, 21, 22, 23, 24, 25, 26, 27, 28, 29, 30, 31, 32, 33, 34, 35, 36, 37, 38, 39, 40, 41, 42, 43, 44, 45, 46, 47, 48, 49] (by decide +kernel) (by decide +kernel)
set_option maxRecDepth 20000 in
theorem gX5_weakest_X5_best : GoodIn wsX5_weakest (wsV RX5 85 RX5 yX5_best wsX5_best) := goodIn_app (goodIn_of _ (by decide +kernel)) ggX5_weakest_X5_best
theorem dX5_weakest_0 : decode cX5_weakest 0 = .ok (.aload_n 0, 1) := by decide +kernel
theorem dX5_weakest_1 : decode cX5_weakest 1 = .ok (.iconst 0, 1) := by decide +kernel
theorem dX5_weakest_2 : decode cX5_weakest 2 = .ok (.putfield 39, 3) := by decide +kernel
theorem dX5_weakest_5 : decode cX5_weakest 5 = .ok (.iconst (-1), 1) := by decide +kernel
theorem dX5_weakest_6 : decode cX5_weakest 6 = .ok (.istore_n 1, 1) := by decide +kernel
theorem dX5_weakest_7 : decode cX5_weakest 7 = .ok (.iconst 0, 1) := by decide +kernel
theorem dX5_weakest_8 : decode cX5_weakest 8 = .ok (.istore_n 2, 1) := by decide +kernel
theorem dX5_weakest_9 : decode cX5_weakest 9 = .ok (.iload_n 2, 1) := by decide +kernel
theorem dX5_weakest_10 : decode cX5_weakest 10 = .ok (.aload_n 0, 1) := by decide +kernel
theorem dX5_weakest_11 : decode cX5_weakest 11 = .ok (.getfield 16, 3) := by decide +kernel
theorem dX5_weakest_14 : decode cX5_weakest 14 = .ok (.iconst 2, 1) := by decide +kernel
theorem dX5_weakest_15 : decode cX5_weakest 15 = .ok (.iaload, 1) := by decide +kernel
theorem dX5_weakest_16 : decode cX5_weakest 16 = .ok (.if_icmp .ge 74, 3) := by decide +kernel
theorem dX5_weakest_19 : decode cX5_weakest 19 = .ok (.aload_n 0, 1) := by decide +kernel
theorem dX5_weakest_20 : decode cX5_weakest 20 = .ok (.getfield 16, 3) := by decide +kernel
theorem dX5_weakest_23 : decode cX5_weakest 23 = .ok (.bipush 7, 2) := by decide +kernel
theorem dX5_weakest_25 : decode cX5_weakest 25 = .ok (.iaload, 1) := by decide +kernel
theorem dX5_weakest_26 : decode cX5_weakest 26 = .ok (.iload_n 2, 1) := by decide +kernel
theorem dX5_weakest_27 : decode cX5_weakest 27 = .ok (.ishr, 1) := by decide +kernel
theorem dX5_weakest_28 : decode cX5_weakest 28 = .ok (.iconst 1, 1) := by decide +kernel
theorem dX5_weakest_29 : decode cX5_weakest 29 = .ok (.iand, 1) := by decide +kernel
theorem dX5_weakest_30 : decode cX5_weakest 30 = .ok (.ifCond .ne 23, 3) := by decide +kernel
theorem dX5_weakest_33 : decode cX5_weakest 33 = .ok (.aload_n 0, 1) := by decide +kernel
theorem dX5_weakest_34 : decode cX5_weakest 34 = .ok (.aload_n 0, 1) := by decide +kernel
theorem dX5_weakest_35 : decode cX5_weakest 35 = .ok (.getfield 16, 3) := by decide +kernel
theorem dX5_weakest_38 : decode cX5_weakest 38 = .ok (.iconst 1, 1) := by decide +kernel
theorem dX5_weakest_39 : decode cX5_weakest 39 = .ok (.iload_n 2, 1) := by decide +kernel
theorem dX5_weakest_40 : decode cX5_weakest 40 = .ok (.ishl, 1) := by decide +kernel
theorem dX5_weakest_41 : decode cX5_weakest 41 = .ok (.aload_n 0, 1) := by decide +kernel
theorem dX5_weakest_42 : decode cX5_weakest 42 = .ok (.getfield 16, 3) := by decide +kernel
theorem dX5_weakest_45 : decode cX5_weakest 45 = .ok (.iconst 4, 1) := by decide +kernel
theorem dX5_weakest_46 : decode cX5_weakest 46 = .ok (.iaload, 1) := by decide +kernel
theorem dX5_weakest_47 : decode cX5_weakest 47 = .ok (.invokevirtual 85, 3) := by decide +kernel
theorem dX5_weakest_50 : decode cX5_weakest 50 = .ok (.goto 4, 3) := by decide +kernel
theorem dX5_weakest_53 : decode cX5_weakest 53 = .ok (.iconst (-1), 1) := by decide +kernel
theorem dX5_weakest_54 : decode cX5_weakest 54 = .ok (.istore_n 3, 1) := by decide +kernel
theorem dX5_weakest_55 : decode cX5_weakest 55 = .ok (.iload_n 3, 1) := by decide +kernel
theorem dX5_weakest_56 : decode cX5_weakest 56 = .ok (.iconst (-1), 1) := by decide +kernel
theorem dX5_weakest_57 : decode cX5_weakest 57 = .ok (.if_icmp .eq 25, 3) := by decide +kernel
theorem dX5_weakest_60 : decode cX5_weakest 60 = .ok (.iload_n 1, 1) := by decide +kernel
theorem dX5_weakest_61 : decode cX5_weakest 61 = .ok (.iconst (-1), 1) := by decide +kernel
theorem dX5_weakest_62 : decode cX5_weakest 62 = .ok (.if_icmp .eq 11, 3) := by decide +kernel
theorem dX5_weakest_65 : decode cX5_weakest 65 = .ok (.iload_n 3, 1) := by decide +kernel
theorem dX5_weakest_66 : decode cX5_weakest 66 = .ok (.iload_n 1, 1) := by decide +kernel
theorem dX5_weakest_67 : decode cX5_weakest 67 = .ok (.bipush 10, 2) := by decide +kernel
theorem dX5_weakest_69 : decode cX5_weakest 69 = .ok (.idiv, 1) := by decide +kernel
theorem dX5_weakest_70 : decode cX5_weakest 70 = .ok (.if_icmp .ge 12, 3) := by decide +kernel
theorem dX5_weakest_73 : decode cX5_weakest 73 = .ok (.bipush 10, 2) := by decide +kernel
theorem dX5_weakest_75 : decode cX5_weakest 75 = .ok (.iload_n 3, 1) := by decide +kernel
theorem dX5_weakest_76 : decode cX5_weakest 76 = .ok (.imul, 1) := by decide +kernel
theorem dX5_weakest_77 : decode cX5_weakest 77 = .ok (.iload_n 2, 1) := by decide +kernel
theorem dX5_weakest_78 : decode cX5_weakest 78 = .ok (.iadd, 1) := by decide +kernel
theorem dX5_weakest_79 : decode cX5_weakest 79 = .ok (.goto 4, 3) := by decide +kernel
theorem dX5_weakest_82 : decode cX5_weakest 82 = .ok (.iload_n 1, 1) := by decide +kernel
theorem dX5_weakest_83 : decode cX5_weakest 83 = .ok (.istore_n 1, 1) := by decide +kernel
theorem dX5_weakest_84 : decode cX5_weakest 84 = .ok (.iinc 2 1, 3) := by decide +kernel
theorem dX5_weakest_87 : decode cX5_weakest 87 = .ok (.goto (-78), 3) := by decide +kernel
theorem dX5_weakest_90 : decode cX5_weakest 90 = .ok (.iload_n 1, 1) := by decide +kernel
theorem dX5_weakest_91 : decode cX5_weakest 91 = .ok (.ireturn, 1) := by decide +kernel
set_option maxRecDepth 20000 in
theorem ggX5_connects_X5_inputs : GoodIn wsX5_connects wsX5_inputs := goodIn_r _ [5] (by decide +kernel) (by decide +kernel)
set_option maxRecDepth 20000 in
theorem gX5_connects_X5_inputs : GoodIn wsX5_connects (va_wsS RX5 133 yX5_inputs wsX5_inputs) := goodIn_app (goodIn_of _ (by decide +kernel)) ggX5_connects_X5_inputs
set_option maxRecDepth 20000 in
theorem ggX5_connects_X5_outputs : GoodIn wsX5_connects wsX5_outputs := goodIn_r _ [8] (by decide +kernel) (by decide +kernel)
set_option maxRecDepth 20000 in
theorem gX5_connects_X5_outputs : GoodIn wsX5_connects (va_wsS RX5 52 yX5_outputs wsX5_outputs) := goodIn_app (goodIn_of _ (by decide +kernel)) ggX5_connects_X5_outputs
set_option maxRecDepth 20000 in
theorem ggX5_connects_X5_connectIn : GoodIn wsX5_connects wsX5_connectIn := goodIn_r _ [12, 13, 14, 4, 15, 16, 17, 18, 19, 20, 21, 22, 23, 24, 25, 26, 27, 28, 29, 30, 31, 32, 33, 34, 35, 36, 37, 38, 39, 40, 41, 42, 43, 44, 45, 46, 47, 48, 49, 50, 51, 52, 53, 54, 6, 7, 8, 55, 56, 57, 58, 59, 60, 61, 62, 63, 64, 65, 66, 67, 68] (by decide +kernel) (by decide +kernel)
set_option maxRecDepth 20000 in
theorem gX5_connects_X5_connectIn : GoodIn wsX5_connects (wsV RX5 139 RX5 yX5_connectIn wsX5_connectIn) := goodIn_app (goodIn_of _ (by decide +kernel)) ggX5_connects_X5_connectIn
theorem dX5_connects_0 : decode cX5_connects 0 = .ok (.iload_n 1, 1) := by decide +kernel
theorem dX5_connects_1 : decode cX5_connects 1 = .ok (.aload_n 0, 1) := by decide +kernel
theorem dX5_connects_2 : decode cX5_connects 2 = .ok (.getfield 19, 3) := by decide +kernel
theorem dX5_connects_5 : decode cX5_connects 5 = .ok (.invokestatic 133, 3) := by decide +kernel
theorem dX5_connects_8 : decode cX5_connects 8 = .ok (.if_icmp .ge 32, 3) := by decide +kernel
theorem dX5_connects_11 : decode cX5_connects 11 = .ok (.iload_n 2, 1) := by decide +kernel
theorem dX5_connects_12 : decode cX5_connects 12 = .ok (.aload_n 0, 1) := by decide +kernel
theorem dX5_connects_13 : decode cX5_connects 13 = .ok (.getfield 19, 3) := by decide +kernel
theorem dX5_connects_16 : decode cX5_connects 16 = .ok (.invokestatic 52, 3) := by decide +kernel
theorem dX5_connects_19 : decode cX5_connects 19 = .ok (.if_icmp .ge 21, 3) := by decide +kernel
theorem dX5_connects_22 : decode cX5_connects 22 = .ok (.aload_n 0, 1) := by decide +kernel
theorem dX5_connects_23 : decode cX5_connects 23 = .ok (.aload_n 0, 1) := by decide +kernel
theorem dX5_connects_24 : decode cX5_connects 24 = .ok (.getfield 19, 3) := by decide +kernel
theorem dX5_connects_27 : decode cX5_connects 27 = .ok (.iload_n 1, 1) := by decide +kernel
theorem dX5_connects_28 : decode cX5_connects 28 = .ok (.iload_n 2, 1) := by decide +kernel
theorem dX5_connects_29 : decode cX5_connects 29 = .ok (.invokevirtual 139, 3) := by decide +kernel
theorem dX5_connects_32 : decode cX5_connects 32 = .ok (.iconst (-1), 1) := by decide +kernel
theorem dX5_connects_33 : decode cX5_connects 33 = .ok (.if_icmp .eq 7, 3) := by decide +kernel
theorem dX5_connects_36 : decode cX5_connects 36 = .ok (.iconst 1, 1) := by decide +kernel
theorem dX5_connects_37 : decode cX5_connects 37 = .ok (.goto 4, 3) := by decide +kernel
theorem dX5_connects_40 : decode cX5_connects 40 = .ok (.iconst 0, 1) := by decide +kernel
theorem dX5_connects_41 : decode cX5_connects 41 = .ok (.ireturn, 1) := by decide +kernel
set_option maxRecDepth 20000 in
theorem ggX5_joins_X5_outputs : GoodIn wsX5_joins wsX5_outputs := goodIn_r _ [5] (by decide +kernel) (by decide +kernel)
set_option maxRecDepth 20000 in
theorem gX5_joins_X5_outputs : GoodIn wsX5_joins (va_wsS RX5 52 yX5_outputs wsX5_outputs) := goodIn_app (goodIn_of _ (by decide +kernel)) ggX5_joins_X5_outputs
set_option maxRecDepth 20000 in
theorem ggX5_joins_X5_joinIn : GoodIn wsX5_joins wsX5_joinIn := goodIn_r _ [9, 10, 11, 4, 12, 13, 14, 15, 16, 17, 18, 19, 20, 21, 22, 23, 24, 25, 26, 27, 28, 29, 30, 31, 32, 33, 34, 35, 36, 37, 38, 39, 40, 41, 42, 43, 44, 45, 46, 47, 48, 2, 3, 5, 49, 50, 51, 52, 53, 54, 55, 56, 57, 58, 59, 60, 61, 62] (by decide +kernel) (by decide +kernel)
set_option maxRecDepth 20000 in
theorem gX5_joins_X5_joinIn : GoodIn wsX5_joins (wsV RX5 145 RX5 yX5_joinIn wsX5_joinIn) := goodIn_app (goodIn_of _ (by decide +kernel)) ggX5_joins_X5_joinIn
theorem dX5_joins_0 : decode cX5_joins 0 = .ok (.iload_n 1, 1) := by decide +kernel
theorem dX5_joins_1 : decode cX5_joins 1 = .ok (.aload_n 0, 1) := by decide +kernel
theorem dX5_joins_2 : decode cX5_joins 2 = .ok (.getfield 19, 3) := by decide +kernel
theorem dX5_joins_5 : decode cX5_joins 5 = .ok (.iconst 4, 1) := by decide +kernel
theorem dX5_joins_6 : decode cX5_joins 6 = .ok (.iaload, 1) := by decide +kernel
theorem dX5_joins_7 : decode cX5_joins 7 = .ok (.if_icmp .ge 32, 3) := by decide +kernel
theorem dX5_joins_10 : decode cX5_joins 10 = .ok (.iload_n 2, 1) := by decide +kernel
theorem dX5_joins_11 : decode cX5_joins 11 = .ok (.aload_n 0, 1) := by decide +kernel
theorem dX5_joins_12 : decode cX5_joins 12 = .ok (.getfield 19, 3) := by decide +kernel
theorem dX5_joins_15 : decode cX5_joins 15 = .ok (.invokestatic 52, 3) := by decide +kernel
theorem dX5_joins_18 : decode cX5_joins 18 = .ok (.if_icmp .ge 21, 3) := by decide +kernel
theorem dX5_joins_21 : decode cX5_joins 21 = .ok (.aload_n 0, 1) := by decide +kernel
theorem dX5_joins_22 : decode cX5_joins 22 = .ok (.aload_n 0, 1) := by decide +kernel
theorem dX5_joins_23 : decode cX5_joins 23 = .ok (.getfield 19, 3) := by decide +kernel
theorem dX5_joins_26 : decode cX5_joins 26 = .ok (.iload_n 1, 1) := by decide +kernel
theorem dX5_joins_27 : decode cX5_joins 27 = .ok (.iload_n 2, 1) := by decide +kernel
theorem dX5_joins_28 : decode cX5_joins 28 = .ok (.invokevirtual 145, 3) := by decide +kernel
theorem dX5_joins_31 : decode cX5_joins 31 = .ok (.iconst (-1), 1) := by decide +kernel
theorem dX5_joins_32 : decode cX5_joins 32 = .ok (.if_icmp .eq 7, 3) := by decide +kernel
theorem dX5_joins_35 : decode cX5_joins 35 = .ok (.iconst 1, 1) := by decide +kernel
theorem dX5_joins_36 : decode cX5_joins 36 = .ok (.goto 4, 3) := by decide +kernel
theorem dX5_joins_39 : decode cX5_joins 39 = .ok (.iconst 0, 1) := by decide +kernel
theorem dX5_joins_40 : decode cX5_joins 40 = .ok (.ireturn, 1) := by decide +kernel
set_option maxRecDepth 20000 in
theorem ggX5_hangs_X5_hangIn : GoodIn wsX5_hangs wsX5_hangIn := goodIn_r _ [5, 6, 7, 4, 8, 9, 10, 11] (by decide +kernel) (by decide +kernel)
set_option maxRecDepth 20000 in
theorem gX5_hangs_X5_hangIn : GoodIn wsX5_hangs (va_wsS RX5 148 yX5_hangIn wsX5_hangIn) := goodIn_app (goodIn_of _ (by decide +kernel)) ggX5_hangs_X5_hangIn
theorem dX5_hangs_0 : decode cX5_hangs 0 = .ok (.iload_n 1, 1) := by decide +kernel
theorem dX5_hangs_1 : decode cX5_hangs 1 = .ok (.aload_n 0, 1) := by decide +kernel
theorem dX5_hangs_2 : decode cX5_hangs 2 = .ok (.getfield 19, 3) := by decide +kernel
theorem dX5_hangs_5 : decode cX5_hangs 5 = .ok (.iconst 4, 1) := by decide +kernel
theorem dX5_hangs_6 : decode cX5_hangs 6 = .ok (.iaload, 1) := by decide +kernel
theorem dX5_hangs_7 : decode cX5_hangs 7 = .ok (.if_icmp .lt 5, 3) := by decide +kernel
theorem dX5_hangs_10 : decode cX5_hangs 10 = .ok (.iconst 0, 1) := by decide +kernel
theorem dX5_hangs_11 : decode cX5_hangs 11 = .ok (.ireturn, 1) := by decide +kernel
theorem dX5_hangs_12 : decode cX5_hangs 12 = .ok (.aload_n 0, 1) := by decide +kernel
theorem dX5_hangs_13 : decode cX5_hangs 13 = .ok (.getfield 19, 3) := by decide +kernel
theorem dX5_hangs_16 : decode cX5_hangs 16 = .ok (.iload_n 1, 1) := by decide +kernel
theorem dX5_hangs_17 : decode cX5_hangs 17 = .ok (.invokestatic 148, 3) := by decide +kernel
theorem dX5_hangs_20 : decode cX5_hangs 20 = .ok (.iconst 1, 1) := by decide +kernel
theorem dX5_hangs_21 : decode cX5_hangs 21 = .ok (.ireturn, 1) := by decide +kernel
set_option maxRecDepth 20000 in
theorem ggX5_drops_X5_outputs : GoodIn wsX5_drops wsX5_outputs := goodIn_r _ [5] (by decide +kernel) (by decide +kernel)
set_option maxRecDepth 20000 in
theorem gX5_drops_X5_outputs : GoodIn wsX5_drops (va_wsS RX5 52 yX5_outputs wsX5_outputs) := goodIn_app (goodIn_of _ (by decide +kernel)) ggX5_drops_X5_outputs
set_option maxRecDepth 20000 in
theorem ggX5_drops_X5_canDrop : GoodIn wsX5_drops wsX5_canDrop := goodIn_r _ [8, 9, 10, 4, 11, 12, 13, 14, 15, 16, 17] (by decide +kernel) (by decide +kernel)
set_option maxRecDepth 20000 in
theorem gX5_drops_X5_canDrop : GoodIn wsX5_drops (va_wsS RX5 207 yX5_canDrop wsX5_canDrop) := goodIn_app (goodIn_of _ (by decide +kernel)) ggX5_drops_X5_canDrop
set_option maxRecDepth 20000 in
theorem ggX5_drops_X5_dropIn : GoodIn wsX5_drops wsX5_dropIn := goodIn_r _ [20, 9, 10, 4, 11, 12, 13, 14, 15, 16, 17] (by decide +kernel) (by decide +kernel)
set_option maxRecDepth 20000 in
theorem gX5_drops_X5_dropIn : GoodIn wsX5_drops (va_wsS RX5 210 yX5_dropIn wsX5_dropIn) := goodIn_app (goodIn_of _ (by decide +kernel)) ggX5_drops_X5_dropIn
theorem dX5_drops_0 : decode cX5_drops 0 = .ok (.iload_n 1, 1) := by decide +kernel
theorem dX5_drops_1 : decode cX5_drops 1 = .ok (.aload_n 0, 1) := by decide +kernel
theorem dX5_drops_2 : decode cX5_drops 2 = .ok (.getfield 19, 3) := by decide +kernel
theorem dX5_drops_5 : decode cX5_drops 5 = .ok (.invokestatic 52, 3) := by decide +kernel
theorem dX5_drops_8 : decode cX5_drops 8 = .ok (.if_icmp .ge 14, 3) := by decide +kernel
theorem dX5_drops_11 : decode cX5_drops 11 = .ok (.aload_n 0, 1) := by decide +kernel
theorem dX5_drops_12 : decode cX5_drops 12 = .ok (.getfield 19, 3) := by decide +kernel
theorem dX5_drops_15 : decode cX5_drops 15 = .ok (.iload_n 1, 1) := by decide +kernel
theorem dX5_drops_16 : decode cX5_drops 16 = .ok (.invokestatic 207, 3) := by decide +kernel
theorem dX5_drops_19 : decode cX5_drops 19 = .ok (.ifCond .ne 5, 3) := by decide +kernel
theorem dX5_drops_22 : decode cX5_drops 22 = .ok (.iconst 0, 1) := by decide +kernel
theorem dX5_drops_23 : decode cX5_drops 23 = .ok (.ireturn, 1) := by decide +kernel
theorem dX5_drops_24 : decode cX5_drops 24 = .ok (.aload_n 0, 1) := by decide +kernel
theorem dX5_drops_25 : decode cX5_drops 25 = .ok (.getfield 19, 3) := by decide +kernel
theorem dX5_drops_28 : decode cX5_drops 28 = .ok (.iload_n 1, 1) := by decide +kernel
theorem dX5_drops_29 : decode cX5_drops 29 = .ok (.invokestatic 210, 3) := by decide +kernel
theorem dX5_drops_32 : decode cX5_drops 32 = .ok (.pop, 1) := by decide +kernel
theorem dX5_drops_33 : decode cX5_drops 33 = .ok (.iconst 1, 1) := by decide +kernel
theorem dX5_drops_34 : decode cX5_drops 34 = .ok (.ireturn, 1) := by decide +kernel
set_option maxRecDepth 20000 in
theorem ggX5_breaks_X5_canBreak : GoodIn wsX5_breaks wsX5_canBreak := goodIn_r _ [5, 6, 7, 4, 8] (by decide +kernel) (by decide +kernel)
set_option maxRecDepth 20000 in
theorem gX5_breaks_X5_canBreak : GoodIn wsX5_breaks (va_wsS RX5 152 yX5_canBreak wsX5_canBreak) := goodIn_app (goodIn_of _ (by decide +kernel)) ggX5_breaks_X5_canBreak
set_option maxRecDepth 20000 in
theorem ggX5_breaks_X5_breakIn : GoodIn wsX5_breaks wsX5_breakIn := goodIn_r _ [11] (by decide +kernel) (by decide +kernel)
set_option maxRecDepth 20000 in
theorem gX5_breaks_X5_breakIn : GoodIn wsX5_breaks (va_wsS RX5 155 yX5_breakIn wsX5_breakIn) := goodIn_app (goodIn_of _ (by decide +kernel)) ggX5_breaks_X5_breakIn
theorem dX5_breaks_0 : decode cX5_breaks 0 = .ok (.iload_n 1, 1) := by decide +kernel
theorem dX5_breaks_1 : decode cX5_breaks 1 = .ok (.aload_n 0, 1) := by decide +kernel
theorem dX5_breaks_2 : decode cX5_breaks 2 = .ok (.getfield 19, 3) := by decide +kernel
theorem dX5_breaks_5 : decode cX5_breaks 5 = .ok (.iconst 2, 1) := by decide +kernel
theorem dX5_breaks_6 : decode cX5_breaks 6 = .ok (.iaload, 1) := by decide +kernel
theorem dX5_breaks_7 : decode cX5_breaks 7 = .ok (.if_icmp .ge 24, 3) := by decide +kernel
theorem dX5_breaks_10 : decode cX5_breaks 10 = .ok (.iload_n 2, 1) := by decide +kernel
theorem dX5_breaks_11 : decode cX5_breaks 11 = .ok (.iconst 1, 1) := by decide +kernel
theorem dX5_breaks_12 : decode cX5_breaks 12 = .ok (.if_icmp .gt 19, 3) := by decide +kernel
theorem dX5_breaks_15 : decode cX5_breaks 15 = .ok (.iload_n 2, 1) := by decide +kernel
theorem dX5_breaks_16 : decode cX5_breaks 16 = .ok (.iconst 1, 1) := by decide +kernel
theorem dX5_breaks_17 : decode cX5_breaks 17 = .ok (.if_icmp .ne 16, 3) := by decide +kernel
theorem dX5_breaks_20 : decode cX5_breaks 20 = .ok (.aload_n 0, 1) := by decide +kernel
theorem dX5_breaks_21 : decode cX5_breaks 21 = .ok (.getfield 19, 3) := by decide +kernel
theorem dX5_breaks_24 : decode cX5_breaks 24 = .ok (.iload_n 1, 1) := by decide +kernel
theorem dX5_breaks_25 : decode cX5_breaks 25 = .ok (.invokestatic 152, 3) := by decide +kernel
theorem dX5_breaks_28 : decode cX5_breaks 28 = .ok (.ifCond .ne 5, 3) := by decide +kernel
theorem dX5_breaks_31 : decode cX5_breaks 31 = .ok (.iconst 0, 1) := by decide +kernel
theorem dX5_breaks_32 : decode cX5_breaks 32 = .ok (.ireturn, 1) := by decide +kernel
theorem dX5_breaks_33 : decode cX5_breaks 33 = .ok (.aload_n 0, 1) := by decide +kernel
theorem dX5_breaks_34 : decode cX5_breaks 34 = .ok (.getfield 19, 3) := by decide +kernel
theorem dX5_breaks_37 : decode cX5_breaks 37 = .ok (.iload_n 1, 1) := by decide +kernel
theorem dX5_breaks_38 : decode cX5_breaks 38 = .ok (.iload_n 2, 1) := by decide +kernel
theorem dX5_breaks_39 : decode cX5_breaks 39 = .ok (.iconst 1, 1) := by decide +kernel
theorem dX5_breaks_40 : decode cX5_breaks 40 = .ok (.if_icmp .ne 7, 3) := by decide +kernel
theorem dX5_breaks_43 : decode cX5_breaks 43 = .ok (.iconst 1, 1) := by decide +kernel
theorem dX5_breaks_44 : decode cX5_breaks 44 = .ok (.goto 4, 3) := by decide +kernel
theorem dX5_breaks_47 : decode cX5_breaks 47 = .ok (.iconst 0, 1) := by decide +kernel
theorem dX5_breaks_48 : decode cX5_breaks 48 = .ok (.invokestatic 155, 3) := by decide +kernel
theorem dX5_breaks_51 : decode cX5_breaks 51 = .ok (.iconst 1, 1) := by decide +kernel
theorem dX5_breaks_52 : decode cX5_breaks 52 = .ok (.ireturn, 1) := by decide +kernel
theorem dX5_waits_0 : decode cX5_waits 0 = .ok (.iload_n 1, 1) := by decide +kernel
theorem dX5_waits_1 : decode cX5_waits 1 = .ok (.iconst 3, 1) := by decide +kernel
theorem dX5_waits_2 : decode cX5_waits 2 = .ok (.if_icmp .le 5, 3) := by decide +kernel
theorem dX5_waits_5 : decode cX5_waits 5 = .ok (.iconst 0, 1) := by decide +kernel
theorem dX5_waits_6 : decode cX5_waits 6 = .ok (.ireturn, 1) := by decide +kernel
theorem dX5_waits_7 : decode cX5_waits 7 = .ok (.aload_n 0, 1) := by decide +kernel
theorem dX5_waits_8 : decode cX5_waits 8 = .ok (.getfield 19, 3) := by decide +kernel
theorem dX5_waits_11 : decode cX5_waits 11 = .ok (.iconst 5, 1) := by decide +kernel
theorem dX5_waits_12 : decode cX5_waits 12 = .ok (.iload_n 1, 1) := by decide +kernel
theorem dX5_waits_13 : decode cX5_waits 13 = .ok (.iastore, 1) := by decide +kernel
theorem dX5_waits_14 : decode cX5_waits 14 = .ok (.iconst 1, 1) := by decide +kernel
theorem dX5_waits_15 : decode cX5_waits 15 = .ok (.ireturn, 1) := by decide +kernel
set_option maxRecDepth 20000 in
theorem ggX5_does_X5_connects : GoodIn wsX5_does wsX5_connects := goodIn_r _ [6, 1, 7, 8, 5, 9, 10, 11, 12, 13, 14, 15, 16, 17, 18, 19, 20, 21, 22, 23, 24, 25, 26, 27, 28, 29, 30, 31, 32, 33, 34, 35, 36, 37, 38, 39, 40, 41, 42, 43, 44, 45, 46, 47, 48, 49, 50, 51, 52, 53, 54, 55, 56, 57, 58, 107, 108, 109, 110, 111, 112, 113, 114, 115, 116, 117, 118, 119, 120] (by decide +kernel) (by decide +kernel)
set_option maxRecDepth 20000 in
theorem gX5_does_X5_connects : GoodIn wsX5_does (wsV RX5 218 RX5 yX5_connects wsX5_connects) := goodIn_app (goodIn_of _ (by decide +kernel)) ggX5_does_X5_connects
set_option maxRecDepth 20000 in
theorem ggX5_does_X5_joins : GoodIn wsX5_does wsX5_joins := goodIn_r _ [62, 1, 10, 11, 5, 12, 63, 64, 65, 66, 26, 27, 28, 23, 24, 25, 67, 68, 69, 29, 30, 31, 32, 33, 34, 35, 36, 37, 38, 39, 40, 41, 42, 43, 44, 45, 46, 47, 48, 49, 50, 51, 52, 53, 54, 55, 56, 57, 58, 107, 108, 109, 110, 111, 112, 113, 114, 115, 116, 117, 118, 119, 120] (by decide +kernel) (by decide +kernel)
set_option maxRecDepth 20000 in
theorem gX5_does_X5_joins : GoodIn wsX5_does (wsV RX5 222 RX5 yX5_joins wsX5_joins) := goodIn_app (goodIn_of _ (by decide +kernel)) ggX5_does_X5_joins
set_option maxRecDepth 20000 in
theorem ggX5_does_X5_hangs : GoodIn wsX5_does wsX5_hangs := goodIn_r _ [73, 1, 74, 75, 5, 76, 23, 24, 25, 77, 78, 79, 107, 108, 109, 110, 111, 112, 113, 114, 115, 116, 117, 118, 119, 120] (by decide +kernel) (by decide +kernel)
set_option maxRecDepth 20000 in
theorem gX5_does_X5_hangs : GoodIn wsX5_does (wsV RX5 225 RX5 yX5_hangs wsX5_hangs) := goodIn_app (goodIn_of _ (by decide +kernel)) ggX5_does_X5_hangs
set_option maxRecDepth 20000 in
theorem ggX5_does_X5_drops : GoodIn wsX5_does wsX5_drops := goodIn_r _ [83, 1, 10, 11, 5, 12, 84, 85, 86, 26, 27, 28, 23, 24, 25, 67, 68, 69, 87, 88, 89, 107, 108, 109, 110, 111, 112, 113, 114, 115, 116, 117, 118, 119, 120] (by decide +kernel) (by decide +kernel)
set_option maxRecDepth 20000 in
theorem gX5_does_X5_drops : GoodIn wsX5_does (wsV RX5 228 RX5 yX5_drops wsX5_drops) := goodIn_app (goodIn_of _ (by decide +kernel)) ggX5_does_X5_drops
set_option maxRecDepth 20000 in
theorem ggX5_does_X5_breaks : GoodIn wsX5_does wsX5_breaks := goodIn_r _ [93, 1, 94, 95, 5, 96, 23, 24, 25, 97, 98, 99, 107, 108, 109, 110, 111, 112, 113, 114, 115, 116, 117, 118, 119, 120] (by decide +kernel) (by decide +kernel)
set_option maxRecDepth 20000 in
theorem gX5_does_X5_breaks : GoodIn wsX5_does (wsV RX5 231 RX5 yX5_breaks wsX5_breaks) := goodIn_app (goodIn_of _ (by decide +kernel)) ggX5_does_X5_breaks
set_option maxRecDepth 20000 in
theorem ggX5_does_X5_waits : GoodIn wsX5_does wsX5_waits := goodIn_r _ [103, 1, 107, 108, 109, 110, 111, 112, 113, 114, 115, 116, 117, 118, 119, 120] (by decide +kernel) (by decide +kernel)
set_option maxRecDepth 20000 in
theorem gX5_does_X5_waits : GoodIn wsX5_does (wsV RX5 234 RX5 yX5_waits wsX5_waits) := goodIn_app (goodIn_of _ (by decide +kernel)) ggX5_does_X5_waits
set_option maxRecDepth 20000 in
theorem ggX5_does_X5_callAt : GoodIn wsX5_does wsX5_callAt := goodIn_r _ [25] (by decide +kernel) (by decide +kernel)
set_option maxRecDepth 20000 in
theorem gX5_does_X5_callAt : GoodIn wsX5_does (va_wsS RX5 56 yX5_callAt wsX5_callAt) := goodIn_app (goodIn_of _ (by decide +kernel)) ggX5_does_X5_callAt
set_option maxRecDepth 20000 in
theorem ggX5_does_X5_links : GoodIn wsX5_does wsX5_links := goodIn_r _ [106, 56, 57, 5, 58, 10, 11, 12, 23, 24, 25, 67, 68, 69] (by decide +kernel) (by decide +kernel)
set_option maxRecDepth 20000 in
theorem gX5_does_X5_links : GoodIn wsX5_does (va_wsS RX5 181 yX5_links wsX5_links) := goodIn_app (goodIn_of _ (by decide +kernel)) ggX5_does_X5_links
theorem dX5_does_0 : decode cX5_does 0 = .ok (.iload_n 1, 1) := by decide +kernel
theorem dX5_does_1 : decode cX5_does 1 = .ok (.sipush 10000, 3) := by decide +kernel
theorem dX5_does_4 : decode cX5_does 4 = .ok (.idiv, 1) := by decide +kernel
theorem dX5_does_5 : decode cX5_does 5 = .ok (.istore_n 2, 1) := by decide +kernel
theorem dX5_does_6 : decode cX5_does 6 = .ok (.iload_n 1, 1) := by decide +kernel
theorem dX5_does_7 : decode cX5_does 7 = .ok (.bipush 100, 2) := by decide +kernel
theorem dX5_does_9 : decode cX5_does 9 = .ok (.idiv, 1) := by decide +kernel
theorem dX5_does_10 : decode cX5_does 10 = .ok (.bipush 100, 2) := by decide +kernel
theorem dX5_does_12 : decode cX5_does 12 = .ok (.irem, 1) := by decide +kernel
theorem dX5_does_13 : decode cX5_does 13 = .ok (.istore_n 3, 1) := by decide +kernel
theorem dX5_does_14 : decode cX5_does 14 = .ok (.iload_n 1, 1) := by decide +kernel
theorem dX5_does_15 : decode cX5_does 15 = .ok (.bipush 100, 2) := by decide +kernel
theorem dX5_does_17 : decode cX5_does 17 = .ok (.irem, 1) := by decide +kernel
theorem dX5_does_18 : decode cX5_does 18 = .ok (.istore 4, 2) := by decide +kernel
theorem dX5_does_20 : decode cX5_does 20 = .ok (.iload_n 2, 1) := by decide +kernel
theorem dX5_does_21 : decode cX5_does 21 = .ok (.tableswitch 240 1 9 #[51, 59, 67, 86, 105, 131, 159, 197, 219], 51) := by decide +kernel
theorem dX5_does_72 : decode cX5_does 72 = .ok (.aload_n 0, 1) := by decide +kernel
theorem dX5_does_73 : decode cX5_does 73 = .ok (.iload_n 3, 1) := by decide +kernel
theorem dX5_does_74 : decode cX5_does 74 = .ok (.iload 4, 2) := by decide +kernel
theorem dX5_does_76 : decode cX5_does 76 = .ok (.invokevirtual 218, 3) := by decide +kernel
theorem dX5_does_79 : decode cX5_does 79 = .ok (.ireturn, 1) := by decide +kernel
theorem dX5_does_80 : decode cX5_does 80 = .ok (.aload_n 0, 1) := by decide +kernel
theorem dX5_does_81 : decode cX5_does 81 = .ok (.iload_n 3, 1) := by decide +kernel
theorem dX5_does_82 : decode cX5_does 82 = .ok (.iload 4, 2) := by decide +kernel
theorem dX5_does_84 : decode cX5_does 84 = .ok (.invokevirtual 222, 3) := by decide +kernel
theorem dX5_does_87 : decode cX5_does 87 = .ok (.ireturn, 1) := by decide +kernel
theorem dX5_does_88 : decode cX5_does 88 = .ok (.iload 4, 2) := by decide +kernel
theorem dX5_does_90 : decode cX5_does 90 = .ok (.ifCond .ne 15, 3) := by decide +kernel
theorem dX5_does_93 : decode cX5_does 93 = .ok (.aload_n 0, 1) := by decide +kernel
theorem dX5_does_94 : decode cX5_does 94 = .ok (.iload_n 3, 1) := by decide +kernel
theorem dX5_does_95 : decode cX5_does 95 = .ok (.invokevirtual 225, 3) := by decide +kernel
theorem dX5_does_98 : decode cX5_does 98 = .ok (.ifCond .eq 7, 3) := by decide +kernel
theorem dX5_does_101 : decode cX5_does 101 = .ok (.iconst 1, 1) := by decide +kernel
theorem dX5_does_102 : decode cX5_does 102 = .ok (.goto 4, 3) := by decide +kernel
theorem dX5_does_105 : decode cX5_does 105 = .ok (.iconst 0, 1) := by decide +kernel
theorem dX5_does_106 : decode cX5_does 106 = .ok (.ireturn, 1) := by decide +kernel
theorem dX5_does_107 : decode cX5_does 107 = .ok (.iload_n 3, 1) := by decide +kernel
theorem dX5_does_108 : decode cX5_does 108 = .ok (.ifCond .ne 16, 3) := by decide +kernel
theorem dX5_does_111 : decode cX5_does 111 = .ok (.aload_n 0, 1) := by decide +kernel
theorem dX5_does_112 : decode cX5_does 112 = .ok (.iload 4, 2) := by decide +kernel
theorem dX5_does_114 : decode cX5_does 114 = .ok (.invokevirtual 228, 3) := by decide +kernel
theorem dX5_does_117 : decode cX5_does 117 = .ok (.ifCond .eq 7, 3) := by decide +kernel
theorem dX5_does_120 : decode cX5_does 120 = .ok (.iconst 1, 1) := by decide +kernel
theorem dX5_does_121 : decode cX5_does 121 = .ok (.goto 4, 3) := by decide +kernel
theorem dX5_does_124 : decode cX5_does 124 = .ok (.iconst 0, 1) := by decide +kernel
theorem dX5_does_125 : decode cX5_does 125 = .ok (.ireturn, 1) := by decide +kernel
theorem dX5_does_126 : decode cX5_does 126 = .ok (.iload 4, 2) := by decide +kernel
theorem dX5_does_128 : decode cX5_does 128 = .ok (.ifCond .ne 22, 3) := by decide +kernel
theorem dX5_does_131 : decode cX5_does 131 = .ok (.aload_n 0, 1) := by decide +kernel
theorem dX5_does_132 : decode cX5_does 132 = .ok (.iload_n 3, 1) := by decide +kernel
theorem dX5_does_133 : decode cX5_does 133 = .ok (.bipush 10, 2) := by decide +kernel
theorem dX5_does_135 : decode cX5_does 135 = .ok (.idiv, 1) := by decide +kernel
theorem dX5_does_136 : decode cX5_does 136 = .ok (.iload_n 3, 1) := by decide +kernel
theorem dX5_does_137 : decode cX5_does 137 = .ok (.bipush 10, 2) := by decide +kernel
theorem dX5_does_139 : decode cX5_does 139 = .ok (.irem, 1) := by decide +kernel
theorem dX5_does_140 : decode cX5_does 140 = .ok (.invokevirtual 231, 3) := by decide +kernel
theorem dX5_does_143 : decode cX5_does 143 = .ok (.ifCond .eq 7, 3) := by decide +kernel
theorem dX5_does_146 : decode cX5_does 146 = .ok (.iconst 1, 1) := by decide +kernel
theorem dX5_does_147 : decode cX5_does 147 = .ok (.goto 4, 3) := by decide +kernel
theorem dX5_does_150 : decode cX5_does 150 = .ok (.iconst 0, 1) := by decide +kernel
theorem dX5_does_151 : decode cX5_does 151 = .ok (.ireturn, 1) := by decide +kernel
theorem dX5_does_152 : decode cX5_does 152 = .ok (.iload_n 1, 1) := by decide +kernel
theorem dX5_does_153 : decode cX5_does 153 = .ok (.bipush 10, 2) := by decide +kernel
theorem dX5_does_155 : decode cX5_does 155 = .ok (.idiv, 1) := by decide +kernel
theorem dX5_does_156 : decode cX5_does 156 = .ok (.sipush 1000, 3) := by decide +kernel
theorem dX5_does_159 : decode cX5_does 159 = .ok (.irem, 1) := by decide +kernel
theorem dX5_does_160 : decode cX5_does 160 = .ok (.ifCond .ne 18, 3) := by decide +kernel
theorem dX5_does_163 : decode cX5_does 163 = .ok (.aload_n 0, 1) := by decide +kernel
theorem dX5_does_164 : decode cX5_does 164 = .ok (.iload_n 1, 1) := by decide +kernel
theorem dX5_does_165 : decode cX5_does 165 = .ok (.bipush 10, 2) := by decide +kernel
theorem dX5_does_167 : decode cX5_does 167 = .ok (.irem, 1) := by decide +kernel
theorem dX5_does_168 : decode cX5_does 168 = .ok (.invokevirtual 234, 3) := by decide +kernel
theorem dX5_does_171 : decode cX5_does 171 = .ok (.ifCond .eq 7, 3) := by decide +kernel
theorem dX5_does_174 : decode cX5_does 174 = .ok (.iconst 1, 1) := by decide +kernel
theorem dX5_does_175 : decode cX5_does 175 = .ok (.goto 4, 3) := by decide +kernel
theorem dX5_does_178 : decode cX5_does 178 = .ok (.iconst 0, 1) := by decide +kernel
theorem dX5_does_179 : decode cX5_does 179 = .ok (.ireturn, 1) := by decide +kernel
theorem dX5_does_180 : decode cX5_does 180 = .ok (.iload_n 3, 1) := by decide +kernel
theorem dX5_does_181 : decode cX5_does 181 = .ok (.aload_n 0, 1) := by decide +kernel
theorem dX5_does_182 : decode cX5_does 182 = .ok (.getfield 19, 3) := by decide +kernel
theorem dX5_does_185 : decode cX5_does 185 = .ok (.iconst 4, 1) := by decide +kernel
theorem dX5_does_186 : decode cX5_does 186 = .ok (.iaload, 1) := by decide +kernel
theorem dX5_does_187 : decode cX5_does 187 = .ok (.if_icmp .ge 29, 3) := by decide +kernel
theorem dX5_does_190 : decode cX5_does 190 = .ok (.iload 4, 2) := by decide +kernel
theorem dX5_does_192 : decode cX5_does 192 = .ok (.bipush 10, 2) := by decide +kernel
theorem dX5_does_194 : decode cX5_does 194 = .ok (.if_icmp .ge 22, 3) := by decide +kernel
theorem dX5_does_197 : decode cX5_does 197 = .ok (.aload_n 0, 1) := by decide +kernel
theorem dX5_does_198 : decode cX5_does 198 = .ok (.getfield 19, 3) := by decide +kernel
theorem dX5_does_201 : decode cX5_does 201 = .ok (.iload_n 3, 1) := by decide +kernel
theorem dX5_does_202 : decode cX5_does 202 = .ok (.iconst 2, 1) := by decide +kernel
theorem dX5_does_203 : decode cX5_does 203 = .ok (.invokestatic 56, 3) := by decide +kernel
theorem dX5_does_206 : decode cX5_does 206 = .ok (.iaload, 1) := by decide +kernel
theorem dX5_does_207 : decode cX5_does 207 = .ok (.iload 4, 2) := by decide +kernel
theorem dX5_does_209 : decode cX5_does 209 = .ok (.if_icmp .ne 7, 3) := by decide +kernel
theorem dX5_does_212 : decode cX5_does 212 = .ok (.iconst 1, 1) := by decide +kernel
theorem dX5_does_213 : decode cX5_does 213 = .ok (.goto 4, 3) := by decide +kernel
theorem dX5_does_216 : decode cX5_does 216 = .ok (.iconst 0, 1) := by decide +kernel
theorem dX5_does_217 : decode cX5_does 217 = .ok (.ireturn, 1) := by decide +kernel
theorem dX5_does_218 : decode cX5_does 218 = .ok (.iload_n 3, 1) := by decide +kernel
theorem dX5_does_219 : decode cX5_does 219 = .ok (.ifCond .ne 19, 3) := by decide +kernel
theorem dX5_does_222 : decode cX5_does 222 = .ok (.aload_n 0, 1) := by decide +kernel
theorem dX5_does_223 : decode cX5_does 223 = .ok (.getfield 19, 3) := by decide +kernel
theorem dX5_does_226 : decode cX5_does 226 = .ok (.invokestatic 181, 3) := by decide +kernel
theorem dX5_does_229 : decode cX5_does 229 = .ok (.iload 4, 2) := by decide +kernel
theorem dX5_does_231 : decode cX5_does 231 = .ok (.if_icmp .gt 7, 3) := by decide +kernel
theorem dX5_does_234 : decode cX5_does 234 = .ok (.iconst 1, 1) := by decide +kernel
theorem dX5_does_235 : decode cX5_does 235 = .ok (.goto 4, 3) := by decide +kernel
theorem dX5_does_238 : decode cX5_does 238 = .ok (.iconst 0, 1) := by decide +kernel
theorem dX5_does_239 : decode cX5_does 239 = .ok (.ireturn, 1) := by decide +kernel
theorem dX5_does_240 : decode cX5_does 240 = .ok (.iload_n 3, 1) := by decide +kernel
theorem dX5_does_241 : decode cX5_does 241 = .ok (.ifCond .ne 18, 3) := by decide +kernel
theorem dX5_does_244 : decode cX5_does 244 = .ok (.aload_n 0, 1) := by decide +kernel
theorem dX5_does_245 : decode cX5_does 245 = .ok (.getfield 19, 3) := by decide +kernel
theorem dX5_does_248 : decode cX5_does 248 = .ok (.iconst 4, 1) := by decide +kernel
theorem dX5_does_249 : decode cX5_does 249 = .ok (.iaload, 1) := by decide +kernel
theorem dX5_does_250 : decode cX5_does 250 = .ok (.iload 4, 2) := by decide +kernel
theorem dX5_does_252 : decode cX5_does 252 = .ok (.if_icmp .lt 7, 3) := by decide +kernel
theorem dX5_does_255 : decode cX5_does 255 = .ok (.iconst 1, 1) := by decide +kernel
theorem dX5_does_256 : decode cX5_does 256 = .ok (.goto 4, 3) := by decide +kernel
theorem dX5_does_259 : decode cX5_does 259 = .ok (.iconst 0, 1) := by decide +kernel
theorem dX5_does_260 : decode cX5_does 260 = .ok (.ireturn, 1) := by decide +kernel
theorem dX5_does_261 : decode cX5_does 261 = .ok (.iconst 0, 1) := by decide +kernel
theorem dX5_does_262 : decode cX5_does 262 = .ok (.ireturn, 1) := by decide +kernel
set_option maxRecDepth 20000 in
theorem ggX5_runScript_X5_in : GoodIn wsX5_runScript wsX5_in := goodIn_r _ [6] (by decide +kernel) (by decide +kernel)
set_option maxRecDepth 20000 in
theorem gX5_runScript_X5_in : GoodIn wsX5_runScript (va_wsS RX5 103 yX5_in wsX5_in) := goodIn_app (goodIn_of _ (by decide +kernel)) ggX5_runScript_X5_in
set_option maxRecDepth 20000 in
theorem ggX5_runScript_X5_tenTo : GoodIn wsX5_runScript wsX5_tenTo := goodIn_r _ [9, 10] (by decide +kernel) (by decide +kernel)
set_option maxRecDepth 20000 in
theorem gX5_runScript_X5_tenTo : GoodIn wsX5_runScript (va_wsS RX5 237 yX5_tenTo wsX5_tenTo) := goodIn_app (goodIn_of _ (by decide +kernel)) ggX5_runScript_X5_tenTo
set_option maxRecDepth 20000 in
theorem ggX5_runScript_X5_refused : GoodIn wsX5_runScript wsX5_refused := goodIn_r _ [14, 15, 130, 131, 132, 133, 134, 135, 136, 137, 138, 139, 140, 141, 142, 143] (by decide +kernel) (by decide +kernel)
set_option maxRecDepth 20000 in
theorem gX5_runScript_X5_refused : GoodIn wsX5_runScript (wsV RX5 110 RX5 yX5_refused wsX5_refused) := goodIn_app (goodIn_of _ (by decide +kernel)) ggX5_runScript_X5_refused
set_option maxRecDepth 20000 in
theorem ggX5_runScript_X5_tryIt : GoodIn wsX5_runScript wsX5_tryIt := goodIn_r _ [19, 20, 21, 22, 23, 5, 24, 130, 131, 132, 133, 134, 135, 136, 137, 138, 139, 140, 141, 142, 143] (by decide +kernel) (by decide +kernel)
set_option maxRecDepth 20000 in
theorem gX5_runScript_X5_tryIt : GoodIn wsX5_runScript (wsV RX5 201 RX5 yX5_tryIt wsX5_tryIt) := goodIn_app (goodIn_of _ (by decide +kernel)) ggX5_runScript_X5_tryIt
set_option maxRecDepth 20000 in
theorem ggX5_runScript_X5_does : GoodIn wsX5_runScript wsX5_does := goodIn_r _ [28, 21, 29, 30, 31, 5, 32, 33, 34, 35, 36, 37, 38, 39, 40, 41, 42, 43, 44, 45, 46, 47, 48, 49, 50, 51, 52, 53, 54, 55, 56, 57, 58, 59, 60, 61, 62, 63, 64, 65, 66, 67, 68, 69, 70, 71, 72, 73, 74, 75, 76, 77, 78, 79, 80, 81, 82, 83, 84, 85, 86, 87, 88, 89, 90, 91, 92, 93, 94, 95, 96, 97, 98, 99, 100, 101, 102, 22, 23, 24, 103, 104, 105, 106, 107, 108, 109, 110, 111, 112, 113, 114, 115, 116, 117, 118, 119, 120, 121, 122, 123, 124, 125, 126, 127, 128, 129, 130, 131, 132, 133, 134, 135, 136, 137, 138, 139, 140, 141, 142, 143] (by decide +kernel) (by decide +kernel)
set_option maxRecDepth 20000 in
theorem gX5_runScript_X5_does : GoodIn wsX5_runScript (wsV RX5 243 RX5 yX5_does wsX5_does) := goodIn_app (goodIn_of _ (by decide +kernel)) ggX5_runScript_X5_does
theorem dX5_runScript_0 : decode cX5_runScript 0 = .ok (.iload_n 1, 1) := by decide +kernel
theorem dX5_runScript_1 : decode cX5_runScript 1 = .ok (.i2l, 1) := by decide +kernel
theorem dX5_runScript_2 : decode cX5_runScript 2 = .ok (.lconst 1, 1) := by decide +kernel
theorem dX5_runScript_3 : decode cX5_runScript 3 = .ok (.ldc2_w 213, 3) := by decide +kernel
theorem dX5_runScript_6 : decode cX5_runScript 6 = .ok (.invokestatic 103, 3) := by decide +kernel
theorem dX5_runScript_9 : decode cX5_runScript 9 = .ok (.istore 4, 2) := by decide +kernel
theorem dX5_runScript_11 : decode cX5_runScript 11 = .ok (.aload_n 0, 1) := by decide +kernel
theorem dX5_runScript_12 : decode cX5_runScript 12 = .ok (.iload 4, 2) := by decide +kernel
theorem dX5_runScript_14 : decode cX5_runScript 14 = .ok (.ifCond .eq 32, 3) := by decide +kernel
theorem dX5_runScript_17 : decode cX5_runScript 17 = .ok (.lload_n 2, 1) := by decide +kernel
theorem dX5_runScript_18 : decode cX5_runScript 18 = .ok (.lconst 0, 1) := by decide +kernel
theorem dX5_runScript_19 : decode cX5_runScript 19 = .ok (.iload 4, 2) := by decide +kernel
theorem dX5_runScript_21 : decode cX5_runScript 21 = .ok (.ifCond .eq 9, 3) := by decide +kernel
theorem dX5_runScript_24 : decode cX5_runScript 24 = .ok (.iconst 5, 1) := by decide +kernel
theorem dX5_runScript_25 : decode cX5_runScript 25 = .ok (.iload_n 1, 1) := by decide +kernel
theorem dX5_runScript_26 : decode cX5_runScript 26 = .ok (.imul, 1) := by decide +kernel
theorem dX5_runScript_27 : decode cX5_runScript 27 = .ok (.goto 4, 3) := by decide +kernel
theorem dX5_runScript_30 : decode cX5_runScript 30 = .ok (.iconst 0, 1) := by decide +kernel
theorem dX5_runScript_31 : decode cX5_runScript 31 = .ok (.invokestatic 237, 3) := by decide +kernel
theorem dX5_runScript_34 : decode cX5_runScript 34 = .ok (.lconst 1, 1) := by decide +kernel
theorem dX5_runScript_35 : decode cX5_runScript 35 = .ok (.lsub, 1) := by decide +kernel
theorem dX5_runScript_36 : decode cX5_runScript 36 = .ok (.invokestatic 103, 3) := by decide +kernel
theorem dX5_runScript_39 : decode cX5_runScript 39 = .ok (.ifCond .eq 7, 3) := by decide +kernel
theorem dX5_runScript_42 : decode cX5_runScript 42 = .ok (.iconst 0, 1) := by decide +kernel
theorem dX5_runScript_43 : decode cX5_runScript 43 = .ok (.goto 4, 3) := by decide +kernel
theorem dX5_runScript_46 : decode cX5_runScript 46 = .ok (.iconst 1, 1) := by decide +kernel
theorem dX5_runScript_47 : decode cX5_runScript 47 = .ok (.invokevirtual 110, 3) := by decide +kernel
theorem dX5_runScript_50 : decode cX5_runScript 50 = .ok (.ifCond .eq 5, 3) := by decide +kernel
theorem dX5_runScript_53 : decode cX5_runScript 53 = .ok (.iconst 0, 1) := by decide +kernel
theorem dX5_runScript_54 : decode cX5_runScript 54 = .ok (.ireturn, 1) := by decide +kernel
theorem dX5_runScript_55 : decode cX5_runScript 55 = .ok (.aload_n 0, 1) := by decide +kernel
theorem dX5_runScript_56 : decode cX5_runScript 56 = .ok (.invokevirtual 201, 3) := by decide +kernel
theorem dX5_runScript_59 : decode cX5_runScript 59 = .ok (.iconst 0, 1) := by decide +kernel
theorem dX5_runScript_60 : decode cX5_runScript 60 = .ok (.istore 5, 2) := by decide +kernel
theorem dX5_runScript_62 : decode cX5_runScript 62 = .ok (.iload 5, 2) := by decide +kernel
theorem dX5_runScript_64 : decode cX5_runScript 64 = .ok (.iload_n 1, 1) := by decide +kernel
theorem dX5_runScript_65 : decode cX5_runScript 65 = .ok (.if_icmp .ge 37, 3) := by decide +kernel
theorem dX5_runScript_68 : decode cX5_runScript 68 = .ok (.aload_n 0, 1) := by decide +kernel
theorem dX5_runScript_69 : decode cX5_runScript 69 = .ok (.lload_n 2, 1) := by decide +kernel
theorem dX5_runScript_70 : decode cX5_runScript 70 = .ok (.iconst 5, 1) := by decide +kernel
theorem dX5_runScript_71 : decode cX5_runScript 71 = .ok (.iload_n 1, 1) := by decide +kernel
theorem dX5_runScript_72 : decode cX5_runScript 72 = .ok (.iconst 1, 1) := by decide +kernel
theorem dX5_runScript_73 : decode cX5_runScript 73 = .ok (.isub, 1) := by decide +kernel
theorem dX5_runScript_74 : decode cX5_runScript 74 = .ok (.iload 5, 2) := by decide +kernel
theorem dX5_runScript_76 : decode cX5_runScript 76 = .ok (.isub, 1) := by decide +kernel
theorem dX5_runScript_77 : decode cX5_runScript 77 = .ok (.imul, 1) := by decide +kernel
theorem dX5_runScript_78 : decode cX5_runScript 78 = .ok (.invokestatic 237, 3) := by decide +kernel
theorem dX5_runScript_81 : decode cX5_runScript 81 = .ok (.ldiv, 1) := by decide +kernel
theorem dX5_runScript_82 : decode cX5_runScript 82 = .ok (.ldc2_w 241, 3) := by decide +kernel
theorem dX5_runScript_85 : decode cX5_runScript 85 = .ok (.lrem, 1) := by decide +kernel
theorem dX5_runScript_86 : decode cX5_runScript 86 = .ok (.l2i, 1) := by decide +kernel
theorem dX5_runScript_87 : decode cX5_runScript 87 = .ok (.invokevirtual 243, 3) := by decide +kernel
theorem dX5_runScript_90 : decode cX5_runScript 90 = .ok (.ifCond .ne 6, 3) := by decide +kernel
theorem dX5_runScript_93 : decode cX5_runScript 93 = .ok (.iload 5, 2) := by decide +kernel
theorem dX5_runScript_95 : decode cX5_runScript 95 = .ok (.ireturn, 1) := by decide +kernel
theorem dX5_runScript_96 : decode cX5_runScript 96 = .ok (.iinc 5 1, 3) := by decide +kernel
theorem dX5_runScript_99 : decode cX5_runScript 99 = .ok (.goto (-37), 3) := by decide +kernel
theorem dX5_runScript_102 : decode cX5_runScript 102 = .ok (.iconst (-1), 1) := by decide +kernel
theorem dX5_runScript_103 : decode cX5_runScript 103 = .ok (.ireturn, 1) := by decide +kernel
set_option maxRecDepth 20000 in
theorem ggX5_stir_X5_inputs : GoodIn wsX5_stir wsX5_inputs := goodIn_r _ [5] (by decide +kernel) (by decide +kernel)
set_option maxRecDepth 20000 in
theorem gX5_stir_X5_inputs : GoodIn wsX5_stir (va_wsS RX5 133 yX5_inputs wsX5_inputs) := goodIn_app (goodIn_of _ (by decide +kernel)) ggX5_stir_X5_inputs
set_option maxRecDepth 20000 in
theorem ggX5_stir_X5_outputs : GoodIn wsX5_stir wsX5_outputs := goodIn_r _ [8] (by decide +kernel) (by decide +kernel)
set_option maxRecDepth 20000 in
theorem gX5_stir_X5_outputs : GoodIn wsX5_stir (va_wsS RX5 52 yX5_outputs wsX5_outputs) := goodIn_app (goodIn_of _ (by decide +kernel)) ggX5_stir_X5_outputs
set_option maxRecDepth 20000 in
theorem ggX5_stir_X5_connects : GoodIn wsX5_stir wsX5_connects := goodIn_r _ [12, 1, 2, 3, 4, 5, 6, 7, 8, 13, 14, 15, 16, 17, 18, 19, 20, 21, 22, 23, 24, 25, 26, 27, 28, 29, 30, 31, 32, 33, 34, 35, 36, 37, 38, 39, 40, 41, 42, 43, 44, 45, 46, 47, 48, 49, 50, 51, 52, 53, 54, 55, 56, 57, 58, 90, 91, 92, 93, 94, 95, 96, 97, 98, 99, 100, 101, 102, 103] (by decide +kernel) (by decide +kernel)
set_option maxRecDepth 20000 in
theorem gX5_stir_X5_connects : GoodIn wsX5_stir (wsV RX5 218 RX5 yX5_connects wsX5_connects) := goodIn_app (goodIn_of _ (by decide +kernel)) ggX5_stir_X5_connects
set_option maxRecDepth 20000 in
theorem ggX5_stir_X5_joins : GoodIn wsX5_stir wsX5_joins := goodIn_r _ [62, 1, 6, 7, 4, 8, 63, 64, 65, 66, 26, 27, 28, 23, 24, 25, 67, 68, 69, 29, 30, 31, 32, 33, 34, 35, 36, 37, 38, 39, 40, 41, 42, 43, 44, 45, 46, 47, 48, 49, 50, 51, 52, 53, 54, 55, 56, 57, 58, 90, 91, 92, 93, 94, 95, 96, 97, 98, 99, 100, 101, 102, 103] (by decide +kernel) (by decide +kernel)
set_option maxRecDepth 20000 in
theorem gX5_stir_X5_joins : GoodIn wsX5_stir (wsV RX5 222 RX5 yX5_joins wsX5_joins) := goodIn_app (goodIn_of _ (by decide +kernel)) ggX5_stir_X5_joins
set_option maxRecDepth 20000 in
theorem ggX5_stir_X5_hangs : GoodIn wsX5_stir wsX5_hangs := goodIn_r _ [73, 1, 74, 75, 4, 76, 23, 24, 25, 77, 78, 79, 90, 91, 92, 93, 94, 95, 96, 97, 98, 99, 100, 101, 102, 103] (by decide +kernel) (by decide +kernel)
set_option maxRecDepth 20000 in
theorem gX5_stir_X5_hangs : GoodIn wsX5_stir (wsV RX5 225 RX5 yX5_hangs wsX5_hangs) := goodIn_app (goodIn_of _ (by decide +kernel)) ggX5_stir_X5_hangs
set_option maxRecDepth 20000 in
theorem ggX5_stir_X5_drops : GoodIn wsX5_stir wsX5_drops := goodIn_r _ [83, 1, 6, 7, 4, 8, 84, 85, 86, 26, 27, 28, 23, 24, 25, 67, 68, 69, 87, 88, 89, 90, 91, 92, 93, 94, 95, 96, 97, 98, 99, 100, 101, 102, 103] (by decide +kernel) (by decide +kernel)
set_option maxRecDepth 20000 in
theorem gX5_stir_X5_drops : GoodIn wsX5_stir (wsV RX5 228 RX5 yX5_drops wsX5_drops) := goodIn_app (goodIn_of _ (by decide +kernel)) ggX5_stir_X5_drops
theorem dX5_stir_0 : decode cX5_stir 0 = .ok (.iload_n 1, 1) := by decide +kernel
theorem dX5_stir_1 : decode cX5_stir 1 = .ok (.bipush 8, 2) := by decide +kernel
theorem dX5_stir_3 : decode cX5_stir 3 = .ok (.idiv, 1) := by decide +kernel
theorem dX5_stir_4 : decode cX5_stir 4 = .ok (.aload_n 0, 1) := by decide +kernel
theorem dX5_stir_5 : decode cX5_stir 5 = .ok (.getfield 19, 3) := by decide +kernel
theorem dX5_stir_8 : decode cX5_stir 8 = .ok (.invokestatic 133, 3) := by decide +kernel
theorem dX5_stir_11 : decode cX5_stir 11 = .ok (.irem, 1) := by decide +kernel
theorem dX5_stir_12 : decode cX5_stir 12 = .ok (.istore_n 2, 1) := by decide +kernel
theorem dX5_stir_13 : decode cX5_stir 13 = .ok (.iload_n 1, 1) := by decide +kernel
theorem dX5_stir_14 : decode cX5_stir 14 = .ok (.sipush 128, 3) := by decide +kernel
theorem dX5_stir_17 : decode cX5_stir 17 = .ok (.idiv, 1) := by decide +kernel
theorem dX5_stir_18 : decode cX5_stir 18 = .ok (.aload_n 0, 1) := by decide +kernel
theorem dX5_stir_19 : decode cX5_stir 19 = .ok (.getfield 19, 3) := by decide +kernel
theorem dX5_stir_22 : decode cX5_stir 22 = .ok (.invokestatic 52, 3) := by decide +kernel
theorem dX5_stir_25 : decode cX5_stir 25 = .ok (.irem, 1) := by decide +kernel
theorem dX5_stir_26 : decode cX5_stir 26 = .ok (.istore_n 3, 1) := by decide +kernel
theorem dX5_stir_27 : decode cX5_stir 27 = .ok (.iload_n 1, 1) := by decide +kernel
theorem dX5_stir_28 : decode cX5_stir 28 = .ok (.bipush 8, 2) := by decide +kernel
theorem dX5_stir_30 : decode cX5_stir 30 = .ok (.idiv, 1) := by decide +kernel
theorem dX5_stir_31 : decode cX5_stir 31 = .ok (.aload_n 0, 1) := by decide +kernel
theorem dX5_stir_32 : decode cX5_stir 32 = .ok (.getfield 19, 3) := by decide +kernel
theorem dX5_stir_35 : decode cX5_stir 35 = .ok (.iconst 4, 1) := by decide +kernel
theorem dX5_stir_36 : decode cX5_stir 36 = .ok (.iaload, 1) := by decide +kernel
theorem dX5_stir_37 : decode cX5_stir 37 = .ok (.ifCond .le 12, 3) := by decide +kernel
theorem dX5_stir_40 : decode cX5_stir 40 = .ok (.aload_n 0, 1) := by decide +kernel
theorem dX5_stir_41 : decode cX5_stir 41 = .ok (.getfield 19, 3) := by decide +kernel
theorem dX5_stir_44 : decode cX5_stir 44 = .ok (.iconst 4, 1) := by decide +kernel
theorem dX5_stir_45 : decode cX5_stir 45 = .ok (.iaload, 1) := by decide +kernel
theorem dX5_stir_46 : decode cX5_stir 46 = .ok (.goto 4, 3) := by decide +kernel
theorem dX5_stir_49 : decode cX5_stir 49 = .ok (.iconst 1, 1) := by decide +kernel
theorem dX5_stir_50 : decode cX5_stir 50 = .ok (.irem, 1) := by decide +kernel
theorem dX5_stir_51 : decode cX5_stir 51 = .ok (.istore 4, 2) := by decide +kernel
theorem dX5_stir_53 : decode cX5_stir 53 = .ok (.iload_n 1, 1) := by decide +kernel
theorem dX5_stir_54 : decode cX5_stir 54 = .ok (.bipush 8, 2) := by decide +kernel
theorem dX5_stir_56 : decode cX5_stir 56 = .ok (.irem, 1) := by decide +kernel
theorem dX5_stir_57 : decode cX5_stir 57 = .ok (.tableswitch 74 0 6 #[43, 43, 43, 43, 53, 64, 64], 43) := by decide +kernel
theorem dX5_stir_100 : decode cX5_stir 100 = .ok (.aload_n 0, 1) := by decide +kernel
theorem dX5_stir_101 : decode cX5_stir 101 = .ok (.iload_n 2, 1) := by decide +kernel
theorem dX5_stir_102 : decode cX5_stir 102 = .ok (.iload_n 3, 1) := by decide +kernel
theorem dX5_stir_103 : decode cX5_stir 103 = .ok (.invokevirtual 218, 3) := by decide +kernel
theorem dX5_stir_106 : decode cX5_stir 106 = .ok (.pop, 1) := by decide +kernel
theorem dX5_stir_107 : decode cX5_stir 107 = .ok (.goto 30, 3) := by decide +kernel
theorem dX5_stir_110 : decode cX5_stir 110 = .ok (.aload_n 0, 1) := by decide +kernel
theorem dX5_stir_111 : decode cX5_stir 111 = .ok (.iload 4, 2) := by decide +kernel
theorem dX5_stir_113 : decode cX5_stir 113 = .ok (.iload_n 3, 1) := by decide +kernel
theorem dX5_stir_114 : decode cX5_stir 114 = .ok (.invokevirtual 222, 3) := by decide +kernel
theorem dX5_stir_117 : decode cX5_stir 117 = .ok (.pop, 1) := by decide +kernel
theorem dX5_stir_118 : decode cX5_stir 118 = .ok (.goto 19, 3) := by decide +kernel
theorem dX5_stir_121 : decode cX5_stir 121 = .ok (.aload_n 0, 1) := by decide +kernel
theorem dX5_stir_122 : decode cX5_stir 122 = .ok (.iload 4, 2) := by decide +kernel
theorem dX5_stir_124 : decode cX5_stir 124 = .ok (.invokevirtual 225, 3) := by decide +kernel
theorem dX5_stir_127 : decode cX5_stir 127 = .ok (.pop, 1) := by decide +kernel
theorem dX5_stir_128 : decode cX5_stir 128 = .ok (.goto 9, 3) := by decide +kernel
theorem dX5_stir_131 : decode cX5_stir 131 = .ok (.aload_n 0, 1) := by decide +kernel
theorem dX5_stir_132 : decode cX5_stir 132 = .ok (.iload_n 3, 1) := by decide +kernel
theorem dX5_stir_133 : decode cX5_stir 133 = .ok (.invokevirtual 228, 3) := by decide +kernel
theorem dX5_stir_136 : decode cX5_stir 136 = .ok (.pop, 1) := by decide +kernel
theorem dX5_stir_137 : decode cX5_stir 137 = .ok (.return_, 1) := by decide +kernel
set_option maxRecDepth 20000 in
theorem ggX5_simulate_X5_in : GoodIn wsX5_simulate wsX5_in := goodIn_r _ [9] (by decide +kernel) (by decide +kernel)
set_option maxRecDepth 20000 in
theorem gX5_simulate_X5_in : GoodIn wsX5_simulate (va_wsS RX5 103 yX5_in wsX5_in) := goodIn_app (goodIn_of _ (by decide +kernel)) ggX5_simulate_X5_in
set_option maxRecDepth 20000 in
theorem ggX5_simulate_X5_refused : GoodIn wsX5_simulate wsX5_refused := goodIn_r _ [13, 14, 110, 111, 112, 113, 114, 115, 116, 117, 118, 119, 120, 121, 122, 123] (by decide +kernel) (by decide +kernel)
set_option maxRecDepth 20000 in
theorem gX5_simulate_X5_refused : GoodIn wsX5_simulate (wsV RX5 110 RX5 yX5_refused wsX5_refused) := goodIn_app (goodIn_of _ (by decide +kernel)) ggX5_simulate_X5_refused
set_option maxRecDepth 20000 in
theorem ggX5_simulate_X5_tryIt : GoodIn wsX5_simulate wsX5_tryIt := goodIn_r _ [18, 5, 4, 19, 20, 8, 21, 110, 111, 112, 113, 114, 115, 116, 117, 118, 119, 120, 121, 122, 123] (by decide +kernel) (by decide +kernel)
set_option maxRecDepth 20000 in
theorem gX5_simulate_X5_tryIt : GoodIn wsX5_simulate (wsV RX5 201 RX5 yX5_tryIt wsX5_tryIt) := goodIn_app (goodIn_of _ (by decide +kernel)) ggX5_simulate_X5_tryIt
set_option maxRecDepth 20000 in
theorem ggX5_simulate_X5_stir : GoodIn wsX5_simulate wsX5_stir := goodIn_r _ [25, 4, 26, 27, 8, 28, 29, 30, 31, 32, 33, 34, 35, 36, 37, 38, 39, 40, 41, 42, 43, 44, 45, 46, 47, 48, 49, 50, 51, 52, 53, 54, 55, 56, 57, 58, 59, 60, 61, 62, 63, 64, 65, 66, 67, 68, 69, 70, 71, 72, 73, 74, 75, 76, 77, 78, 79, 80, 81, 82, 83, 84, 85, 86, 87, 88, 89, 90, 91, 92, 93, 94, 95, 96, 97, 98, 99, 19, 20, 21, 100, 101, 102, 103, 104, 105, 106, 107, 108, 109, 110, 111, 112, 113, 114, 115, 116, 117, 118, 119, 120, 121, 122, 123] (by decide +kernel) (by decide +kernel)
set_option maxRecDepth 20000 in
theorem gX5_simulate_X5_stir : GoodIn wsX5_simulate (wsV RX5 252 RX5 yX5_stir wsX5_stir) := goodIn_app (goodIn_of _ (by decide +kernel)) ggX5_simulate_X5_stir
theorem dX5_simulate_0 : decode cX5_simulate 0 = .ok (.aload_n 0, 1) := by decide +kernel
theorem dX5_simulate_1 : decode cX5_simulate 1 = .ok (.iload_n 3, 1) := by decide +kernel
theorem dX5_simulate_2 : decode cX5_simulate 2 = .ok (.i2l, 1) := by decide +kernel
theorem dX5_simulate_3 : decode cX5_simulate 3 = .ok (.lconst 1, 1) := by decide +kernel
theorem dX5_simulate_4 : decode cX5_simulate 4 = .ok (.ldc2_w 246, 3) := by decide +kernel
theorem dX5_simulate_7 : decode cX5_simulate 7 = .ok (.invokestatic 103, 3) := by decide +kernel
theorem dX5_simulate_10 : decode cX5_simulate 10 = .ok (.ifCond .eq 7, 3) := by decide +kernel
theorem dX5_simulate_13 : decode cX5_simulate 13 = .ok (.iconst 0, 1) := by decide +kernel
theorem dX5_simulate_14 : decode cX5_simulate 14 = .ok (.goto 4, 3) := by decide +kernel
theorem dX5_simulate_17 : decode cX5_simulate 17 = .ok (.iconst 1, 1) := by decide +kernel
theorem dX5_simulate_18 : decode cX5_simulate 18 = .ok (.invokevirtual 110, 3) := by decide +kernel
theorem dX5_simulate_21 : decode cX5_simulate 21 = .ok (.ifCond .eq 5, 3) := by decide +kernel
theorem dX5_simulate_24 : decode cX5_simulate 24 = .ok (.iconst 0, 1) := by decide +kernel
theorem dX5_simulate_25 : decode cX5_simulate 25 = .ok (.ireturn, 1) := by decide +kernel
theorem dX5_simulate_26 : decode cX5_simulate 26 = .ok (.aload_n 0, 1) := by decide +kernel
theorem dX5_simulate_27 : decode cX5_simulate 27 = .ok (.invokevirtual 201, 3) := by decide +kernel
theorem dX5_simulate_30 : decode cX5_simulate 30 = .ok (.lload_n 1, 1) := by decide +kernel
theorem dX5_simulate_31 : decode cX5_simulate 31 = .ok (.lstore 4, 2) := by decide +kernel
theorem dX5_simulate_33 : decode cX5_simulate 33 = .ok (.iconst 0, 1) := by decide +kernel
theorem dX5_simulate_34 : decode cX5_simulate 34 = .ok (.istore 6, 2) := by decide +kernel
theorem dX5_simulate_36 : decode cX5_simulate 36 = .ok (.iload 6, 2) := by decide +kernel
theorem dX5_simulate_38 : decode cX5_simulate 38 = .ok (.iload_n 3, 1) := by decide +kernel
theorem dX5_simulate_39 : decode cX5_simulate 39 = .ok (.if_icmp .ge 31, 3) := by decide +kernel
theorem dX5_simulate_42 : decode cX5_simulate 42 = .ok (.lload 4, 2) := by decide +kernel
theorem dX5_simulate_44 : decode cX5_simulate 44 = .ok (.ldc2_w 248, 3) := by decide +kernel
theorem dX5_simulate_47 : decode cX5_simulate 47 = .ok (.lmul, 1) := by decide +kernel
theorem dX5_simulate_48 : decode cX5_simulate 48 = .ok (.ldc2_w 250, 3) := by decide +kernel
theorem dX5_simulate_51 : decode cX5_simulate 51 = .ok (.ladd, 1) := by decide +kernel
theorem dX5_simulate_52 : decode cX5_simulate 52 = .ok (.lstore 4, 2) := by decide +kernel
theorem dX5_simulate_54 : decode cX5_simulate 54 = .ok (.aload_n 0, 1) := by decide +kernel
theorem dX5_simulate_55 : decode cX5_simulate 55 = .ok (.lload 4, 2) := by decide +kernel
theorem dX5_simulate_57 : decode cX5_simulate 57 = .ok (.bipush 33, 2) := by decide +kernel
theorem dX5_simulate_59 : decode cX5_simulate 59 = .ok (.lushr, 1) := by decide +kernel
theorem dX5_simulate_60 : decode cX5_simulate 60 = .ok (.l2i, 1) := by decide +kernel
theorem dX5_simulate_61 : decode cX5_simulate 61 = .ok (.invokevirtual 252, 3) := by decide +kernel
theorem dX5_simulate_64 : decode cX5_simulate 64 = .ok (.iinc 6 1, 3) := by decide +kernel
theorem dX5_simulate_67 : decode cX5_simulate 67 = .ok (.goto (-31), 3) := by decide +kernel
theorem dX5_simulate_70 : decode cX5_simulate 70 = .ok (.sipush 1000, 3) := by decide +kernel
theorem dX5_simulate_73 : decode cX5_simulate 73 = .ok (.aload_n 0, 1) := by decide +kernel
theorem dX5_simulate_74 : decode cX5_simulate 74 = .ok (.getfield 19, 3) := by decide +kernel
theorem dX5_simulate_77 : decode cX5_simulate 77 = .ok (.bipush 6, 2) := by decide +kernel
theorem dX5_simulate_79 : decode cX5_simulate 79 = .ok (.iaload, 1) := by decide +kernel
theorem dX5_simulate_80 : decode cX5_simulate 80 = .ok (.aload_n 0, 1) := by decide +kernel
theorem dX5_simulate_81 : decode cX5_simulate 81 = .ok (.getfield 16, 3) := by decide +kernel
theorem dX5_simulate_84 : decode cX5_simulate 84 = .ok (.bipush 6, 2) := by decide +kernel
theorem dX5_simulate_86 : decode cX5_simulate 86 = .ok (.iaload, 1) := by decide +kernel
theorem dX5_simulate_87 : decode cX5_simulate 87 = .ok (.isub, 1) := by decide +kernel
theorem dX5_simulate_88 : decode cX5_simulate 88 = .ok (.imul, 1) := by decide +kernel
theorem dX5_simulate_89 : decode cX5_simulate 89 = .ok (.aload_n 0, 1) := by decide +kernel
theorem dX5_simulate_90 : decode cX5_simulate 90 = .ok (.getfield 19, 3) := by decide +kernel
theorem dX5_simulate_93 : decode cX5_simulate 93 = .ok (.iconst 4, 1) := by decide +kernel
theorem dX5_simulate_94 : decode cX5_simulate 94 = .ok (.iaload, 1) := by decide +kernel
theorem dX5_simulate_95 : decode cX5_simulate 95 = .ok (.iadd, 1) := by decide +kernel
theorem dX5_simulate_96 : decode cX5_simulate 96 = .ok (.ireturn, 1) := by decide +kernel
set_option maxRecDepth 20000 in
theorem ggX5_save_X5_in : GoodIn wsX5_save wsX5_in := goodIn_r _ [7] (by decide +kernel) (by decide +kernel)
set_option maxRecDepth 20000 in
theorem gX5_save_X5_in : GoodIn wsX5_save (va_wsS RX5 103 yX5_in wsX5_in) := goodIn_app (goodIn_of _ (by decide +kernel)) ggX5_save_X5_in
set_option maxRecDepth 20000 in
theorem ggX5_save_X5_refused : GoodIn wsX5_save wsX5_refused := goodIn_r _ [11, 12, 16, 17, 18, 19, 20, 21, 22, 23, 24, 25, 26, 27, 28, 29] (by decide +kernel) (by decide +kernel)
set_option maxRecDepth 20000 in
theorem gX5_save_X5_refused : GoodIn wsX5_save (wsV RX5 110 RX5 yX5_refused wsX5_refused) := goodIn_app (goodIn_of _ (by decide +kernel)) ggX5_save_X5_refused
set_option maxRecDepth 20000 in
theorem ggX5_save_X5_copy : GoodIn wsX5_save wsX5_copy := goodIn_r _ [15] (by decide +kernel) (by decide +kernel)
set_option maxRecDepth 20000 in
theorem gX5_save_X5_copy : GoodIn wsX5_save (va_wsS RX5 48 yX5_copy wsX5_copy) := goodIn_app (goodIn_of _ (by decide +kernel)) ggX5_save_X5_copy
theorem dX5_save_0 : decode cX5_save 0 = .ok (.aload_n 0, 1) := by decide +kernel
theorem dX5_save_1 : decode cX5_save 1 = .ok (.iload_n 1, 1) := by decide +kernel
theorem dX5_save_2 : decode cX5_save 2 = .ok (.i2l, 1) := by decide +kernel
theorem dX5_save_3 : decode cX5_save 3 = .ok (.lconst 0, 1) := by decide +kernel
theorem dX5_save_4 : decode cX5_save 4 = .ok (.lconst 1, 1) := by decide +kernel
theorem dX5_save_5 : decode cX5_save 5 = .ok (.invokestatic 103, 3) := by decide +kernel
theorem dX5_save_8 : decode cX5_save 8 = .ok (.ifCond .eq 7, 3) := by decide +kernel
theorem dX5_save_11 : decode cX5_save 11 = .ok (.iconst 0, 1) := by decide +kernel
theorem dX5_save_12 : decode cX5_save 12 = .ok (.goto 4, 3) := by decide +kernel
theorem dX5_save_15 : decode cX5_save 15 = .ok (.iconst 1, 1) := by decide +kernel
theorem dX5_save_16 : decode cX5_save 16 = .ok (.invokevirtual 110, 3) := by decide +kernel
theorem dX5_save_19 : decode cX5_save 19 = .ok (.ifCond .eq 5, 3) := by decide +kernel
theorem dX5_save_22 : decode cX5_save 22 = .ok (.iconst 0, 1) := by decide +kernel
theorem dX5_save_23 : decode cX5_save 23 = .ok (.ireturn, 1) := by decide +kernel
theorem dX5_save_24 : decode cX5_save 24 = .ok (.aload_n 0, 1) := by decide +kernel
theorem dX5_save_25 : decode cX5_save 25 = .ok (.getfield 16, 3) := by decide +kernel
theorem dX5_save_28 : decode cX5_save 28 = .ok (.iconst 0, 1) := by decide +kernel
theorem dX5_save_29 : decode cX5_save 29 = .ok (.aload_n 0, 1) := by decide +kernel
theorem dX5_save_30 : decode cX5_save 30 = .ok (.getfield 25, 3) := by decide +kernel
theorem dX5_save_33 : decode cX5_save 33 = .ok (.bipush 104, 2) := by decide +kernel
theorem dX5_save_35 : decode cX5_save 35 = .ok (.iload_n 1, 1) := by decide +kernel
theorem dX5_save_36 : decode cX5_save 36 = .ok (.imul, 1) := by decide +kernel
theorem dX5_save_37 : decode cX5_save 37 = .ok (.bipush 104, 2) := by decide +kernel
theorem dX5_save_39 : decode cX5_save 39 = .ok (.invokestatic 48, 3) := by decide +kernel
theorem dX5_save_42 : decode cX5_save 42 = .ok (.aload_n 0, 1) := by decide +kernel
theorem dX5_save_43 : decode cX5_save 43 = .ok (.getfield 28, 3) := by decide +kernel
theorem dX5_save_46 : decode cX5_save 46 = .ok (.iload_n 1, 1) := by decide +kernel
theorem dX5_save_47 : decode cX5_save 47 = .ok (.iconst 1, 1) := by decide +kernel
theorem dX5_save_48 : decode cX5_save 48 = .ok (.bastore, 1) := by decide +kernel
theorem dX5_save_49 : decode cX5_save 49 = .ok (.aload_n 0, 1) := by decide +kernel
theorem dX5_save_50 : decode cX5_save 50 = .ok (.getfield 16, 3) := by decide +kernel
theorem dX5_save_53 : decode cX5_save 53 = .ok (.iconst 4, 1) := by decide +kernel
theorem dX5_save_54 : decode cX5_save 54 = .ok (.iaload, 1) := by decide +kernel
theorem dX5_save_55 : decode cX5_save 55 = .ok (.ireturn, 1) := by decide +kernel
set_option maxRecDepth 20000 in
theorem ggX5_restore_X5_in : GoodIn wsX5_restore wsX5_in := goodIn_r _ [8] (by decide +kernel) (by decide +kernel)
set_option maxRecDepth 20000 in
theorem gX5_restore_X5_in : GoodIn wsX5_restore (va_wsS RX5 103 yX5_in wsX5_in) := goodIn_app (goodIn_of _ (by decide +kernel)) ggX5_restore_X5_in
set_option maxRecDepth 20000 in
theorem ggX5_restore_X5_refused : GoodIn wsX5_restore wsX5_refused := goodIn_r _ [12, 13, 17, 18, 19, 20, 21, 22, 23, 24, 25, 26, 27, 28, 29, 30] (by decide +kernel) (by decide +kernel)
set_option maxRecDepth 20000 in
theorem gX5_restore_X5_refused : GoodIn wsX5_restore (wsV RX5 110 RX5 yX5_refused wsX5_refused) := goodIn_app (goodIn_of _ (by decide +kernel)) ggX5_restore_X5_refused
set_option maxRecDepth 20000 in
theorem ggX5_restore_X5_copy : GoodIn wsX5_restore wsX5_copy := goodIn_r _ [16] (by decide +kernel) (by decide +kernel)
set_option maxRecDepth 20000 in
theorem gX5_restore_X5_copy : GoodIn wsX5_restore (va_wsS RX5 48 yX5_copy wsX5_copy) := goodIn_app (goodIn_of _ (by decide +kernel)) ggX5_restore_X5_copy
theorem dX5_restore_0 : decode cX5_restore 0 = .ok (.aload_n 0, 1) := by decide +kernel
theorem dX5_restore_1 : decode cX5_restore 1 = .ok (.iload_n 1, 1) := by decide +kernel
theorem dX5_restore_2 : decode cX5_restore 2 = .ok (.i2l, 1) := by decide +kernel
theorem dX5_restore_3 : decode cX5_restore 3 = .ok (.lconst 0, 1) := by decide +kernel
theorem dX5_restore_4 : decode cX5_restore 4 = .ok (.lconst 1, 1) := by decide +kernel
theorem dX5_restore_5 : decode cX5_restore 5 = .ok (.invokestatic 103, 3) := by decide +kernel
theorem dX5_restore_8 : decode cX5_restore 8 = .ok (.ifCond .ne 7, 3) := by decide +kernel
theorem dX5_restore_11 : decode cX5_restore 11 = .ok (.iconst 1, 1) := by decide +kernel
theorem dX5_restore_12 : decode cX5_restore 12 = .ok (.goto 17, 3) := by decide +kernel
theorem dX5_restore_15 : decode cX5_restore 15 = .ok (.aload_n 0, 1) := by decide +kernel
theorem dX5_restore_16 : decode cX5_restore 16 = .ok (.getfield 28, 3) := by decide +kernel
theorem dX5_restore_19 : decode cX5_restore 19 = .ok (.iload_n 1, 1) := by decide +kernel
theorem dX5_restore_20 : decode cX5_restore 20 = .ok (.baload, 1) := by decide +kernel
theorem dX5_restore_21 : decode cX5_restore 21 = .ok (.ifCond .eq 7, 3) := by decide +kernel
theorem dX5_restore_24 : decode cX5_restore 24 = .ok (.iconst 0, 1) := by decide +kernel
theorem dX5_restore_25 : decode cX5_restore 25 = .ok (.goto 4, 3) := by decide +kernel
theorem dX5_restore_28 : decode cX5_restore 28 = .ok (.iconst 2, 1) := by decide +kernel
theorem dX5_restore_29 : decode cX5_restore 29 = .ok (.invokevirtual 110, 3) := by decide +kernel
theorem dX5_restore_32 : decode cX5_restore 32 = .ok (.ifCond .eq 5, 3) := by decide +kernel
theorem dX5_restore_35 : decode cX5_restore 35 = .ok (.iconst 0, 1) := by decide +kernel
theorem dX5_restore_36 : decode cX5_restore 36 = .ok (.ireturn, 1) := by decide +kernel
theorem dX5_restore_37 : decode cX5_restore 37 = .ok (.aload_n 0, 1) := by decide +kernel
theorem dX5_restore_38 : decode cX5_restore 38 = .ok (.getfield 25, 3) := by decide +kernel
theorem dX5_restore_41 : decode cX5_restore 41 = .ok (.bipush 104, 2) := by decide +kernel
theorem dX5_restore_43 : decode cX5_restore 43 = .ok (.iload_n 1, 1) := by decide +kernel
theorem dX5_restore_44 : decode cX5_restore 44 = .ok (.imul, 1) := by decide +kernel
theorem dX5_restore_45 : decode cX5_restore 45 = .ok (.aload_n 0, 1) := by decide +kernel
theorem dX5_restore_46 : decode cX5_restore 46 = .ok (.getfield 16, 3) := by decide +kernel
theorem dX5_restore_49 : decode cX5_restore 49 = .ok (.iconst 0, 1) := by decide +kernel
theorem dX5_restore_50 : decode cX5_restore 50 = .ok (.bipush 104, 2) := by decide +kernel
theorem dX5_restore_52 : decode cX5_restore 52 = .ok (.invokestatic 48, 3) := by decide +kernel
theorem dX5_restore_55 : decode cX5_restore 55 = .ok (.aload_n 0, 1) := by decide +kernel
theorem dX5_restore_56 : decode cX5_restore 56 = .ok (.iconst 0, 1) := by decide +kernel
theorem dX5_restore_57 : decode cX5_restore 57 = .ok (.putfield 45, 3) := by decide +kernel
theorem dX5_restore_60 : decode cX5_restore 60 = .ok (.aload_n 0, 1) := by decide +kernel
theorem dX5_restore_61 : decode cX5_restore 61 = .ok (.getfield 16, 3) := by decide +kernel
theorem dX5_restore_64 : decode cX5_restore 64 = .ok (.iconst 4, 1) := by decide +kernel
theorem dX5_restore_65 : decode cX5_restore 65 = .ok (.iaload, 1) := by decide +kernel
theorem dX5_restore_66 : decode cX5_restore 66 = .ok (.ireturn, 1) := by decide +kernel
theorem dJ6_bitCount_0f7a4_0 : decode cJ6_bitCount_0f7a4 0 = .ok (.iload_n 0, 1) := by decide +kernel
theorem dJ6_bitCount_0f7a4_1 : decode cJ6_bitCount_0f7a4 1 = .ok (.iload_n 0, 1) := by decide +kernel
theorem dJ6_bitCount_0f7a4_2 : decode cJ6_bitCount_0f7a4 2 = .ok (.iconst 1, 1) := by decide +kernel
theorem dJ6_bitCount_0f7a4_3 : decode cJ6_bitCount_0f7a4 3 = .ok (.iushr, 1) := by decide +kernel
theorem dJ6_bitCount_0f7a4_4 : decode cJ6_bitCount_0f7a4 4 = .ok (.ldc_w 265, 3) := by decide +kernel
theorem dJ6_bitCount_0f7a4_7 : decode cJ6_bitCount_0f7a4 7 = .ok (.iand, 1) := by decide +kernel
theorem dJ6_bitCount_0f7a4_8 : decode cJ6_bitCount_0f7a4 8 = .ok (.isub, 1) := by decide +kernel
theorem dJ6_bitCount_0f7a4_9 : decode cJ6_bitCount_0f7a4 9 = .ok (.istore_n 0, 1) := by decide +kernel
theorem dJ6_bitCount_0f7a4_10 : decode cJ6_bitCount_0f7a4 10 = .ok (.iload_n 0, 1) := by decide +kernel
theorem dJ6_bitCount_0f7a4_11 : decode cJ6_bitCount_0f7a4 11 = .ok (.ldc_w 266, 3) := by decide +kernel
theorem dJ6_bitCount_0f7a4_14 : decode cJ6_bitCount_0f7a4 14 = .ok (.iand, 1) := by decide +kernel
theorem dJ6_bitCount_0f7a4_15 : decode cJ6_bitCount_0f7a4 15 = .ok (.iload_n 0, 1) := by decide +kernel
theorem dJ6_bitCount_0f7a4_16 : decode cJ6_bitCount_0f7a4 16 = .ok (.iconst 2, 1) := by decide +kernel
theorem dJ6_bitCount_0f7a4_17 : decode cJ6_bitCount_0f7a4 17 = .ok (.iushr, 1) := by decide +kernel
theorem dJ6_bitCount_0f7a4_18 : decode cJ6_bitCount_0f7a4 18 = .ok (.ldc_w 266, 3) := by decide +kernel
theorem dJ6_bitCount_0f7a4_21 : decode cJ6_bitCount_0f7a4 21 = .ok (.iand, 1) := by decide +kernel
theorem dJ6_bitCount_0f7a4_22 : decode cJ6_bitCount_0f7a4 22 = .ok (.iadd, 1) := by decide +kernel
theorem dJ6_bitCount_0f7a4_23 : decode cJ6_bitCount_0f7a4 23 = .ok (.istore_n 0, 1) := by decide +kernel
theorem dJ6_bitCount_0f7a4_24 : decode cJ6_bitCount_0f7a4 24 = .ok (.iload_n 0, 1) := by decide +kernel
theorem dJ6_bitCount_0f7a4_25 : decode cJ6_bitCount_0f7a4 25 = .ok (.iload_n 0, 1) := by decide +kernel
theorem dJ6_bitCount_0f7a4_26 : decode cJ6_bitCount_0f7a4 26 = .ok (.iconst 4, 1) := by decide +kernel
theorem dJ6_bitCount_0f7a4_27 : decode cJ6_bitCount_0f7a4 27 = .ok (.iushr, 1) := by decide +kernel
theorem dJ6_bitCount_0f7a4_28 : decode cJ6_bitCount_0f7a4 28 = .ok (.iadd, 1) := by decide +kernel
theorem dJ6_bitCount_0f7a4_29 : decode cJ6_bitCount_0f7a4 29 = .ok (.ldc_w 267, 3) := by decide +kernel
theorem dJ6_bitCount_0f7a4_32 : decode cJ6_bitCount_0f7a4 32 = .ok (.iand, 1) := by decide +kernel
theorem dJ6_bitCount_0f7a4_33 : decode cJ6_bitCount_0f7a4 33 = .ok (.istore_n 0, 1) := by decide +kernel
theorem dJ6_bitCount_0f7a4_34 : decode cJ6_bitCount_0f7a4 34 = .ok (.iload_n 0, 1) := by decide +kernel
theorem dJ6_bitCount_0f7a4_35 : decode cJ6_bitCount_0f7a4 35 = .ok (.iload_n 0, 1) := by decide +kernel
theorem dJ6_bitCount_0f7a4_36 : decode cJ6_bitCount_0f7a4 36 = .ok (.bipush 8, 2) := by decide +kernel
theorem dJ6_bitCount_0f7a4_38 : decode cJ6_bitCount_0f7a4 38 = .ok (.iushr, 1) := by decide +kernel
theorem dJ6_bitCount_0f7a4_39 : decode cJ6_bitCount_0f7a4 39 = .ok (.iadd, 1) := by decide +kernel
theorem dJ6_bitCount_0f7a4_40 : decode cJ6_bitCount_0f7a4 40 = .ok (.istore_n 0, 1) := by decide +kernel
theorem dJ6_bitCount_0f7a4_41 : decode cJ6_bitCount_0f7a4 41 = .ok (.iload_n 0, 1) := by decide +kernel
theorem dJ6_bitCount_0f7a4_42 : decode cJ6_bitCount_0f7a4 42 = .ok (.iload_n 0, 1) := by decide +kernel
theorem dJ6_bitCount_0f7a4_43 : decode cJ6_bitCount_0f7a4 43 = .ok (.bipush 16, 2) := by decide +kernel
theorem dJ6_bitCount_0f7a4_45 : decode cJ6_bitCount_0f7a4 45 = .ok (.iushr, 1) := by decide +kernel
theorem dJ6_bitCount_0f7a4_46 : decode cJ6_bitCount_0f7a4 46 = .ok (.iadd, 1) := by decide +kernel
theorem dJ6_bitCount_0f7a4_47 : decode cJ6_bitCount_0f7a4 47 = .ok (.istore_n 0, 1) := by decide +kernel
theorem dJ6_bitCount_0f7a4_48 : decode cJ6_bitCount_0f7a4 48 = .ok (.iload_n 0, 1) := by decide +kernel
theorem dJ6_bitCount_0f7a4_49 : decode cJ6_bitCount_0f7a4 49 = .ok (.bipush 63, 2) := by decide +kernel
theorem dJ6_bitCount_0f7a4_51 : decode cJ6_bitCount_0f7a4 51 = .ok (.iand, 1) := by decide +kernel
theorem dJ6_bitCount_0f7a4_52 : decode cJ6_bitCount_0f7a4 52 = .ok (.ireturn, 1) := by decide +kernel
theorem dJ9_max_7cf53_0 : decode cJ9_max_7cf53 0 = .ok (.iload_n 0, 1) := by decide +kernel
theorem dJ9_max_7cf53_1 : decode cJ9_max_7cf53 1 = .ok (.iload_n 1, 1) := by decide +kernel
theorem dJ9_max_7cf53_2 : decode cJ9_max_7cf53 2 = .ok (.if_icmp .lt 7, 3) := by decide +kernel
theorem dJ9_max_7cf53_5 : decode cJ9_max_7cf53 5 = .ok (.iload_n 0, 1) := by decide +kernel
theorem dJ9_max_7cf53_6 : decode cJ9_max_7cf53 6 = .ok (.goto 4, 3) := by decide +kernel
theorem dJ9_max_7cf53_9 : decode cJ9_max_7cf53 9 = .ok (.iload_n 1, 1) := by decide +kernel
theorem dJ9_max_7cf53_10 : decode cJ9_max_7cf53 10 = .ok (.ireturn, 1) := by decide +kernel
theorem dJ9_min_7cf53_0 : decode cJ9_min_7cf53 0 = .ok (.iload_n 0, 1) := by decide +kernel
theorem dJ9_min_7cf53_1 : decode cJ9_min_7cf53 1 = .ok (.iload_n 1, 1) := by decide +kernel
theorem dJ9_min_7cf53_2 : decode cJ9_min_7cf53 2 = .ok (.if_icmp .gt 7, 3) := by decide +kernel
theorem dJ9_min_7cf53_5 : decode cJ9_min_7cf53 5 = .ok (.iload_n 0, 1) := by decide +kernel
theorem dJ9_min_7cf53_6 : decode cJ9_min_7cf53 6 = .ok (.goto 4, 3) := by decide +kernel
theorem dJ9_min_7cf53_9 : decode cJ9_min_7cf53 9 = .ok (.iload_n 1, 1) := by decide +kernel
theorem dJ9_min_7cf53_10 : decode cJ9_min_7cf53 10 = .ok (.ireturn, 1) := by decide +kernel
set_option maxRecDepth 20000 in
theorem ggL_append_X4_append : GoodIn wsL_append wsX4_append := goodIn_ca (goodIn_ca (goodIn_r _ [7, 8, 9, 10, 11, 12, 13, 14, 15, 16, 17, 18, 19, 20, 21, 22, 23, 24, 25, 26, 27, 28, 29, 30, 31] (by decide +kernel) (by decide +kernel)) (goodIn_sub (fun _ h => List.mem_cons_of_mem _ (List.mem_append_left _ (List.mem_append_right _ h))) (by decide +kernel))) (goodIn_sub (fun _ h => List.mem_cons_of_mem _ (List.mem_append_right _ h)) (by decide +kernel))
set_option maxRecDepth 20000 in
theorem gL_append_X4_append : GoodIn wsL_append (wsV RL 7 RX4 yX4_append wsX4_append) := goodIn_app (goodIn_of _ (by decide +kernel)) ggL_append_X4_append
