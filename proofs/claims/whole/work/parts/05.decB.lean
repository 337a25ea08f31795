theorem dX4_init_0 : decode cX4_init 0 = .ok (.aload_n 0, 1) := by decide +kernel
theorem dX4_init_1 : decode cX4_init 1 = .ok (.invokespecial 1, 3) := by decide +kernel
theorem dX4_init_4 : decode cX4_init 4 = .ok (.aload_n 0, 1) := by decide +kernel
theorem dX4_init_5 : decode cX4_init 5 = .ok (.new 7, 3) := by decide +kernel
theorem dX4_init_8 : decode cX4_init 8 = .ok (.dup, 1) := by decide +kernel
theorem dX4_init_9 : decode cX4_init 9 = .ok (.invokespecial 9, 3) := by decide +kernel
theorem dX4_init_12 : decode cX4_init 12 = .ok (.putfield 10, 3) := by decide +kernel
theorem dX4_init_15 : decode cX4_init 15 = .ok (.aload_n 0, 1) := by decide +kernel
theorem dX4_init_16 : decode cX4_init 16 = .ok (.new 7, 3) := by decide +kernel
theorem dX4_init_19 : decode cX4_init 19 = .ok (.dup, 1) := by decide +kernel
theorem dX4_init_20 : decode cX4_init 20 = .ok (.invokespecial 9, 3) := by decide +kernel
theorem dX4_init_23 : decode cX4_init 23 = .ok (.putfield 16, 3) := by decide +kernel
theorem dX4_init_26 : decode cX4_init 26 = .ok (.aload_n 0, 1) := by decide +kernel
theorem dX4_init_27 : decode cX4_init 27 = .ok (.new 19, 3) := by decide +kernel
theorem dX4_init_30 : decode cX4_init 30 = .ok (.dup, 1) := by decide +kernel
theorem dX4_init_31 : decode cX4_init 31 = .ok (.invokespecial 21, 3) := by decide +kernel
theorem dX4_init_34 : decode cX4_init 34 = .ok (.putfield 22, 3) := by decide +kernel
theorem dX4_init_37 : decode cX4_init 37 = .ok (.aload_n 0, 1) := by decide +kernel
theorem dX4_init_38 : decode cX4_init 38 = .ok (.iconst 2, 1) := by decide +kernel
theorem dX4_init_39 : decode cX4_init 39 = .ok (.anewarray 7, 3) := by decide +kernel
theorem dX4_init_42 : decode cX4_init 42 = .ok (.putfield 26, 3) := by decide +kernel
theorem dX4_init_45 : decode cX4_init 45 = .ok (.aload_n 0, 1) := by decide +kernel
theorem dX4_init_46 : decode cX4_init 46 = .ok (.iconst 2, 1) := by decide +kernel
theorem dX4_init_47 : decode cX4_init 47 = .ok (.newarray .boolean, 2) := by decide +kernel
theorem dX4_init_49 : decode cX4_init 49 = .ok (.putfield 30, 3) := by decide +kernel
theorem dX4_init_52 : decode cX4_init 52 = .ok (.aload_n 0, 1) := by decide +kernel
theorem dX4_init_53 : decode cX4_init 53 = .ok (.new 34, 3) := by decide +kernel
theorem dX4_init_56 : decode cX4_init 56 = .ok (.dup, 1) := by decide +kernel
theorem dX4_init_57 : decode cX4_init 57 = .ok (.invokespecial 36, 3) := by decide +kernel
theorem dX4_init_60 : decode cX4_init 60 = .ok (.putfield 37, 3) := by decide +kernel
theorem dX4_init_63 : decode cX4_init 63 = .ok (.aload_n 0, 1) := by decide +kernel
theorem dX4_init_64 : decode cX4_init 64 = .ok (.new 41, 3) := by decide +kernel
theorem dX4_init_67 : decode cX4_init 67 = .ok (.dup, 1) := by decide +kernel
theorem dX4_init_68 : decode cX4_init 68 = .ok (.invokespecial 43, 3) := by decide +kernel
theorem dX4_init_71 : decode cX4_init 71 = .ok (.putfield 44, 3) := by decide +kernel
theorem dX4_init_74 : decode cX4_init 74 = .ok (.aload_n 0, 1) := by decide +kernel
theorem dX4_init_75 : decode cX4_init 75 = .ok (.getfield 10, 3) := by decide +kernel
theorem dX4_init_78 : decode cX4_init 78 = .ok (.iconst 3, 1) := by decide +kernel
theorem dX4_init_79 : decode cX4_init 79 = .ok (.iconst 2, 1) := by decide +kernel
theorem dX4_init_80 : decode cX4_init 80 = .ok (.iconst 3, 1) := by decide +kernel
theorem dX4_init_81 : decode cX4_init 81 = .ok (.iconst 3, 1) := by decide +kernel
theorem dX4_init_82 : decode cX4_init 82 = .ok (.invokevirtual 48, 3) := by decide +kernel
theorem dX4_init_85 : decode cX4_init 85 = .ok (.iconst 0, 1) := by decide +kernel
theorem dX4_init_86 : decode cX4_init 86 = .ok (.istore_n 1, 1) := by decide +kernel
theorem dX4_init_87 : decode cX4_init 87 = .ok (.iload_n 1, 1) := by decide +kernel
theorem dX4_init_88 : decode cX4_init 88 = .ok (.iconst 2, 1) := by decide +kernel
theorem dX4_init_89 : decode cX4_init 89 = .ok (.if_icmp .ge 22, 3) := by decide +kernel
theorem dX4_init_92 : decode cX4_init 92 = .ok (.aload_n 0, 1) := by decide +kernel
theorem dX4_init_93 : decode cX4_init 93 = .ok (.getfield 26, 3) := by decide +kernel
theorem dX4_init_96 : decode cX4_init 96 = .ok (.iload_n 1, 1) := by decide +kernel
theorem dX4_init_97 : decode cX4_init 97 = .ok (.new 7, 3) := by decide +kernel
theorem dX4_init_100 : decode cX4_init 100 = .ok (.dup, 1) := by decide +kernel
theorem dX4_init_101 : decode cX4_init 101 = .ok (.invokespecial 9, 3) := by decide +kernel
theorem dX4_init_104 : decode cX4_init 104 = .ok (.aastore, 1) := by decide +kernel
theorem dX4_init_105 : decode cX4_init 105 = .ok (.iinc 1 1, 3) := by decide +kernel
theorem dX4_init_108 : decode cX4_init 108 = .ok (.goto (-21), 3) := by decide +kernel
theorem dX4_init_111 : decode cX4_init 111 = .ok (.return_, 1) := by decide +kernel
theorem dX4_append_0 : decode cX4_append 0 = .ok (.iload_n 1, 1) := by decide +kernel
theorem dX4_append_1 : decode cX4_append 1 = .ok (.ifCond .lt 10, 3) := by decide +kernel
theorem dX4_append_4 : decode cX4_append 4 = .ok (.iload_n 1, 1) := by decide +kernel
theorem dX4_append_5 : decode cX4_append 5 = .ok (.sipush 255, 3) := by decide +kernel
theorem dX4_append_8 : decode cX4_append 8 = .ok (.if_icmp .le 13, 3) := by decide +kernel
theorem dX4_append_11 : decode cX4_append 11 = .ok (.new 52, 3) := by decide +kernel
theorem dX4_append_14 : decode cX4_append 14 = .ok (.dup, 1) := by decide +kernel
theorem dX4_append_15 : decode cX4_append 15 = .ok (.ldc 54, 2) := by decide +kernel
theorem dX4_append_17 : decode cX4_append 17 = .ok (.invokespecial 56, 3) := by decide +kernel
theorem dX4_append_20 : decode cX4_append 20 = .ok (.athrow, 1) := by decide +kernel
theorem dX4_append_21 : decode cX4_append 21 = .ok (.aload_n 0, 1) := by decide +kernel
theorem dX4_append_22 : decode cX4_append 22 = .ok (.getfield 44, 3) := by decide +kernel
theorem dX4_append_25 : decode cX4_append 25 = .ok (.getfield 59, 3) := by decide +kernel
theorem dX4_append_28 : decode cX4_append 28 = .ok (.bipush 120, 2) := by decide +kernel
theorem dX4_append_30 : decode cX4_append 30 = .ok (.if_icmp .lt 13, 3) := by decide +kernel
theorem dX4_append_33 : decode cX4_append 33 = .ok (.new 63, 3) := by decide +kernel
theorem dX4_append_36 : decode cX4_append 36 = .ok (.dup, 1) := by decide +kernel
theorem dX4_append_37 : decode cX4_append 37 = .ok (.ldc 65, 2) := by decide +kernel
theorem dX4_append_39 : decode cX4_append 39 = .ok (.invokespecial 67, 3) := by decide +kernel
theorem dX4_append_42 : decode cX4_append 42 = .ok (.athrow, 1) := by decide +kernel
theorem dX4_append_43 : decode cX4_append 43 = .ok (.aload_n 0, 1) := by decide +kernel
theorem dX4_append_44 : decode cX4_append 44 = .ok (.getfield 44, 3) := by decide +kernel
theorem dX4_append_47 : decode cX4_append 47 = .ok (.getfield 68, 3) := by decide +kernel
theorem dX4_append_50 : decode cX4_append 50 = .ok (.aload_n 0, 1) := by decide +kernel
theorem dX4_append_51 : decode cX4_append 51 = .ok (.getfield 44, 3) := by decide +kernel
theorem dX4_append_54 : decode cX4_append 54 = .ok (.getfield 59, 3) := by decide +kernel
theorem dX4_append_57 : decode cX4_append 57 = .ok (.iload_n 1, 1) := by decide +kernel
theorem dX4_append_58 : decode cX4_append 58 = .ok (.i2c, 1) := by decide +kernel
theorem dX4_append_59 : decode cX4_append 59 = .ok (.castore, 1) := by decide +kernel
theorem dX4_append_60 : decode cX4_append 60 = .ok (.aload_n 0, 1) := by decide +kernel
theorem dX4_append_61 : decode cX4_append 61 = .ok (.getfield 44, 3) := by decide +kernel
theorem dX4_append_64 : decode cX4_append 64 = .ok (.dup, 1) := by decide +kernel
theorem dX4_append_65 : decode cX4_append 65 = .ok (.getfield 59, 3) := by decide +kernel
theorem dX4_append_68 : decode cX4_append 68 = .ok (.iconst 1, 1) := by decide +kernel
theorem dX4_append_69 : decode cX4_append 69 = .ok (.iadd, 1) := by decide +kernel
theorem dX4_append_70 : decode cX4_append 70 = .ok (.putfield 59, 3) := by decide +kernel
theorem dX4_append_73 : decode cX4_append 73 = .ok (.aload_n 0, 1) := by decide +kernel
theorem dX4_append_74 : decode cX4_append 74 = .ok (.getfield 44, 3) := by decide +kernel
theorem dX4_append_77 : decode cX4_append 77 = .ok (.getfield 59, 3) := by decide +kernel
theorem dX4_append_80 : decode cX4_append 80 = .ok (.ireturn, 1) := by decide +kernel
theorem dX4_clearText_0 : decode cX4_clearText 0 = .ok (.aload_n 0, 1) := by decide +kernel
theorem dX4_clearText_1 : decode cX4_clearText 1 = .ok (.getfield 44, 3) := by decide +kernel
theorem dX4_clearText_4 : decode cX4_clearText 4 = .ok (.getfield 59, 3) := by decide +kernel
theorem dX4_clearText_7 : decode cX4_clearText 7 = .ok (.istore_n 1, 1) := by decide +kernel
theorem dX4_clearText_8 : decode cX4_clearText 8 = .ok (.aload_n 0, 1) := by decide +kernel
theorem dX4_clearText_9 : decode cX4_clearText 9 = .ok (.getfield 44, 3) := by decide +kernel
theorem dX4_clearText_12 : decode cX4_clearText 12 = .ok (.iconst 0, 1) := by decide +kernel
theorem dX4_clearText_13 : decode cX4_clearText 13 = .ok (.putfield 59, 3) := by decide +kernel
theorem dX4_clearText_16 : decode cX4_clearText 16 = .ok (.iload_n 1, 1) := by decide +kernel
theorem dX4_clearText_17 : decode cX4_clearText 17 = .ok (.ireturn, 1) := by decide +kernel
set_option maxRecDepth 20000 in
theorem ggX4_errorPosition_X2_findError : GoodIn wsX4_errorPosition wsX2_findError := goodIn_r _ [6, 7, 8, 9, 10, 11, 5, 12, 13, 14, 15, 16, 17, 18, 19, 20, 21, 22, 23, 24, 25, 26, 27, 28, 29, 30, 31, 32, 33, 34, 35, 36, 37, 38, 39, 40, 41, 42, 43, 44, 52, 53, 54, 55, 56, 57, 58, 59, 60, 61] (by decide +kernel) (by decide +kernel)
set_option maxRecDepth 20000 in
theorem gX4_errorPosition_X2_findError : GoodIn wsX4_errorPosition (wsV RX4 72 RX2 yX2_findError wsX2_findError) := goodIn_app (goodIn_of _ (by decide +kernel)) ggX4_errorPosition_X2_findError
theorem dX4_errorPosition_0 : decode cX4_errorPosition 0 = .ok (.aload_n 0, 1) := by decide +kernel
theorem dX4_errorPosition_1 : decode cX4_errorPosition 1 = .ok (.getfield 44, 3) := by decide +kernel
theorem dX4_errorPosition_4 : decode cX4_errorPosition 4 = .ok (.invokevirtual 72, 3) := by decide +kernel
theorem dX4_errorPosition_7 : decode cX4_errorPosition 7 = .ok (.ireturn, 1) := by decide +kernel
set_option maxRecDepth 20000 in
theorem ggX4_load_X2_findError : GoodIn wsX4_load wsX2_findError := goodIn_r _ [15, 16, 17, 18, 19, 20, 14, 21, 22, 23, 24, 25, 26, 27, 28, 29, 30, 31, 32, 33, 34, 35, 36, 37, 38, 39, 40, 41, 42, 43, 44, 45, 46, 47, 48, 49, 50, 51, 52, 53, 248, 249, 250, 251, 252, 253, 254, 255, 256, 257] (by decide +kernel) (by decide +kernel)
set_option maxRecDepth 20000 in
theorem gX4_load_X2_findError : GoodIn wsX4_load (wsV RX4 72 RX2 yX2_findError wsX2_findError) := goodIn_app (goodIn_of _ (by decide +kernel)) ggX4_load_X2_findError
set_option maxRecDepth 20000 in
theorem ggX4_load_X2_readBoards : GoodIn wsX4_load wsX2_readBoards := goodIn_r _ [21, 16, 22, 23, 24, 25, 26, 27, 28, 14, 29, 17, 30, 31, 32, 33, 34, 248, 249, 250, 251, 252, 253, 254, 255, 256, 257] (by decide +kernel) (by decide +kernel)
set_option maxRecDepth 20000 in
theorem gX4_load_X2_readBoards : GoodIn wsX4_load (wsV RX4 78 RX2 yX2_readBoards wsX2_readBoards) := goodIn_app (goodIn_of _ (by decide +kernel)) ggX4_load_X2_readBoards
set_option maxRecDepth 20000 in
theorem ggX4_load_X3_clear : GoodIn wsX4_load wsX3_clear := goodIn_r _ [59, 60, 61, 62, 63, 64, 65, 66, 67, 68, 69, 258, 259, 260, 261, 262, 263, 264, 265, 266, 267, 268, 269, 270, 271] (by decide +kernel) (by decide +kernel)
set_option maxRecDepth 20000 in
theorem gX4_load_X3_clear : GoodIn wsX4_load (wsV RX4 48 RX3 yX3_clear wsX3_clear) := goodIn_app (goodIn_of _ (by decide +kernel)) ggX4_load_X3_clear
set_option maxRecDepth 20000 in
theorem ggX4_load_X0_forgetAll : GoodIn wsX4_load wsX0_forgetAll := goodIn_r _ [74, 75, 272, 273, 274] (by decide +kernel) (by decide +kernel)
set_option maxRecDepth 20000 in
theorem gX4_load_X0_forgetAll : GoodIn wsX4_load (wsV RX4 94 RX0 yX0_forgetAll wsX0_forgetAll) := goodIn_app (goodIn_of _ (by decide +kernel)) ggX4_load_X0_forgetAll
set_option maxRecDepth 20000 in
theorem ggX4_load_X2_readCommand : GoodIn wsX4_load wsX2_readCommand := goodIn_r _ [38, 39, 16, 22, 23, 40, 24, 26, 27, 28, 14, 29, 17, 30, 41, 42, 43, 44, 45, 46, 47, 48, 31, 32, 33, 34, 49, 50, 51, 52, 25, 53, 248, 249, 250, 251, 252, 253, 254, 255, 256, 257] (by decide +kernel) (by decide +kernel)
set_option maxRecDepth 20000 in
theorem gX4_load_X2_readCommand : GoodIn wsX4_load (wsV RX4 97 RX2 yX2_readCommand wsX2_readCommand) := goodIn_app (goodIn_of _ (by decide +kernel)) ggX4_load_X2_readCommand
set_option maxRecDepth 20000 in
theorem ggX4_load_X4_answerOfCommand : GoodIn wsX4_load wsX4_answerOfCommand := goodIn_r _ [81, 3, 82, 4, 83, 84, 85, 86, 87, 88, 58, 89, 67, 90, 91, 92, 93, 94, 95, 96, 97, 98, 99, 100, 101, 102, 60, 103, 104, 105, 106, 61, 107, 108, 109, 110, 63, 111, 112, 113, 114, 115, 116, 117, 118, 119, 120, 121, 122, 123, 124, 125, 126, 127, 128, 129, 130, 131, 132, 133, 134, 135, 136, 137, 138, 62, 65, 139, 140, 141, 142, 143, 144, 145, 146, 147, 148, 149, 150, 151, 152, 153, 154, 155, 156, 157, 158, 159, 160, 161, 162, 163, 164, 165, 166, 167, 168, 169, 170, 171, 172, 173, 174, 175, 176, 177, 178, 179, 180, 181, 182, 183, 184, 185, 186, 187, 188, 189, 190, 191, 192, 193, 194, 195, 196, 66, 68, 69, 197, 198, 199, 200, 201, 202, 203, 204, 205, 206, 207, 208, 209, 210, 211, 212, 213, 214, 215, 216, 217, 218, 219, 220, 221, 222, 223, 224, 225, 226, 227, 228, 229, 230, 231, 232, 233, 234, 235, 236, 237, 238, 239, 240, 64, 241, 242, 243, 244, 245, 246, 247, 248, 249, 250, 251, 252, 253, 254, 255, 256, 257, 258, 259, 260, 261, 262, 263, 264, 265, 266, 267, 268, 269, 270, 271, 275, 276, 277, 278, 279, 280, 281, 282, 283, 284, 285, 286, 287] (by decide +kernel) (by decide +kernel)
set_option maxRecDepth 20000 in
theorem gX4_load_X4_answerOfCommand : GoodIn wsX4_load (wsV RX4 100 RX4 yX4_answerOfCommand wsX4_answerOfCommand) := goodIn_app (goodIn_of _ (by decide +kernel)) ggX4_load_X4_answerOfCommand
theorem dX4_load_0 : decode cX4_load 0 = .ok (.aload_n 0, 1) := by decide +kernel
theorem dX4_load_1 : decode cX4_load 1 = .ok (.getfield 44, 3) := by decide +kernel
theorem dX4_load_4 : decode cX4_load 4 = .ok (.invokevirtual 72, 3) := by decide +kernel
theorem dX4_load_7 : decode cX4_load 7 = .ok (.iconst (-1), 1) := by decide +kernel
theorem dX4_load_8 : decode cX4_load 8 = .ok (.if_icmp .eq 13, 3) := by decide +kernel
theorem dX4_load_11 : decode cX4_load 11 = .ok (.new 63, 3) := by decide +kernel
theorem dX4_load_14 : decode cX4_load 14 = .ok (.dup, 1) := by decide +kernel
theorem dX4_load_15 : decode cX4_load 15 = .ok (.ldc 76, 2) := by decide +kernel
theorem dX4_load_17 : decode cX4_load 17 = .ok (.invokespecial 67, 3) := by decide +kernel
theorem dX4_load_20 : decode cX4_load 20 = .ok (.athrow, 1) := by decide +kernel
theorem dX4_load_21 : decode cX4_load 21 = .ok (.aload_n 0, 1) := by decide +kernel
theorem dX4_load_22 : decode cX4_load 22 = .ok (.getfield 44, 3) := by decide +kernel
theorem dX4_load_25 : decode cX4_load 25 = .ok (.invokevirtual 78, 3) := by decide +kernel
theorem dX4_load_28 : decode cX4_load 28 = .ok (.pop, 1) := by decide +kernel
theorem dX4_load_29 : decode cX4_load 29 = .ok (.aload_n 0, 1) := by decide +kernel
theorem dX4_load_30 : decode cX4_load 30 = .ok (.getfield 10, 3) := by decide +kernel
theorem dX4_load_33 : decode cX4_load 33 = .ok (.aload_n 0, 1) := by decide +kernel
theorem dX4_load_34 : decode cX4_load 34 = .ok (.getfield 44, 3) := by decide +kernel
theorem dX4_load_37 : decode cX4_load 37 = .ok (.getfield 82, 3) := by decide +kernel
theorem dX4_load_40 : decode cX4_load 40 = .ok (.aload_n 0, 1) := by decide +kernel
theorem dX4_load_41 : decode cX4_load 41 = .ok (.getfield 44, 3) := by decide +kernel
theorem dX4_load_44 : decode cX4_load 44 = .ok (.getfield 85, 3) := by decide +kernel
theorem dX4_load_47 : decode cX4_load 47 = .ok (.aload_n 0, 1) := by decide +kernel
theorem dX4_load_48 : decode cX4_load 48 = .ok (.getfield 44, 3) := by decide +kernel
theorem dX4_load_51 : decode cX4_load 51 = .ok (.getfield 88, 3) := by decide +kernel
theorem dX4_load_54 : decode cX4_load 54 = .ok (.aload_n 0, 1) := by decide +kernel
theorem dX4_load_55 : decode cX4_load 55 = .ok (.getfield 44, 3) := by decide +kernel
theorem dX4_load_58 : decode cX4_load 58 = .ok (.getfield 91, 3) := by decide +kernel
theorem dX4_load_61 : decode cX4_load 61 = .ok (.invokevirtual 48, 3) := by decide +kernel
theorem dX4_load_64 : decode cX4_load 64 = .ok (.aload_n 0, 1) := by decide +kernel
theorem dX4_load_65 : decode cX4_load 65 = .ok (.getfield 22, 3) := by decide +kernel
theorem dX4_load_68 : decode cX4_load 68 = .ok (.invokevirtual 94, 3) := by decide +kernel
theorem dX4_load_71 : decode cX4_load 71 = .ok (.iconst 0, 1) := by decide +kernel
theorem dX4_load_72 : decode cX4_load 72 = .ok (.istore_n 1, 1) := by decide +kernel
theorem dX4_load_73 : decode cX4_load 73 = .ok (.iload_n 1, 1) := by decide +kernel
theorem dX4_load_74 : decode cX4_load 74 = .ok (.iconst 2, 1) := by decide +kernel
theorem dX4_load_75 : decode cX4_load 75 = .ok (.if_icmp .ge 16, 3) := by decide +kernel
theorem dX4_load_78 : decode cX4_load 78 = .ok (.aload_n 0, 1) := by decide +kernel
theorem dX4_load_79 : decode cX4_load 79 = .ok (.getfield 30, 3) := by decide +kernel
theorem dX4_load_82 : decode cX4_load 82 = .ok (.iload_n 1, 1) := by decide +kernel
theorem dX4_load_83 : decode cX4_load 83 = .ok (.iconst 0, 1) := by decide +kernel
theorem dX4_load_84 : decode cX4_load 84 = .ok (.bastore, 1) := by decide +kernel
theorem dX4_load_85 : decode cX4_load 85 = .ok (.iinc 1 1, 3) := by decide +kernel
theorem dX4_load_88 : decode cX4_load 88 = .ok (.goto (-15), 3) := by decide +kernel
theorem dX4_load_91 : decode cX4_load 91 = .ok (.iconst 0, 1) := by decide +kernel
theorem dX4_load_92 : decode cX4_load 92 = .ok (.istore_n 1, 1) := by decide +kernel
theorem dX4_load_93 : decode cX4_load 93 = .ok (.iconst 0, 1) := by decide +kernel
theorem dX4_load_94 : decode cX4_load 94 = .ok (.istore_n 2, 1) := by decide +kernel
theorem dX4_load_95 : decode cX4_load 95 = .ok (.iload_n 2, 1) := by decide +kernel
theorem dX4_load_96 : decode cX4_load 96 = .ok (.bipush 120, 2) := by decide +kernel
theorem dX4_load_98 : decode cX4_load 98 = .ok (.if_icmp .ge 29, 3) := by decide +kernel
theorem dX4_load_101 : decode cX4_load 101 = .ok (.aload_n 0, 1) := by decide +kernel
theorem dX4_load_102 : decode cX4_load 102 = .ok (.getfield 44, 3) := by decide +kernel
theorem dX4_load_105 : decode cX4_load 105 = .ok (.invokevirtual 97, 3) := by decide +kernel
theorem dX4_load_108 : decode cX4_load 108 = .ok (.ifCond .eq 19, 3) := by decide +kernel
theorem dX4_load_111 : decode cX4_load 111 = .ok (.aload_n 0, 1) := by decide +kernel
theorem dX4_load_112 : decode cX4_load 112 = .ok (.invokevirtual 100, 3) := by decide +kernel
theorem dX4_load_115 : decode cX4_load 115 = .ok (.ifCond .ge 6, 3) := by decide +kernel
theorem dX4_load_118 : decode cX4_load 118 = .ok (.iinc 1 1, 3) := by decide +kernel
theorem dX4_load_121 : decode cX4_load 121 = .ok (.iinc 2 1, 3) := by decide +kernel
theorem dX4_load_124 : decode cX4_load 124 = .ok (.goto (-29), 3) := by decide +kernel
theorem dX4_load_127 : decode cX4_load 127 = .ok (.iload_n 1, 1) := by decide +kernel
theorem dX4_load_128 : decode cX4_load 128 = .ok (.ireturn, 1) := by decide +kernel
set_option maxRecDepth 20000 in
theorem ggX4_answerOfCommand_X3_addCall : GoodIn wsX4_answerOfCommand wsX3_addCall := goodIn_r _ [11, 12, 13, 14, 15, 16, 17, 18, 19, 20, 10, 21, 22, 23, 24, 25, 26, 27, 28, 29, 30, 31, 32, 33, 34, 35, 36, 37, 38, 39, 40, 41, 42, 43, 44, 45, 46, 47, 48, 49, 50, 51, 52, 53, 54, 55, 56, 57, 58, 59, 60, 61, 62, 63, 64, 65, 66, 67, 68, 69, 70, 71, 72, 73, 74, 75, 76, 77, 78, 79, 80, 81, 82, 83, 84, 85, 86, 87, 88, 89, 90, 91, 92, 93, 94, 95, 96, 97, 98, 99, 100, 101, 102, 103, 104, 105, 106, 107, 108, 109, 110, 111, 112, 113, 114, 115, 116, 117, 118, 119, 120, 121, 122, 123, 124, 125, 126, 127, 190, 191, 192, 193, 194, 195, 196, 197, 198, 199, 200, 201, 202, 203, 204, 205, 206, 207, 208, 209, 210, 211, 212, 213, 214, 215, 216] (by decide +kernel) (by decide +kernel)
set_option maxRecDepth 20000 in
theorem gX4_answerOfCommand_X3_addCall : GoodIn wsX4_answerOfCommand (wsV RX4 112 RX3 yX3_addCall wsX3_addCall) := goodIn_app (goodIn_of _ (by decide +kernel)) ggX4_answerOfCommand_X3_addCall
set_option maxRecDepth 20000 in
theorem ggX4_answerOfCommand_X3_addOutput : GoodIn wsX4_answerOfCommand wsX3_addOutput := goodIn_r _ [131, 14, 13, 132, 133, 134, 10, 135, 12, 32, 33, 34, 35, 36, 27, 28, 29, 30, 31, 41, 42, 43, 44, 136, 137, 138, 139, 140, 141, 142, 45, 46, 47, 48, 143, 144, 145, 52, 146, 54, 55, 56, 58, 60, 61, 62, 63, 64, 65, 66, 67, 68, 69, 70, 71, 57, 72, 59, 73, 74, 75, 76, 77, 78, 79, 80, 81, 82, 83, 84, 85, 86, 87, 88, 89, 90, 91, 92, 93, 94, 95, 96, 97, 98, 99, 100, 101, 102, 103, 104, 105, 106, 107, 108, 109, 110, 111, 112, 113, 114, 115, 116, 117, 118, 119, 120, 121, 122, 123, 124, 15, 16, 17, 125, 126, 127, 190, 191, 192, 193, 194, 195, 196, 197, 198, 199, 200, 201, 202, 203, 204, 205, 206, 207, 208, 209, 210, 211, 212, 213, 214, 215, 216] (by decide +kernel) (by decide +kernel)
set_option maxRecDepth 20000 in
theorem gX4_answerOfCommand_X3_addOutput : GoodIn wsX4_answerOfCommand (wsV RX4 116 RX3 yX3_addOutput wsX3_addOutput) := goodIn_app (goodIn_of _ (by decide +kernel)) ggX4_answerOfCommand_X3_addOutput
set_option maxRecDepth 20000 in
theorem ggX4_answerOfCommand_X3_endCall : GoodIn wsX4_answerOfCommand wsX3_endCall := goodIn_r _ [150, 12, 13, 14, 15, 17, 132, 133, 134, 10, 135, 190, 191, 192, 193, 194, 195, 196, 197, 198, 199, 200, 201, 202, 203] (by decide +kernel) (by decide +kernel)
set_option maxRecDepth 20000 in
theorem gX4_answerOfCommand_X3_endCall : GoodIn wsX4_answerOfCommand (wsV RX4 119 RX3 yX3_endCall wsX3_endCall) := goodIn_app (goodIn_of _ (by decide +kernel)) ggX4_answerOfCommand_X3_endCall
set_option maxRecDepth 20000 in
theorem ggX4_answerOfCommand_X3_isBroken : GoodIn wsX4_answerOfCommand wsX3_isBroken := goodIn_r _ [154, 66, 190, 191, 192, 193, 194, 195, 196, 197, 198, 199, 200, 201, 202, 203] (by decide +kernel) (by decide +kernel)
set_option maxRecDepth 20000 in
theorem gX4_answerOfCommand_X3_isBroken : GoodIn wsX4_answerOfCommand (wsV RX4 123 RX3 yX3_isBroken wsX3_isBroken) := goodIn_app (goodIn_of _ (by decide +kernel)) ggX4_answerOfCommand_X3_isBroken
set_option maxRecDepth 20000 in
theorem ggX4_answerOfCommand_X3_makeBroken : GoodIn wsX4_answerOfCommand wsX3_makeBroken := goodIn_r _ [158, 66, 159, 160, 161, 10, 162, 65, 163, 164, 165, 166, 12, 15, 167, 62, 63, 64, 136, 137, 138, 139, 140, 141, 142, 190, 191, 192, 193, 194, 195, 196, 197, 198, 199, 200, 201, 202, 203] (by decide +kernel) (by decide +kernel)
set_option maxRecDepth 20000 in
theorem gX4_answerOfCommand_X3_makeBroken : GoodIn wsX4_answerOfCommand (wsV RX4 127 RX3 yX3_makeBroken wsX3_makeBroken) := goodIn_app (goodIn_of _ (by decide +kernel)) ggX4_answerOfCommand_X3_makeBroken
set_option maxRecDepth 20000 in
theorem ggX4_answerOfCommand_X3_changePatience : GoodIn wsX4_answerOfCommand wsX3_changePatience := goodIn_r _ [171, 172, 190, 191, 192, 193, 194, 195, 196, 197, 198, 199, 200, 201, 202, 203] (by decide +kernel) (by decide +kernel)
set_option maxRecDepth 20000 in
theorem gX4_answerOfCommand_X3_changePatience : GoodIn wsX4_answerOfCommand (wsV RX4 131 RX3 yX3_changePatience wsX3_changePatience) := goodIn_app (goodIn_of _ (by decide +kernel)) ggX4_answerOfCommand_X3_changePatience
theorem dX4_answerOfCommand_0 : decode cX4_answerOfCommand 0 = .ok (.aload_n 0, 1) := by decide +kernel
theorem dX4_answerOfCommand_1 : decode cX4_answerOfCommand 1 = .ok (.getfield 44, 3) := by decide +kernel
theorem dX4_answerOfCommand_4 : decode cX4_answerOfCommand 4 = .ok (.getfield 103, 3) := by decide +kernel
theorem dX4_answerOfCommand_7 : decode cX4_answerOfCommand 7 = .ok (.tableswitch 153 98 106 #[116, 49, 153, 153, 153, 153, 101, 153, 75], 49) := by decide +kernel
theorem dX4_answerOfCommand_56 : decode cX4_answerOfCommand 56 = .ok (.aload_n 0, 1) := by decide +kernel
theorem dX4_answerOfCommand_57 : decode cX4_answerOfCommand 57 = .ok (.getfield 10, 3) := by decide +kernel
theorem dX4_answerOfCommand_60 : decode cX4_answerOfCommand 60 = .ok (.aload_n 0, 1) := by decide +kernel
theorem dX4_answerOfCommand_61 : decode cX4_answerOfCommand 61 = .ok (.getfield 37, 3) := by decide +kernel
theorem dX4_answerOfCommand_64 : decode cX4_answerOfCommand 64 = .ok (.aload_n 0, 1) := by decide +kernel
theorem dX4_answerOfCommand_65 : decode cX4_answerOfCommand 65 = .ok (.getfield 44, 3) := by decide +kernel
theorem dX4_answerOfCommand_68 : decode cX4_answerOfCommand 68 = .ok (.getfield 106, 3) := by decide +kernel
theorem dX4_answerOfCommand_71 : decode cX4_answerOfCommand 71 = .ok (.aload_n 0, 1) := by decide +kernel
theorem dX4_answerOfCommand_72 : decode cX4_answerOfCommand 72 = .ok (.getfield 44, 3) := by decide +kernel
theorem dX4_answerOfCommand_75 : decode cX4_answerOfCommand 75 = .ok (.getfield 109, 3) := by decide +kernel
theorem dX4_answerOfCommand_78 : decode cX4_answerOfCommand 78 = .ok (.invokevirtual 112, 3) := by decide +kernel
theorem dX4_answerOfCommand_81 : decode cX4_answerOfCommand 81 = .ok (.ireturn, 1) := by decide +kernel
theorem dX4_answerOfCommand_82 : decode cX4_answerOfCommand 82 = .ok (.aload_n 0, 1) := by decide +kernel
theorem dX4_answerOfCommand_83 : decode cX4_answerOfCommand 83 = .ok (.getfield 10, 3) := by decide +kernel
theorem dX4_answerOfCommand_86 : decode cX4_answerOfCommand 86 = .ok (.aload_n 0, 1) := by decide +kernel
theorem dX4_answerOfCommand_87 : decode cX4_answerOfCommand 87 = .ok (.getfield 37, 3) := by decide +kernel
theorem dX4_answerOfCommand_90 : decode cX4_answerOfCommand 90 = .ok (.aload_n 0, 1) := by decide +kernel
theorem dX4_answerOfCommand_91 : decode cX4_answerOfCommand 91 = .ok (.getfield 44, 3) := by decide +kernel
theorem dX4_answerOfCommand_94 : decode cX4_answerOfCommand 94 = .ok (.getfield 106, 3) := by decide +kernel
theorem dX4_answerOfCommand_97 : decode cX4_answerOfCommand 97 = .ok (.aload_n 0, 1) := by decide +kernel
theorem dX4_answerOfCommand_98 : decode cX4_answerOfCommand 98 = .ok (.getfield 44, 3) := by decide +kernel
theorem dX4_answerOfCommand_101 : decode cX4_answerOfCommand 101 = .ok (.getfield 109, 3) := by decide +kernel
theorem dX4_answerOfCommand_104 : decode cX4_answerOfCommand 104 = .ok (.invokevirtual 116, 3) := by decide +kernel
theorem dX4_answerOfCommand_107 : decode cX4_answerOfCommand 107 = .ok (.ireturn, 1) := by decide +kernel
theorem dX4_answerOfCommand_108 : decode cX4_answerOfCommand 108 = .ok (.aload_n 0, 1) := by decide +kernel
theorem dX4_answerOfCommand_109 : decode cX4_answerOfCommand 109 = .ok (.getfield 10, 3) := by decide +kernel
theorem dX4_answerOfCommand_112 : decode cX4_answerOfCommand 112 = .ok (.aload_n 0, 1) := by decide +kernel
theorem dX4_answerOfCommand_113 : decode cX4_answerOfCommand 113 = .ok (.getfield 44, 3) := by decide +kernel
theorem dX4_answerOfCommand_116 : decode cX4_answerOfCommand 116 = .ok (.getfield 106, 3) := by decide +kernel
theorem dX4_answerOfCommand_119 : decode cX4_answerOfCommand 119 = .ok (.invokevirtual 119, 3) := by decide +kernel
theorem dX4_answerOfCommand_122 : decode cX4_answerOfCommand 122 = .ok (.ireturn, 1) := by decide +kernel
theorem dX4_answerOfCommand_123 : decode cX4_answerOfCommand 123 = .ok (.aload_n 0, 1) := by decide +kernel
theorem dX4_answerOfCommand_124 : decode cX4_answerOfCommand 124 = .ok (.getfield 10, 3) := by decide +kernel
theorem dX4_answerOfCommand_127 : decode cX4_answerOfCommand 127 = .ok (.aload_n 0, 1) := by decide +kernel
theorem dX4_answerOfCommand_128 : decode cX4_answerOfCommand 128 = .ok (.getfield 44, 3) := by decide +kernel
theorem dX4_answerOfCommand_131 : decode cX4_answerOfCommand 131 = .ok (.getfield 106, 3) := by decide +kernel
theorem dX4_answerOfCommand_134 : decode cX4_answerOfCommand 134 = .ok (.aload_n 0, 1) := by decide +kernel
theorem dX4_answerOfCommand_135 : decode cX4_answerOfCommand 135 = .ok (.getfield 10, 3) := by decide +kernel
theorem dX4_answerOfCommand_138 : decode cX4_answerOfCommand 138 = .ok (.aload_n 0, 1) := by decide +kernel
theorem dX4_answerOfCommand_139 : decode cX4_answerOfCommand 139 = .ok (.getfield 44, 3) := by decide +kernel
theorem dX4_answerOfCommand_142 : decode cX4_answerOfCommand 142 = .ok (.getfield 106, 3) := by decide +kernel
theorem dX4_answerOfCommand_145 : decode cX4_answerOfCommand 145 = .ok (.invokevirtual 123, 3) := by decide +kernel
theorem dX4_answerOfCommand_148 : decode cX4_answerOfCommand 148 = .ok (.ifCond .ne 7, 3) := by decide +kernel
theorem dX4_answerOfCommand_151 : decode cX4_answerOfCommand 151 = .ok (.iconst 1, 1) := by decide +kernel
theorem dX4_answerOfCommand_152 : decode cX4_answerOfCommand 152 = .ok (.goto 4, 3) := by decide +kernel
theorem dX4_answerOfCommand_155 : decode cX4_answerOfCommand 155 = .ok (.iconst 0, 1) := by decide +kernel
theorem dX4_answerOfCommand_156 : decode cX4_answerOfCommand 156 = .ok (.invokevirtual 127, 3) := by decide +kernel
theorem dX4_answerOfCommand_159 : decode cX4_answerOfCommand 159 = .ok (.ireturn, 1) := by decide +kernel
theorem dX4_answerOfCommand_160 : decode cX4_answerOfCommand 160 = .ok (.aload_n 0, 1) := by decide +kernel
theorem dX4_answerOfCommand_161 : decode cX4_answerOfCommand 161 = .ok (.getfield 10, 3) := by decide +kernel
theorem dX4_answerOfCommand_164 : decode cX4_answerOfCommand 164 = .ok (.aload_n 0, 1) := by decide +kernel
theorem dX4_answerOfCommand_165 : decode cX4_answerOfCommand 165 = .ok (.getfield 44, 3) := by decide +kernel
theorem dX4_answerOfCommand_168 : decode cX4_answerOfCommand 168 = .ok (.getfield 106, 3) := by decide +kernel
theorem dX4_answerOfCommand_171 : decode cX4_answerOfCommand 171 = .ok (.invokevirtual 131, 3) := by decide +kernel
theorem dX4_answerOfCommand_174 : decode cX4_answerOfCommand 174 = .ok (.ireturn, 1) := by decide +kernel
set_option maxRecDepth 20000 in
theorem ggX4_about_X3_linksTaken : GoodIn wsX4_about wsX3_linksTaken := goodIn_r _ [16, 17, 18, 19, 20, 15, 21, 22, 23, 24, 25, 26, 27, 28, 29, 30, 31, 32, 33, 34, 35, 36, 37, 38, 50, 51, 52, 53, 54, 55, 56, 57, 58, 59, 60, 61, 62, 63] (by decide +kernel) (by decide +kernel)
set_option maxRecDepth 20000 in
theorem gX4_about_X3_linksTaken : GoodIn wsX4_about (wsV RX4 147 RX3 yX3_linksTaken wsX3_linksTaken) := goodIn_app (goodIn_of _ (by decide +kernel)) ggX4_about_X3_linksTaken
set_option maxRecDepth 20000 in
theorem ggX4_about_X3_outputsTaken : GoodIn wsX4_about wsX3_outputsTaken := goodIn_r _ [42, 17, 26, 32, 33, 34, 35, 36, 37, 38, 50, 51, 52, 53, 54, 55, 56, 57, 58, 59, 60, 61, 62, 63] (by decide +kernel) (by decide +kernel)
set_option maxRecDepth 20000 in
theorem gX4_about_X3_outputsTaken : GoodIn wsX4_about (wsV RX4 153 RX3 yX3_outputsTaken wsX3_outputsTaken) := goodIn_app (goodIn_of _ (by decide +kernel)) ggX4_about_X3_outputsTaken
theorem dX4_about_0 : decode cX4_about 0 = .ok (.iload_n 1, 1) := by decide +kernel
theorem dX4_about_1 : decode cX4_about 1 = .ok (.tableswitch 135 0 9 #[55, 63, 71, 79, 87, 95, 103, 111, 119, 127], 55) := by decide +kernel
theorem dX4_about_56 : decode cX4_about 56 = .ok (.aload_n 0, 1) := by decide +kernel
theorem dX4_about_57 : decode cX4_about 57 = .ok (.getfield 10, 3) := by decide +kernel
theorem dX4_about_60 : decode cX4_about 60 = .ok (.getfield 134, 3) := by decide +kernel
theorem dX4_about_63 : decode cX4_about 63 = .ok (.ireturn, 1) := by decide +kernel
theorem dX4_about_64 : decode cX4_about 64 = .ok (.aload_n 0, 1) := by decide +kernel
theorem dX4_about_65 : decode cX4_about 65 = .ok (.getfield 10, 3) := by decide +kernel
theorem dX4_about_68 : decode cX4_about 68 = .ok (.getfield 135, 3) := by decide +kernel
theorem dX4_about_71 : decode cX4_about 71 = .ok (.ireturn, 1) := by decide +kernel
theorem dX4_about_72 : decode cX4_about 72 = .ok (.aload_n 0, 1) := by decide +kernel
theorem dX4_about_73 : decode cX4_about 73 = .ok (.getfield 10, 3) := by decide +kernel
theorem dX4_about_76 : decode cX4_about 76 = .ok (.getfield 136, 3) := by decide +kernel
theorem dX4_about_79 : decode cX4_about 79 = .ok (.ireturn, 1) := by decide +kernel
theorem dX4_about_80 : decode cX4_about 80 = .ok (.aload_n 0, 1) := by decide +kernel
theorem dX4_about_81 : decode cX4_about 81 = .ok (.getfield 10, 3) := by decide +kernel
theorem dX4_about_84 : decode cX4_about 84 = .ok (.getfield 137, 3) := by decide +kernel
theorem dX4_about_87 : decode cX4_about 87 = .ok (.ireturn, 1) := by decide +kernel
theorem dX4_about_88 : decode cX4_about 88 = .ok (.aload_n 0, 1) := by decide +kernel
theorem dX4_about_89 : decode cX4_about 89 = .ok (.getfield 10, 3) := by decide +kernel
theorem dX4_about_92 : decode cX4_about 92 = .ok (.getfield 138, 3) := by decide +kernel
theorem dX4_about_95 : decode cX4_about 95 = .ok (.ireturn, 1) := by decide +kernel
theorem dX4_about_96 : decode cX4_about 96 = .ok (.aload_n 0, 1) := by decide +kernel
theorem dX4_about_97 : decode cX4_about 97 = .ok (.getfield 10, 3) := by decide +kernel
theorem dX4_about_100 : decode cX4_about 100 = .ok (.getfield 141, 3) := by decide +kernel
theorem dX4_about_103 : decode cX4_about 103 = .ok (.ireturn, 1) := by decide +kernel
theorem dX4_about_104 : decode cX4_about 104 = .ok (.aload_n 0, 1) := by decide +kernel
theorem dX4_about_105 : decode cX4_about 105 = .ok (.getfield 10, 3) := by decide +kernel
theorem dX4_about_108 : decode cX4_about 108 = .ok (.getfield 144, 3) := by decide +kernel
theorem dX4_about_111 : decode cX4_about 111 = .ok (.ireturn, 1) := by decide +kernel
theorem dX4_about_112 : decode cX4_about 112 = .ok (.aload_n 0, 1) := by decide +kernel
theorem dX4_about_113 : decode cX4_about 113 = .ok (.getfield 10, 3) := by decide +kernel
theorem dX4_about_116 : decode cX4_about 116 = .ok (.invokevirtual 147, 3) := by decide +kernel
theorem dX4_about_119 : decode cX4_about 119 = .ok (.ireturn, 1) := by decide +kernel
theorem dX4_about_120 : decode cX4_about 120 = .ok (.aload_n 0, 1) := by decide +kernel
theorem dX4_about_121 : decode cX4_about 121 = .ok (.getfield 10, 3) := by decide +kernel
theorem dX4_about_124 : decode cX4_about 124 = .ok (.getfield 150, 3) := by decide +kernel
theorem dX4_about_127 : decode cX4_about 127 = .ok (.ireturn, 1) := by decide +kernel
theorem dX4_about_128 : decode cX4_about 128 = .ok (.aload_n 0, 1) := by decide +kernel
theorem dX4_about_129 : decode cX4_about 129 = .ok (.getfield 10, 3) := by decide +kernel
theorem dX4_about_132 : decode cX4_about 132 = .ok (.invokevirtual 153, 3) := by decide +kernel
theorem dX4_about_135 : decode cX4_about 135 = .ok (.ireturn, 1) := by decide +kernel
theorem dX4_about_136 : decode cX4_about 136 = .ok (.new 52, 3) := by decide +kernel
theorem dX4_about_139 : decode cX4_about 139 = .ok (.dup, 1) := by decide +kernel
theorem dX4_about_140 : decode cX4_about 140 = .ok (.ldc 156, 2) := by decide +kernel
theorem dX4_about_142 : decode cX4_about 142 = .ok (.invokespecial 56, 3) := by decide +kernel
theorem dX4_about_145 : decode cX4_about 145 = .ok (.athrow, 1) := by decide +kernel
set_option maxRecDepth 20000 in
theorem ggX4_call_X3_hasCall : GoodIn wsX4_call wsX3_hasCall := goodIn_r _ [14, 15, 44, 45, 46, 47, 48, 49, 50, 51, 52, 53, 54, 55, 56, 57] (by decide +kernel) (by decide +kernel)
set_option maxRecDepth 20000 in
theorem gX4_call_X3_hasCall : GoodIn wsX4_call (wsV RX4 158 RX3 yX3_hasCall wsX3_hasCall) := goodIn_app (goodIn_of _ (by decide +kernel)) ggX4_call_X3_hasCall
set_option maxRecDepth 20000 in
theorem ggX4_call_X3_linksOf : GoodIn wsX4_call wsX3_linksOf := goodIn_r _ [19, 20, 21, 22, 13, 23, 24, 25, 26, 27, 28, 29, 30, 31, 32, 33, 34, 35, 36, 44, 45, 46, 47, 48, 49, 50, 51, 52, 53, 54, 55, 56, 57] (by decide +kernel) (by decide +kernel)
set_option maxRecDepth 20000 in
theorem gX4_call_X3_linksOf : GoodIn wsX4_call (wsV RX4 179 RX3 yX3_linksOf wsX3_linksOf) := goodIn_app (goodIn_of _ (by decide +kernel)) ggX4_call_X3_linksOf
theorem dX4_call_0 : decode cX4_call 0 = .ok (.aload_n 0, 1) := by decide +kernel
theorem dX4_call_1 : decode cX4_call 1 = .ok (.getfield 10, 3) := by decide +kernel
theorem dX4_call_4 : decode cX4_call 4 = .ok (.iload_n 1, 1) := by decide +kernel
theorem dX4_call_5 : decode cX4_call 5 = .ok (.invokevirtual 158, 3) := by decide +kernel
theorem dX4_call_8 : decode cX4_call 8 = .ok (.ifCond .ne 13, 3) := by decide +kernel
theorem dX4_call_11 : decode cX4_call 11 = .ok (.new 161, 3) := by decide +kernel
theorem dX4_call_14 : decode cX4_call 14 = .ok (.dup, 1) := by decide +kernel
theorem dX4_call_15 : decode cX4_call 15 = .ok (.ldc 163, 2) := by decide +kernel
theorem dX4_call_17 : decode cX4_call 17 = .ok (.invokespecial 165, 3) := by decide +kernel
theorem dX4_call_20 : decode cX4_call 20 = .ok (.athrow, 1) := by decide +kernel
theorem dX4_call_21 : decode cX4_call 21 = .ok (.iload_n 2, 1) := by decide +kernel
theorem dX4_call_22 : decode cX4_call 22 = .ok (.tableswitch 83 0 4 #[34, 44, 54, 64, 74], 34) := by decide +kernel
theorem dX4_call_56 : decode cX4_call 56 = .ok (.aload_n 0, 1) := by decide +kernel
theorem dX4_call_57 : decode cX4_call 57 = .ok (.getfield 10, 3) := by decide +kernel
theorem dX4_call_60 : decode cX4_call 60 = .ok (.getfield 166, 3) := by decide +kernel
theorem dX4_call_63 : decode cX4_call 63 = .ok (.iload_n 1, 1) := by decide +kernel
theorem dX4_call_64 : decode cX4_call 64 = .ok (.iaload, 1) := by decide +kernel
theorem dX4_call_65 : decode cX4_call 65 = .ok (.ireturn, 1) := by decide +kernel
theorem dX4_call_66 : decode cX4_call 66 = .ok (.aload_n 0, 1) := by decide +kernel
theorem dX4_call_67 : decode cX4_call 67 = .ok (.getfield 10, 3) := by decide +kernel
theorem dX4_call_70 : decode cX4_call 70 = .ok (.getfield 170, 3) := by decide +kernel
theorem dX4_call_73 : decode cX4_call 73 = .ok (.iload_n 1, 1) := by decide +kernel
theorem dX4_call_74 : decode cX4_call 74 = .ok (.iaload, 1) := by decide +kernel
theorem dX4_call_75 : decode cX4_call 75 = .ok (.ireturn, 1) := by decide +kernel
theorem dX4_call_76 : decode cX4_call 76 = .ok (.aload_n 0, 1) := by decide +kernel
theorem dX4_call_77 : decode cX4_call 77 = .ok (.getfield 10, 3) := by decide +kernel
theorem dX4_call_80 : decode cX4_call 80 = .ok (.getfield 173, 3) := by decide +kernel
theorem dX4_call_83 : decode cX4_call 83 = .ok (.iload_n 1, 1) := by decide +kernel
theorem dX4_call_84 : decode cX4_call 84 = .ok (.iaload, 1) := by decide +kernel
theorem dX4_call_85 : decode cX4_call 85 = .ok (.ireturn, 1) := by decide +kernel
theorem dX4_call_86 : decode cX4_call 86 = .ok (.aload_n 0, 1) := by decide +kernel
theorem dX4_call_87 : decode cX4_call 87 = .ok (.getfield 10, 3) := by decide +kernel
theorem dX4_call_90 : decode cX4_call 90 = .ok (.getfield 176, 3) := by decide +kernel
theorem dX4_call_93 : decode cX4_call 93 = .ok (.iload_n 1, 1) := by decide +kernel
theorem dX4_call_94 : decode cX4_call 94 = .ok (.iaload, 1) := by decide +kernel
theorem dX4_call_95 : decode cX4_call 95 = .ok (.ireturn, 1) := by decide +kernel
theorem dX4_call_96 : decode cX4_call 96 = .ok (.aload_n 0, 1) := by decide +kernel
theorem dX4_call_97 : decode cX4_call 97 = .ok (.getfield 10, 3) := by decide +kernel
theorem dX4_call_100 : decode cX4_call 100 = .ok (.iload_n 1, 1) := by decide +kernel
theorem dX4_call_101 : decode cX4_call 101 = .ok (.invokevirtual 179, 3) := by decide +kernel
theorem dX4_call_104 : decode cX4_call 104 = .ok (.ireturn, 1) := by decide +kernel
theorem dX4_call_105 : decode cX4_call 105 = .ok (.new 52, 3) := by decide +kernel
theorem dX4_call_108 : decode cX4_call 108 = .ok (.dup, 1) := by decide +kernel
theorem dX4_call_109 : decode cX4_call 109 = .ok (.ldc 182, 2) := by decide +kernel
theorem dX4_call_111 : decode cX4_call 111 = .ok (.invokespecial 56, 3) := by decide +kernel
theorem dX4_call_114 : decode cX4_call 114 = .ok (.athrow, 1) := by decide +kernel
set_option maxRecDepth 20000 in
theorem ggX4_link_X3_hasMiddle : GoodIn wsX4_link wsX3_hasMiddle := goodIn_r _ [10, 11, 40, 41, 42, 43, 44, 45, 46, 47, 48, 49, 50, 51, 52, 53] (by decide +kernel) (by decide +kernel)
set_option maxRecDepth 20000 in
theorem gX4_link_X3_hasMiddle : GoodIn wsX4_link (wsV RX4 184 RX3 yX3_hasMiddle wsX3_hasMiddle) := goodIn_app (goodIn_of _ (by decide +kernel)) ggX4_link_X3_hasMiddle
set_option maxRecDepth 20000 in
theorem ggX4_link_X3_callToLast : GoodIn wsX4_link wsX3_callToLast := goodIn_r _ [15, 16, 17, 18, 19, 20, 9, 21, 22, 23, 24, 25, 26, 27, 40, 41, 42, 43, 44, 45, 46, 47, 48, 49, 50, 51, 52, 53] (by decide +kernel) (by decide +kernel)
set_option maxRecDepth 20000 in
theorem gX4_link_X3_callToLast : GoodIn wsX4_link (wsV RX4 189 RX3 yX3_callToLast wsX3_callToLast) := goodIn_app (goodIn_of _ (by decide +kernel)) ggX4_link_X3_callToLast
set_option maxRecDepth 20000 in
theorem ggX4_link_X3_callFromFirst : GoodIn wsX4_link wsX3_callFromFirst := goodIn_r _ [31, 16, 17, 32, 23, 24, 25, 9, 26, 27, 40, 41, 42, 43, 44, 45, 46, 47, 48, 49, 50, 51, 52, 53] (by decide +kernel) (by decide +kernel)
set_option maxRecDepth 20000 in
theorem gX4_link_X3_callFromFirst : GoodIn wsX4_link (wsV RX4 193 RX3 yX3_callFromFirst wsX3_callFromFirst) := goodIn_app (goodIn_of _ (by decide +kernel)) ggX4_link_X3_callFromFirst
theorem dX4_link_0 : decode cX4_link 0 = .ok (.aload_n 0, 1) := by decide +kernel
theorem dX4_link_1 : decode cX4_link 1 = .ok (.getfield 10, 3) := by decide +kernel
theorem dX4_link_4 : decode cX4_link 4 = .ok (.iload_n 2, 1) := by decide +kernel
theorem dX4_link_5 : decode cX4_link 5 = .ok (.invokevirtual 184, 3) := by decide +kernel
theorem dX4_link_8 : decode cX4_link 8 = .ok (.ifCond .eq 32, 3) := by decide +kernel
theorem dX4_link_11 : decode cX4_link 11 = .ok (.iload_n 3, 1) := by decide +kernel
theorem dX4_link_12 : decode cX4_link 12 = .ok (.ifCond .lt 28, 3) := by decide +kernel
theorem dX4_link_15 : decode cX4_link 15 = .ok (.iload_n 3, 1) := by decide +kernel
theorem dX4_link_16 : decode cX4_link 16 = .ok (.iload_n 1, 1) := by decide +kernel
theorem dX4_link_17 : decode cX4_link 17 = .ok (.ifCond .eq 13, 3) := by decide +kernel
theorem dX4_link_20 : decode cX4_link 20 = .ok (.aload_n 0, 1) := by decide +kernel
theorem dX4_link_21 : decode cX4_link 21 = .ok (.getfield 10, 3) := by decide +kernel
theorem dX4_link_24 : decode cX4_link 24 = .ok (.getfield 137, 3) := by decide +kernel
theorem dX4_link_27 : decode cX4_link 27 = .ok (.goto 10, 3) := by decide +kernel
theorem dX4_link_30 : decode cX4_link 30 = .ok (.aload_n 0, 1) := by decide +kernel
theorem dX4_link_31 : decode cX4_link 31 = .ok (.getfield 10, 3) := by decide +kernel
theorem dX4_link_34 : decode cX4_link 34 = .ok (.getfield 134, 3) := by decide +kernel
theorem dX4_link_37 : decode cX4_link 37 = .ok (.if_icmp .lt 13, 3) := by decide +kernel
theorem dX4_link_40 : decode cX4_link 40 = .ok (.new 161, 3) := by decide +kernel
theorem dX4_link_43 : decode cX4_link 43 = .ok (.dup, 1) := by decide +kernel
theorem dX4_link_44 : decode cX4_link 44 = .ok (.ldc 187, 2) := by decide +kernel
theorem dX4_link_46 : decode cX4_link 46 = .ok (.invokespecial 165, 3) := by decide +kernel
theorem dX4_link_49 : decode cX4_link 49 = .ok (.athrow, 1) := by decide +kernel
theorem dX4_link_50 : decode cX4_link 50 = .ok (.iload_n 1, 1) := by decide +kernel
theorem dX4_link_51 : decode cX4_link 51 = .ok (.ifCond .eq 15, 3) := by decide +kernel
theorem dX4_link_54 : decode cX4_link 54 = .ok (.aload_n 0, 1) := by decide +kernel
theorem dX4_link_55 : decode cX4_link 55 = .ok (.getfield 10, 3) := by decide +kernel
theorem dX4_link_58 : decode cX4_link 58 = .ok (.iload_n 2, 1) := by decide +kernel
theorem dX4_link_59 : decode cX4_link 59 = .ok (.iload_n 3, 1) := by decide +kernel
theorem dX4_link_60 : decode cX4_link 60 = .ok (.invokevirtual 189, 3) := by decide +kernel
theorem dX4_link_63 : decode cX4_link 63 = .ok (.goto 12, 3) := by decide +kernel
theorem dX4_link_66 : decode cX4_link 66 = .ok (.aload_n 0, 1) := by decide +kernel
theorem dX4_link_67 : decode cX4_link 67 = .ok (.getfield 10, 3) := by decide +kernel
theorem dX4_link_70 : decode cX4_link 70 = .ok (.iload_n 2, 1) := by decide +kernel
theorem dX4_link_71 : decode cX4_link 71 = .ok (.iload_n 3, 1) := by decide +kernel
theorem dX4_link_72 : decode cX4_link 72 = .ok (.invokevirtual 193, 3) := by decide +kernel
theorem dX4_link_75 : decode cX4_link 75 = .ok (.ireturn, 1) := by decide +kernel
set_option maxRecDepth 20000 in
theorem ggX4_at_X3_hasOutput : GoodIn wsX4_at wsX3_hasOutput := goodIn_r _ [8, 9, 10, 11, 12, 7, 13, 14, 42, 43, 44, 45, 46, 47, 48, 49, 50, 51, 52, 53, 54, 55] (by decide +kernel) (by decide +kernel)
set_option maxRecDepth 20000 in
theorem gX4_at_X3_hasOutput : GoodIn wsX4_at (wsV RX4 196 RX3 yX3_hasOutput wsX3_hasOutput) := goodIn_app (goodIn_of _ (by decide +kernel)) ggX4_at_X3_hasOutput
set_option maxRecDepth 20000 in
theorem ggX4_at_X3_hasInput : GoodIn wsX4_at wsX3_hasInput := goodIn_r _ [18, 19, 20, 21, 7, 22, 23, 10, 11, 12, 13, 14, 42, 43, 44, 45, 46, 47, 48, 49, 50, 51, 52, 53, 54, 55] (by decide +kernel) (by decide +kernel)
set_option maxRecDepth 20000 in
theorem gX4_at_X3_hasInput : GoodIn wsX4_at (wsV RX4 199 RX3 yX3_hasInput wsX3_hasInput) := goodIn_app (goodIn_of _ (by decide +kernel)) ggX4_at_X3_hasInput
set_option maxRecDepth 20000 in
theorem ggX4_at_X3_callAtOutput : GoodIn wsX4_at wsX3_callAtOutput := goodIn_r _ [27, 28, 29, 42, 43, 44, 45, 46, 47, 48, 49, 50, 51, 52, 53, 54, 55] (by decide +kernel) (by decide +kernel)
set_option maxRecDepth 20000 in
theorem gX4_at_X3_callAtOutput : GoodIn wsX4_at (wsV RX4 204 RX3 yX3_callAtOutput wsX3_callAtOutput) := goodIn_app (goodIn_of _ (by decide +kernel)) ggX4_at_X3_callAtOutput
set_option maxRecDepth 20000 in
theorem ggX4_at_X3_callAtInput : GoodIn wsX4_at wsX3_callAtInput := goodIn_r _ [33, 28, 34, 42, 43, 44, 45, 46, 47, 48, 49, 50, 51, 52, 53, 54, 55] (by decide +kernel) (by decide +kernel)
set_option maxRecDepth 20000 in
theorem gX4_at_X3_callAtInput : GoodIn wsX4_at (wsV RX4 207 RX3 yX3_callAtInput wsX3_callAtInput) := goodIn_app (goodIn_of _ (by decide +kernel)) ggX4_at_X3_callAtInput
theorem dX4_at_0 : decode cX4_at 0 = .ok (.iload_n 1, 1) := by decide +kernel
theorem dX4_at_1 : decode cX4_at 1 = .ok (.ifCond .eq 17, 3) := by decide +kernel
theorem dX4_at_4 : decode cX4_at 4 = .ok (.aload_n 0, 1) := by decide +kernel
theorem dX4_at_5 : decode cX4_at 5 = .ok (.getfield 10, 3) := by decide +kernel
theorem dX4_at_8 : decode cX4_at 8 = .ok (.iload_n 2, 1) := by decide +kernel
theorem dX4_at_9 : decode cX4_at 9 = .ok (.invokevirtual 196, 3) := by decide +kernel
theorem dX4_at_12 : decode cX4_at 12 = .ok (.ifCond .ne 27, 3) := by decide +kernel
theorem dX4_at_15 : decode cX4_at 15 = .ok (.goto 14, 3) := by decide +kernel
theorem dX4_at_18 : decode cX4_at 18 = .ok (.aload_n 0, 1) := by decide +kernel
theorem dX4_at_19 : decode cX4_at 19 = .ok (.getfield 10, 3) := by decide +kernel
theorem dX4_at_22 : decode cX4_at 22 = .ok (.iload_n 2, 1) := by decide +kernel
theorem dX4_at_23 : decode cX4_at 23 = .ok (.invokevirtual 199, 3) := by decide +kernel
theorem dX4_at_26 : decode cX4_at 26 = .ok (.ifCond .ne 13, 3) := by decide +kernel
theorem dX4_at_29 : decode cX4_at 29 = .ok (.new 161, 3) := by decide +kernel
theorem dX4_at_32 : decode cX4_at 32 = .ok (.dup, 1) := by decide +kernel
theorem dX4_at_33 : decode cX4_at 33 = .ok (.ldc 202, 2) := by decide +kernel
theorem dX4_at_35 : decode cX4_at 35 = .ok (.invokespecial 165, 3) := by decide +kernel
theorem dX4_at_38 : decode cX4_at 38 = .ok (.athrow, 1) := by decide +kernel
theorem dX4_at_39 : decode cX4_at 39 = .ok (.iload_n 1, 1) := by decide +kernel
theorem dX4_at_40 : decode cX4_at 40 = .ok (.ifCond .eq 14, 3) := by decide +kernel
theorem dX4_at_43 : decode cX4_at 43 = .ok (.aload_n 0, 1) := by decide +kernel
theorem dX4_at_44 : decode cX4_at 44 = .ok (.getfield 10, 3) := by decide +kernel
theorem dX4_at_47 : decode cX4_at 47 = .ok (.iload_n 2, 1) := by decide +kernel
theorem dX4_at_48 : decode cX4_at 48 = .ok (.invokevirtual 204, 3) := by decide +kernel
theorem dX4_at_51 : decode cX4_at 51 = .ok (.goto 11, 3) := by decide +kernel
theorem dX4_at_54 : decode cX4_at 54 = .ok (.aload_n 0, 1) := by decide +kernel
theorem dX4_at_55 : decode cX4_at 55 = .ok (.getfield 10, 3) := by decide +kernel
theorem dX4_at_58 : decode cX4_at 58 = .ok (.iload_n 2, 1) := by decide +kernel
theorem dX4_at_59 : decode cX4_at 59 = .ok (.invokevirtual 207, 3) := by decide +kernel
theorem dX4_at_62 : decode cX4_at 62 = .ok (.ireturn, 1) := by decide +kernel
set_option maxRecDepth 20000 in
theorem ggX4_thanks_X3_hasInput : GoodIn wsX4_thanks wsX3_hasInput := goodIn_r _ [10, 11, 12, 13, 9, 14, 15, 16, 17, 18, 19, 20, 28, 29, 30, 31, 32, 33, 34, 35, 36, 37, 38, 39, 40, 41] (by decide +kernel) (by decide +kernel)
set_option maxRecDepth 20000 in
theorem gX4_thanks_X3_hasInput : GoodIn wsX4_thanks (wsV RX4 199 RX3 yX3_hasInput wsX3_hasInput) := goodIn_app (goodIn_of _ (by decide +kernel)) ggX4_thanks_X3_hasInput
theorem dX4_thanks_0 : decode cX4_thanks 0 = .ok (.aload_n 0, 1) := by decide +kernel
theorem dX4_thanks_1 : decode cX4_thanks 1 = .ok (.getfield 10, 3) := by decide +kernel
theorem dX4_thanks_4 : decode cX4_thanks 4 = .ok (.iload_n 1, 1) := by decide +kernel
theorem dX4_thanks_5 : decode cX4_thanks 5 = .ok (.invokevirtual 199, 3) := by decide +kernel
theorem dX4_thanks_8 : decode cX4_thanks 8 = .ok (.ifCond .ne 13, 3) := by decide +kernel
theorem dX4_thanks_11 : decode cX4_thanks 11 = .ok (.new 161, 3) := by decide +kernel
theorem dX4_thanks_14 : decode cX4_thanks 14 = .ok (.dup, 1) := by decide +kernel
theorem dX4_thanks_15 : decode cX4_thanks 15 = .ok (.ldc 210, 2) := by decide +kernel
theorem dX4_thanks_17 : decode cX4_thanks 17 = .ok (.invokespecial 165, 3) := by decide +kernel
theorem dX4_thanks_20 : decode cX4_thanks 20 = .ok (.athrow, 1) := by decide +kernel
theorem dX4_thanks_21 : decode cX4_thanks 21 = .ok (.iload_n 2, 1) := by decide +kernel
theorem dX4_thanks_22 : decode cX4_thanks 22 = .ok (.ifCond .eq 15, 3) := by decide +kernel
theorem dX4_thanks_25 : decode cX4_thanks 25 = .ok (.aload_n 0, 1) := by decide +kernel
theorem dX4_thanks_26 : decode cX4_thanks 26 = .ok (.getfield 10, 3) := by decide +kernel
theorem dX4_thanks_29 : decode cX4_thanks 29 = .ok (.getfield 212, 3) := by decide +kernel
theorem dX4_thanks_32 : decode cX4_thanks 32 = .ok (.iload_n 1, 1) := by decide +kernel
theorem dX4_thanks_33 : decode cX4_thanks 33 = .ok (.iaload, 1) := by decide +kernel
theorem dX4_thanks_34 : decode cX4_thanks 34 = .ok (.goto 12, 3) := by decide +kernel
theorem dX4_thanks_37 : decode cX4_thanks 37 = .ok (.aload_n 0, 1) := by decide +kernel
theorem dX4_thanks_38 : decode cX4_thanks 38 = .ok (.getfield 10, 3) := by decide +kernel
theorem dX4_thanks_41 : decode cX4_thanks 41 = .ok (.getfield 215, 3) := by decide +kernel
theorem dX4_thanks_44 : decode cX4_thanks 44 = .ok (.iload_n 1, 1) := by decide +kernel
theorem dX4_thanks_45 : decode cX4_thanks 45 = .ok (.iaload, 1) := by decide +kernel
theorem dX4_thanks_46 : decode cX4_thanks 46 = .ok (.ireturn, 1) := by decide +kernel
set_option maxRecDepth 20000 in
theorem ggX4_connect_X0_note : GoodIn wsX4_connect wsX0_note := goodIn_r _ [8, 9, 10, 11, 12, 13, 14, 15, 16, 17, 18, 19, 20, 21, 22, 23, 24, 25, 26, 27, 28, 29, 30, 31, 32, 33, 34, 159, 160, 161, 162, 163, 164, 165, 166, 167, 168, 169, 170, 171, 172, 173, 174, 175] (by decide +kernel) (by decide +kernel)
set_option maxRecDepth 20000 in
theorem gX4_connect_X0_note : GoodIn wsX4_connect (wsV RX4 218 RX0 yX0_note wsX0_note) := goodIn_app (goodIn_of _ (by decide +kernel)) ggX4_connect_X0_note
set_option maxRecDepth 20000 in
theorem ggX4_connect_X3_addCall : GoodIn wsX4_connect wsX3_addCall := goodIn_r _ [38, 24, 25, 30, 31, 39, 32, 40, 41, 42, 15, 43, 44, 45, 46, 47, 17, 48, 49, 50, 51, 18, 52, 53, 54, 55, 20, 56, 57, 58, 59, 60, 61, 62, 63, 64, 65, 66, 67, 68, 69, 70, 71, 72, 73, 74, 75, 76, 77, 78, 79, 80, 81, 82, 83, 19, 22, 84, 85, 86, 87, 88, 89, 90, 91, 92, 93, 94, 95, 96, 97, 98, 99, 100, 101, 102, 103, 104, 105, 106, 107, 108, 109, 110, 111, 112, 113, 114, 115, 116, 117, 118, 119, 120, 121, 122, 27, 28, 29, 123, 124, 125, 126, 127, 128, 129, 130, 131, 132, 133, 134, 135, 136, 137, 138, 23, 33, 34, 162, 163, 164, 165, 166, 167, 168, 169, 170, 171, 172, 173, 174, 175, 176, 177, 178, 179, 180, 181, 182, 183, 184, 185, 186, 187, 188] (by decide +kernel) (by decide +kernel)
set_option maxRecDepth 20000 in
theorem gX4_connect_X3_addCall : GoodIn wsX4_connect (wsV RX4 112 RX3 yX3_addCall wsX3_addCall) := goodIn_app (goodIn_of _ (by decide +kernel)) ggX4_connect_X3_addCall
set_option maxRecDepth 20000 in
theorem ggX4_connect_X4_finished : GoodIn wsX4_connect wsX4_finished := goodIn_ca (goodIn_ca (goodIn_r _ [143, 144, 145, 146, 147, 1, 148, 149, 150, 7, 151, 11, 10, 152, 153, 154, 155, 156, 157, 158, 159, 160, 161] (by decide +kernel) (by decide +kernel)) (goodIn_sub (fun _ h => List.mem_cons_of_mem _ (List.mem_append_left _ (List.mem_append_right _ h))) (by decide +kernel))) (goodIn_sub (fun _ h => List.mem_cons_of_mem _ (List.mem_append_right _ h)) (by decide +kernel))
set_option maxRecDepth 20000 in
theorem gX4_connect_X4_finished : GoodIn wsX4_connect (wsV RX4 222 RX4 yX4_finished wsX4_finished) := goodIn_app (goodIn_of _ (by decide +kernel)) ggX4_connect_X4_finished
theorem dX4_connect_0 : decode cX4_connect 0 = .ok (.aload_n 0, 1) := by decide +kernel
theorem dX4_connect_1 : decode cX4_connect 1 = .ok (.getfield 22, 3) := by decide +kernel
theorem dX4_connect_4 : decode cX4_connect 4 = .ok (.aload_n 0, 1) := by decide +kernel
theorem dX4_connect_5 : decode cX4_connect 5 = .ok (.getfield 10, 3) := by decide +kernel
theorem dX4_connect_8 : decode cX4_connect 8 = .ok (.invokevirtual 218, 3) := by decide +kernel
theorem dX4_connect_11 : decode cX4_connect 11 = .ok (.aload_n 0, 1) := by decide +kernel
theorem dX4_connect_12 : decode cX4_connect 12 = .ok (.aload_n 0, 1) := by decide +kernel
theorem dX4_connect_13 : decode cX4_connect 13 = .ok (.getfield 10, 3) := by decide +kernel
theorem dX4_connect_16 : decode cX4_connect 16 = .ok (.aload_n 0, 1) := by decide +kernel
theorem dX4_connect_17 : decode cX4_connect 17 = .ok (.getfield 37, 3) := by decide +kernel
theorem dX4_connect_20 : decode cX4_connect 20 = .ok (.iload_n 1, 1) := by decide +kernel
theorem dX4_connect_21 : decode cX4_connect 21 = .ok (.iload_n 2, 1) := by decide +kernel
theorem dX4_connect_22 : decode cX4_connect 22 = .ok (.invokevirtual 112, 3) := by decide +kernel
theorem dX4_connect_25 : decode cX4_connect 25 = .ok (.invokevirtual 222, 3) := by decide +kernel
theorem dX4_connect_28 : decode cX4_connect 28 = .ok (.ireturn, 1) := by decide +kernel
set_option maxRecDepth 20000 in
theorem ggX4_join_X0_note : GoodIn wsX4_join wsX0_note := goodIn_r _ [8, 9, 10, 11, 12, 13, 14, 15, 16, 17, 18, 19, 20, 21, 22, 23, 24, 25, 26, 27, 28, 29, 30, 31, 32, 33, 34, 158, 159, 160, 161, 162, 163, 164, 165, 166, 167, 168, 169, 170, 171, 172, 173, 174] (by decide +kernel) (by decide +kernel)
set_option maxRecDepth 20000 in
theorem gX4_join_X0_note : GoodIn wsX4_join (wsV RX4 218 RX0 yX0_note wsX0_note) := goodIn_app (goodIn_of _ (by decide +kernel)) ggX4_join_X0_note
set_option maxRecDepth 20000 in
theorem ggX4_join_X3_addOutput : GoodIn wsX4_join wsX3_addOutput := goodIn_r _ [38, 30, 25, 39, 40, 41, 15, 42, 24, 43, 44, 45, 46, 20, 47, 48, 49, 50, 18, 51, 52, 53, 54, 55, 56, 57, 58, 59, 60, 61, 62, 63, 64, 65, 66, 67, 68, 69, 70, 71, 72, 73, 74, 75, 76, 77, 78, 79, 19, 22, 80, 81, 82, 83, 84, 85, 86, 87, 88, 89, 90, 91, 92, 93, 94, 95, 96, 97, 98, 99, 100, 101, 102, 103, 104, 105, 106, 107, 108, 109, 110, 111, 112, 113, 114, 115, 116, 117, 118, 119, 120, 27, 28, 29, 121, 122, 123, 124, 125, 126, 127, 128, 129, 130, 131, 132, 133, 134, 135, 136, 31, 137, 32, 23, 33, 34, 161, 162, 163, 164, 165, 166, 167, 168, 169, 170, 171, 172, 173, 174, 175, 176, 177, 178, 179, 180, 181, 182, 183, 184, 185, 186, 187] (by decide +kernel) (by decide +kernel)
set_option maxRecDepth 20000 in
theorem gX4_join_X3_addOutput : GoodIn wsX4_join (wsV RX4 116 RX3 yX3_addOutput wsX3_addOutput) := goodIn_app (goodIn_of _ (by decide +kernel)) ggX4_join_X3_addOutput
set_option maxRecDepth 20000 in
theorem ggX4_join_X4_finished : GoodIn wsX4_join wsX4_finished := goodIn_ca (goodIn_ca (goodIn_r _ [142, 143, 144, 145, 146, 1, 147, 148, 149, 7, 150, 11, 10, 151, 152, 153, 154, 155, 156, 157, 158, 159, 160] (by decide +kernel) (by decide +kernel)) (goodIn_sub (fun _ h => List.mem_cons_of_mem _ (List.mem_append_left _ (List.mem_append_right _ h))) (by decide +kernel))) (goodIn_sub (fun _ h => List.mem_cons_of_mem _ (List.mem_append_right _ h)) (by decide +kernel))
set_option maxRecDepth 20000 in
theorem gX4_join_X4_finished : GoodIn wsX4_join (wsV RX4 222 RX4 yX4_finished wsX4_finished) := goodIn_app (goodIn_of _ (by decide +kernel)) ggX4_join_X4_finished
theorem dX4_join_0 : decode cX4_join 0 = .ok (.aload_n 0, 1) := by decide +kernel
theorem dX4_join_1 : decode cX4_join 1 = .ok (.getfield 22, 3) := by decide +kernel
theorem dX4_join_4 : decode cX4_join 4 = .ok (.aload_n 0, 1) := by decide +kernel
theorem dX4_join_5 : decode cX4_join 5 = .ok (.getfield 10, 3) := by decide +kernel
theorem dX4_join_8 : decode cX4_join 8 = .ok (.invokevirtual 218, 3) := by decide +kernel
theorem dX4_join_11 : decode cX4_join 11 = .ok (.aload_n 0, 1) := by decide +kernel
theorem dX4_join_12 : decode cX4_join 12 = .ok (.aload_n 0, 1) := by decide +kernel
theorem dX4_join_13 : decode cX4_join 13 = .ok (.getfield 10, 3) := by decide +kernel
theorem dX4_join_16 : decode cX4_join 16 = .ok (.aload_n 0, 1) := by decide +kernel
theorem dX4_join_17 : decode cX4_join 17 = .ok (.getfield 37, 3) := by decide +kernel
theorem dX4_join_20 : decode cX4_join 20 = .ok (.iload_n 1, 1) := by decide +kernel
theorem dX4_join_21 : decode cX4_join 21 = .ok (.iload_n 2, 1) := by decide +kernel
theorem dX4_join_22 : decode cX4_join 22 = .ok (.invokevirtual 116, 3) := by decide +kernel
theorem dX4_join_25 : decode cX4_join 25 = .ok (.invokevirtual 222, 3) := by decide +kernel
theorem dX4_join_28 : decode cX4_join 28 = .ok (.ireturn, 1) := by decide +kernel
set_option maxRecDepth 20000 in
theorem ggX4_hang_X0_note : GoodIn wsX4_hang wsX0_note := goodIn_r _ [7, 8, 9, 10, 11, 12, 13, 14, 15, 16, 17, 18, 19, 20, 21, 22, 23, 24, 25, 26, 27, 28, 29, 30, 31, 32, 33, 62, 63, 64, 65, 66, 67, 68, 69, 70, 71, 72, 73, 74, 75, 76, 77, 78] (by decide +kernel) (by decide +kernel)
set_option maxRecDepth 20000 in
theorem gX4_hang_X0_note : GoodIn wsX4_hang (wsV RX4 218 RX0 yX0_note wsX0_note) := goodIn_app (goodIn_of _ (by decide +kernel)) ggX4_hang_X0_note
set_option maxRecDepth 20000 in
theorem ggX4_hang_X3_endCall : GoodIn wsX4_hang wsX3_endCall := goodIn_r _ [37, 23, 24, 29, 30, 31, 38, 39, 40, 14, 41, 65, 66, 67, 68, 69, 70, 71, 72, 73, 74, 75, 76, 77, 78] (by decide +kernel) (by decide +kernel)
set_option maxRecDepth 20000 in
theorem gX4_hang_X3_endCall : GoodIn wsX4_hang (wsV RX4 119 RX3 yX3_endCall wsX3_endCall) := goodIn_app (goodIn_of _ (by decide +kernel)) ggX4_hang_X3_endCall
set_option maxRecDepth 20000 in
theorem ggX4_hang_X4_finished : GoodIn wsX4_hang wsX4_finished := goodIn_ca (goodIn_ca (goodIn_r _ [46, 47, 48, 49, 50, 1, 51, 52, 53, 6, 54, 10, 9, 55, 56, 57, 58, 59, 60, 61, 62, 63, 64] (by decide +kernel) (by decide +kernel)) (goodIn_sub (fun _ h => List.mem_cons_of_mem _ (List.mem_append_left _ (List.mem_append_right _ h))) (by decide +kernel))) (goodIn_sub (fun _ h => List.mem_cons_of_mem _ (List.mem_append_right _ h)) (by decide +kernel))
set_option maxRecDepth 20000 in
theorem gX4_hang_X4_finished : GoodIn wsX4_hang (wsV RX4 222 RX4 yX4_finished wsX4_finished) := goodIn_app (goodIn_of _ (by decide +kernel)) ggX4_hang_X4_finished
theorem dX4_hang_0 : decode cX4_hang 0 = .ok (.aload_n 0, 1) := by decide +kernel
theorem dX4_hang_1 : decode cX4_hang 1 = .ok (.getfield 22, 3) := by decide +kernel
theorem dX4_hang_4 : decode cX4_hang 4 = .ok (.aload_n 0, 1) := by decide +kernel
theorem dX4_hang_5 : decode cX4_hang 5 = .ok (.getfield 10, 3) := by decide +kernel
theorem dX4_hang_8 : decode cX4_hang 8 = .ok (.invokevirtual 218, 3) := by decide +kernel
theorem dX4_hang_11 : decode cX4_hang 11 = .ok (.aload_n 0, 1) := by decide +kernel
theorem dX4_hang_12 : decode cX4_hang 12 = .ok (.aload_n 0, 1) := by decide +kernel
theorem dX4_hang_13 : decode cX4_hang 13 = .ok (.getfield 10, 3) := by decide +kernel
theorem dX4_hang_16 : decode cX4_hang 16 = .ok (.iload_n 1, 1) := by decide +kernel
theorem dX4_hang_17 : decode cX4_hang 17 = .ok (.invokevirtual 119, 3) := by decide +kernel
theorem dX4_hang_20 : decode cX4_hang 20 = .ok (.invokevirtual 222, 3) := by decide +kernel
theorem dX4_hang_23 : decode cX4_hang 23 = .ok (.ireturn, 1) := by decide +kernel
set_option maxRecDepth 20000 in
theorem ggX4_drop_X0_note : GoodIn wsX4_drop wsX0_note := goodIn_r _ [7, 8, 9, 10, 11, 12, 13, 14, 15, 16, 17, 18, 19, 20, 21, 22, 23, 24, 25, 26, 27, 28, 29, 30, 31, 32, 33, 77, 78, 79, 80, 81, 82, 83, 84, 85, 86, 87, 88, 89, 90, 91, 92, 93] (by decide +kernel) (by decide +kernel)
set_option maxRecDepth 20000 in
theorem gX4_drop_X0_note : GoodIn wsX4_drop (wsV RX4 218 RX0 yX0_note wsX0_note) := goodIn_app (goodIn_of _ (by decide +kernel)) ggX4_drop_X0_note
set_option maxRecDepth 20000 in
theorem ggX4_drop_X3_takeOutput : GoodIn wsX4_drop wsX3_takeOutput := goodIn_r _ [37, 29, 38, 39, 40, 14, 41, 19, 42, 43, 44, 45, 17, 46, 47, 48, 49, 23, 50, 51, 52, 53, 54, 55, 56, 80, 81, 82, 83, 84, 85, 86, 87, 88, 89, 90, 91, 92, 93] (by decide +kernel) (by decide +kernel)
set_option maxRecDepth 20000 in
theorem gX4_drop_X3_takeOutput : GoodIn wsX4_drop (wsV RX4 225 RX3 yX3_takeOutput wsX3_takeOutput) := goodIn_app (goodIn_of _ (by decide +kernel)) ggX4_drop_X3_takeOutput
set_option maxRecDepth 20000 in
theorem ggX4_drop_X4_finished : GoodIn wsX4_drop wsX4_finished := goodIn_ca (goodIn_ca (goodIn_r _ [61, 62, 63, 64, 65, 1, 66, 67, 68, 6, 69, 10, 9, 70, 71, 72, 73, 74, 75, 76, 77, 78, 79] (by decide +kernel) (by decide +kernel)) (goodIn_sub (fun _ h => List.mem_cons_of_mem _ (List.mem_append_left _ (List.mem_append_right _ h))) (by decide +kernel))) (goodIn_sub (fun _ h => List.mem_cons_of_mem _ (List.mem_append_right _ h)) (by decide +kernel))
set_option maxRecDepth 20000 in
theorem gX4_drop_X4_finished : GoodIn wsX4_drop (wsV RX4 222 RX4 yX4_finished wsX4_finished) := goodIn_app (goodIn_of _ (by decide +kernel)) ggX4_drop_X4_finished
theorem dX4_drop_0 : decode cX4_drop 0 = .ok (.aload_n 0, 1) := by decide +kernel
theorem dX4_drop_1 : decode cX4_drop 1 = .ok (.getfield 22, 3) := by decide +kernel
theorem dX4_drop_4 : decode cX4_drop 4 = .ok (.aload_n 0, 1) := by decide +kernel
theorem dX4_drop_5 : decode cX4_drop 5 = .ok (.getfield 10, 3) := by decide +kernel
theorem dX4_drop_8 : decode cX4_drop 8 = .ok (.invokevirtual 218, 3) := by decide +kernel
theorem dX4_drop_11 : decode cX4_drop 11 = .ok (.aload_n 0, 1) := by decide +kernel
theorem dX4_drop_12 : decode cX4_drop 12 = .ok (.aload_n 0, 1) := by decide +kernel
theorem dX4_drop_13 : decode cX4_drop 13 = .ok (.getfield 10, 3) := by decide +kernel
theorem dX4_drop_16 : decode cX4_drop 16 = .ok (.iload_n 1, 1) := by decide +kernel
theorem dX4_drop_17 : decode cX4_drop 17 = .ok (.invokevirtual 225, 3) := by decide +kernel
theorem dX4_drop_20 : decode cX4_drop 20 = .ok (.invokevirtual 222, 3) := by decide +kernel
theorem dX4_drop_23 : decode cX4_drop 23 = .ok (.ireturn, 1) := by decide +kernel
set_option maxRecDepth 20000 in
theorem ggX4_setBroken_X0_note : GoodIn wsX4_setBroken wsX0_note := goodIn_r _ [7, 8, 9, 10, 11, 12, 13, 14, 15, 16, 17, 18, 19, 20, 21, 22, 23, 24, 25, 26, 27, 28, 29, 30, 31, 32, 33, 77, 78, 79, 80, 81, 82, 83, 84, 85, 86, 87, 88, 89, 90, 91, 92, 93] (by decide +kernel) (by decide +kernel)
set_option maxRecDepth 20000 in
theorem gX4_setBroken_X0_note : GoodIn wsX4_setBroken (wsV RX4 218 RX0 yX0_note wsX0_note) := goodIn_app (goodIn_of _ (by decide +kernel)) ggX4_setBroken_X0_note
set_option maxRecDepth 20000 in
theorem ggX4_setBroken_X3_makeBroken : GoodIn wsX4_setBroken wsX3_makeBroken := goodIn_r _ [37, 21, 38, 39, 40, 14, 41, 18, 42, 43, 44, 45, 23, 30, 46, 47, 48, 49, 50, 51, 52, 53, 54, 55, 56, 80, 81, 82, 83, 84, 85, 86, 87, 88, 89, 90, 91, 92, 93] (by decide +kernel) (by decide +kernel)
set_option maxRecDepth 20000 in
theorem gX4_setBroken_X3_makeBroken : GoodIn wsX4_setBroken (wsV RX4 127 RX3 yX3_makeBroken wsX3_makeBroken) := goodIn_app (goodIn_of _ (by decide +kernel)) ggX4_setBroken_X3_makeBroken
set_option maxRecDepth 20000 in
theorem ggX4_setBroken_X4_finished : GoodIn wsX4_setBroken wsX4_finished := goodIn_ca (goodIn_ca (goodIn_r _ [61, 62, 63, 64, 65, 1, 66, 67, 68, 6, 69, 10, 9, 70, 71, 72, 73, 74, 75, 76, 77, 78, 79] (by decide +kernel) (by decide +kernel)) (goodIn_sub (fun _ h => List.mem_cons_of_mem _ (List.mem_append_left _ (List.mem_append_right _ h))) (by decide +kernel))) (goodIn_sub (fun _ h => List.mem_cons_of_mem _ (List.mem_append_right _ h)) (by decide +kernel))
set_option maxRecDepth 20000 in
theorem gX4_setBroken_X4_finished : GoodIn wsX4_setBroken (wsV RX4 222 RX4 yX4_finished wsX4_finished) := goodIn_app (goodIn_of _ (by decide +kernel)) ggX4_setBroken_X4_finished
theorem dX4_setBroken_0 : decode cX4_setBroken 0 = .ok (.aload_n 0, 1) := by decide +kernel
theorem dX4_setBroken_1 : decode cX4_setBroken 1 = .ok (.getfield 22, 3) := by decide +kernel
theorem dX4_setBroken_4 : decode cX4_setBroken 4 = .ok (.aload_n 0, 1) := by decide +kernel
theorem dX4_setBroken_5 : decode cX4_setBroken 5 = .ok (.getfield 10, 3) := by decide +kernel
theorem dX4_setBroken_8 : decode cX4_setBroken 8 = .ok (.invokevirtual 218, 3) := by decide +kernel
theorem dX4_setBroken_11 : decode cX4_setBroken 11 = .ok (.aload_n 0, 1) := by decide +kernel
theorem dX4_setBroken_12 : decode cX4_setBroken 12 = .ok (.aload_n 0, 1) := by decide +kernel
theorem dX4_setBroken_13 : decode cX4_setBroken 13 = .ok (.getfield 10, 3) := by decide +kernel
theorem dX4_setBroken_16 : decode cX4_setBroken 16 = .ok (.iload_n 1, 1) := by decide +kernel
theorem dX4_setBroken_17 : decode cX4_setBroken 17 = .ok (.iload_n 2, 1) := by decide +kernel
theorem dX4_setBroken_18 : decode cX4_setBroken 18 = .ok (.invokevirtual 127, 3) := by decide +kernel
theorem dX4_setBroken_21 : decode cX4_setBroken 21 = .ok (.invokevirtual 222, 3) := by decide +kernel
theorem dX4_setBroken_24 : decode cX4_setBroken 24 = .ok (.ireturn, 1) := by decide +kernel
set_option maxRecDepth 20000 in
theorem ggX4_setPatience_X0_note : GoodIn wsX4_setPatience wsX0_note := goodIn_r _ [9, 10, 11, 12, 13, 14, 15, 16, 17, 18, 19, 20, 21, 22, 23, 24, 25, 26, 27, 28, 29, 30, 31, 32, 33, 34, 35, 60, 61, 62, 63, 64, 65, 66, 67, 68, 69, 70, 71, 72, 73, 74, 75, 76] (by decide +kernel) (by decide +kernel)
set_option maxRecDepth 20000 in
theorem gX4_setPatience_X0_note : GoodIn wsX4_setPatience (wsV RX4 218 RX0 yX0_note wsX0_note) := goodIn_app (goodIn_of _ (by decide +kernel)) ggX4_setPatience_X0_note
set_option maxRecDepth 20000 in
theorem ggX4_setPatience_X3_changePatience : GoodIn wsX4_setPatience wsX3_changePatience := goodIn_r _ [39, 22, 63, 64, 65, 66, 67, 68, 69, 70, 71, 72, 73, 74, 75, 76] (by decide +kernel) (by decide +kernel)
set_option maxRecDepth 20000 in
theorem gX4_setPatience_X3_changePatience : GoodIn wsX4_setPatience (wsV RX4 131 RX3 yX3_changePatience wsX3_changePatience) := goodIn_app (goodIn_of _ (by decide +kernel)) ggX4_setPatience_X3_changePatience
set_option maxRecDepth 20000 in
theorem ggX4_setPatience_X4_finished : GoodIn wsX4_setPatience wsX4_finished := goodIn_ca (goodIn_ca (goodIn_r _ [44, 45, 46, 47, 48, 3, 49, 50, 51, 8, 52, 12, 11, 53, 54, 55, 56, 57, 58, 59, 60, 61, 62] (by decide +kernel) (by decide +kernel)) (goodIn_sub (fun _ h => List.mem_cons_of_mem _ (List.mem_append_left _ (List.mem_append_right _ h))) (by decide +kernel))) (goodIn_sub (fun _ h => List.mem_cons_of_mem _ (List.mem_append_right _ h)) (by decide +kernel))
set_option maxRecDepth 20000 in
theorem gX4_setPatience_X4_finished : GoodIn wsX4_setPatience (wsV RX4 222 RX4 yX4_finished wsX4_finished) := goodIn_app (goodIn_of _ (by decide +kernel)) ggX4_setPatience_X4_finished
theorem dX4_setPatience_0 : decode cX4_setPatience 0 = .ok (.iload_n 1, 1) := by decide +kernel
theorem dX4_setPatience_1 : decode cX4_setPatience 1 = .ok (.ifCond .lt 8, 3) := by decide +kernel
theorem dX4_setPatience_4 : decode cX4_setPatience 4 = .ok (.iload_n 1, 1) := by decide +kernel
theorem dX4_setPatience_5 : decode cX4_setPatience 5 = .ok (.iconst 3, 1) := by decide +kernel
theorem dX4_setPatience_6 : decode cX4_setPatience 6 = .ok (.if_icmp .le 13, 3) := by decide +kernel
theorem dX4_setPatience_9 : decode cX4_setPatience 9 = .ok (.new 52, 3) := by decide +kernel
theorem dX4_setPatience_12 : decode cX4_setPatience 12 = .ok (.dup, 1) := by decide +kernel
theorem dX4_setPatience_13 : decode cX4_setPatience 13 = .ok (.ldc 228, 2) := by decide +kernel
theorem dX4_setPatience_15 : decode cX4_setPatience 15 = .ok (.invokespecial 56, 3) := by decide +kernel
theorem dX4_setPatience_18 : decode cX4_setPatience 18 = .ok (.athrow, 1) := by decide +kernel
theorem dX4_setPatience_19 : decode cX4_setPatience 19 = .ok (.aload_n 0, 1) := by decide +kernel
theorem dX4_setPatience_20 : decode cX4_setPatience 20 = .ok (.getfield 22, 3) := by decide +kernel
theorem dX4_setPatience_23 : decode cX4_setPatience 23 = .ok (.aload_n 0, 1) := by decide +kernel
theorem dX4_setPatience_24 : decode cX4_setPatience 24 = .ok (.getfield 10, 3) := by decide +kernel
theorem dX4_setPatience_27 : decode cX4_setPatience 27 = .ok (.invokevirtual 218, 3) := by decide +kernel
theorem dX4_setPatience_30 : decode cX4_setPatience 30 = .ok (.aload_n 0, 1) := by decide +kernel
theorem dX4_setPatience_31 : decode cX4_setPatience 31 = .ok (.aload_n 0, 1) := by decide +kernel
theorem dX4_setPatience_32 : decode cX4_setPatience 32 = .ok (.getfield 10, 3) := by decide +kernel
theorem dX4_setPatience_35 : decode cX4_setPatience 35 = .ok (.iload_n 1, 1) := by decide +kernel
theorem dX4_setPatience_36 : decode cX4_setPatience 36 = .ok (.invokevirtual 131, 3) := by decide +kernel
theorem dX4_setPatience_39 : decode cX4_setPatience 39 = .ok (.invokevirtual 222, 3) := by decide +kernel
theorem dX4_setPatience_42 : decode cX4_setPatience 42 = .ok (.ireturn, 1) := by decide +kernel
set_option maxRecDepth 20000 in
theorem ggX4_undo_X0_takeBack : GoodIn wsX4_undo wsX0_takeBack := goodIn_r _ [9, 10, 11, 12, 13, 14, 15, 16, 17, 18, 19, 20, 21, 22, 23, 24, 25, 26, 27, 28, 29, 30, 31, 32, 33, 34, 35, 43, 44, 45, 46, 47, 48, 49, 50, 51, 52, 53, 54, 55, 56, 57, 58, 59] (by decide +kernel) (by decide +kernel)
set_option maxRecDepth 20000 in
theorem gX4_undo_X0_takeBack : GoodIn wsX4_undo (wsV RX4 230 RX0 yX0_takeBack wsX0_takeBack) := goodIn_app (goodIn_of _ (by decide +kernel)) ggX4_undo_X0_takeBack
theorem dX4_undo_0 : decode cX4_undo 0 = .ok (.aload_n 0, 1) := by decide +kernel
theorem dX4_undo_1 : decode cX4_undo 1 = .ok (.getfield 22, 3) := by decide +kernel
theorem dX4_undo_4 : decode cX4_undo 4 = .ok (.aload_n 0, 1) := by decide +kernel
theorem dX4_undo_5 : decode cX4_undo 5 = .ok (.getfield 10, 3) := by decide +kernel
theorem dX4_undo_8 : decode cX4_undo 8 = .ok (.invokevirtual 230, 3) := by decide +kernel
theorem dX4_undo_11 : decode cX4_undo 11 = .ok (.istore_n 1, 1) := by decide +kernel
theorem dX4_undo_12 : decode cX4_undo 12 = .ok (.iload_n 1, 1) := by decide +kernel
theorem dX4_undo_13 : decode cX4_undo 13 = .ok (.bipush (-3), 2) := by decide +kernel
theorem dX4_undo_15 : decode cX4_undo 15 = .ok (.if_icmp .ne 13, 3) := by decide +kernel
theorem dX4_undo_18 : decode cX4_undo 18 = .ok (.new 63, 3) := by decide +kernel
theorem dX4_undo_21 : decode cX4_undo 21 = .ok (.dup, 1) := by decide +kernel
theorem dX4_undo_22 : decode cX4_undo 22 = .ok (.ldc 234, 2) := by decide +kernel
theorem dX4_undo_24 : decode cX4_undo 24 = .ok (.invokespecial 67, 3) := by decide +kernel
theorem dX4_undo_27 : decode cX4_undo 27 = .ok (.athrow, 1) := by decide +kernel
theorem dX4_undo_28 : decode cX4_undo 28 = .ok (.iload_n 1, 1) := by decide +kernel
theorem dX4_undo_29 : decode cX4_undo 29 = .ok (.ireturn, 1) := by decide +kernel
set_option maxRecDepth 20000 in
theorem ggX4_finished_X0_keepNoted : GoodIn wsX4_finished wsX0_keepNoted := goodIn_r _ [10, 11, 12, 20, 21, 22] (by decide +kernel) (by decide +kernel)
set_option maxRecDepth 20000 in
theorem gX4_finished_X0_keepNoted : GoodIn wsX4_finished (wsV RX4 240 RX0 yX0_keepNoted wsX0_keepNoted) := goodIn_app (goodIn_of _ (by decide +kernel)) ggX4_finished_X0_keepNoted
theorem dX4_finished_0 : decode cX4_finished 0 = .ok (.iload_n 1, 1) := by decide +kernel
theorem dX4_finished_1 : decode cX4_finished 1 = .ok (.bipush (-2), 2) := by decide +kernel
theorem dX4_finished_3 : decode cX4_finished 3 = .ok (.if_icmp .ne 13, 3) := by decide +kernel
theorem dX4_finished_6 : decode cX4_finished 6 = .ok (.new 161, 3) := by decide +kernel
theorem dX4_finished_9 : decode cX4_finished 9 = .ok (.dup, 1) := by decide +kernel
theorem dX4_finished_10 : decode cX4_finished 10 = .ok (.ldc 236, 2) := by decide +kernel
theorem dX4_finished_12 : decode cX4_finished 12 = .ok (.invokespecial 165, 3) := by decide +kernel
theorem dX4_finished_15 : decode cX4_finished 15 = .ok (.athrow, 1) := by decide +kernel
theorem dX4_finished_16 : decode cX4_finished 16 = .ok (.iload_n 1, 1) := by decide +kernel
theorem dX4_finished_17 : decode cX4_finished 17 = .ok (.bipush (-3), 2) := by decide +kernel
theorem dX4_finished_19 : decode cX4_finished 19 = .ok (.if_icmp .ne 13, 3) := by decide +kernel
theorem dX4_finished_22 : decode cX4_finished 22 = .ok (.new 63, 3) := by decide +kernel
theorem dX4_finished_25 : decode cX4_finished 25 = .ok (.dup, 1) := by decide +kernel
theorem dX4_finished_26 : decode cX4_finished 26 = .ok (.ldc 238, 2) := by decide +kernel
theorem dX4_finished_28 : decode cX4_finished 28 = .ok (.invokespecial 67, 3) := by decide +kernel
theorem dX4_finished_31 : decode cX4_finished 31 = .ok (.athrow, 1) := by decide +kernel
theorem dX4_finished_32 : decode cX4_finished 32 = .ok (.aload_n 0, 1) := by decide +kernel
theorem dX4_finished_33 : decode cX4_finished 33 = .ok (.getfield 22, 3) := by decide +kernel
theorem dX4_finished_36 : decode cX4_finished 36 = .ok (.invokevirtual 240, 3) := by decide +kernel
theorem dX4_finished_39 : decode cX4_finished 39 = .ok (.iload_n 1, 1) := by decide +kernel
theorem dX4_finished_40 : decode cX4_finished 40 = .ok (.ireturn, 1) := by decide +kernel
set_option maxRecDepth 20000 in
theorem ggX4_moves_X3_hasInput : GoodIn wsX4_moves wsX3_hasInput := goodIn_r _ [9, 10, 11, 12, 8, 13, 14, 15, 16, 17, 18, 19, 120, 121, 122, 123, 124, 125, 126, 127, 128, 129, 130, 131, 132, 133] (by decide +kernel) (by decide +kernel)
set_option maxRecDepth 20000 in
theorem gX4_moves_X3_hasInput : GoodIn wsX4_moves (wsV RX4 199 RX3 yX3_hasInput wsX3_hasInput) := goodIn_app (goodIn_of _ (by decide +kernel)) ggX4_moves_X3_hasInput
set_option maxRecDepth 20000 in
theorem ggX4_moves_X3_hasOutput : GoodIn wsX4_moves wsX3_hasOutput := goodIn_r _ [23, 24, 15, 16, 17, 8, 18, 19, 120, 121, 122, 123, 124, 125, 126, 127, 128, 129, 130, 131, 132, 133] (by decide +kernel) (by decide +kernel)
set_option maxRecDepth 20000 in
theorem gX4_moves_X3_hasOutput : GoodIn wsX4_moves (wsV RX4 196 RX3 yX3_hasOutput wsX3_hasOutput) := goodIn_app (goodIn_of _ (by decide +kernel)) ggX4_moves_X3_hasOutput
set_option maxRecDepth 20000 in
theorem ggX4_moves_X3_callAtInput : GoodIn wsX4_moves wsX3_callAtInput := goodIn_r _ [28, 29, 30, 120, 121, 122, 123, 124, 125, 126, 127, 128, 129, 130, 131, 132, 133] (by decide +kernel) (by decide +kernel)
set_option maxRecDepth 20000 in
theorem gX4_moves_X3_callAtInput : GoodIn wsX4_moves (wsV RX4 207 RX3 yX3_callAtInput wsX3_callAtInput) := goodIn_app (goodIn_of _ (by decide +kernel)) ggX4_moves_X3_callAtInput
set_option maxRecDepth 20000 in
theorem ggX4_moves_X3_callAtOutput : GoodIn wsX4_moves wsX3_callAtOutput := goodIn_r _ [34, 29, 35, 120, 121, 122, 123, 124, 125, 126, 127, 128, 129, 130, 131, 132, 133] (by decide +kernel) (by decide +kernel)
set_option maxRecDepth 20000 in
theorem gX4_moves_X3_callAtOutput : GoodIn wsX4_moves (wsV RX4 204 RX3 yX3_callAtOutput wsX3_callAtOutput) := goodIn_app (goodIn_of _ (by decide +kernel)) ggX4_moves_X3_callAtOutput
set_option maxRecDepth 20000 in
theorem ggX4_moves_X3_boardOf : GoodIn wsX4_moves wsX3_boardOf := goodIn_r _ [39, 19, 120, 121, 122, 123, 124, 125, 126, 127, 128, 129, 130, 131, 132, 133] (by decide +kernel) (by decide +kernel)
set_option maxRecDepth 20000 in
theorem gX4_moves_X3_boardOf : GoodIn wsX4_moves (wsV RX4 243 RX3 yX3_boardOf wsX3_boardOf) := goodIn_app (goodIn_of _ (by decide +kernel)) ggX4_moves_X3_boardOf
set_option maxRecDepth 20000 in
theorem ggX4_moves_X1_forNewCall : GoodIn wsX4_moves wsX1_forNewCall := goodIn_r _ [44, 45, 46, 47, 48, 49, 50, 51, 52, 53, 54, 8, 55, 56, 57, 58, 59, 60, 43, 61, 62, 63, 64, 65, 66, 67, 68, 69, 70, 71, 37, 38, 39, 19, 72, 73, 74, 75, 35, 76, 77, 78, 79, 80, 81, 82, 83, 84, 85, 86, 87, 88, 89, 90, 91, 92, 93, 94, 95, 96, 97, 98, 99, 100, 101, 102, 103, 104, 105, 106, 107, 108, 109, 110, 111, 112, 120, 121, 122, 123, 124, 125, 126, 127, 128, 129, 130, 131, 132, 133, 134, 135, 136, 137, 138, 139, 140, 141, 142, 143, 144, 145, 146] (by decide +kernel) (by decide +kernel)
set_option maxRecDepth 20000 in
theorem gX4_moves_X1_forNewCall : GoodIn wsX4_moves (wsV RX4 246 RX1 yX1_forNewCall wsX1_forNewCall) := goodIn_app (goodIn_of _ (by decide +kernel)) ggX4_moves_X1_forNewCall
theorem dX4_moves_0 : decode cX4_moves 0 = .ok (.aload_n 0, 1) := by decide +kernel
theorem dX4_moves_1 : decode cX4_moves 1 = .ok (.getfield 10, 3) := by decide +kernel
theorem dX4_moves_4 : decode cX4_moves 4 = .ok (.iload_n 1, 1) := by decide +kernel
theorem dX4_moves_5 : decode cX4_moves 5 = .ok (.invokevirtual 199, 3) := by decide +kernel
theorem dX4_moves_8 : decode cX4_moves 8 = .ok (.ifCond .eq 14, 3) := by decide +kernel
theorem dX4_moves_11 : decode cX4_moves 11 = .ok (.aload_n 0, 1) := by decide +kernel
theorem dX4_moves_12 : decode cX4_moves 12 = .ok (.getfield 10, 3) := by decide +kernel
theorem dX4_moves_15 : decode cX4_moves 15 = .ok (.iload_n 2, 1) := by decide +kernel
theorem dX4_moves_16 : decode cX4_moves 16 = .ok (.invokevirtual 196, 3) := by decide +kernel
theorem dX4_moves_19 : decode cX4_moves 19 = .ok (.ifCond .ne 13, 3) := by decide +kernel
theorem dX4_moves_22 : decode cX4_moves 22 = .ok (.new 161, 3) := by decide +kernel
theorem dX4_moves_25 : decode cX4_moves 25 = .ok (.dup, 1) := by decide +kernel
theorem dX4_moves_26 : decode cX4_moves 26 = .ok (.ldc 202, 2) := by decide +kernel
theorem dX4_moves_28 : decode cX4_moves 28 = .ok (.invokespecial 165, 3) := by decide +kernel
theorem dX4_moves_31 : decode cX4_moves 31 = .ok (.athrow, 1) := by decide +kernel
theorem dX4_moves_32 : decode cX4_moves 32 = .ok (.aload_n 0, 1) := by decide +kernel
theorem dX4_moves_33 : decode cX4_moves 33 = .ok (.getfield 10, 3) := by decide +kernel
theorem dX4_moves_36 : decode cX4_moves 36 = .ok (.iload_n 1, 1) := by decide +kernel
theorem dX4_moves_37 : decode cX4_moves 37 = .ok (.invokevirtual 207, 3) := by decide +kernel
theorem dX4_moves_40 : decode cX4_moves 40 = .ok (.iconst (-1), 1) := by decide +kernel
theorem dX4_moves_41 : decode cX4_moves 41 = .ok (.if_icmp .ne 15, 3) := by decide +kernel
theorem dX4_moves_44 : decode cX4_moves 44 = .ok (.aload_n 0, 1) := by decide +kernel
theorem dX4_moves_45 : decode cX4_moves 45 = .ok (.getfield 10, 3) := by decide +kernel
theorem dX4_moves_48 : decode cX4_moves 48 = .ok (.iload_n 2, 1) := by decide +kernel
theorem dX4_moves_49 : decode cX4_moves 49 = .ok (.invokevirtual 204, 3) := by decide +kernel
theorem dX4_moves_52 : decode cX4_moves 52 = .ok (.iconst (-1), 1) := by decide +kernel
theorem dX4_moves_53 : decode cX4_moves 53 = .ok (.if_icmp .eq 5, 3) := by decide +kernel
theorem dX4_moves_56 : decode cX4_moves 56 = .ok (.iconst (-1), 1) := by decide +kernel
theorem dX4_moves_57 : decode cX4_moves 57 = .ok (.ireturn, 1) := by decide +kernel
theorem dX4_moves_58 : decode cX4_moves 58 = .ok (.aload_n 0, 1) := by decide +kernel
theorem dX4_moves_59 : decode cX4_moves 59 = .ok (.getfield 37, 3) := by decide +kernel
theorem dX4_moves_62 : decode cX4_moves 62 = .ok (.aload_n 0, 1) := by decide +kernel
theorem dX4_moves_63 : decode cX4_moves 63 = .ok (.getfield 10, 3) := by decide +kernel
theorem dX4_moves_66 : decode cX4_moves 66 = .ok (.aload_n 0, 1) := by decide +kernel
theorem dX4_moves_67 : decode cX4_moves 67 = .ok (.getfield 10, 3) := by decide +kernel
theorem dX4_moves_70 : decode cX4_moves 70 = .ok (.iload_n 1, 1) := by decide +kernel
theorem dX4_moves_71 : decode cX4_moves 71 = .ok (.invokevirtual 243, 3) := by decide +kernel
theorem dX4_moves_74 : decode cX4_moves 74 = .ok (.aload_n 0, 1) := by decide +kernel
theorem dX4_moves_75 : decode cX4_moves 75 = .ok (.getfield 10, 3) := by decide +kernel
theorem dX4_moves_78 : decode cX4_moves 78 = .ok (.iload_n 2, 1) := by decide +kernel
theorem dX4_moves_79 : decode cX4_moves 79 = .ok (.invokevirtual 243, 3) := by decide +kernel
theorem dX4_moves_82 : decode cX4_moves 82 = .ok (.invokevirtual 246, 3) := by decide +kernel
theorem dX4_moves_85 : decode cX4_moves 85 = .ok (.ireturn, 1) := by decide +kernel
set_option maxRecDepth 20000 in
theorem ggX4_open_X4_openBetween : GoodIn wsX4_open wsX4_openBetween := goodIn_r _ [10, 3, 11, 12, 13, 14, 15, 16, 17, 18, 19, 20, 21, 22, 23, 24, 25, 26, 27, 28, 29, 30, 31, 32, 33, 34, 35, 36, 37, 38, 39, 40, 41, 42, 43, 44, 45, 46, 47, 48, 49, 50, 51, 52, 53, 54, 55, 56, 57, 58, 59, 60, 61, 62, 63, 64, 65, 66, 67, 68, 69, 70, 71, 72, 73, 74, 75, 76, 77, 78, 79, 80, 81, 82, 83, 84, 85, 86, 87, 88, 89, 90, 91, 92, 93, 94, 95, 96, 97, 98, 99, 100, 101, 102, 103, 104, 105, 106, 107, 108, 109, 110, 111, 112, 113, 114, 115, 116, 117, 118, 119, 120, 121, 122, 123, 124, 125, 126, 127, 128, 129, 130, 131, 132, 133, 134, 135, 136, 137, 138, 139, 140, 141, 142] (by decide +kernel) (by decide +kernel)
set_option maxRecDepth 20000 in
theorem gX4_open_X4_openBetween : GoodIn wsX4_open (wsV RX4 252 RX4 yX4_openBetween wsX4_openBetween) := goodIn_app (goodIn_of _ (by decide +kernel)) ggX4_open_X4_openBetween
theorem dX4_open_0 : decode cX4_open 0 = .ok (.iload_n 1, 1) := by decide +kernel
theorem dX4_open_1 : decode cX4_open 1 = .ok (.ifCond .lt 8, 3) := by decide +kernel
theorem dX4_open_4 : decode cX4_open 4 = .ok (.iload_n 1, 1) := by decide +kernel
theorem dX4_open_5 : decode cX4_open 5 = .ok (.iconst 3, 1) := by decide +kernel
theorem dX4_open_6 : decode cX4_open 6 = .ok (.if_icmp .le 13, 3) := by decide +kernel
theorem dX4_open_9 : decode cX4_open 9 = .ok (.new 52, 3) := by decide +kernel
theorem dX4_open_12 : decode cX4_open 12 = .ok (.dup, 1) := by decide +kernel
theorem dX4_open_13 : decode cX4_open 13 = .ok (.ldc 250, 2) := by decide +kernel
theorem dX4_open_15 : decode cX4_open 15 = .ok (.invokespecial 56, 3) := by decide +kernel
theorem dX4_open_18 : decode cX4_open 18 = .ok (.athrow, 1) := by decide +kernel
theorem dX4_open_19 : decode cX4_open 19 = .ok (.iconst 0, 1) := by decide +kernel
theorem dX4_open_20 : decode cX4_open 20 = .ok (.istore_n 2, 1) := by decide +kernel
theorem dX4_open_21 : decode cX4_open 21 = .ok (.iconst 0, 1) := by decide +kernel
theorem dX4_open_22 : decode cX4_open 22 = .ok (.istore_n 3, 1) := by decide +kernel
theorem dX4_open_23 : decode cX4_open 23 = .ok (.iload_n 3, 1) := by decide +kernel
theorem dX4_open_24 : decode cX4_open 24 = .ok (.aload_n 0, 1) := by decide +kernel
theorem dX4_open_25 : decode cX4_open 25 = .ok (.getfield 10, 3) := by decide +kernel
theorem dX4_open_28 : decode cX4_open 28 = .ok (.getfield 134, 3) := by decide +kernel
theorem dX4_open_31 : decode cX4_open 31 = .ok (.if_icmp .ge 41, 3) := by decide +kernel
theorem dX4_open_34 : decode cX4_open 34 = .ok (.iconst 0, 1) := by decide +kernel
theorem dX4_open_35 : decode cX4_open 35 = .ok (.istore 4, 2) := by decide +kernel
theorem dX4_open_37 : decode cX4_open 37 = .ok (.iload 4, 2) := by decide +kernel
theorem dX4_open_39 : decode cX4_open 39 = .ok (.aload_n 0, 1) := by decide +kernel
theorem dX4_open_40 : decode cX4_open 40 = .ok (.getfield 10, 3) := by decide +kernel
theorem dX4_open_43 : decode cX4_open 43 = .ok (.getfield 137, 3) := by decide +kernel
theorem dX4_open_46 : decode cX4_open 46 = .ok (.if_icmp .ge 20, 3) := by decide +kernel
theorem dX4_open_49 : decode cX4_open 49 = .ok (.iload_n 2, 1) := by decide +kernel
theorem dX4_open_50 : decode cX4_open 50 = .ok (.aload_n 0, 1) := by decide +kernel
theorem dX4_open_51 : decode cX4_open 51 = .ok (.iload_n 3, 1) := by decide +kernel
theorem dX4_open_52 : decode cX4_open 52 = .ok (.iload 4, 2) := by decide +kernel
theorem dX4_open_54 : decode cX4_open 54 = .ok (.iload_n 1, 1) := by decide +kernel
theorem dX4_open_55 : decode cX4_open 55 = .ok (.invokevirtual 252, 3) := by decide +kernel
theorem dX4_open_58 : decode cX4_open 58 = .ok (.iadd, 1) := by decide +kernel
theorem dX4_open_59 : decode cX4_open 59 = .ok (.istore_n 2, 1) := by decide +kernel
theorem dX4_open_60 : decode cX4_open 60 = .ok (.iinc 4 1, 3) := by decide +kernel
theorem dX4_open_63 : decode cX4_open 63 = .ok (.goto (-26), 3) := by decide +kernel
theorem dX4_open_66 : decode cX4_open 66 = .ok (.iinc 3 1, 3) := by decide +kernel
theorem dX4_open_69 : decode cX4_open 69 = .ok (.goto (-46), 3) := by decide +kernel
theorem dX4_open_72 : decode cX4_open 72 = .ok (.iload_n 2, 1) := by decide +kernel
theorem dX4_open_73 : decode cX4_open 73 = .ok (.ireturn, 1) := by decide +kernel
set_option maxRecDepth 20000 in
theorem ggX4_openBetween_X3_freeInputs : GoodIn wsX4_openBetween wsX3_freeInputs := goodIn_r _ [7, 8, 9, 10, 11, 6, 12, 13, 14, 107, 108, 109, 110, 111, 112, 113, 114, 115, 116, 117, 118, 119, 120] (by decide +kernel) (by decide +kernel)
set_option maxRecDepth 20000 in
theorem gX4_openBetween_X3_freeInputs : GoodIn wsX4_openBetween (wsV RX4 256 RX3 yX3_freeInputs wsX3_freeInputs) := goodIn_app (goodIn_of _ (by decide +kernel)) ggX4_openBetween_X3_freeInputs
set_option maxRecDepth 20000 in
theorem ggX4_openBetween_X3_freeOutputs : GoodIn wsX4_openBetween wsX3_freeOutputs := goodIn_r _ [18, 8, 19, 20, 21, 6, 22, 13, 23, 107, 108, 109, 110, 111, 112, 113, 114, 115, 116, 117, 118, 119, 120] (by decide +kernel) (by decide +kernel)
set_option maxRecDepth 20000 in
theorem gX4_openBetween_X3_freeOutputs : GoodIn wsX4_openBetween (wsV RX4 259 RX3 yX3_freeOutputs wsX3_freeOutputs) := goodIn_app (goodIn_of _ (by decide +kernel)) ggX4_openBetween_X3_freeOutputs
set_option maxRecDepth 20000 in
theorem ggX4_openBetween_X1_forNewCall : GoodIn wsX4_openBetween wsX1_forNewCall := goodIn_r _ [28, 29, 30, 31, 32, 33, 34, 35, 36, 37, 38, 6, 39, 40, 41, 42, 43, 44, 27, 45, 46, 47, 48, 49, 50, 51, 52, 53, 54, 55, 56, 57, 58, 8, 59, 60, 61, 62, 23, 63, 64, 65, 66, 67, 68, 69, 70, 71, 72, 73, 74, 75, 76, 77, 78, 79, 80, 81, 82, 83, 84, 85, 86, 87, 88, 89, 90, 91, 92, 93, 94, 95, 96, 97, 98, 99, 107, 108, 109, 110, 111, 112, 113, 114, 115, 116, 117, 118, 119, 120, 121, 122, 123, 124, 125, 126, 127, 128, 129, 130, 131, 132, 133] (by decide +kernel) (by decide +kernel)
set_option maxRecDepth 20000 in
theorem gX4_openBetween_X1_forNewCall : GoodIn wsX4_openBetween (wsV RX4 246 RX1 yX1_forNewCall wsX1_forNewCall) := goodIn_app (goodIn_of _ (by decide +kernel)) ggX4_openBetween_X1_forNewCall
theorem dX4_openBetween_0 : decode cX4_openBetween 0 = .ok (.aload_n 0, 1) := by decide +kernel
theorem dX4_openBetween_1 : decode cX4_openBetween 1 = .ok (.getfield 10, 3) := by decide +kernel
theorem dX4_openBetween_4 : decode cX4_openBetween 4 = .ok (.iload_n 1, 1) := by decide +kernel
theorem dX4_openBetween_5 : decode cX4_openBetween 5 = .ok (.invokevirtual 256, 3) := by decide +kernel
theorem dX4_openBetween_8 : decode cX4_openBetween 8 = .ok (.aload_n 0, 1) := by decide +kernel
theorem dX4_openBetween_9 : decode cX4_openBetween 9 = .ok (.getfield 10, 3) := by decide +kernel
theorem dX4_openBetween_12 : decode cX4_openBetween 12 = .ok (.iload_n 2, 1) := by decide +kernel
theorem dX4_openBetween_13 : decode cX4_openBetween 13 = .ok (.invokevirtual 259, 3) := by decide +kernel
theorem dX4_openBetween_16 : decode cX4_openBetween 16 = .ok (.imul, 1) := by decide +kernel
theorem dX4_openBetween_17 : decode cX4_openBetween 17 = .ok (.istore 4, 2) := by decide +kernel
theorem dX4_openBetween_19 : decode cX4_openBetween 19 = .ok (.iload 4, 2) := by decide +kernel
theorem dX4_openBetween_21 : decode cX4_openBetween 21 = .ok (.ifCond .ne 5, 3) := by decide +kernel
theorem dX4_openBetween_24 : decode cX4_openBetween 24 = .ok (.iconst 0, 1) := by decide +kernel
theorem dX4_openBetween_25 : decode cX4_openBetween 25 = .ok (.ireturn, 1) := by decide +kernel
theorem dX4_openBetween_26 : decode cX4_openBetween 26 = .ok (.aload_n 0, 1) := by decide +kernel
theorem dX4_openBetween_27 : decode cX4_openBetween 27 = .ok (.getfield 37, 3) := by decide +kernel
theorem dX4_openBetween_30 : decode cX4_openBetween 30 = .ok (.aload_n 0, 1) := by decide +kernel
theorem dX4_openBetween_31 : decode cX4_openBetween 31 = .ok (.getfield 10, 3) := by decide +kernel
theorem dX4_openBetween_34 : decode cX4_openBetween 34 = .ok (.iload_n 1, 1) := by decide +kernel
theorem dX4_openBetween_35 : decode cX4_openBetween 35 = .ok (.iload_n 2, 1) := by decide +kernel
theorem dX4_openBetween_36 : decode cX4_openBetween 36 = .ok (.invokevirtual 246, 3) := by decide +kernel
theorem dX4_openBetween_39 : decode cX4_openBetween 39 = .ok (.istore 5, 2) := by decide +kernel
theorem dX4_openBetween_41 : decode cX4_openBetween 41 = .ok (.iload 5, 2) := by decide +kernel
theorem dX4_openBetween_43 : decode cX4_openBetween 43 = .ok (.iconst (-1), 1) := by decide +kernel
theorem dX4_openBetween_44 : decode cX4_openBetween 44 = .ok (.if_icmp .eq 14, 3) := by decide +kernel
theorem dX4_openBetween_47 : decode cX4_openBetween 47 = .ok (.iload 5, 2) := by decide +kernel
theorem dX4_openBetween_49 : decode cX4_openBetween 49 = .ok (.iload_n 3, 1) := by decide +kernel
theorem dX4_openBetween_50 : decode cX4_openBetween 50 = .ok (.if_icmp .gt 8, 3) := by decide +kernel
theorem dX4_openBetween_53 : decode cX4_openBetween 53 = .ok (.iload 4, 2) := by decide +kernel
theorem dX4_openBetween_55 : decode cX4_openBetween 55 = .ok (.goto 4, 3) := by decide +kernel
theorem dX4_openBetween_58 : decode cX4_openBetween 58 = .ok (.iconst 0, 1) := by decide +kernel
theorem dX4_openBetween_59 : decode cX4_openBetween 59 = .ok (.ireturn, 1) := by decide +kernel
set_option maxRecDepth 20000 in
theorem ggX4_fewest_X1_wouldDo : GoodIn wsX4_fewest wsX1_wouldDo := goodIn_r _ [8, 9, 10, 11, 7, 12, 13, 14, 15, 16, 17, 18, 19, 20, 21, 22, 23, 24, 25, 26, 27, 28, 29, 30, 31, 32, 33, 34, 35, 36, 37, 38, 39, 40, 41, 42, 43, 44, 45, 46, 47, 48, 49, 50, 51, 52, 53, 54, 62, 63, 64, 65, 66, 67, 68, 69, 70, 71, 72, 73, 74, 75, 76, 77, 78, 79, 80, 81, 82, 83, 84, 85, 86, 87, 88] (by decide +kernel) (by decide +kernel)
set_option maxRecDepth 20000 in
theorem gX4_fewest_X1_wouldDo : GoodIn wsX4_fewest (wsV RX4 262 RX1 yX1_wouldDo wsX1_wouldDo) := goodIn_app (goodIn_of _ (by decide +kernel)) ggX4_fewest_X1_wouldDo
theorem dX4_fewest_0 : decode cX4_fewest 0 = .ok (.iconst 0, 1) := by decide +kernel
theorem dX4_fewest_1 : decode cX4_fewest 1 = .ok (.istore_n 1, 1) := by decide +kernel
theorem dX4_fewest_2 : decode cX4_fewest 2 = .ok (.iload_n 1, 1) := by decide +kernel
theorem dX4_fewest_3 : decode cX4_fewest 3 = .ok (.aload_n 0, 1) := by decide +kernel
theorem dX4_fewest_4 : decode cX4_fewest 4 = .ok (.getfield 10, 3) := by decide +kernel
theorem dX4_fewest_7 : decode cX4_fewest 7 = .ok (.getfield 136, 3) := by decide +kernel
theorem dX4_fewest_10 : decode cX4_fewest 10 = .ok (.if_icmp .ge 26, 3) := by decide +kernel
theorem dX4_fewest_13 : decode cX4_fewest 13 = .ok (.aload_n 0, 1) := by decide +kernel
theorem dX4_fewest_14 : decode cX4_fewest 14 = .ok (.getfield 37, 3) := by decide +kernel
theorem dX4_fewest_17 : decode cX4_fewest 17 = .ok (.aload_n 0, 1) := by decide +kernel
theorem dX4_fewest_18 : decode cX4_fewest 18 = .ok (.getfield 10, 3) := by decide +kernel
theorem dX4_fewest_21 : decode cX4_fewest 21 = .ok (.iload_n 1, 1) := by decide +kernel
theorem dX4_fewest_22 : decode cX4_fewest 22 = .ok (.invokevirtual 262, 3) := by decide +kernel
theorem dX4_fewest_25 : decode cX4_fewest 25 = .ok (.ifCond .eq 5, 3) := by decide +kernel
theorem dX4_fewest_28 : decode cX4_fewest 28 = .ok (.iload_n 1, 1) := by decide +kernel
theorem dX4_fewest_29 : decode cX4_fewest 29 = .ok (.ireturn, 1) := by decide +kernel
theorem dX4_fewest_30 : decode cX4_fewest 30 = .ok (.iinc 1 1, 3) := by decide +kernel
theorem dX4_fewest_33 : decode cX4_fewest 33 = .ok (.goto (-31), 3) := by decide +kernel
theorem dX4_fewest_36 : decode cX4_fewest 36 = .ok (.aload_n 0, 1) := by decide +kernel
theorem dX4_fewest_37 : decode cX4_fewest 37 = .ok (.getfield 10, 3) := by decide +kernel
theorem dX4_fewest_40 : decode cX4_fewest 40 = .ok (.getfield 136, 3) := by decide +kernel
theorem dX4_fewest_43 : decode cX4_fewest 43 = .ok (.ireturn, 1) := by decide +kernel
set_option maxRecDepth 20000 in
theorem ggX4_weakest_X3_isBroken : GoodIn wsX4_weakest wsX3_isBroken := goodIn_r _ [8, 9, 93, 94, 95, 96, 97, 98, 99, 100, 101, 102, 103, 104, 105, 106] (by decide +kernel) (by decide +kernel)
set_option maxRecDepth 20000 in
theorem gX4_weakest_X3_isBroken : GoodIn wsX4_weakest (wsV RX4 123 RX3 yX3_isBroken wsX3_isBroken) := goodIn_app (goodIn_of _ (by decide +kernel)) ggX4_weakest_X3_isBroken
set_option maxRecDepth 20000 in
theorem ggX4_weakest_X1_forLosing : GoodIn wsX4_weakest wsX1_forLosing := goodIn_r _ [14, 15, 16, 17, 18, 7, 19, 20, 9, 21, 22, 23, 13, 24, 25, 26, 27, 28, 29, 30, 31, 32, 33, 34, 35, 36, 37, 38, 39, 40, 41, 42, 43, 44, 45, 46, 47, 48, 49, 50, 51, 52, 53, 54, 55, 56, 57, 58, 59, 60, 61, 62, 63, 64, 65, 66, 67, 68, 69, 70, 71, 72, 73, 74, 75, 76, 77, 78, 79, 80, 81, 82, 83, 84, 85, 107, 108, 109, 110, 111, 112, 113, 114, 115, 116, 117, 118, 119, 93, 94, 95, 96, 97, 98, 99, 100, 101, 102, 103, 104, 105, 106] (by decide +kernel) (by decide +kernel)
set_option maxRecDepth 20000 in
theorem gX4_weakest_X1_forLosing : GoodIn wsX4_weakest (wsV RX4 266 RX1 yX1_forLosing wsX1_forLosing) := goodIn_app (goodIn_of _ (by decide +kernel)) ggX4_weakest_X1_forLosing
theorem dX4_weakest_0 : decode cX4_weakest 0 = .ok (.iconst (-1), 1) := by decide +kernel
theorem dX4_weakest_1 : decode cX4_weakest 1 = .ok (.istore_n 1, 1) := by decide +kernel
theorem dX4_weakest_2 : decode cX4_weakest 2 = .ok (.iconst (-1), 1) := by decide +kernel
theorem dX4_weakest_3 : decode cX4_weakest 3 = .ok (.istore_n 2, 1) := by decide +kernel
theorem dX4_weakest_4 : decode cX4_weakest 4 = .ok (.iconst 0, 1) := by decide +kernel
theorem dX4_weakest_5 : decode cX4_weakest 5 = .ok (.istore_n 3, 1) := by decide +kernel
theorem dX4_weakest_6 : decode cX4_weakest 6 = .ok (.iload_n 3, 1) := by decide +kernel
theorem dX4_weakest_7 : decode cX4_weakest 7 = .ok (.aload_n 0, 1) := by decide +kernel
theorem dX4_weakest_8 : decode cX4_weakest 8 = .ok (.getfield 10, 3) := by decide +kernel
theorem dX4_weakest_11 : decode cX4_weakest 11 = .ok (.getfield 136, 3) := by decide +kernel
theorem dX4_weakest_14 : decode cX4_weakest 14 = .ok (.if_icmp .ge 60, 3) := by decide +kernel
theorem dX4_weakest_17 : decode cX4_weakest 17 = .ok (.aload_n 0, 1) := by decide +kernel
theorem dX4_weakest_18 : decode cX4_weakest 18 = .ok (.getfield 10, 3) := by decide +kernel
theorem dX4_weakest_21 : decode cX4_weakest 21 = .ok (.iload_n 3, 1) := by decide +kernel
theorem dX4_weakest_22 : decode cX4_weakest 22 = .ok (.invokevirtual 123, 3) := by decide +kernel
theorem dX4_weakest_25 : decode cX4_weakest 25 = .ok (.ifCond .eq 7, 3) := by decide +kernel
theorem dX4_weakest_28 : decode cX4_weakest 28 = .ok (.iconst (-1), 1) := by decide +kernel
theorem dX4_weakest_29 : decode cX4_weakest 29 = .ok (.goto 15, 3) := by decide +kernel
theorem dX4_weakest_32 : decode cX4_weakest 32 = .ok (.aload_n 0, 1) := by decide +kernel
theorem dX4_weakest_33 : decode cX4_weakest 33 = .ok (.getfield 37, 3) := by decide +kernel
theorem dX4_weakest_36 : decode cX4_weakest 36 = .ok (.aload_n 0, 1) := by decide +kernel
theorem dX4_weakest_37 : decode cX4_weakest 37 = .ok (.getfield 10, 3) := by decide +kernel
theorem dX4_weakest_40 : decode cX4_weakest 40 = .ok (.iload_n 3, 1) := by decide +kernel
theorem dX4_weakest_41 : decode cX4_weakest 41 = .ok (.invokevirtual 266, 3) := by decide +kernel
theorem dX4_weakest_44 : decode cX4_weakest 44 = .ok (.istore 4, 2) := by decide +kernel
theorem dX4_weakest_46 : decode cX4_weakest 46 = .ok (.iload 4, 2) := by decide +kernel
theorem dX4_weakest_48 : decode cX4_weakest 48 = .ok (.iconst (-1), 1) := by decide +kernel
theorem dX4_weakest_49 : decode cX4_weakest 49 = .ok (.if_icmp .eq 19, 3) := by decide +kernel
theorem dX4_weakest_52 : decode cX4_weakest 52 = .ok (.iload_n 1, 1) := by decide +kernel
theorem dX4_weakest_53 : decode cX4_weakest 53 = .ok (.iconst (-1), 1) := by decide +kernel
theorem dX4_weakest_54 : decode cX4_weakest 54 = .ok (.if_icmp .eq 9, 3) := by decide +kernel
theorem dX4_weakest_57 : decode cX4_weakest 57 = .ok (.iload 4, 2) := by decide +kernel
theorem dX4_weakest_59 : decode cX4_weakest 59 = .ok (.iload_n 1, 1) := by decide +kernel
theorem dX4_weakest_60 : decode cX4_weakest 60 = .ok (.if_icmp .ge 8, 3) := by decide +kernel
theorem dX4_weakest_63 : decode cX4_weakest 63 = .ok (.iload 4, 2) := by decide +kernel
theorem dX4_weakest_65 : decode cX4_weakest 65 = .ok (.istore_n 1, 1) := by decide +kernel
theorem dX4_weakest_66 : decode cX4_weakest 66 = .ok (.iload_n 3, 1) := by decide +kernel
theorem dX4_weakest_67 : decode cX4_weakest 67 = .ok (.istore_n 2, 1) := by decide +kernel
theorem dX4_weakest_68 : decode cX4_weakest 68 = .ok (.iinc 3 1, 3) := by decide +kernel
theorem dX4_weakest_71 : decode cX4_weakest 71 = .ok (.goto (-65), 3) := by decide +kernel
theorem dX4_weakest_74 : decode cX4_weakest 74 = .ok (.iload_n 2, 1) := by decide +kernel
theorem dX4_weakest_75 : decode cX4_weakest 75 = .ok (.iconst (-1), 1) := by decide +kernel
theorem dX4_weakest_76 : decode cX4_weakest 76 = .ok (.if_icmp .ne 7, 3) := by decide +kernel
theorem dX4_weakest_79 : decode cX4_weakest 79 = .ok (.iconst (-1), 1) := by decide +kernel
theorem dX4_weakest_80 : decode cX4_weakest 80 = .ok (.goto 9, 3) := by decide +kernel
theorem dX4_weakest_83 : decode cX4_weakest 83 = .ok (.bipush 10, 2) := by decide +kernel
theorem dX4_weakest_85 : decode cX4_weakest 85 = .ok (.iload_n 1, 1) := by decide +kernel
theorem dX4_weakest_86 : decode cX4_weakest 86 = .ok (.imul, 1) := by decide +kernel
theorem dX4_weakest_87 : decode cX4_weakest 87 = .ok (.iload_n 2, 1) := by decide +kernel
theorem dX4_weakest_88 : decode cX4_weakest 88 = .ok (.iadd, 1) := by decide +kernel
theorem dX4_weakest_89 : decode cX4_weakest 89 = .ok (.ireturn, 1) := by decide +kernel
set_option maxRecDepth 20000 in
theorem ggX4_runScript_X4_afterGroups : GoodIn wsX4_runScript wsX4_afterGroups := goodIn_r _ [9, 5] (by decide +kernel) (by decide +kernel)
set_option maxRecDepth 20000 in
theorem gX4_runScript_X4_afterGroups : GoodIn wsX4_runScript (va_wsS RX4 272 yX4_afterGroups wsX4_afterGroups) := goodIn_app (goodIn_of _ (by decide +kernel)) ggX4_runScript_X4_afterGroups
set_option maxRecDepth 20000 in
theorem ggX4_runScript_X3_become : GoodIn wsX4_runScript wsX3_become := goodIn_r _ [14, 15, 16, 17, 18, 19, 20, 21, 22, 23, 24, 25, 26, 27, 28, 29, 30, 31, 32, 205, 206, 207, 208, 209, 210, 211, 212, 213, 214, 215, 216, 217, 218] (by decide +kernel) (by decide +kernel)
set_option maxRecDepth 20000 in
theorem gX4_runScript_X3_become : GoodIn wsX4_runScript (wsV RX4 278 RX3 yX3_become wsX3_become) := goodIn_app (goodIn_of _ (by decide +kernel)) ggX4_runScript_X3_become
set_option maxRecDepth 20000 in
theorem ggX4_runScript_X4_succeeds : GoodIn wsX4_runScript wsX4_succeeds := goodIn_r _ [36, 3, 37, 38, 39, 40, 41, 42, 13, 43, 22, 23, 28, 29, 44, 30, 45, 46, 47, 48, 49, 50, 51, 52, 15, 53, 54, 55, 56, 16, 57, 58, 59, 60, 18, 61, 62, 63, 64, 65, 66, 67, 68, 69, 70, 71, 72, 73, 74, 75, 76, 77, 78, 79, 80, 81, 82, 83, 84, 85, 86, 87, 88, 17, 20, 89, 90, 91, 92, 93, 94, 95, 96, 97, 98, 99, 100, 101, 102, 103, 104, 105, 106, 107, 108, 109, 110, 111, 112, 113, 114, 115, 116, 117, 118, 119, 120, 121, 122, 123, 124, 125, 126, 127, 25, 26, 27, 128, 129, 130, 131, 132, 133, 134, 135, 136, 137, 138, 139, 140, 141, 142, 143, 21, 31, 32, 144, 145, 146, 147, 148, 149, 150, 151, 152, 153, 154, 155, 156, 157, 158, 159, 160, 161, 162, 163, 164, 165, 166, 167, 168, 169, 170, 171, 172, 173, 174, 175, 176, 177, 178, 179, 180, 181, 182, 183, 184, 185, 186, 187, 19, 188, 189, 190, 191, 192, 193, 194, 195, 196, 197, 198, 199, 200, 201, 202, 203, 204, 205, 206, 207, 208, 209, 210, 211, 212, 213, 214, 215, 216, 217, 218, 219, 220, 221, 222, 223, 224, 225, 226, 227, 228, 229, 230, 231] (by decide +kernel) (by decide +kernel)
set_option maxRecDepth 20000 in
theorem gX4_runScript_X4_succeeds : GoodIn wsX4_runScript (wsV RX4 283 RX4 yX4_succeeds wsX4_succeeds) := goodIn_app (goodIn_of _ (by decide +kernel)) ggX4_runScript_X4_succeeds
theorem dX4_runScript_0 : decode cX4_runScript 0 = .ok (.iload_n 1, 1) := by decide +kernel
theorem dX4_runScript_1 : decode cX4_runScript 1 = .ok (.iconst 1, 1) := by decide +kernel
theorem dX4_runScript_2 : decode cX4_runScript 2 = .ok (.if_icmp .lt 8, 3) := by decide +kernel
theorem dX4_runScript_5 : decode cX4_runScript 5 = .ok (.iload_n 1, 1) := by decide +kernel
theorem dX4_runScript_6 : decode cX4_runScript 6 = .ok (.iconst 3, 1) := by decide +kernel
theorem dX4_runScript_7 : decode cX4_runScript 7 = .ok (.if_icmp .le 14, 3) := by decide +kernel
theorem dX4_runScript_10 : decode cX4_runScript 10 = .ok (.new 52, 3) := by decide +kernel
theorem dX4_runScript_13 : decode cX4_runScript 13 = .ok (.dup, 1) := by decide +kernel
theorem dX4_runScript_14 : decode cX4_runScript 14 = .ok (.ldc_w 270, 3) := by decide +kernel
theorem dX4_runScript_17 : decode cX4_runScript 17 = .ok (.invokespecial 56, 3) := by decide +kernel
theorem dX4_runScript_20 : decode cX4_runScript 20 = .ok (.athrow, 1) := by decide +kernel
theorem dX4_runScript_21 : decode cX4_runScript 21 = .ok (.lload_n 2, 1) := by decide +kernel
theorem dX4_runScript_22 : decode cX4_runScript 22 = .ok (.lconst 0, 1) := by decide +kernel
theorem dX4_runScript_23 : decode cX4_runScript 23 = .ok (.lcmp, 1) := by decide +kernel
theorem dX4_runScript_24 : decode cX4_runScript 24 = .ok (.ifCond .lt 13, 3) := by decide +kernel
theorem dX4_runScript_27 : decode cX4_runScript 27 = .ok (.lload_n 2, 1) := by decide +kernel
theorem dX4_runScript_28 : decode cX4_runScript 28 = .ok (.iload_n 1, 1) := by decide +kernel
theorem dX4_runScript_29 : decode cX4_runScript 29 = .ok (.invokestatic 272, 3) := by decide +kernel
theorem dX4_runScript_32 : decode cX4_runScript 32 = .ok (.lconst 0, 1) := by decide +kernel
theorem dX4_runScript_33 : decode cX4_runScript 33 = .ok (.lcmp, 1) := by decide +kernel
theorem dX4_runScript_34 : decode cX4_runScript 34 = .ok (.ifCond .eq 14, 3) := by decide +kernel
theorem dX4_runScript_37 : decode cX4_runScript 37 = .ok (.new 52, 3) := by decide +kernel
theorem dX4_runScript_40 : decode cX4_runScript 40 = .ok (.dup, 1) := by decide +kernel
theorem dX4_runScript_41 : decode cX4_runScript 41 = .ok (.ldc_w 276, 3) := by decide +kernel
theorem dX4_runScript_44 : decode cX4_runScript 44 = .ok (.invokespecial 56, 3) := by decide +kernel
theorem dX4_runScript_47 : decode cX4_runScript 47 = .ok (.athrow, 1) := by decide +kernel
theorem dX4_runScript_48 : decode cX4_runScript 48 = .ok (.aload_n 0, 1) := by decide +kernel
theorem dX4_runScript_49 : decode cX4_runScript 49 = .ok (.getfield 16, 3) := by decide +kernel
theorem dX4_runScript_52 : decode cX4_runScript 52 = .ok (.aload_n 0, 1) := by decide +kernel
theorem dX4_runScript_53 : decode cX4_runScript 53 = .ok (.getfield 10, 3) := by decide +kernel
theorem dX4_runScript_56 : decode cX4_runScript 56 = .ok (.invokevirtual 278, 3) := by decide +kernel
theorem dX4_runScript_59 : decode cX4_runScript 59 = .ok (.iconst 0, 1) := by decide +kernel
theorem dX4_runScript_60 : decode cX4_runScript 60 = .ok (.istore 4, 2) := by decide +kernel
theorem dX4_runScript_62 : decode cX4_runScript 62 = .ok (.iload 4, 2) := by decide +kernel
theorem dX4_runScript_64 : decode cX4_runScript 64 = .ok (.iload_n 1, 1) := by decide +kernel
theorem dX4_runScript_65 : decode cX4_runScript 65 = .ok (.if_icmp .ge 38, 3) := by decide +kernel
theorem dX4_runScript_68 : decode cX4_runScript 68 = .ok (.lload_n 2, 1) := by decide +kernel
theorem dX4_runScript_69 : decode cX4_runScript 69 = .ok (.iload_n 1, 1) := by decide +kernel
theorem dX4_runScript_70 : decode cX4_runScript 70 = .ok (.iconst 1, 1) := by decide +kernel
theorem dX4_runScript_71 : decode cX4_runScript 71 = .ok (.isub, 1) := by decide +kernel
theorem dX4_runScript_72 : decode cX4_runScript 72 = .ok (.iload 4, 2) := by decide +kernel
theorem dX4_runScript_74 : decode cX4_runScript 74 = .ok (.isub, 1) := by decide +kernel
theorem dX4_runScript_75 : decode cX4_runScript 75 = .ok (.invokestatic 272, 3) := by decide +kernel
theorem dX4_runScript_78 : decode cX4_runScript 78 = .ok (.ldc2_w 281, 3) := by decide +kernel
theorem dX4_runScript_81 : decode cX4_runScript 81 = .ok (.lrem, 1) := by decide +kernel
theorem dX4_runScript_82 : decode cX4_runScript 82 = .ok (.l2i, 1) := by decide +kernel
theorem dX4_runScript_83 : decode cX4_runScript 83 = .ok (.istore 5, 2) := by decide +kernel
theorem dX4_runScript_85 : decode cX4_runScript 85 = .ok (.aload_n 0, 1) := by decide +kernel
theorem dX4_runScript_86 : decode cX4_runScript 86 = .ok (.iload 5, 2) := by decide +kernel
theorem dX4_runScript_88 : decode cX4_runScript 88 = .ok (.invokevirtual 283, 3) := by decide +kernel
theorem dX4_runScript_91 : decode cX4_runScript 91 = .ok (.ifCond .ne 6, 3) := by decide +kernel
theorem dX4_runScript_94 : decode cX4_runScript 94 = .ok (.iload 4, 2) := by decide +kernel
theorem dX4_runScript_96 : decode cX4_runScript 96 = .ok (.ireturn, 1) := by decide +kernel
theorem dX4_runScript_97 : decode cX4_runScript 97 = .ok (.iinc 4 1, 3) := by decide +kernel
theorem dX4_runScript_100 : decode cX4_runScript 100 = .ok (.goto (-38), 3) := by decide +kernel
theorem dX4_runScript_103 : decode cX4_runScript 103 = .ok (.iconst (-1), 1) := by decide +kernel
theorem dX4_runScript_104 : decode cX4_runScript 104 = .ok (.ireturn, 1) := by decide +kernel
theorem dX4_afterGroups_0 : decode cX4_afterGroups 0 = .ok (.lload_n 0, 1) := by decide +kernel
theorem dX4_afterGroups_1 : decode cX4_afterGroups 1 = .ok (.lstore_n 3, 1) := by decide +kernel
theorem dX4_afterGroups_2 : decode cX4_afterGroups 2 = .ok (.iconst 0, 1) := by decide +kernel
theorem dX4_afterGroups_3 : decode cX4_afterGroups 3 = .ok (.istore 5, 2) := by decide +kernel
theorem dX4_afterGroups_5 : decode cX4_afterGroups 5 = .ok (.iload 5, 2) := by decide +kernel
theorem dX4_afterGroups_7 : decode cX4_afterGroups 7 = .ok (.iload_n 2, 1) := by decide +kernel
theorem dX4_afterGroups_8 : decode cX4_afterGroups 8 = .ok (.if_icmp .ge 15, 3) := by decide +kernel
theorem dX4_afterGroups_11 : decode cX4_afterGroups 11 = .ok (.lload_n 3, 1) := by decide +kernel
theorem dX4_afterGroups_12 : decode cX4_afterGroups 12 = .ok (.ldc2_w 281, 3) := by decide +kernel
theorem dX4_afterGroups_15 : decode cX4_afterGroups 15 = .ok (.ldiv, 1) := by decide +kernel
theorem dX4_afterGroups_16 : decode cX4_afterGroups 16 = .ok (.lstore_n 3, 1) := by decide +kernel
theorem dX4_afterGroups_17 : decode cX4_afterGroups 17 = .ok (.iinc 5 1, 3) := by decide +kernel
theorem dX4_afterGroups_20 : decode cX4_afterGroups 20 = .ok (.goto (-15), 3) := by decide +kernel
theorem dX4_afterGroups_23 : decode cX4_afterGroups 23 = .ok (.lload_n 3, 1) := by decide +kernel
theorem dX4_afterGroups_24 : decode cX4_afterGroups 24 = .ok (.lreturn, 1) := by decide +kernel
set_option maxRecDepth 20000 in
theorem ggX4_succeeds_X3_addCall : GoodIn wsX4_succeeds wsX3_addCall := goodIn_r _ [9, 10, 11, 12, 13, 14, 15, 16, 17, 18, 8, 19, 20, 21, 22, 23, 24, 25, 26, 27, 28, 29, 30, 31, 32, 33, 34, 35, 36, 37, 38, 39, 40, 41, 42, 43, 44, 45, 46, 47, 48, 49, 50, 51, 52, 53, 54, 55, 56, 57, 58, 59, 60, 61, 62, 63, 64, 65, 66, 67, 68, 69, 70, 71, 72, 73, 74, 75, 76, 77, 78, 79, 80, 81, 82, 83, 84, 85, 86, 87, 88, 89, 90, 91, 92, 93, 94, 95, 96, 97, 98, 99, 100, 101, 102, 103, 104, 105, 106, 107, 108, 109, 110, 111, 112, 113, 114, 115, 116, 117, 118, 119, 120, 121, 122, 123, 124, 125, 188, 189, 190, 191, 192, 193, 194, 195, 196, 197, 198, 199, 200, 201, 202, 203, 204, 205, 206, 207, 208, 209, 210, 211, 212, 213, 214] (by decide +kernel) (by decide +kernel)
set_option maxRecDepth 20000 in
theorem gX4_succeeds_X3_addCall : GoodIn wsX4_succeeds (wsV RX4 112 RX3 yX3_addCall wsX3_addCall) := goodIn_app (goodIn_of _ (by decide +kernel)) ggX4_succeeds_X3_addCall
set_option maxRecDepth 20000 in
theorem ggX4_succeeds_X3_addOutput : GoodIn wsX4_succeeds wsX3_addOutput := goodIn_r _ [129, 12, 11, 130, 131, 132, 8, 133, 10, 30, 31, 32, 33, 34, 25, 26, 27, 28, 29, 39, 40, 41, 42, 134, 135, 136, 137, 138, 139, 140, 43, 44, 45, 46, 141, 142, 143, 50, 144, 52, 53, 54, 56, 58, 59, 60, 61, 62, 63, 64, 65, 66, 67, 68, 69, 55, 70, 57, 71, 72, 73, 74, 75, 76, 77, 78, 79, 80, 81, 82, 83, 84, 85, 86, 87, 88, 89, 90, 91, 92, 93, 94, 95, 96, 97, 98, 99, 100, 101, 102, 103, 104, 105, 106, 107, 108, 109, 110, 111, 112, 113, 114, 115, 116, 117, 118, 119, 120, 121, 122, 13, 14, 15, 123, 124, 125, 188, 189, 190, 191, 192, 193, 194, 195, 196, 197, 198, 199, 200, 201, 202, 203, 204, 205, 206, 207, 208, 209, 210, 211, 212, 213, 214] (by decide +kernel) (by decide +kernel)
set_option maxRecDepth 20000 in
theorem gX4_succeeds_X3_addOutput : GoodIn wsX4_succeeds (wsV RX4 116 RX3 yX3_addOutput wsX3_addOutput) := goodIn_app (goodIn_of _ (by decide +kernel)) ggX4_succeeds_X3_addOutput
set_option maxRecDepth 20000 in
theorem ggX4_succeeds_X3_endCall : GoodIn wsX4_succeeds wsX3_endCall := goodIn_r _ [148, 10, 11, 12, 13, 15, 130, 131, 132, 8, 133, 188, 189, 190, 191, 192, 193, 194, 195, 196, 197, 198, 199, 200, 201] (by decide +kernel) (by decide +kernel)
set_option maxRecDepth 20000 in
theorem gX4_succeeds_X3_endCall : GoodIn wsX4_succeeds (wsV RX4 119 RX3 yX3_endCall wsX3_endCall) := goodIn_app (goodIn_of _ (by decide +kernel)) ggX4_succeeds_X3_endCall
set_option maxRecDepth 20000 in
theorem ggX4_succeeds_X3_takeOutput : GoodIn wsX4_succeeds wsX3_takeOutput := goodIn_r _ [152, 12, 30, 31, 32, 8, 33, 34, 25, 26, 27, 28, 29, 39, 40, 41, 42, 10, 134, 135, 136, 137, 138, 139, 140, 188, 189, 190, 191, 192, 193, 194, 195, 196, 197, 198, 199, 200, 201] (by decide +kernel) (by decide +kernel)
set_option maxRecDepth 20000 in
theorem gX4_succeeds_X3_takeOutput : GoodIn wsX4_succeeds (wsV RX4 225 RX3 yX3_takeOutput wsX3_takeOutput) := goodIn_app (goodIn_of _ (by decide +kernel)) ggX4_succeeds_X3_takeOutput
set_option maxRecDepth 20000 in
theorem ggX4_succeeds_X3_makeBroken : GoodIn wsX4_succeeds wsX3_makeBroken := goodIn_r _ [156, 64, 157, 158, 159, 8, 160, 63, 161, 162, 163, 164, 10, 13, 165, 60, 61, 62, 134, 135, 136, 137, 138, 139, 140, 188, 189, 190, 191, 192, 193, 194, 195, 196, 197, 198, 199, 200, 201] (by decide +kernel) (by decide +kernel)
set_option maxRecDepth 20000 in
theorem gX4_succeeds_X3_makeBroken : GoodIn wsX4_succeeds (wsV RX4 127 RX3 yX3_makeBroken wsX3_makeBroken) := goodIn_app (goodIn_of _ (by decide +kernel)) ggX4_succeeds_X3_makeBroken
set_option maxRecDepth 20000 in
theorem ggX4_succeeds_X3_changePatience : GoodIn wsX4_succeeds wsX3_changePatience := goodIn_r _ [169, 170, 188, 189, 190, 191, 192, 193, 194, 195, 196, 197, 198, 199, 200, 201] (by decide +kernel) (by decide +kernel)
set_option maxRecDepth 20000 in
theorem gX4_succeeds_X3_changePatience : GoodIn wsX4_succeeds (wsV RX4 131 RX3 yX3_changePatience wsX3_changePatience) := goodIn_app (goodIn_of _ (by decide +kernel)) ggX4_succeeds_X3_changePatience
set_option maxRecDepth 20000 in
theorem ggX4_succeeds_X3_hasCall : GoodIn wsX4_succeeds wsX3_hasCall := goodIn_r _ [133, 10, 188, 189, 190, 191, 192, 193, 194, 195, 196, 197, 198, 199, 200, 201] (by decide +kernel) (by decide +kernel)
set_option maxRecDepth 20000 in
theorem gX4_succeeds_X3_hasCall : GoodIn wsX4_succeeds (wsV RX4 158 RX3 yX3_hasCall wsX3_hasCall) := goodIn_app (goodIn_of _ (by decide +kernel)) ggX4_succeeds_X3_hasCall
set_option maxRecDepth 20000 in
theorem ggX4_succeeds_X3_linksTaken : GoodIn wsX4_succeeds wsX3_linksTaken := goodIn_r _ [175, 10, 176, 177, 178, 8, 179, 180, 80, 81, 82, 12, 43, 44, 45, 46, 29, 134, 135, 136, 137, 138, 139, 140, 188, 189, 190, 191, 192, 193, 194, 195, 196, 197, 198, 199, 200, 201] (by decide +kernel) (by decide +kernel)
set_option maxRecDepth 20000 in
theorem gX4_succeeds_X3_linksTaken : GoodIn wsX4_succeeds (wsV RX4 147 RX3 yX3_linksTaken wsX3_linksTaken) := goodIn_app (goodIn_of _ (by decide +kernel)) ggX4_succeeds_X3_linksTaken
theorem dX4_succeeds_0 : decode cX4_succeeds 0 = .ok (.iload_n 1, 1) := by decide +kernel
theorem dX4_succeeds_1 : decode cX4_succeeds 1 = .ok (.bipush 100, 2) := by decide +kernel
theorem dX4_succeeds_3 : decode cX4_succeeds 3 = .ok (.idiv, 1) := by decide +kernel
theorem dX4_succeeds_4 : decode cX4_succeeds 4 = .ok (.bipush 100, 2) := by decide +kernel
theorem dX4_succeeds_6 : decode cX4_succeeds 6 = .ok (.irem, 1) := by decide +kernel
theorem dX4_succeeds_7 : decode cX4_succeeds 7 = .ok (.istore_n 2, 1) := by decide +kernel
theorem dX4_succeeds_8 : decode cX4_succeeds 8 = .ok (.iload_n 1, 1) := by decide +kernel
theorem dX4_succeeds_9 : decode cX4_succeeds 9 = .ok (.bipush 100, 2) := by decide +kernel
theorem dX4_succeeds_11 : decode cX4_succeeds 11 = .ok (.irem, 1) := by decide +kernel
theorem dX4_succeeds_12 : decode cX4_succeeds 12 = .ok (.istore_n 3, 1) := by decide +kernel
theorem dX4_succeeds_13 : decode cX4_succeeds 13 = .ok (.iload_n 1, 1) := by decide +kernel
theorem dX4_succeeds_14 : decode cX4_succeeds 14 = .ok (.sipush 10000, 3) := by decide +kernel
theorem dX4_succeeds_17 : decode cX4_succeeds 17 = .ok (.idiv, 1) := by decide +kernel
theorem dX4_succeeds_18 : decode cX4_succeeds 18 = .ok (.tableswitch 279 1 9 #[50, 72, 94, 115, 136, 181, 207, 237, 258], 50) := by decide +kernel
theorem dX4_succeeds_68 : decode cX4_succeeds 68 = .ok (.aload_n 0, 1) := by decide +kernel
theorem dX4_succeeds_69 : decode cX4_succeeds 69 = .ok (.getfield 16, 3) := by decide +kernel
theorem dX4_succeeds_72 : decode cX4_succeeds 72 = .ok (.aload_n 0, 1) := by decide +kernel
theorem dX4_succeeds_73 : decode cX4_succeeds 73 = .ok (.getfield 37, 3) := by decide +kernel
theorem dX4_succeeds_76 : decode cX4_succeeds 76 = .ok (.iload_n 2, 1) := by decide +kernel
theorem dX4_succeeds_77 : decode cX4_succeeds 77 = .ok (.iload_n 3, 1) := by decide +kernel
theorem dX4_succeeds_78 : decode cX4_succeeds 78 = .ok (.invokevirtual 112, 3) := by decide +kernel
theorem dX4_succeeds_81 : decode cX4_succeeds 81 = .ok (.ifCond .lt 7, 3) := by decide +kernel
theorem dX4_succeeds_84 : decode cX4_succeeds 84 = .ok (.iconst 1, 1) := by decide +kernel
theorem dX4_succeeds_85 : decode cX4_succeeds 85 = .ok (.goto 4, 3) := by decide +kernel
theorem dX4_succeeds_88 : decode cX4_succeeds 88 = .ok (.iconst 0, 1) := by decide +kernel
theorem dX4_succeeds_89 : decode cX4_succeeds 89 = .ok (.ireturn, 1) := by decide +kernel
theorem dX4_succeeds_90 : decode cX4_succeeds 90 = .ok (.aload_n 0, 1) := by decide +kernel
theorem dX4_succeeds_91 : decode cX4_succeeds 91 = .ok (.getfield 16, 3) := by decide +kernel
theorem dX4_succeeds_94 : decode cX4_succeeds 94 = .ok (.aload_n 0, 1) := by decide +kernel
theorem dX4_succeeds_95 : decode cX4_succeeds 95 = .ok (.getfield 37, 3) := by decide +kernel
theorem dX4_succeeds_98 : decode cX4_succeeds 98 = .ok (.iload_n 2, 1) := by decide +kernel
theorem dX4_succeeds_99 : decode cX4_succeeds 99 = .ok (.iload_n 3, 1) := by decide +kernel
theorem dX4_succeeds_100 : decode cX4_succeeds 100 = .ok (.invokevirtual 116, 3) := by decide +kernel
theorem dX4_succeeds_103 : decode cX4_succeeds 103 = .ok (.ifCond .lt 7, 3) := by decide +kernel
theorem dX4_succeeds_106 : decode cX4_succeeds 106 = .ok (.iconst 1, 1) := by decide +kernel
theorem dX4_succeeds_107 : decode cX4_succeeds 107 = .ok (.goto 4, 3) := by decide +kernel
theorem dX4_succeeds_110 : decode cX4_succeeds 110 = .ok (.iconst 0, 1) := by decide +kernel
theorem dX4_succeeds_111 : decode cX4_succeeds 111 = .ok (.ireturn, 1) := by decide +kernel
theorem dX4_succeeds_112 : decode cX4_succeeds 112 = .ok (.iload_n 3, 1) := by decide +kernel
theorem dX4_succeeds_113 : decode cX4_succeeds 113 = .ok (.ifCond .ne 18, 3) := by decide +kernel
theorem dX4_succeeds_116 : decode cX4_succeeds 116 = .ok (.aload_n 0, 1) := by decide +kernel
theorem dX4_succeeds_117 : decode cX4_succeeds 117 = .ok (.getfield 16, 3) := by decide +kernel
theorem dX4_succeeds_120 : decode cX4_succeeds 120 = .ok (.iload_n 2, 1) := by decide +kernel
theorem dX4_succeeds_121 : decode cX4_succeeds 121 = .ok (.invokevirtual 119, 3) := by decide +kernel
theorem dX4_succeeds_124 : decode cX4_succeeds 124 = .ok (.ifCond .lt 7, 3) := by decide +kernel
theorem dX4_succeeds_127 : decode cX4_succeeds 127 = .ok (.iconst 1, 1) := by decide +kernel
theorem dX4_succeeds_128 : decode cX4_succeeds 128 = .ok (.goto 4, 3) := by decide +kernel
theorem dX4_succeeds_131 : decode cX4_succeeds 131 = .ok (.iconst 0, 1) := by decide +kernel
theorem dX4_succeeds_132 : decode cX4_succeeds 132 = .ok (.ireturn, 1) := by decide +kernel
theorem dX4_succeeds_133 : decode cX4_succeeds 133 = .ok (.iload_n 2, 1) := by decide +kernel
theorem dX4_succeeds_134 : decode cX4_succeeds 134 = .ok (.ifCond .ne 18, 3) := by decide +kernel
theorem dX4_succeeds_137 : decode cX4_succeeds 137 = .ok (.aload_n 0, 1) := by decide +kernel
theorem dX4_succeeds_138 : decode cX4_succeeds 138 = .ok (.getfield 16, 3) := by decide +kernel
theorem dX4_succeeds_141 : decode cX4_succeeds 141 = .ok (.iload_n 3, 1) := by decide +kernel
theorem dX4_succeeds_142 : decode cX4_succeeds 142 = .ok (.invokevirtual 225, 3) := by decide +kernel
theorem dX4_succeeds_145 : decode cX4_succeeds 145 = .ok (.ifCond .lt 7, 3) := by decide +kernel
theorem dX4_succeeds_148 : decode cX4_succeeds 148 = .ok (.iconst 1, 1) := by decide +kernel
theorem dX4_succeeds_149 : decode cX4_succeeds 149 = .ok (.goto 4, 3) := by decide +kernel
theorem dX4_succeeds_152 : decode cX4_succeeds 152 = .ok (.iconst 0, 1) := by decide +kernel
theorem dX4_succeeds_153 : decode cX4_succeeds 153 = .ok (.ireturn, 1) := by decide +kernel
theorem dX4_succeeds_154 : decode cX4_succeeds 154 = .ok (.iload_n 3, 1) := by decide +kernel
theorem dX4_succeeds_155 : decode cX4_succeeds 155 = .ok (.ifCond .ne 42, 3) := by decide +kernel
theorem dX4_succeeds_158 : decode cX4_succeeds 158 = .ok (.iload_n 2, 1) := by decide +kernel
theorem dX4_succeeds_159 : decode cX4_succeeds 159 = .ok (.bipush 10, 2) := by decide +kernel
theorem dX4_succeeds_161 : decode cX4_succeeds 161 = .ok (.irem, 1) := by decide +kernel
theorem dX4_succeeds_162 : decode cX4_succeeds 162 = .ok (.iconst 1, 1) := by decide +kernel
theorem dX4_succeeds_163 : decode cX4_succeeds 163 = .ok (.if_icmp .gt 34, 3) := by decide +kernel
theorem dX4_succeeds_166 : decode cX4_succeeds 166 = .ok (.aload_n 0, 1) := by decide +kernel
theorem dX4_succeeds_167 : decode cX4_succeeds 167 = .ok (.getfield 16, 3) := by decide +kernel
theorem dX4_succeeds_170 : decode cX4_succeeds 170 = .ok (.iload_n 2, 1) := by decide +kernel
theorem dX4_succeeds_171 : decode cX4_succeeds 171 = .ok (.bipush 10, 2) := by decide +kernel
theorem dX4_succeeds_173 : decode cX4_succeeds 173 = .ok (.idiv, 1) := by decide +kernel
theorem dX4_succeeds_174 : decode cX4_succeeds 174 = .ok (.iload_n 2, 1) := by decide +kernel
theorem dX4_succeeds_175 : decode cX4_succeeds 175 = .ok (.bipush 10, 2) := by decide +kernel
theorem dX4_succeeds_177 : decode cX4_succeeds 177 = .ok (.irem, 1) := by decide +kernel
theorem dX4_succeeds_178 : decode cX4_succeeds 178 = .ok (.iconst 1, 1) := by decide +kernel
theorem dX4_succeeds_179 : decode cX4_succeeds 179 = .ok (.if_icmp .ne 7, 3) := by decide +kernel
theorem dX4_succeeds_182 : decode cX4_succeeds 182 = .ok (.iconst 1, 1) := by decide +kernel
theorem dX4_succeeds_183 : decode cX4_succeeds 183 = .ok (.goto 4, 3) := by decide +kernel
theorem dX4_succeeds_186 : decode cX4_succeeds 186 = .ok (.iconst 0, 1) := by decide +kernel
theorem dX4_succeeds_187 : decode cX4_succeeds 187 = .ok (.invokevirtual 127, 3) := by decide +kernel
theorem dX4_succeeds_190 : decode cX4_succeeds 190 = .ok (.ifCond .lt 7, 3) := by decide +kernel
theorem dX4_succeeds_193 : decode cX4_succeeds 193 = .ok (.iconst 1, 1) := by decide +kernel
theorem dX4_succeeds_194 : decode cX4_succeeds 194 = .ok (.goto 4, 3) := by decide +kernel
theorem dX4_succeeds_197 : decode cX4_succeeds 197 = .ok (.iconst 0, 1) := by decide +kernel
theorem dX4_succeeds_198 : decode cX4_succeeds 198 = .ok (.ireturn, 1) := by decide +kernel
theorem dX4_succeeds_199 : decode cX4_succeeds 199 = .ok (.iload_n 2, 1) := by decide +kernel
theorem dX4_succeeds_200 : decode cX4_succeeds 200 = .ok (.ifCond .ne 23, 3) := by decide +kernel
theorem dX4_succeeds_203 : decode cX4_succeeds 203 = .ok (.iload_n 3, 1) := by decide +kernel
theorem dX4_succeeds_204 : decode cX4_succeeds 204 = .ok (.iconst 3, 1) := by decide +kernel
theorem dX4_succeeds_205 : decode cX4_succeeds 205 = .ok (.if_icmp .gt 18, 3) := by decide +kernel
theorem dX4_succeeds_208 : decode cX4_succeeds 208 = .ok (.aload_n 0, 1) := by decide +kernel
theorem dX4_succeeds_209 : decode cX4_succeeds 209 = .ok (.getfield 16, 3) := by decide +kernel
theorem dX4_succeeds_212 : decode cX4_succeeds 212 = .ok (.iload_n 3, 1) := by decide +kernel
theorem dX4_succeeds_213 : decode cX4_succeeds 213 = .ok (.invokevirtual 131, 3) := by decide +kernel
theorem dX4_succeeds_216 : decode cX4_succeeds 216 = .ok (.ifCond .lt 7, 3) := by decide +kernel
theorem dX4_succeeds_219 : decode cX4_succeeds 219 = .ok (.iconst 1, 1) := by decide +kernel
theorem dX4_succeeds_220 : decode cX4_succeeds 220 = .ok (.goto 4, 3) := by decide +kernel
theorem dX4_succeeds_223 : decode cX4_succeeds 223 = .ok (.iconst 0, 1) := by decide +kernel
theorem dX4_succeeds_224 : decode cX4_succeeds 224 = .ok (.ireturn, 1) := by decide +kernel
theorem dX4_succeeds_225 : decode cX4_succeeds 225 = .ok (.aload_n 0, 1) := by decide +kernel
theorem dX4_succeeds_226 : decode cX4_succeeds 226 = .ok (.getfield 16, 3) := by decide +kernel
theorem dX4_succeeds_229 : decode cX4_succeeds 229 = .ok (.iload_n 2, 1) := by decide +kernel
theorem dX4_succeeds_230 : decode cX4_succeeds 230 = .ok (.invokevirtual 158, 3) := by decide +kernel
theorem dX4_succeeds_233 : decode cX4_succeeds 233 = .ok (.ifCond .eq 20, 3) := by decide +kernel
theorem dX4_succeeds_236 : decode cX4_succeeds 236 = .ok (.aload_n 0, 1) := by decide +kernel
theorem dX4_succeeds_237 : decode cX4_succeeds 237 = .ok (.getfield 16, 3) := by decide +kernel
theorem dX4_succeeds_240 : decode cX4_succeeds 240 = .ok (.getfield 173, 3) := by decide +kernel
theorem dX4_succeeds_243 : decode cX4_succeeds 243 = .ok (.iload_n 2, 1) := by decide +kernel
theorem dX4_succeeds_244 : decode cX4_succeeds 244 = .ok (.iaload, 1) := by decide +kernel
theorem dX4_succeeds_245 : decode cX4_succeeds 245 = .ok (.iload_n 3, 1) := by decide +kernel
theorem dX4_succeeds_246 : decode cX4_succeeds 246 = .ok (.if_icmp .ne 7, 3) := by decide +kernel
theorem dX4_succeeds_249 : decode cX4_succeeds 249 = .ok (.iconst 1, 1) := by decide +kernel
theorem dX4_succeeds_250 : decode cX4_succeeds 250 = .ok (.goto 4, 3) := by decide +kernel
theorem dX4_succeeds_253 : decode cX4_succeeds 253 = .ok (.iconst 0, 1) := by decide +kernel
theorem dX4_succeeds_254 : decode cX4_succeeds 254 = .ok (.ireturn, 1) := by decide +kernel
theorem dX4_succeeds_255 : decode cX4_succeeds 255 = .ok (.iload_n 2, 1) := by decide +kernel
theorem dX4_succeeds_256 : decode cX4_succeeds 256 = .ok (.ifCond .ne 18, 3) := by decide +kernel
theorem dX4_succeeds_259 : decode cX4_succeeds 259 = .ok (.aload_n 0, 1) := by decide +kernel
theorem dX4_succeeds_260 : decode cX4_succeeds 260 = .ok (.getfield 16, 3) := by decide +kernel
theorem dX4_succeeds_263 : decode cX4_succeeds 263 = .ok (.invokevirtual 147, 3) := by decide +kernel
theorem dX4_succeeds_266 : decode cX4_succeeds 266 = .ok (.iload_n 3, 1) := by decide +kernel
theorem dX4_succeeds_267 : decode cX4_succeeds 267 = .ok (.if_icmp .gt 7, 3) := by decide +kernel
theorem dX4_succeeds_270 : decode cX4_succeeds 270 = .ok (.iconst 1, 1) := by decide +kernel
theorem dX4_succeeds_271 : decode cX4_succeeds 271 = .ok (.goto 4, 3) := by decide +kernel
theorem dX4_succeeds_274 : decode cX4_succeeds 274 = .ok (.iconst 0, 1) := by decide +kernel
theorem dX4_succeeds_275 : decode cX4_succeeds 275 = .ok (.ireturn, 1) := by decide +kernel
theorem dX4_succeeds_276 : decode cX4_succeeds 276 = .ok (.iload_n 2, 1) := by decide +kernel
theorem dX4_succeeds_277 : decode cX4_succeeds 277 = .ok (.ifCond .ne 18, 3) := by decide +kernel
theorem dX4_succeeds_280 : decode cX4_succeeds 280 = .ok (.aload_n 0, 1) := by decide +kernel
theorem dX4_succeeds_281 : decode cX4_succeeds 281 = .ok (.getfield 16, 3) := by decide +kernel
theorem dX4_succeeds_284 : decode cX4_succeeds 284 = .ok (.getfield 138, 3) := by decide +kernel
theorem dX4_succeeds_287 : decode cX4_succeeds 287 = .ok (.iload_n 3, 1) := by decide +kernel
theorem dX4_succeeds_288 : decode cX4_succeeds 288 = .ok (.if_icmp .lt 7, 3) := by decide +kernel
theorem dX4_succeeds_291 : decode cX4_succeeds 291 = .ok (.iconst 1, 1) := by decide +kernel
theorem dX4_succeeds_292 : decode cX4_succeeds 292 = .ok (.goto 4, 3) := by decide +kernel
theorem dX4_succeeds_295 : decode cX4_succeeds 295 = .ok (.iconst 0, 1) := by decide +kernel
theorem dX4_succeeds_296 : decode cX4_succeeds 296 = .ok (.ireturn, 1) := by decide +kernel
theorem dX4_succeeds_297 : decode cX4_succeeds 297 = .ok (.iconst 0, 1) := by decide +kernel
theorem dX4_succeeds_298 : decode cX4_succeeds 298 = .ok (.ireturn, 1) := by decide +kernel
set_option maxRecDepth 20000 in
theorem ggX4_simulate_X3_become : GoodIn wsX4_simulate wsX3_become := goodIn_r _ [12, 13, 14, 15, 16, 17, 18, 19, 20, 21, 22, 23, 24, 25, 26, 27, 28, 29, 30, 185, 186, 187, 188, 189, 190, 191, 192, 193, 194, 195, 196, 197, 198] (by decide +kernel) (by decide +kernel)
set_option maxRecDepth 20000 in
theorem gX4_simulate_X3_become : GoodIn wsX4_simulate (wsV RX4 278 RX3 yX3_become wsX3_become) := goodIn_app (goodIn_of _ (by decide +kernel)) ggX4_simulate_X3_become
set_option maxRecDepth 20000 in
theorem ggX4_simulate_X4_movesOfTurn : GoodIn wsX4_simulate wsX4_movesOfTurn := goodIn_r _ [35, 3, 36, 7, 37, 38, 39, 40, 41, 42, 43, 44, 11, 45, 13, 46, 47, 48, 49, 14, 50, 51, 34, 52, 53, 54, 55, 56, 57, 26, 21, 58, 59, 60, 61, 20, 62, 63, 64, 65, 16, 66, 67, 68, 69, 70, 71, 72, 73, 74, 75, 76, 77, 78, 79, 80, 81, 82, 83, 84, 85, 86, 87, 88, 89, 90, 91, 92, 93, 94, 15, 18, 95, 96, 97, 98, 99, 100, 101, 102, 103, 104, 105, 106, 107, 108, 109, 110, 111, 112, 113, 114, 115, 116, 117, 118, 119, 120, 121, 122, 123, 124, 125, 126, 127, 128, 129, 130, 131, 132, 133, 134, 135, 23, 24, 25, 136, 137, 138, 139, 140, 141, 142, 143, 144, 145, 146, 147, 148, 149, 150, 151, 27, 152, 28, 19, 29, 30, 153, 154, 155, 156, 157, 158, 159, 160, 161, 162, 163, 164, 165, 166, 167, 168, 169, 170, 171, 172, 173, 174, 175, 176, 177, 178, 179, 180, 181, 182, 183, 184, 185, 186, 187, 188, 189, 190, 191, 192, 193, 194, 195, 196, 197, 198, 199, 200, 201, 202, 203, 204, 205, 206, 207, 208, 209, 210, 211] (by decide +kernel) (by decide +kernel)
set_option maxRecDepth 20000 in
theorem gX4_simulate_X4_movesOfTurn : GoodIn wsX4_simulate (wsV RX4 292 RX4 yX4_movesOfTurn wsX4_movesOfTurn) := goodIn_app (goodIn_of _ (by decide +kernel)) ggX4_simulate_X4_movesOfTurn
theorem dX4_simulate_0 : decode cX4_simulate 0 = .ok (.iload_n 3, 1) := by decide +kernel
theorem dX4_simulate_1 : decode cX4_simulate 1 = .ok (.iconst 1, 1) := by decide +kernel
theorem dX4_simulate_2 : decode cX4_simulate 2 = .ok (.if_icmp .lt 9, 3) := by decide +kernel
theorem dX4_simulate_5 : decode cX4_simulate 5 = .ok (.iload_n 3, 1) := by decide +kernel
theorem dX4_simulate_6 : decode cX4_simulate 6 = .ok (.bipush 60, 2) := by decide +kernel
theorem dX4_simulate_8 : decode cX4_simulate 8 = .ok (.if_icmp .le 14, 3) := by decide +kernel
theorem dX4_simulate_11 : decode cX4_simulate 11 = .ok (.new 52, 3) := by decide +kernel
theorem dX4_simulate_14 : decode cX4_simulate 14 = .ok (.dup, 1) := by decide +kernel
theorem dX4_simulate_15 : decode cX4_simulate 15 = .ok (.ldc_w 286, 3) := by decide +kernel
theorem dX4_simulate_18 : decode cX4_simulate 18 = .ok (.invokespecial 56, 3) := by decide +kernel
theorem dX4_simulate_21 : decode cX4_simulate 21 = .ok (.athrow, 1) := by decide +kernel
theorem dX4_simulate_22 : decode cX4_simulate 22 = .ok (.aload_n 0, 1) := by decide +kernel
theorem dX4_simulate_23 : decode cX4_simulate 23 = .ok (.getfield 16, 3) := by decide +kernel
theorem dX4_simulate_26 : decode cX4_simulate 26 = .ok (.aload_n 0, 1) := by decide +kernel
theorem dX4_simulate_27 : decode cX4_simulate 27 = .ok (.getfield 10, 3) := by decide +kernel
theorem dX4_simulate_30 : decode cX4_simulate 30 = .ok (.invokevirtual 278, 3) := by decide +kernel
theorem dX4_simulate_33 : decode cX4_simulate 33 = .ok (.lload_n 1, 1) := by decide +kernel
theorem dX4_simulate_34 : decode cX4_simulate 34 = .ok (.lstore 4, 2) := by decide +kernel
theorem dX4_simulate_36 : decode cX4_simulate 36 = .ok (.iconst 0, 1) := by decide +kernel
theorem dX4_simulate_37 : decode cX4_simulate 37 = .ok (.istore 6, 2) := by decide +kernel
theorem dX4_simulate_39 : decode cX4_simulate 39 = .ok (.iconst 0, 1) := by decide +kernel
theorem dX4_simulate_40 : decode cX4_simulate 40 = .ok (.istore 7, 2) := by decide +kernel
theorem dX4_simulate_42 : decode cX4_simulate 42 = .ok (.iload 7, 2) := by decide +kernel
theorem dX4_simulate_44 : decode cX4_simulate 44 = .ok (.iload_n 3, 1) := by decide +kernel
theorem dX4_simulate_45 : decode cX4_simulate 45 = .ok (.if_icmp .ge 36, 3) := by decide +kernel
theorem dX4_simulate_48 : decode cX4_simulate 48 = .ok (.lload 4, 2) := by decide +kernel
theorem dX4_simulate_50 : decode cX4_simulate 50 = .ok (.ldc2_w 288, 3) := by decide +kernel
theorem dX4_simulate_53 : decode cX4_simulate 53 = .ok (.lmul, 1) := by decide +kernel
theorem dX4_simulate_54 : decode cX4_simulate 54 = .ok (.ldc2_w 290, 3) := by decide +kernel
theorem dX4_simulate_57 : decode cX4_simulate 57 = .ok (.ladd, 1) := by decide +kernel
theorem dX4_simulate_58 : decode cX4_simulate 58 = .ok (.lstore 4, 2) := by decide +kernel
theorem dX4_simulate_60 : decode cX4_simulate 60 = .ok (.iload 6, 2) := by decide +kernel
theorem dX4_simulate_62 : decode cX4_simulate 62 = .ok (.aload_n 0, 1) := by decide +kernel
theorem dX4_simulate_63 : decode cX4_simulate 63 = .ok (.lload 4, 2) := by decide +kernel
theorem dX4_simulate_65 : decode cX4_simulate 65 = .ok (.bipush 33, 2) := by decide +kernel
theorem dX4_simulate_67 : decode cX4_simulate 67 = .ok (.lushr, 1) := by decide +kernel
theorem dX4_simulate_68 : decode cX4_simulate 68 = .ok (.l2i, 1) := by decide +kernel
theorem dX4_simulate_69 : decode cX4_simulate 69 = .ok (.invokevirtual 292, 3) := by decide +kernel
theorem dX4_simulate_72 : decode cX4_simulate 72 = .ok (.iadd, 1) := by decide +kernel
theorem dX4_simulate_73 : decode cX4_simulate 73 = .ok (.istore 6, 2) := by decide +kernel
theorem dX4_simulate_75 : decode cX4_simulate 75 = .ok (.iinc 7 1, 3) := by decide +kernel
theorem dX4_simulate_78 : decode cX4_simulate 78 = .ok (.goto (-36), 3) := by decide +kernel
theorem dX4_simulate_81 : decode cX4_simulate 81 = .ok (.sipush 1000, 3) := by decide +kernel
theorem dX4_simulate_84 : decode cX4_simulate 84 = .ok (.iload 6, 2) := by decide +kernel
theorem dX4_simulate_86 : decode cX4_simulate 86 = .ok (.imul, 1) := by decide +kernel
theorem dX4_simulate_87 : decode cX4_simulate 87 = .ok (.aload_n 0, 1) := by decide +kernel
theorem dX4_simulate_88 : decode cX4_simulate 88 = .ok (.getfield 16, 3) := by decide +kernel
theorem dX4_simulate_91 : decode cX4_simulate 91 = .ok (.getfield 138, 3) := by decide +kernel
theorem dX4_simulate_94 : decode cX4_simulate 94 = .ok (.iadd, 1) := by decide +kernel
theorem dX4_simulate_95 : decode cX4_simulate 95 = .ok (.ireturn, 1) := by decide +kernel
set_option maxRecDepth 20000 in
theorem ggX4_movesOfTurn_X3_inputs : GoodIn wsX4_movesOfTurn wsX3_inputs := goodIn_r _ [13, 14, 15, 16, 17, 12, 18, 19, 170, 171, 172, 173, 174, 175, 176, 177, 178, 179, 180, 181, 182, 183] (by decide +kernel) (by decide +kernel)
set_option maxRecDepth 20000 in
theorem gX4_movesOfTurn_X3_inputs : GoodIn wsX4_movesOfTurn (wsV RX4 295 RX3 yX3_inputs wsX3_inputs) := goodIn_app (goodIn_of _ (by decide +kernel)) ggX4_movesOfTurn_X3_inputs
set_option maxRecDepth 20000 in
theorem ggX4_movesOfTurn_X4_rest : GoodIn wsX4_movesOfTurn wsX4_rest := goodIn_r _ [23] (by decide +kernel) (by decide +kernel)
set_option maxRecDepth 20000 in
theorem gX4_movesOfTurn_X4_rest : GoodIn wsX4_movesOfTurn (va_wsS RX4 298 yX4_rest wsX4_rest) := goodIn_app (goodIn_of _ (by decide +kernel)) ggX4_movesOfTurn_X4_rest
set_option maxRecDepth 20000 in
theorem ggX4_movesOfTurn_X3_places : GoodIn wsX4_movesOfTurn wsX3_places := goodIn_r _ [18, 19, 170, 171, 172, 173, 174, 175, 176, 177, 178, 179, 180, 181, 182, 183] (by decide +kernel) (by decide +kernel)
set_option maxRecDepth 20000 in
theorem gX4_movesOfTurn_X3_places : GoodIn wsX4_movesOfTurn (wsV RX4 301 RX3 yX3_places wsX3_places) := goodIn_app (goodIn_of _ (by decide +kernel)) ggX4_movesOfTurn_X3_places
set_option maxRecDepth 20000 in
theorem ggX4_movesOfTurn_X3_addOutput : GoodIn wsX4_movesOfTurn wsX3_addOutput := goodIn_r _ [28, 29, 30, 31, 32, 33, 12, 34, 35, 36, 37, 38, 39, 40, 15, 16, 17, 18, 19, 41, 42, 43, 44, 45, 46, 47, 48, 49, 50, 51, 52, 53, 54, 55, 56, 57, 58, 59, 60, 61, 62, 63, 64, 65, 66, 67, 68, 69, 70, 71, 72, 73, 74, 75, 76, 77, 78, 79, 80, 81, 82, 83, 84, 85, 86, 87, 88, 89, 90, 91, 92, 93, 94, 95, 96, 97, 98, 99, 100, 101, 102, 103, 104, 105, 106, 107, 108, 109, 110, 111, 112, 113, 114, 115, 116, 117, 118, 119, 120, 121, 122, 123, 124, 125, 126, 127, 128, 129, 130, 131, 132, 133, 134, 135, 136, 137, 170, 171, 172, 173, 174, 175, 176, 177, 178, 179, 180, 181, 182, 183, 184, 185, 186, 187, 188, 189, 190, 191, 192, 193, 194, 195, 196] (by decide +kernel) (by decide +kernel)
set_option maxRecDepth 20000 in
theorem gX4_movesOfTurn_X3_addOutput : GoodIn wsX4_movesOfTurn (wsV RX4 116 RX3 yX3_addOutput wsX3_addOutput) := goodIn_app (goodIn_of _ (by decide +kernel)) ggX4_movesOfTurn_X3_addOutput
set_option maxRecDepth 20000 in
theorem ggX4_movesOfTurn_X3_endCall : GoodIn wsX4_movesOfTurn wsX3_endCall := goodIn_r _ [141, 35, 30, 29, 132, 134, 31, 32, 33, 12, 34, 170, 171, 172, 173, 174, 175, 176, 177, 178, 179, 180, 181, 182, 183] (by decide +kernel) (by decide +kernel)
set_option maxRecDepth 20000 in
theorem gX4_movesOfTurn_X3_endCall : GoodIn wsX4_movesOfTurn (wsV RX4 119 RX3 yX3_endCall wsX3_endCall) := goodIn_app (goodIn_of _ (by decide +kernel)) ggX4_movesOfTurn_X3_endCall
set_option maxRecDepth 20000 in
theorem ggX4_movesOfTurn_X3_takeOutput : GoodIn wsX4_movesOfTurn wsX3_takeOutput := goodIn_r _ [145, 29, 36, 37, 38, 12, 39, 40, 15, 16, 17, 18, 19, 41, 42, 43, 44, 35, 45, 46, 47, 48, 49, 50, 51, 170, 171, 172, 173, 174, 175, 176, 177, 178, 179, 180, 181, 182, 183] (by decide +kernel) (by decide +kernel)
set_option maxRecDepth 20000 in
theorem gX4_movesOfTurn_X3_takeOutput : GoodIn wsX4_movesOfTurn (wsV RX4 225 RX3 yX3_takeOutput wsX3_takeOutput) := goodIn_app (goodIn_of _ (by decide +kernel)) ggX4_movesOfTurn_X3_takeOutput
set_option maxRecDepth 20000 in
theorem ggX4_movesOfTurn_X3_addCall : GoodIn wsX4_movesOfTurn wsX3_addCall := goodIn_r _ [149, 35, 30, 29, 132, 133, 134, 150, 151, 152, 12, 153, 154, 10, 11, 13, 14, 15, 16, 17, 18, 19, 36, 37, 38, 39, 40, 155, 156, 157, 158, 41, 42, 43, 44, 52, 53, 54, 55, 159, 160, 161, 59, 162, 61, 62, 63, 77, 64, 79, 65, 66, 67, 68, 69, 70, 71, 72, 73, 74, 75, 76, 78, 80, 81, 82, 83, 84, 85, 86, 87, 88, 89, 90, 91, 92, 93, 94, 95, 96, 97, 98, 99, 100, 101, 102, 103, 104, 105, 106, 107, 108, 109, 110, 111, 112, 113, 114, 115, 116, 117, 118, 119, 120, 121, 122, 123, 124, 125, 126, 127, 128, 129, 130, 131, 135, 136, 137, 170, 171, 172, 173, 174, 175, 176, 177, 178, 179, 180, 181, 182, 183, 184, 185, 186, 187, 188, 189, 190, 191, 192, 193, 194, 195, 196] (by decide +kernel) (by decide +kernel)
set_option maxRecDepth 20000 in
theorem gX4_movesOfTurn_X3_addCall : GoodIn wsX4_movesOfTurn (wsV RX4 112 RX3 yX3_addCall wsX3_addCall) := goodIn_app (goodIn_of _ (by decide +kernel)) ggX4_movesOfTurn_X3_addCall
theorem dX4_movesOfTurn_0 : decode cX4_movesOfTurn 0 = .ok (.iload_n 1, 1) := by decide +kernel
theorem dX4_movesOfTurn_1 : decode cX4_movesOfTurn 1 = .ok (.bipush 8, 2) := by decide +kernel
theorem dX4_movesOfTurn_3 : decode cX4_movesOfTurn 3 = .ok (.idiv, 1) := by decide +kernel
theorem dX4_movesOfTurn_4 : decode cX4_movesOfTurn 4 = .ok (.aload_n 0, 1) := by decide +kernel
theorem dX4_movesOfTurn_5 : decode cX4_movesOfTurn 5 = .ok (.getfield 16, 3) := by decide +kernel
theorem dX4_movesOfTurn_8 : decode cX4_movesOfTurn 8 = .ok (.invokevirtual 295, 3) := by decide +kernel
theorem dX4_movesOfTurn_11 : decode cX4_movesOfTurn 11 = .ok (.invokestatic 298, 3) := by decide +kernel
theorem dX4_movesOfTurn_14 : decode cX4_movesOfTurn 14 = .ok (.istore_n 2, 1) := by decide +kernel
theorem dX4_movesOfTurn_15 : decode cX4_movesOfTurn 15 = .ok (.iload_n 1, 1) := by decide +kernel
theorem dX4_movesOfTurn_16 : decode cX4_movesOfTurn 16 = .ok (.sipush 128, 3) := by decide +kernel
theorem dX4_movesOfTurn_19 : decode cX4_movesOfTurn 19 = .ok (.idiv, 1) := by decide +kernel
theorem dX4_movesOfTurn_20 : decode cX4_movesOfTurn 20 = .ok (.aload_n 0, 1) := by decide +kernel
theorem dX4_movesOfTurn_21 : decode cX4_movesOfTurn 21 = .ok (.getfield 16, 3) := by decide +kernel
theorem dX4_movesOfTurn_24 : decode cX4_movesOfTurn 24 = .ok (.aload_n 0, 1) := by decide +kernel
theorem dX4_movesOfTurn_25 : decode cX4_movesOfTurn 25 = .ok (.getfield 16, 3) := by decide +kernel
theorem dX4_movesOfTurn_28 : decode cX4_movesOfTurn 28 = .ok (.getfield 137, 3) := by decide +kernel
theorem dX4_movesOfTurn_31 : decode cX4_movesOfTurn 31 = .ok (.invokevirtual 301, 3) := by decide +kernel
theorem dX4_movesOfTurn_34 : decode cX4_movesOfTurn 34 = .ok (.invokestatic 298, 3) := by decide +kernel
theorem dX4_movesOfTurn_37 : decode cX4_movesOfTurn 37 = .ok (.istore_n 3, 1) := by decide +kernel
theorem dX4_movesOfTurn_38 : decode cX4_movesOfTurn 38 = .ok (.iload_n 1, 1) := by decide +kernel
theorem dX4_movesOfTurn_39 : decode cX4_movesOfTurn 39 = .ok (.bipush 8, 2) := by decide +kernel
theorem dX4_movesOfTurn_41 : decode cX4_movesOfTurn 41 = .ok (.idiv, 1) := by decide +kernel
theorem dX4_movesOfTurn_42 : decode cX4_movesOfTurn 42 = .ok (.aload_n 0, 1) := by decide +kernel
theorem dX4_movesOfTurn_43 : decode cX4_movesOfTurn 43 = .ok (.getfield 16, 3) := by decide +kernel
theorem dX4_movesOfTurn_46 : decode cX4_movesOfTurn 46 = .ok (.getfield 138, 3) := by decide +kernel
theorem dX4_movesOfTurn_49 : decode cX4_movesOfTurn 49 = .ok (.invokestatic 298, 3) := by decide +kernel
theorem dX4_movesOfTurn_52 : decode cX4_movesOfTurn 52 = .ok (.istore 4, 2) := by decide +kernel
theorem dX4_movesOfTurn_54 : decode cX4_movesOfTurn 54 = .ok (.iload_n 1, 1) := by decide +kernel
theorem dX4_movesOfTurn_55 : decode cX4_movesOfTurn 55 = .ok (.bipush 8, 2) := by decide +kernel
theorem dX4_movesOfTurn_57 : decode cX4_movesOfTurn 57 = .ok (.irem, 1) := by decide +kernel
theorem dX4_movesOfTurn_58 : decode cX4_movesOfTurn 58 = .ok (.tableswitch 72 4 7 #[30, 49, 49, 61], 30) := by decide +kernel
theorem dX4_movesOfTurn_88 : decode cX4_movesOfTurn 88 = .ok (.iconst 0, 1) := by decide +kernel
theorem dX4_movesOfTurn_89 : decode cX4_movesOfTurn 89 = .ok (.aload_n 0, 1) := by decide +kernel
theorem dX4_movesOfTurn_90 : decode cX4_movesOfTurn 90 = .ok (.getfield 16, 3) := by decide +kernel
theorem dX4_movesOfTurn_93 : decode cX4_movesOfTurn 93 = .ok (.aload_n 0, 1) := by decide +kernel
theorem dX4_movesOfTurn_94 : decode cX4_movesOfTurn 94 = .ok (.getfield 37, 3) := by decide +kernel
theorem dX4_movesOfTurn_97 : decode cX4_movesOfTurn 97 = .ok (.iload 4, 2) := by decide +kernel
theorem dX4_movesOfTurn_99 : decode cX4_movesOfTurn 99 = .ok (.iload_n 3, 1) := by decide +kernel
theorem dX4_movesOfTurn_100 : decode cX4_movesOfTurn 100 = .ok (.invokevirtual 116, 3) := by decide +kernel
theorem dX4_movesOfTurn_103 : decode cX4_movesOfTurn 103 = .ok (.invokestatic 304, 3) := by decide +kernel
theorem dX4_movesOfTurn_106 : decode cX4_movesOfTurn 106 = .ok (.ireturn, 1) := by decide +kernel
theorem dX4_movesOfTurn_107 : decode cX4_movesOfTurn 107 = .ok (.aload_n 0, 1) := by decide +kernel
theorem dX4_movesOfTurn_108 : decode cX4_movesOfTurn 108 = .ok (.getfield 16, 3) := by decide +kernel
theorem dX4_movesOfTurn_111 : decode cX4_movesOfTurn 111 = .ok (.iload 4, 2) := by decide +kernel
theorem dX4_movesOfTurn_113 : decode cX4_movesOfTurn 113 = .ok (.invokevirtual 119, 3) := by decide +kernel
theorem dX4_movesOfTurn_116 : decode cX4_movesOfTurn 116 = .ok (.pop, 1) := by decide +kernel
theorem dX4_movesOfTurn_117 : decode cX4_movesOfTurn 117 = .ok (.iconst 0, 1) := by decide +kernel
theorem dX4_movesOfTurn_118 : decode cX4_movesOfTurn 118 = .ok (.ireturn, 1) := by decide +kernel
theorem dX4_movesOfTurn_119 : decode cX4_movesOfTurn 119 = .ok (.aload_n 0, 1) := by decide +kernel
theorem dX4_movesOfTurn_120 : decode cX4_movesOfTurn 120 = .ok (.getfield 16, 3) := by decide +kernel
theorem dX4_movesOfTurn_123 : decode cX4_movesOfTurn 123 = .ok (.iload_n 3, 1) := by decide +kernel
theorem dX4_movesOfTurn_124 : decode cX4_movesOfTurn 124 = .ok (.invokevirtual 225, 3) := by decide +kernel
theorem dX4_movesOfTurn_127 : decode cX4_movesOfTurn 127 = .ok (.pop, 1) := by decide +kernel
theorem dX4_movesOfTurn_128 : decode cX4_movesOfTurn 128 = .ok (.iconst 0, 1) := by decide +kernel
theorem dX4_movesOfTurn_129 : decode cX4_movesOfTurn 129 = .ok (.ireturn, 1) := by decide +kernel
theorem dX4_movesOfTurn_130 : decode cX4_movesOfTurn 130 = .ok (.iconst 0, 1) := by decide +kernel
theorem dX4_movesOfTurn_131 : decode cX4_movesOfTurn 131 = .ok (.aload_n 0, 1) := by decide +kernel
theorem dX4_movesOfTurn_132 : decode cX4_movesOfTurn 132 = .ok (.getfield 16, 3) := by decide +kernel
theorem dX4_movesOfTurn_135 : decode cX4_movesOfTurn 135 = .ok (.aload_n 0, 1) := by decide +kernel
theorem dX4_movesOfTurn_136 : decode cX4_movesOfTurn 136 = .ok (.getfield 37, 3) := by decide +kernel
theorem dX4_movesOfTurn_139 : decode cX4_movesOfTurn 139 = .ok (.iload_n 2, 1) := by decide +kernel
theorem dX4_movesOfTurn_140 : decode cX4_movesOfTurn 140 = .ok (.iload_n 3, 1) := by decide +kernel
theorem dX4_movesOfTurn_141 : decode cX4_movesOfTurn 141 = .ok (.invokevirtual 112, 3) := by decide +kernel
theorem dX4_movesOfTurn_144 : decode cX4_movesOfTurn 144 = .ok (.invokestatic 304, 3) := by decide +kernel
theorem dX4_movesOfTurn_147 : decode cX4_movesOfTurn 147 = .ok (.ireturn, 1) := by decide +kernel
theorem dX4_rest_0 : decode cX4_rest 0 = .ok (.iload_n 1, 1) := by decide +kernel
theorem dX4_rest_1 : decode cX4_rest 1 = .ok (.ifCond .le 9, 3) := by decide +kernel
theorem dX4_rest_4 : decode cX4_rest 4 = .ok (.iload_n 0, 1) := by decide +kernel
theorem dX4_rest_5 : decode cX4_rest 5 = .ok (.iload_n 1, 1) := by decide +kernel
theorem dX4_rest_6 : decode cX4_rest 6 = .ok (.irem, 1) := by decide +kernel
theorem dX4_rest_7 : decode cX4_rest 7 = .ok (.goto 4, 3) := by decide +kernel
theorem dX4_rest_10 : decode cX4_rest 10 = .ok (.iconst 0, 1) := by decide +kernel
theorem dX4_rest_11 : decode cX4_rest 11 = .ok (.ireturn, 1) := by decide +kernel
set_option maxRecDepth 20000 in
theorem ggX4_save_X3_become : GoodIn wsX4_save wsX3_become := goodIn_r _ [11, 12, 13, 14, 15, 16, 17, 18, 19, 20, 21, 22, 23, 24, 25, 26, 27, 28, 29, 37, 38, 39, 40, 41, 42, 43, 44, 45, 46, 47, 48, 49, 50] (by decide +kernel) (by decide +kernel)
set_option maxRecDepth 20000 in
theorem gX4_save_X3_become : GoodIn wsX4_save (wsV RX4 278 RX3 yX3_become wsX3_become) := goodIn_app (goodIn_of _ (by decide +kernel)) ggX4_save_X3_become
theorem dX4_save_0 : decode cX4_save 0 = .ok (.iload_n 1, 1) := by decide +kernel
theorem dX4_save_1 : decode cX4_save 1 = .ok (.ifCond .lt 8, 3) := by decide +kernel
theorem dX4_save_4 : decode cX4_save 4 = .ok (.iload_n 1, 1) := by decide +kernel
theorem dX4_save_5 : decode cX4_save 5 = .ok (.iconst 2, 1) := by decide +kernel
theorem dX4_save_6 : decode cX4_save 6 = .ok (.if_icmp .lt 14, 3) := by decide +kernel
theorem dX4_save_9 : decode cX4_save 9 = .ok (.new 161, 3) := by decide +kernel
theorem dX4_save_12 : decode cX4_save 12 = .ok (.dup, 1) := by decide +kernel
theorem dX4_save_13 : decode cX4_save 13 = .ok (.ldc_w 309, 3) := by decide +kernel
theorem dX4_save_16 : decode cX4_save 16 = .ok (.invokespecial 165, 3) := by decide +kernel
theorem dX4_save_19 : decode cX4_save 19 = .ok (.athrow, 1) := by decide +kernel
theorem dX4_save_20 : decode cX4_save 20 = .ok (.aload_n 0, 1) := by decide +kernel
theorem dX4_save_21 : decode cX4_save 21 = .ok (.getfield 26, 3) := by decide +kernel
theorem dX4_save_24 : decode cX4_save 24 = .ok (.iload_n 1, 1) := by decide +kernel
theorem dX4_save_25 : decode cX4_save 25 = .ok (.aaload, 1) := by decide +kernel
theorem dX4_save_26 : decode cX4_save 26 = .ok (.aload_n 0, 1) := by decide +kernel
theorem dX4_save_27 : decode cX4_save 27 = .ok (.getfield 10, 3) := by decide +kernel
theorem dX4_save_30 : decode cX4_save 30 = .ok (.invokevirtual 278, 3) := by decide +kernel
theorem dX4_save_33 : decode cX4_save 33 = .ok (.aload_n 0, 1) := by decide +kernel
theorem dX4_save_34 : decode cX4_save 34 = .ok (.getfield 30, 3) := by decide +kernel
theorem dX4_save_37 : decode cX4_save 37 = .ok (.iload_n 1, 1) := by decide +kernel
theorem dX4_save_38 : decode cX4_save 38 = .ok (.iconst 1, 1) := by decide +kernel
theorem dX4_save_39 : decode cX4_save 39 = .ok (.bastore, 1) := by decide +kernel
theorem dX4_save_40 : decode cX4_save 40 = .ok (.aload_n 0, 1) := by decide +kernel
theorem dX4_save_41 : decode cX4_save 41 = .ok (.getfield 10, 3) := by decide +kernel
theorem dX4_save_44 : decode cX4_save 44 = .ok (.getfield 138, 3) := by decide +kernel
theorem dX4_save_47 : decode cX4_save 47 = .ok (.ireturn, 1) := by decide +kernel
set_option maxRecDepth 20000 in
theorem ggX4_restore_X3_become : GoodIn wsX4_restore wsX3_become := goodIn_r _ [14, 15, 16, 17, 18, 19, 20, 21, 22, 23, 24, 25, 26, 27, 28, 29, 30, 31, 32, 46, 47, 48, 49, 50, 51, 52, 53, 54, 55, 56, 57, 58, 59] (by decide +kernel) (by decide +kernel)
set_option maxRecDepth 20000 in
theorem gX4_restore_X3_become : GoodIn wsX4_restore (wsV RX4 278 RX3 yX3_become wsX3_become) := goodIn_app (goodIn_of _ (by decide +kernel)) ggX4_restore_X3_become
set_option maxRecDepth 20000 in
theorem ggX4_restore_X0_forgetAll : GoodIn wsX4_restore wsX0_forgetAll := goodIn_r _ [37, 38, 60, 61, 62] (by decide +kernel) (by decide +kernel)
set_option maxRecDepth 20000 in
theorem gX4_restore_X0_forgetAll : GoodIn wsX4_restore (wsV RX4 94 RX0 yX0_forgetAll wsX0_forgetAll) := goodIn_app (goodIn_of _ (by decide +kernel)) ggX4_restore_X0_forgetAll
theorem dX4_restore_0 : decode cX4_restore 0 = .ok (.iload_n 1, 1) := by decide +kernel
theorem dX4_restore_1 : decode cX4_restore 1 = .ok (.ifCond .lt 8, 3) := by decide +kernel
theorem dX4_restore_4 : decode cX4_restore 4 = .ok (.iload_n 1, 1) := by decide +kernel
theorem dX4_restore_5 : decode cX4_restore 5 = .ok (.iconst 2, 1) := by decide +kernel
theorem dX4_restore_6 : decode cX4_restore 6 = .ok (.if_icmp .lt 14, 3) := by decide +kernel
theorem dX4_restore_9 : decode cX4_restore 9 = .ok (.new 161, 3) := by decide +kernel
theorem dX4_restore_12 : decode cX4_restore 12 = .ok (.dup, 1) := by decide +kernel
theorem dX4_restore_13 : decode cX4_restore 13 = .ok (.ldc_w 309, 3) := by decide +kernel
theorem dX4_restore_16 : decode cX4_restore 16 = .ok (.invokespecial 165, 3) := by decide +kernel
theorem dX4_restore_19 : decode cX4_restore 19 = .ok (.athrow, 1) := by decide +kernel
theorem dX4_restore_20 : decode cX4_restore 20 = .ok (.aload_n 0, 1) := by decide +kernel
theorem dX4_restore_21 : decode cX4_restore 21 = .ok (.getfield 30, 3) := by decide +kernel
theorem dX4_restore_24 : decode cX4_restore 24 = .ok (.iload_n 1, 1) := by decide +kernel
theorem dX4_restore_25 : decode cX4_restore 25 = .ok (.baload, 1) := by decide +kernel
theorem dX4_restore_26 : decode cX4_restore 26 = .ok (.ifCond .ne 14, 3) := by decide +kernel
theorem dX4_restore_29 : decode cX4_restore 29 = .ok (.new 63, 3) := by decide +kernel
theorem dX4_restore_32 : decode cX4_restore 32 = .ok (.dup, 1) := by decide +kernel
theorem dX4_restore_33 : decode cX4_restore 33 = .ok (.ldc_w 311, 3) := by decide +kernel
theorem dX4_restore_36 : decode cX4_restore 36 = .ok (.invokespecial 67, 3) := by decide +kernel
theorem dX4_restore_39 : decode cX4_restore 39 = .ok (.athrow, 1) := by decide +kernel
theorem dX4_restore_40 : decode cX4_restore 40 = .ok (.aload_n 0, 1) := by decide +kernel
theorem dX4_restore_41 : decode cX4_restore 41 = .ok (.getfield 10, 3) := by decide +kernel
theorem dX4_restore_44 : decode cX4_restore 44 = .ok (.aload_n 0, 1) := by decide +kernel
theorem dX4_restore_45 : decode cX4_restore 45 = .ok (.getfield 26, 3) := by decide +kernel
theorem dX4_restore_48 : decode cX4_restore 48 = .ok (.iload_n 1, 1) := by decide +kernel
theorem dX4_restore_49 : decode cX4_restore 49 = .ok (.aaload, 1) := by decide +kernel
theorem dX4_restore_50 : decode cX4_restore 50 = .ok (.invokevirtual 278, 3) := by decide +kernel
theorem dX4_restore_53 : decode cX4_restore 53 = .ok (.aload_n 0, 1) := by decide +kernel
theorem dX4_restore_54 : decode cX4_restore 54 = .ok (.getfield 22, 3) := by decide +kernel
theorem dX4_restore_57 : decode cX4_restore 57 = .ok (.invokevirtual 94, 3) := by decide +kernel
theorem dX4_restore_60 : decode cX4_restore 60 = .ok (.aload_n 0, 1) := by decide +kernel
theorem dX4_restore_61 : decode cX4_restore 61 = .ok (.getfield 10, 3) := by decide +kernel
theorem dX4_restore_64 : decode cX4_restore 64 = .ok (.getfield 138, 3) := by decide +kernel
theorem dX4_restore_67 : decode cX4_restore 67 = .ok (.ireturn, 1) := by decide +kernel
set_option maxRecDepth 20000 in
theorem ggX5_init_X5_clean : GoodIn wsX5_init wsX5_clean := goodIn_r _ [17] (by decide +kernel) (by decide +kernel)
set_option maxRecDepth 20000 in
theorem gX5_init_X5_clean : GoodIn wsX5_init (va_wsS RX5 35 yX5_clean wsX5_clean) := goodIn_app (goodIn_of _ (by decide +kernel)) ggX5_init_X5_clean
