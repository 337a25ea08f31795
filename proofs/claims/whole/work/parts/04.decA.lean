abbrev vwCl : List vw_C := [(RX0, TX0, 3), (RX1, TX1, 13), (RX2, TX2, 10), (RX3, TX3, 14), (RX4, TX4, 7), (RX5, TX5, 14)]
set_option maxRecDepth 20000 in
theorem ggX0_init_X3_init : GoodIn wsX0_init wsX3_init := goodIn_r _ [9, 10, 2, 3, 11, 12, 13, 14, 15, 16, 17, 21, 22, 23, 24, 25, 26, 27, 28, 29, 30, 31, 32, 33, 34] (by decide +kernel) (by decide +kernel)
set_option maxRecDepth 20000 in
theorem gX0_init_X3_init_n17 : GoodIn wsX0_init (wsX3_init) := ggX0_init_X3_init
theorem dX0_init_0 : decode cX0_init 0 = .ok (.aload_n 0, 1) := by decide +kernel
theorem dX0_init_1 : decode cX0_init 1 = .ok (.invokespecial 3, 3) := by decide +kernel
theorem dX0_init_4 : decode cX0_init 4 = .ok (.aload_n 0, 1) := by decide +kernel
theorem dX0_init_5 : decode cX0_init 5 = .ok (.bipush 15, 2) := by decide +kernel
theorem dX0_init_7 : decode cX0_init 7 = .ok (.anewarray 11, 3) := by decide +kernel
theorem dX0_init_10 : decode cX0_init 10 = .ok (.putfield 13, 3) := by decide +kernel
theorem dX0_init_13 : decode cX0_init 13 = .ok (.iconst 0, 1) := by decide +kernel
theorem dX0_init_14 : decode cX0_init 14 = .ok (.istore_n 1, 1) := by decide +kernel
theorem dX0_init_15 : decode cX0_init 15 = .ok (.iload_n 1, 1) := by decide +kernel
theorem dX0_init_16 : decode cX0_init 16 = .ok (.bipush 15, 2) := by decide +kernel
theorem dX0_init_18 : decode cX0_init 18 = .ok (.if_icmp .ge 22, 3) := by decide +kernel
theorem dX0_init_21 : decode cX0_init 21 = .ok (.aload_n 0, 1) := by decide +kernel
theorem dX0_init_22 : decode cX0_init 22 = .ok (.getfield 13, 3) := by decide +kernel
theorem dX0_init_25 : decode cX0_init 25 = .ok (.iload_n 1, 1) := by decide +kernel
theorem dX0_init_26 : decode cX0_init 26 = .ok (.new 11, 3) := by decide +kernel
theorem dX0_init_29 : decode cX0_init 29 = .ok (.dup, 1) := by decide +kernel
theorem dX0_init_30 : decode cX0_init 30 = .ok (.invokespecial 17, 3) := by decide +kernel
theorem dX0_init_33 : decode cX0_init 33 = .ok (.aastore, 1) := by decide +kernel
theorem dX0_init_34 : decode cX0_init 34 = .ok (.iinc 1 1, 3) := by decide +kernel
theorem dX0_init_37 : decode cX0_init 37 = .ok (.goto (-22), 3) := by decide +kernel
theorem dX0_init_40 : decode cX0_init 40 = .ok (.return_, 1) := by decide +kernel
set_option maxRecDepth 20000 in
theorem ggX0_note_X3_become : GoodIn wsX0_note wsX3_become := goodIn_r _ [8, 9, 10, 11, 12, 13, 14, 15, 16, 17, 18, 19, 20, 21, 22, 23, 24, 25, 26, 30, 31, 32, 33, 34, 35, 36, 37, 38, 39, 40, 41, 42, 43] (by decide +kernel) (by decide +kernel)
set_option maxRecDepth 20000 in
theorem gX0_note_X3_become : GoodIn wsX0_note (wsV RX0 25 RX3 yX3_become wsX3_become) := goodIn_app (goodIn_of _ (by decide +kernel)) ggX0_note_X3_become
theorem dX0_note_0 : decode cX0_note 0 = .ok (.aload_n 0, 1) := by decide +kernel
theorem dX0_note_1 : decode cX0_note 1 = .ok (.getfield 13, 3) := by decide +kernel
theorem dX0_note_4 : decode cX0_note 4 = .ok (.aload_n 0, 1) := by decide +kernel
theorem dX0_note_5 : decode cX0_note 5 = .ok (.getfield 18, 3) := by decide +kernel
theorem dX0_note_8 : decode cX0_note 8 = .ok (.aload_n 0, 1) := by decide +kernel
theorem dX0_note_9 : decode cX0_note 9 = .ok (.getfield 22, 3) := by decide +kernel
theorem dX0_note_12 : decode cX0_note 12 = .ok (.iadd, 1) := by decide +kernel
theorem dX0_note_13 : decode cX0_note 13 = .ok (.bipush 15, 2) := by decide +kernel
theorem dX0_note_15 : decode cX0_note 15 = .ok (.irem, 1) := by decide +kernel
theorem dX0_note_16 : decode cX0_note 16 = .ok (.aaload, 1) := by decide +kernel
theorem dX0_note_17 : decode cX0_note 17 = .ok (.aload_n 1, 1) := by decide +kernel
theorem dX0_note_18 : decode cX0_note 18 = .ok (.invokevirtual 25, 3) := by decide +kernel
theorem dX0_note_21 : decode cX0_note 21 = .ok (.return_, 1) := by decide +kernel
theorem dX0_keepNoted_0 : decode cX0_keepNoted 0 = .ok (.aload_n 0, 1) := by decide +kernel
theorem dX0_keepNoted_1 : decode cX0_keepNoted 1 = .ok (.getfield 22, 3) := by decide +kernel
theorem dX0_keepNoted_4 : decode cX0_keepNoted 4 = .ok (.bipush 14, 2) := by decide +kernel
theorem dX0_keepNoted_6 : decode cX0_keepNoted 6 = .ok (.if_icmp .ge 16, 3) := by decide +kernel
theorem dX0_keepNoted_9 : decode cX0_keepNoted 9 = .ok (.aload_n 0, 1) := by decide +kernel
theorem dX0_keepNoted_10 : decode cX0_keepNoted 10 = .ok (.dup, 1) := by decide +kernel
theorem dX0_keepNoted_11 : decode cX0_keepNoted 11 = .ok (.getfield 22, 3) := by decide +kernel
theorem dX0_keepNoted_14 : decode cX0_keepNoted 14 = .ok (.iconst 1, 1) := by decide +kernel
theorem dX0_keepNoted_15 : decode cX0_keepNoted 15 = .ok (.iadd, 1) := by decide +kernel
theorem dX0_keepNoted_16 : decode cX0_keepNoted 16 = .ok (.putfield 22, 3) := by decide +kernel
theorem dX0_keepNoted_19 : decode cX0_keepNoted 19 = .ok (.goto 16, 3) := by decide +kernel
theorem dX0_keepNoted_22 : decode cX0_keepNoted 22 = .ok (.aload_n 0, 1) := by decide +kernel
theorem dX0_keepNoted_23 : decode cX0_keepNoted 23 = .ok (.aload_n 0, 1) := by decide +kernel
theorem dX0_keepNoted_24 : decode cX0_keepNoted 24 = .ok (.getfield 18, 3) := by decide +kernel
theorem dX0_keepNoted_27 : decode cX0_keepNoted 27 = .ok (.iconst 1, 1) := by decide +kernel
theorem dX0_keepNoted_28 : decode cX0_keepNoted 28 = .ok (.iadd, 1) := by decide +kernel
theorem dX0_keepNoted_29 : decode cX0_keepNoted 29 = .ok (.bipush 15, 2) := by decide +kernel
theorem dX0_keepNoted_31 : decode cX0_keepNoted 31 = .ok (.irem, 1) := by decide +kernel
theorem dX0_keepNoted_32 : decode cX0_keepNoted 32 = .ok (.putfield 18, 3) := by decide +kernel
theorem dX0_keepNoted_35 : decode cX0_keepNoted 35 = .ok (.return_, 1) := by decide +kernel
set_option maxRecDepth 20000 in
theorem ggX0_takeBack_X3_become : GoodIn wsX0_takeBack wsX3_become := goodIn_r _ [8, 9, 10, 11, 12, 13, 14, 15, 16, 17, 18, 19, 20, 21, 22, 23, 24, 25, 26, 30, 31, 32, 33, 34, 35, 36, 37, 38, 39, 40, 41, 42, 43] (by decide +kernel) (by decide +kernel)
set_option maxRecDepth 20000 in
theorem gX0_takeBack_X3_become : GoodIn wsX0_takeBack (wsV RX0 25 RX3 yX3_become wsX3_become) := goodIn_app (goodIn_of _ (by decide +kernel)) ggX0_takeBack_X3_become
theorem dX0_takeBack_0 : decode cX0_takeBack 0 = .ok (.aload_n 0, 1) := by decide +kernel
theorem dX0_takeBack_1 : decode cX0_takeBack 1 = .ok (.getfield 22, 3) := by decide +kernel
theorem dX0_takeBack_4 : decode cX0_takeBack 4 = .ok (.ifCond .ne 6, 3) := by decide +kernel
theorem dX0_takeBack_7 : decode cX0_takeBack 7 = .ok (.bipush (-3), 2) := by decide +kernel
theorem dX0_takeBack_9 : decode cX0_takeBack 9 = .ok (.ireturn, 1) := by decide +kernel
theorem dX0_takeBack_10 : decode cX0_takeBack 10 = .ok (.aload_n 0, 1) := by decide +kernel
theorem dX0_takeBack_11 : decode cX0_takeBack 11 = .ok (.dup, 1) := by decide +kernel
theorem dX0_takeBack_12 : decode cX0_takeBack 12 = .ok (.getfield 22, 3) := by decide +kernel
theorem dX0_takeBack_15 : decode cX0_takeBack 15 = .ok (.iconst 1, 1) := by decide +kernel
theorem dX0_takeBack_16 : decode cX0_takeBack 16 = .ok (.isub, 1) := by decide +kernel
theorem dX0_takeBack_17 : decode cX0_takeBack 17 = .ok (.putfield 22, 3) := by decide +kernel
theorem dX0_takeBack_20 : decode cX0_takeBack 20 = .ok (.aload_n 1, 1) := by decide +kernel
theorem dX0_takeBack_21 : decode cX0_takeBack 21 = .ok (.aload_n 0, 1) := by decide +kernel
theorem dX0_takeBack_22 : decode cX0_takeBack 22 = .ok (.getfield 13, 3) := by decide +kernel
theorem dX0_takeBack_25 : decode cX0_takeBack 25 = .ok (.aload_n 0, 1) := by decide +kernel
theorem dX0_takeBack_26 : decode cX0_takeBack 26 = .ok (.getfield 18, 3) := by decide +kernel
theorem dX0_takeBack_29 : decode cX0_takeBack 29 = .ok (.aload_n 0, 1) := by decide +kernel
theorem dX0_takeBack_30 : decode cX0_takeBack 30 = .ok (.getfield 22, 3) := by decide +kernel
theorem dX0_takeBack_33 : decode cX0_takeBack 33 = .ok (.iadd, 1) := by decide +kernel
theorem dX0_takeBack_34 : decode cX0_takeBack 34 = .ok (.bipush 15, 2) := by decide +kernel
theorem dX0_takeBack_36 : decode cX0_takeBack 36 = .ok (.irem, 1) := by decide +kernel
theorem dX0_takeBack_37 : decode cX0_takeBack 37 = .ok (.aaload, 1) := by decide +kernel
theorem dX0_takeBack_38 : decode cX0_takeBack 38 = .ok (.invokevirtual 25, 3) := by decide +kernel
theorem dX0_takeBack_41 : decode cX0_takeBack 41 = .ok (.aload_n 0, 1) := by decide +kernel
theorem dX0_takeBack_42 : decode cX0_takeBack 42 = .ok (.getfield 22, 3) := by decide +kernel
theorem dX0_takeBack_45 : decode cX0_takeBack 45 = .ok (.ireturn, 1) := by decide +kernel
theorem dX0_forgetAll_0 : decode cX0_forgetAll 0 = .ok (.aload_n 0, 1) := by decide +kernel
theorem dX0_forgetAll_1 : decode cX0_forgetAll 1 = .ok (.iconst 0, 1) := by decide +kernel
theorem dX0_forgetAll_2 : decode cX0_forgetAll 2 = .ok (.putfield 22, 3) := by decide +kernel
theorem dX0_forgetAll_5 : decode cX0_forgetAll 5 = .ok (.return_, 1) := by decide +kernel
theorem dX1_init_0 : decode cX1_init 0 = .ok (.aload_n 0, 1) := by decide +kernel
theorem dX1_init_1 : decode cX1_init 1 = .ok (.invokespecial 3, 3) := by decide +kernel
theorem dX1_init_4 : decode cX1_init 4 = .ok (.aload_n 0, 1) := by decide +kernel
theorem dX1_init_5 : decode cX1_init 5 = .ok (.bipush 16, 2) := by decide +kernel
theorem dX1_init_7 : decode cX1_init 7 = .ok (.newarray .int, 2) := by decide +kernel
theorem dX1_init_9 : decode cX1_init 9 = .ok (.putfield 9, 3) := by decide +kernel
theorem dX1_init_12 : decode cX1_init 12 = .ok (.aload_n 0, 1) := by decide +kernel
theorem dX1_init_13 : decode cX1_init 13 = .ok (.bipush 16, 2) := by decide +kernel
theorem dX1_init_15 : decode cX1_init 15 = .ok (.newarray .int, 2) := by decide +kernel
theorem dX1_init_17 : decode cX1_init 17 = .ok (.putfield 15, 3) := by decide +kernel
theorem dX1_init_20 : decode cX1_init 20 = .ok (.aload_n 0, 1) := by decide +kernel
theorem dX1_init_21 : decode cX1_init 21 = .ok (.bipush 16, 2) := by decide +kernel
theorem dX1_init_23 : decode cX1_init 23 = .ok (.newarray .int, 2) := by decide +kernel
theorem dX1_init_25 : decode cX1_init 25 = .ok (.putfield 18, 3) := by decide +kernel
theorem dX1_init_28 : decode cX1_init 28 = .ok (.aload_n 0, 1) := by decide +kernel
theorem dX1_init_29 : decode cX1_init 29 = .ok (.bipush 16, 2) := by decide +kernel
theorem dX1_init_31 : decode cX1_init 31 = .ok (.newarray .int, 2) := by decide +kernel
theorem dX1_init_33 : decode cX1_init 33 = .ok (.putfield 21, 3) := by decide +kernel
theorem dX1_init_36 : decode cX1_init 36 = .ok (.aload_n 0, 1) := by decide +kernel
theorem dX1_init_37 : decode cX1_init 37 = .ok (.iconst 4, 1) := by decide +kernel
theorem dX1_init_38 : decode cX1_init 38 = .ok (.newarray .int, 2) := by decide +kernel
theorem dX1_init_40 : decode cX1_init 40 = .ok (.putfield 24, 3) := by decide +kernel
theorem dX1_init_43 : decode cX1_init 43 = .ok (.aload_n 0, 1) := by decide +kernel
theorem dX1_init_44 : decode cX1_init 44 = .ok (.iconst 4, 1) := by decide +kernel
theorem dX1_init_45 : decode cX1_init 45 = .ok (.newarray .int, 2) := by decide +kernel
theorem dX1_init_47 : decode cX1_init 47 = .ok (.putfield 27, 3) := by decide +kernel
theorem dX1_init_50 : decode cX1_init 50 = .ok (.aload_n 0, 1) := by decide +kernel
theorem dX1_init_51 : decode cX1_init 51 = .ok (.bipush 16, 2) := by decide +kernel
theorem dX1_init_53 : decode cX1_init 53 = .ok (.newarray .int, 2) := by decide +kernel
theorem dX1_init_55 : decode cX1_init 55 = .ok (.putfield 30, 3) := by decide +kernel
theorem dX1_init_58 : decode cX1_init 58 = .ok (.return_, 1) := by decide +kernel
set_option maxRecDepth 20000 in
theorem ggX1_forNewCall_X3_wholeBoards : GoodIn wsX1_forNewCall wsX3_wholeBoards := goodIn_r _ [12, 13, 14, 76, 77, 78, 79, 80, 81, 82, 83, 84, 85, 86, 87, 88, 89] (by decide +kernel) (by decide +kernel)
set_option maxRecDepth 20000 in
theorem gX1_forNewCall_X3_wholeBoards : GoodIn wsX1_forNewCall (wsV RX1 33 RX3 yX3_wholeBoards wsX3_wholeBoards) := goodIn_app (goodIn_of _ (by decide +kernel)) ggX1_forNewCall_X3_wholeBoards
set_option maxRecDepth 20000 in
theorem ggX1_forNewCall_X1_start : GoodIn wsX1_forNewCall wsX1_start := goodIn_r _ [19, 20, 2, 3, 4, 21, 5, 6, 22, 23, 24, 25, 26, 27, 28, 7, 29, 30, 31, 11, 32, 33, 34, 35, 36, 37, 38, 39, 76, 77, 78, 79, 80, 81, 82, 83, 84, 85, 86, 87, 88, 89, 90, 91, 92, 93, 94, 95, 96, 97, 98, 99, 100, 101, 102] (by decide +kernel) (by decide +kernel)
set_option maxRecDepth 20000 in
theorem gX1_forNewCall_X1_start : GoodIn wsX1_forNewCall (wsV RX1 43 RX1 yX1_start wsX1_start) := goodIn_app (goodIn_of _ (by decide +kernel)) ggX1_forNewCall_X1_start
set_option maxRecDepth 20000 in
theorem ggX1_forNewCall_X1_settle : GoodIn wsX1_forNewCall wsX1_settle := goodIn_r _ [42, 28, 6, 43, 44, 45, 18, 46, 3, 2, 23, 47, 48, 49, 50, 24, 51, 52, 53, 54, 27, 25, 4, 26, 5, 55, 56, 57, 58, 7, 59, 60, 61, 62, 63, 64, 65, 66, 67, 68, 69, 70, 71, 40, 41, 72, 73, 74, 75, 90, 91, 92, 93, 94, 95, 96, 97, 98, 99, 100, 101, 102] (by decide +kernel) (by decide +kernel)
set_option maxRecDepth 20000 in
theorem gX1_forNewCall_X1_settle : GoodIn wsX1_forNewCall (va_wsS RX1 53 yX1_settle wsX1_settle) := goodIn_app (goodIn_of _ (by decide +kernel)) ggX1_forNewCall_X1_settle
theorem dX1_forNewCall_0 : decode cX1_forNewCall 0 = .ok (.aload_n 0, 1) := by decide +kernel
theorem dX1_forNewCall_1 : decode cX1_forNewCall 1 = .ok (.aload_n 1, 1) := by decide +kernel
theorem dX1_forNewCall_2 : decode cX1_forNewCall 2 = .ok (.aload_n 1, 1) := by decide +kernel
theorem dX1_forNewCall_3 : decode cX1_forNewCall 3 = .ok (.invokevirtual 33, 3) := by decide +kernel
theorem dX1_forNewCall_6 : decode cX1_forNewCall 6 = .ok (.aload_n 1, 1) := by decide +kernel
theorem dX1_forNewCall_7 : decode cX1_forNewCall 7 = .ok (.getfield 39, 3) := by decide +kernel
theorem dX1_forNewCall_10 : decode cX1_forNewCall 10 = .ok (.invokevirtual 43, 3) := by decide +kernel
theorem dX1_forNewCall_13 : decode cX1_forNewCall 13 = .ok (.aload_n 0, 1) := by decide +kernel
theorem dX1_forNewCall_14 : decode cX1_forNewCall 14 = .ok (.getfield 47, 3) := by decide +kernel
theorem dX1_forNewCall_17 : decode cX1_forNewCall 17 = .ok (.bipush 16, 2) := by decide +kernel
theorem dX1_forNewCall_19 : decode cX1_forNewCall 19 = .ok (.if_icmp .lt 5, 3) := by decide +kernel
theorem dX1_forNewCall_22 : decode cX1_forNewCall 22 = .ok (.iconst (-1), 1) := by decide +kernel
theorem dX1_forNewCall_23 : decode cX1_forNewCall 23 = .ok (.ireturn, 1) := by decide +kernel
theorem dX1_forNewCall_24 : decode cX1_forNewCall 24 = .ok (.aload_n 0, 1) := by decide +kernel
theorem dX1_forNewCall_25 : decode cX1_forNewCall 25 = .ok (.aload_n 0, 1) := by decide +kernel
theorem dX1_forNewCall_26 : decode cX1_forNewCall 26 = .ok (.getfield 47, 3) := by decide +kernel
theorem dX1_forNewCall_29 : decode cX1_forNewCall 29 = .ok (.putfield 50, 3) := by decide +kernel
theorem dX1_forNewCall_32 : decode cX1_forNewCall 32 = .ok (.aload_n 0, 1) := by decide +kernel
theorem dX1_forNewCall_33 : decode cX1_forNewCall 33 = .ok (.getfield 9, 3) := by decide +kernel
theorem dX1_forNewCall_36 : decode cX1_forNewCall 36 = .ok (.aload_n 0, 1) := by decide +kernel
theorem dX1_forNewCall_37 : decode cX1_forNewCall 37 = .ok (.getfield 50, 3) := by decide +kernel
theorem dX1_forNewCall_40 : decode cX1_forNewCall 40 = .ok (.iconst 1, 1) := by decide +kernel
theorem dX1_forNewCall_41 : decode cX1_forNewCall 41 = .ok (.iload_n 2, 1) := by decide +kernel
theorem dX1_forNewCall_42 : decode cX1_forNewCall 42 = .ok (.ishl, 1) := by decide +kernel
theorem dX1_forNewCall_43 : decode cX1_forNewCall 43 = .ok (.iastore, 1) := by decide +kernel
theorem dX1_forNewCall_44 : decode cX1_forNewCall 44 = .ok (.aload_n 0, 1) := by decide +kernel
theorem dX1_forNewCall_45 : decode cX1_forNewCall 45 = .ok (.getfield 15, 3) := by decide +kernel
theorem dX1_forNewCall_48 : decode cX1_forNewCall 48 = .ok (.aload_n 0, 1) := by decide +kernel
theorem dX1_forNewCall_49 : decode cX1_forNewCall 49 = .ok (.getfield 50, 3) := by decide +kernel
theorem dX1_forNewCall_52 : decode cX1_forNewCall 52 = .ok (.iconst 1, 1) := by decide +kernel
theorem dX1_forNewCall_53 : decode cX1_forNewCall 53 = .ok (.iload_n 3, 1) := by decide +kernel
theorem dX1_forNewCall_54 : decode cX1_forNewCall 54 = .ok (.ishl, 1) := by decide +kernel
theorem dX1_forNewCall_55 : decode cX1_forNewCall 55 = .ok (.iastore, 1) := by decide +kernel
theorem dX1_forNewCall_56 : decode cX1_forNewCall 56 = .ok (.aload_n 0, 1) := by decide +kernel
theorem dX1_forNewCall_57 : decode cX1_forNewCall 57 = .ok (.getfield 18, 3) := by decide +kernel
theorem dX1_forNewCall_60 : decode cX1_forNewCall 60 = .ok (.aload_n 0, 1) := by decide +kernel
theorem dX1_forNewCall_61 : decode cX1_forNewCall 61 = .ok (.getfield 50, 3) := by decide +kernel
theorem dX1_forNewCall_64 : decode cX1_forNewCall 64 = .ok (.iconst (-1), 1) := by decide +kernel
theorem dX1_forNewCall_65 : decode cX1_forNewCall 65 = .ok (.iastore, 1) := by decide +kernel
theorem dX1_forNewCall_66 : decode cX1_forNewCall 66 = .ok (.aload_n 0, 1) := by decide +kernel
theorem dX1_forNewCall_67 : decode cX1_forNewCall 67 = .ok (.dup, 1) := by decide +kernel
theorem dX1_forNewCall_68 : decode cX1_forNewCall 68 = .ok (.getfield 47, 3) := by decide +kernel
theorem dX1_forNewCall_71 : decode cX1_forNewCall 71 = .ok (.iconst 1, 1) := by decide +kernel
theorem dX1_forNewCall_72 : decode cX1_forNewCall 72 = .ok (.iadd, 1) := by decide +kernel
theorem dX1_forNewCall_73 : decode cX1_forNewCall 73 = .ok (.putfield 47, 3) := by decide +kernel
theorem dX1_forNewCall_76 : decode cX1_forNewCall 76 = .ok (.aload_n 0, 1) := by decide +kernel
theorem dX1_forNewCall_77 : decode cX1_forNewCall 77 = .ok (.iconst 0, 1) := by decide +kernel
theorem dX1_forNewCall_78 : decode cX1_forNewCall 78 = .ok (.iconst 0, 1) := by decide +kernel
theorem dX1_forNewCall_79 : decode cX1_forNewCall 79 = .ok (.invokestatic 53, 3) := by decide +kernel
theorem dX1_forNewCall_82 : decode cX1_forNewCall 82 = .ok (.aload_n 0, 1) := by decide +kernel
theorem dX1_forNewCall_83 : decode cX1_forNewCall 83 = .ok (.getfield 57, 3) := by decide +kernel
theorem dX1_forNewCall_86 : decode cX1_forNewCall 86 = .ok (.ireturn, 1) := by decide +kernel
set_option maxRecDepth 20000 in
theorem ggX1_forMoreOutputs_X3_wholeBoards : GoodIn wsX1_forMoreOutputs wsX3_wholeBoards := goodIn_r _ [10, 11, 12, 76, 77, 78, 79, 80, 81, 82, 83, 84, 85, 86, 87, 88, 89] (by decide +kernel) (by decide +kernel)
set_option maxRecDepth 20000 in
theorem gX1_forMoreOutputs_X3_wholeBoards : GoodIn wsX1_forMoreOutputs (wsV RX1 33 RX3 yX3_wholeBoards wsX3_wholeBoards) := goodIn_app (goodIn_of _ (by decide +kernel)) ggX1_forMoreOutputs_X3_wholeBoards
set_option maxRecDepth 20000 in
theorem ggX1_forMoreOutputs_X1_start : GoodIn wsX1_forMoreOutputs wsX1_start := goodIn_r _ [17, 18, 2, 3, 19, 20, 4, 21, 22, 23, 24, 25, 26, 27, 28, 5, 29, 30, 31, 9, 32, 33, 34, 35, 36, 37, 38, 39, 76, 77, 78, 79, 80, 81, 82, 83, 84, 85, 86, 87, 88, 89, 90, 91, 92, 93, 94, 95, 96, 97, 98, 99, 100, 101, 102] (by decide +kernel) (by decide +kernel)
set_option maxRecDepth 20000 in
theorem gX1_forMoreOutputs_X1_start : GoodIn wsX1_forMoreOutputs (wsV RX1 43 RX1 yX1_start wsX1_start) := goodIn_app (goodIn_of _ (by decide +kernel)) ggX1_forMoreOutputs_X1_start
set_option maxRecDepth 20000 in
theorem ggX1_forMoreOutputs_X1_settle : GoodIn wsX1_forMoreOutputs wsX1_settle := goodIn_r _ [42, 28, 21, 43, 44, 45, 16, 46, 3, 2, 23, 47, 48, 49, 50, 24, 51, 52, 53, 54, 27, 25, 19, 26, 4, 55, 56, 57, 58, 5, 59, 60, 61, 62, 63, 64, 65, 66, 67, 68, 69, 70, 71, 40, 41, 72, 73, 74, 75, 90, 91, 92, 93, 94, 95, 96, 97, 98, 99, 100, 101, 102] (by decide +kernel) (by decide +kernel)
set_option maxRecDepth 20000 in
theorem gX1_forMoreOutputs_X1_settle : GoodIn wsX1_forMoreOutputs (va_wsS RX1 53 yX1_settle wsX1_settle) := goodIn_app (goodIn_of _ (by decide +kernel)) ggX1_forMoreOutputs_X1_settle
theorem dX1_forMoreOutputs_0 : decode cX1_forMoreOutputs 0 = .ok (.aload_n 0, 1) := by decide +kernel
theorem dX1_forMoreOutputs_1 : decode cX1_forMoreOutputs 1 = .ok (.aload_n 1, 1) := by decide +kernel
theorem dX1_forMoreOutputs_2 : decode cX1_forMoreOutputs 2 = .ok (.aload_n 1, 1) := by decide +kernel
theorem dX1_forMoreOutputs_3 : decode cX1_forMoreOutputs 3 = .ok (.invokevirtual 33, 3) := by decide +kernel
theorem dX1_forMoreOutputs_6 : decode cX1_forMoreOutputs 6 = .ok (.aload_n 1, 1) := by decide +kernel
theorem dX1_forMoreOutputs_7 : decode cX1_forMoreOutputs 7 = .ok (.getfield 39, 3) := by decide +kernel
theorem dX1_forMoreOutputs_10 : decode cX1_forMoreOutputs 10 = .ok (.invokevirtual 43, 3) := by decide +kernel
theorem dX1_forMoreOutputs_13 : decode cX1_forMoreOutputs 13 = .ok (.iload_n 2, 1) := by decide +kernel
theorem dX1_forMoreOutputs_14 : decode cX1_forMoreOutputs 14 = .ok (.ifCond .lt 11, 3) := by decide +kernel
theorem dX1_forMoreOutputs_17 : decode cX1_forMoreOutputs 17 = .ok (.iload_n 2, 1) := by decide +kernel
theorem dX1_forMoreOutputs_18 : decode cX1_forMoreOutputs 18 = .ok (.aload_n 0, 1) := by decide +kernel
theorem dX1_forMoreOutputs_19 : decode cX1_forMoreOutputs 19 = .ok (.getfield 47, 3) := by decide +kernel
theorem dX1_forMoreOutputs_22 : decode cX1_forMoreOutputs 22 = .ok (.if_icmp .lt 5, 3) := by decide +kernel
theorem dX1_forMoreOutputs_25 : decode cX1_forMoreOutputs 25 = .ok (.iconst (-1), 1) := by decide +kernel
theorem dX1_forMoreOutputs_26 : decode cX1_forMoreOutputs 26 = .ok (.ireturn, 1) := by decide +kernel
theorem dX1_forMoreOutputs_27 : decode cX1_forMoreOutputs 27 = .ok (.aload_n 0, 1) := by decide +kernel
theorem dX1_forMoreOutputs_28 : decode cX1_forMoreOutputs 28 = .ok (.iload_n 2, 1) := by decide +kernel
theorem dX1_forMoreOutputs_29 : decode cX1_forMoreOutputs 29 = .ok (.putfield 50, 3) := by decide +kernel
theorem dX1_forMoreOutputs_32 : decode cX1_forMoreOutputs 32 = .ok (.aload_n 0, 1) := by decide +kernel
theorem dX1_forMoreOutputs_33 : decode cX1_forMoreOutputs 33 = .ok (.getfield 15, 3) := by decide +kernel
theorem dX1_forMoreOutputs_36 : decode cX1_forMoreOutputs 36 = .ok (.aload_n 0, 1) := by decide +kernel
theorem dX1_forMoreOutputs_37 : decode cX1_forMoreOutputs 37 = .ok (.getfield 50, 3) := by decide +kernel
theorem dX1_forMoreOutputs_40 : decode cX1_forMoreOutputs 40 = .ok (.dup2, 1) := by decide +kernel
theorem dX1_forMoreOutputs_41 : decode cX1_forMoreOutputs 41 = .ok (.iaload, 1) := by decide +kernel
theorem dX1_forMoreOutputs_42 : decode cX1_forMoreOutputs 42 = .ok (.iconst 1, 1) := by decide +kernel
theorem dX1_forMoreOutputs_43 : decode cX1_forMoreOutputs 43 = .ok (.iload_n 3, 1) := by decide +kernel
theorem dX1_forMoreOutputs_44 : decode cX1_forMoreOutputs 44 = .ok (.ishl, 1) := by decide +kernel
theorem dX1_forMoreOutputs_45 : decode cX1_forMoreOutputs 45 = .ok (.ior, 1) := by decide +kernel
theorem dX1_forMoreOutputs_46 : decode cX1_forMoreOutputs 46 = .ok (.iastore, 1) := by decide +kernel
theorem dX1_forMoreOutputs_47 : decode cX1_forMoreOutputs 47 = .ok (.aload_n 0, 1) := by decide +kernel
theorem dX1_forMoreOutputs_48 : decode cX1_forMoreOutputs 48 = .ok (.iconst 0, 1) := by decide +kernel
theorem dX1_forMoreOutputs_49 : decode cX1_forMoreOutputs 49 = .ok (.iconst 0, 1) := by decide +kernel
theorem dX1_forMoreOutputs_50 : decode cX1_forMoreOutputs 50 = .ok (.invokestatic 53, 3) := by decide +kernel
theorem dX1_forMoreOutputs_53 : decode cX1_forMoreOutputs 53 = .ok (.aload_n 0, 1) := by decide +kernel
theorem dX1_forMoreOutputs_54 : decode cX1_forMoreOutputs 54 = .ok (.getfield 57, 3) := by decide +kernel
theorem dX1_forMoreOutputs_57 : decode cX1_forMoreOutputs 57 = .ok (.ireturn, 1) := by decide +kernel
set_option maxRecDepth 20000 in
theorem ggX1_forLosing_X3_wholeBoards : GoodIn wsX1_forLosing wsX3_wholeBoards := goodIn_r _ [6, 7, 8, 88, 89, 90, 91, 92, 93, 94, 95, 96, 97, 98, 99, 100, 101] (by decide +kernel) (by decide +kernel)
set_option maxRecDepth 20000 in
theorem gX1_forLosing_X3_wholeBoards : GoodIn wsX1_forLosing (wsV RX1 33 RX3 yX3_wholeBoards wsX3_wholeBoards) := goodIn_app (goodIn_of _ (by decide +kernel)) ggX1_forLosing_X3_wholeBoards
set_option maxRecDepth 20000 in
theorem ggX1_forLosing_X1_start : GoodIn wsX1_forLosing wsX1_start := goodIn_r _ [13, 14, 15, 16, 17, 18, 19, 20, 21, 22, 23, 24, 25, 26, 27, 1, 28, 29, 30, 5, 31, 32, 33, 34, 35, 36, 37, 38, 88, 89, 90, 91, 92, 93, 94, 95, 96, 97, 98, 99, 100, 101, 75, 76, 77, 78, 79, 80, 81, 82, 83, 84, 85, 86, 87] (by decide +kernel) (by decide +kernel)
set_option maxRecDepth 20000 in
theorem gX1_forLosing_X1_start : GoodIn wsX1_forLosing (wsV RX1 43 RX1 yX1_start wsX1_start) := goodIn_app (goodIn_of _ (by decide +kernel)) ggX1_forLosing_X1_start
set_option maxRecDepth 20000 in
theorem ggX1_forLosing_X1_settle : GoodIn wsX1_forLosing wsX1_settle := goodIn_r _ [41, 27, 20, 42, 43, 44, 12, 45, 16, 15, 22, 46, 47, 48, 49, 23, 50, 51, 52, 53, 26, 24, 17, 25, 19, 54, 55, 56, 57, 1, 58, 59, 60, 61, 62, 63, 64, 65, 66, 67, 68, 69, 70, 39, 40, 71, 72, 73, 74, 75, 76, 77, 78, 79, 80, 81, 82, 83, 84, 85, 86, 87] (by decide +kernel) (by decide +kernel)
set_option maxRecDepth 20000 in
theorem gX1_forLosing_X1_settle : GoodIn wsX1_forLosing (va_wsS RX1 53 yX1_settle wsX1_settle) := goodIn_app (goodIn_of _ (by decide +kernel)) ggX1_forLosing_X1_settle
theorem dX1_forLosing_0 : decode cX1_forLosing 0 = .ok (.aload_n 0, 1) := by decide +kernel
theorem dX1_forLosing_1 : decode cX1_forLosing 1 = .ok (.aload_n 1, 1) := by decide +kernel
theorem dX1_forLosing_2 : decode cX1_forLosing 2 = .ok (.aload_n 1, 1) := by decide +kernel
theorem dX1_forLosing_3 : decode cX1_forLosing 3 = .ok (.invokevirtual 33, 3) := by decide +kernel
theorem dX1_forLosing_6 : decode cX1_forLosing 6 = .ok (.iconst 1, 1) := by decide +kernel
theorem dX1_forLosing_7 : decode cX1_forLosing 7 = .ok (.iload_n 2, 1) := by decide +kernel
theorem dX1_forLosing_8 : decode cX1_forLosing 8 = .ok (.ishl, 1) := by decide +kernel
theorem dX1_forLosing_9 : decode cX1_forLosing 9 = .ok (.iconst (-1), 1) := by decide +kernel
theorem dX1_forLosing_10 : decode cX1_forLosing 10 = .ok (.ixor, 1) := by decide +kernel
theorem dX1_forLosing_11 : decode cX1_forLosing 11 = .ok (.iand, 1) := by decide +kernel
theorem dX1_forLosing_12 : decode cX1_forLosing 12 = .ok (.bipush 16, 2) := by decide +kernel
theorem dX1_forLosing_14 : decode cX1_forLosing 14 = .ok (.invokevirtual 43, 3) := by decide +kernel
theorem dX1_forLosing_17 : decode cX1_forLosing 17 = .ok (.aload_n 0, 1) := by decide +kernel
theorem dX1_forLosing_18 : decode cX1_forLosing 18 = .ok (.iconst 0, 1) := by decide +kernel
theorem dX1_forLosing_19 : decode cX1_forLosing 19 = .ok (.iconst 0, 1) := by decide +kernel
theorem dX1_forLosing_20 : decode cX1_forLosing 20 = .ok (.invokestatic 53, 3) := by decide +kernel
theorem dX1_forLosing_23 : decode cX1_forLosing 23 = .ok (.aload_n 0, 1) := by decide +kernel
theorem dX1_forLosing_24 : decode cX1_forLosing 24 = .ok (.getfield 57, 3) := by decide +kernel
theorem dX1_forLosing_27 : decode cX1_forLosing 27 = .ok (.ireturn, 1) := by decide +kernel
set_option maxRecDepth 20000 in
theorem ggX1_wouldDo_X1_start : GoodIn wsX1_wouldDo wsX1_start := goodIn_r _ [5, 6, 7, 8, 9, 10, 11, 12, 13, 14, 15, 16, 17, 18, 19, 20, 21, 22, 23, 24, 25, 26, 27, 28, 29, 30, 31, 32, 48, 49, 50, 51, 52, 53, 54, 55, 56, 57, 58, 59, 60, 61, 62, 63, 64, 65, 66, 67, 68, 69, 70, 71, 72, 73, 74] (by decide +kernel) (by decide +kernel)
set_option maxRecDepth 20000 in
theorem gX1_wouldDo_X1_start : GoodIn wsX1_wouldDo (wsV RX1 43 RX1 yX1_start wsX1_start) := goodIn_app (goodIn_of _ (by decide +kernel)) ggX1_wouldDo_X1_start
set_option maxRecDepth 20000 in
theorem ggX1_wouldDo_X1_placed : GoodIn wsX1_wouldDo wsX1_placed := goodIn_r _ [35, 7, 16, 36, 37, 38, 4, 39, 18, 9, 17, 11, 40, 41, 42, 43, 14, 15, 33, 34, 44, 45, 46, 47, 12, 62, 63, 64, 65, 66, 67, 68, 69, 70, 71, 72, 73, 74] (by decide +kernel) (by decide +kernel)
set_option maxRecDepth 20000 in
theorem gX1_wouldDo_X1_placed : GoodIn wsX1_wouldDo (va_wsS RX1 60 yX1_placed wsX1_placed) := goodIn_app (goodIn_of _ (by decide +kernel)) ggX1_wouldDo_X1_placed
theorem dX1_wouldDo_0 : decode cX1_wouldDo 0 = .ok (.aload_n 0, 1) := by decide +kernel
theorem dX1_wouldDo_1 : decode cX1_wouldDo 1 = .ok (.aload_n 1, 1) := by decide +kernel
theorem dX1_wouldDo_2 : decode cX1_wouldDo 2 = .ok (.iconst 1, 1) := by decide +kernel
theorem dX1_wouldDo_3 : decode cX1_wouldDo 3 = .ok (.iload_n 2, 1) := by decide +kernel
theorem dX1_wouldDo_4 : decode cX1_wouldDo 4 = .ok (.ishl, 1) := by decide +kernel
theorem dX1_wouldDo_5 : decode cX1_wouldDo 5 = .ok (.iconst 1, 1) := by decide +kernel
theorem dX1_wouldDo_6 : decode cX1_wouldDo 6 = .ok (.isub, 1) := by decide +kernel
theorem dX1_wouldDo_7 : decode cX1_wouldDo 7 = .ok (.bipush 16, 2) := by decide +kernel
theorem dX1_wouldDo_9 : decode cX1_wouldDo 9 = .ok (.invokevirtual 43, 3) := by decide +kernel
theorem dX1_wouldDo_12 : decode cX1_wouldDo 12 = .ok (.aload_n 0, 1) := by decide +kernel
theorem dX1_wouldDo_13 : decode cX1_wouldDo 13 = .ok (.iconst 0, 1) := by decide +kernel
theorem dX1_wouldDo_14 : decode cX1_wouldDo 14 = .ok (.invokestatic 60, 3) := by decide +kernel
theorem dX1_wouldDo_17 : decode cX1_wouldDo 17 = .ok (.ireturn, 1) := by decide +kernel
set_option maxRecDepth 20000 in
theorem ggX1_start_X3_boardOf : GoodIn wsX1_start wsX3_boardOf := goodIn_r _ [20, 21, 28, 29, 30, 31, 32, 33, 34, 35, 36, 37, 38, 39, 40, 41] (by decide +kernel) (by decide +kernel)
set_option maxRecDepth 20000 in
theorem gX1_start_X3_boardOf : GoodIn wsX1_start (wsV RX1 68 RX3 yX3_boardOf wsX3_boardOf) := goodIn_app (goodIn_of _ (by decide +kernel)) ggX1_start_X3_boardOf
set_option maxRecDepth 20000 in
theorem ggX1_start_X3_lastBoardsOf : GoodIn wsX1_start wsX3_lastBoardsOf := goodIn_r _ [25, 26, 27, 17, 18, 19, 20, 21, 28, 29, 30, 31, 32, 33, 34, 35, 36, 37, 38, 39, 40, 41] (by decide +kernel) (by decide +kernel)
set_option maxRecDepth 20000 in
theorem gX1_start_X3_lastBoardsOf : GoodIn wsX1_start (wsV RX1 72 RX3 yX3_lastBoardsOf wsX3_lastBoardsOf) := goodIn_app (goodIn_of _ (by decide +kernel)) ggX1_start_X3_lastBoardsOf
theorem dX1_start_0 : decode cX1_start 0 = .ok (.aload_n 0, 1) := by decide +kernel
theorem dX1_start_1 : decode cX1_start 1 = .ok (.aload_n 1, 1) := by decide +kernel
theorem dX1_start_2 : decode cX1_start 2 = .ok (.getfield 64, 3) := by decide +kernel
theorem dX1_start_5 : decode cX1_start 5 = .ok (.putfield 47, 3) := by decide +kernel
theorem dX1_start_8 : decode cX1_start 8 = .ok (.aload_n 0, 1) := by decide +kernel
theorem dX1_start_9 : decode cX1_start 9 = .ok (.iconst (-1), 1) := by decide +kernel
theorem dX1_start_10 : decode cX1_start 10 = .ok (.putfield 50, 3) := by decide +kernel
theorem dX1_start_13 : decode cX1_start 13 = .ok (.iconst 0, 1) := by decide +kernel
theorem dX1_start_14 : decode cX1_start 14 = .ok (.istore 4, 2) := by decide +kernel
theorem dX1_start_16 : decode cX1_start 16 = .ok (.iload 4, 2) := by decide +kernel
theorem dX1_start_18 : decode cX1_start 18 = .ok (.aload_n 0, 1) := by decide +kernel
theorem dX1_start_19 : decode cX1_start 19 = .ok (.getfield 47, 3) := by decide +kernel
theorem dX1_start_22 : decode cX1_start 22 = .ok (.if_icmp .ge 70, 3) := by decide +kernel
theorem dX1_start_25 : decode cX1_start 25 = .ok (.aload_n 0, 1) := by decide +kernel
theorem dX1_start_26 : decode cX1_start 26 = .ok (.getfield 9, 3) := by decide +kernel
theorem dX1_start_29 : decode cX1_start 29 = .ok (.iload 4, 2) := by decide +kernel
theorem dX1_start_31 : decode cX1_start 31 = .ok (.iconst 1, 1) := by decide +kernel
theorem dX1_start_32 : decode cX1_start 32 = .ok (.aload_n 1, 1) := by decide +kernel
theorem dX1_start_33 : decode cX1_start 33 = .ok (.aload_n 1, 1) := by decide +kernel
theorem dX1_start_34 : decode cX1_start 34 = .ok (.getfield 65, 3) := by decide +kernel
theorem dX1_start_37 : decode cX1_start 37 = .ok (.iload 4, 2) := by decide +kernel
theorem dX1_start_39 : decode cX1_start 39 = .ok (.iaload, 1) := by decide +kernel
theorem dX1_start_40 : decode cX1_start 40 = .ok (.invokevirtual 68, 3) := by decide +kernel
theorem dX1_start_43 : decode cX1_start 43 = .ok (.ishl, 1) := by decide +kernel
theorem dX1_start_44 : decode cX1_start 44 = .ok (.iastore, 1) := by decide +kernel
theorem dX1_start_45 : decode cX1_start 45 = .ok (.aload_n 0, 1) := by decide +kernel
theorem dX1_start_46 : decode cX1_start 46 = .ok (.getfield 15, 3) := by decide +kernel
theorem dX1_start_49 : decode cX1_start 49 = .ok (.iload 4, 2) := by decide +kernel
theorem dX1_start_51 : decode cX1_start 51 = .ok (.aload_n 1, 1) := by decide +kernel
theorem dX1_start_52 : decode cX1_start 52 = .ok (.iload 4, 2) := by decide +kernel
theorem dX1_start_54 : decode cX1_start 54 = .ok (.invokevirtual 72, 3) := by decide +kernel
theorem dX1_start_57 : decode cX1_start 57 = .ok (.iastore, 1) := by decide +kernel
theorem dX1_start_58 : decode cX1_start 58 = .ok (.aload_n 0, 1) := by decide +kernel
theorem dX1_start_59 : decode cX1_start 59 = .ok (.getfield 18, 3) := by decide +kernel
theorem dX1_start_62 : decode cX1_start 62 = .ok (.iload 4, 2) := by decide +kernel
theorem dX1_start_64 : decode cX1_start 64 = .ok (.aload_n 1, 1) := by decide +kernel
theorem dX1_start_65 : decode cX1_start 65 = .ok (.getfield 75, 3) := by decide +kernel
theorem dX1_start_68 : decode cX1_start 68 = .ok (.iload 4, 2) := by decide +kernel
theorem dX1_start_70 : decode cX1_start 70 = .ok (.iaload, 1) := by decide +kernel
theorem dX1_start_71 : decode cX1_start 71 = .ok (.iastore, 1) := by decide +kernel
theorem dX1_start_72 : decode cX1_start 72 = .ok (.aload_n 0, 1) := by decide +kernel
theorem dX1_start_73 : decode cX1_start 73 = .ok (.getfield 21, 3) := by decide +kernel
theorem dX1_start_76 : decode cX1_start 76 = .ok (.iload 4, 2) := by decide +kernel
theorem dX1_start_78 : decode cX1_start 78 = .ok (.aload_n 1, 1) := by decide +kernel
theorem dX1_start_79 : decode cX1_start 79 = .ok (.getfield 75, 3) := by decide +kernel
theorem dX1_start_82 : decode cX1_start 82 = .ok (.iload 4, 2) := by decide +kernel
theorem dX1_start_84 : decode cX1_start 84 = .ok (.iaload, 1) := by decide +kernel
theorem dX1_start_85 : decode cX1_start 85 = .ok (.iastore, 1) := by decide +kernel
theorem dX1_start_86 : decode cX1_start 86 = .ok (.iinc 4 1, 3) := by decide +kernel
theorem dX1_start_89 : decode cX1_start 89 = .ok (.goto (-73), 3) := by decide +kernel
theorem dX1_start_92 : decode cX1_start 92 = .ok (.aload_n 0, 1) := by decide +kernel
theorem dX1_start_93 : decode cX1_start 93 = .ok (.iconst 0, 1) := by decide +kernel
theorem dX1_start_94 : decode cX1_start 94 = .ok (.putfield 78, 3) := by decide +kernel
theorem dX1_start_97 : decode cX1_start 97 = .ok (.iconst 0, 1) := by decide +kernel
theorem dX1_start_98 : decode cX1_start 98 = .ok (.istore 4, 2) := by decide +kernel
theorem dX1_start_100 : decode cX1_start 100 = .ok (.iload 4, 2) := by decide +kernel
theorem dX1_start_102 : decode cX1_start 102 = .ok (.iconst 4, 1) := by decide +kernel
theorem dX1_start_103 : decode cX1_start 103 = .ok (.if_icmp .ge 25, 3) := by decide +kernel
theorem dX1_start_106 : decode cX1_start 106 = .ok (.aload_n 0, 1) := by decide +kernel
theorem dX1_start_107 : decode cX1_start 107 = .ok (.getfield 24, 3) := by decide +kernel
theorem dX1_start_110 : decode cX1_start 110 = .ok (.iload 4, 2) := by decide +kernel
theorem dX1_start_112 : decode cX1_start 112 = .ok (.iconst 0, 1) := by decide +kernel
theorem dX1_start_113 : decode cX1_start 113 = .ok (.iastore, 1) := by decide +kernel
theorem dX1_start_114 : decode cX1_start 114 = .ok (.aload_n 0, 1) := by decide +kernel
theorem dX1_start_115 : decode cX1_start 115 = .ok (.getfield 27, 3) := by decide +kernel
theorem dX1_start_118 : decode cX1_start 118 = .ok (.iload 4, 2) := by decide +kernel
theorem dX1_start_120 : decode cX1_start 120 = .ok (.iconst 0, 1) := by decide +kernel
theorem dX1_start_121 : decode cX1_start 121 = .ok (.iastore, 1) := by decide +kernel
theorem dX1_start_122 : decode cX1_start 122 = .ok (.iinc 4 1, 3) := by decide +kernel
theorem dX1_start_125 : decode cX1_start 125 = .ok (.goto (-25), 3) := by decide +kernel
theorem dX1_start_128 : decode cX1_start 128 = .ok (.aload_n 0, 1) := by decide +kernel
theorem dX1_start_129 : decode cX1_start 129 = .ok (.iload_n 2, 1) := by decide +kernel
theorem dX1_start_130 : decode cX1_start 130 = .ok (.putfield 81, 3) := by decide +kernel
theorem dX1_start_133 : decode cX1_start 133 = .ok (.aload_n 0, 1) := by decide +kernel
theorem dX1_start_134 : decode cX1_start 134 = .ok (.iload_n 3, 1) := by decide +kernel
theorem dX1_start_135 : decode cX1_start 135 = .ok (.putfield 84, 3) := by decide +kernel
theorem dX1_start_138 : decode cX1_start 138 = .ok (.aload_n 0, 1) := by decide +kernel
theorem dX1_start_139 : decode cX1_start 139 = .ok (.iconst (-1), 1) := by decide +kernel
theorem dX1_start_140 : decode cX1_start 140 = .ok (.putfield 57, 3) := by decide +kernel
theorem dX1_start_143 : decode cX1_start 143 = .ok (.return_, 1) := by decide +kernel
theorem dX1_isHeld_0 : decode cX1_isHeld 0 = .ok (.aload_n 0, 1) := by decide +kernel
theorem dX1_isHeld_1 : decode cX1_isHeld 1 = .ok (.getfield 78, 3) := by decide +kernel
theorem dX1_isHeld_4 : decode cX1_isHeld 4 = .ok (.iload_n 1, 1) := by decide +kernel
theorem dX1_isHeld_5 : decode cX1_isHeld 5 = .ok (.ishr, 1) := by decide +kernel
theorem dX1_isHeld_6 : decode cX1_isHeld 6 = .ok (.iconst 1, 1) := by decide +kernel
theorem dX1_isHeld_7 : decode cX1_isHeld 7 = .ok (.iand, 1) := by decide +kernel
theorem dX1_isHeld_8 : decode cX1_isHeld 8 = .ok (.ifCond .eq 7, 3) := by decide +kernel
theorem dX1_isHeld_11 : decode cX1_isHeld 11 = .ok (.iconst 1, 1) := by decide +kernel
theorem dX1_isHeld_12 : decode cX1_isHeld 12 = .ok (.goto 4, 3) := by decide +kernel
theorem dX1_isHeld_15 : decode cX1_isHeld 15 = .ok (.iconst 0, 1) := by decide +kernel
theorem dX1_isHeld_16 : decode cX1_isHeld 16 = .ok (.ireturn, 1) := by decide +kernel
theorem dX1_fits_0 : decode cX1_fits 0 = .ok (.iload_n 2, 1) := by decide +kernel
theorem dX1_fits_1 : decode cX1_fits 1 = .ok (.ifCond .lt 55, 3) := by decide +kernel
theorem dX1_fits_4 : decode cX1_fits 4 = .ok (.iload_n 2, 1) := by decide +kernel
theorem dX1_fits_5 : decode cX1_fits 5 = .ok (.iconst 4, 1) := by decide +kernel
theorem dX1_fits_6 : decode cX1_fits 6 = .ok (.if_icmp .ge 50, 3) := by decide +kernel
theorem dX1_fits_9 : decode cX1_fits 9 = .ok (.aload_n 0, 1) := by decide +kernel
theorem dX1_fits_10 : decode cX1_fits 10 = .ok (.getfield 81, 3) := by decide +kernel
theorem dX1_fits_13 : decode cX1_fits 13 = .ok (.iload_n 2, 1) := by decide +kernel
theorem dX1_fits_14 : decode cX1_fits 14 = .ok (.ishr, 1) := by decide +kernel
theorem dX1_fits_15 : decode cX1_fits 15 = .ok (.iconst 1, 1) := by decide +kernel
theorem dX1_fits_16 : decode cX1_fits 16 = .ok (.iand, 1) := by decide +kernel
theorem dX1_fits_17 : decode cX1_fits 17 = .ok (.ifCond .eq 39, 3) := by decide +kernel
theorem dX1_fits_20 : decode cX1_fits 20 = .ok (.aload_n 0, 1) := by decide +kernel
theorem dX1_fits_21 : decode cX1_fits 21 = .ok (.getfield 24, 3) := by decide +kernel
theorem dX1_fits_24 : decode cX1_fits 24 = .ok (.iload_n 2, 1) := by decide +kernel
theorem dX1_fits_25 : decode cX1_fits 25 = .ok (.iaload, 1) := by decide +kernel
theorem dX1_fits_26 : decode cX1_fits 26 = .ok (.aload_n 0, 1) := by decide +kernel
theorem dX1_fits_27 : decode cX1_fits 27 = .ok (.getfield 9, 3) := by decide +kernel
theorem dX1_fits_30 : decode cX1_fits 30 = .ok (.iload_n 1, 1) := by decide +kernel
theorem dX1_fits_31 : decode cX1_fits 31 = .ok (.iaload, 1) := by decide +kernel
theorem dX1_fits_32 : decode cX1_fits 32 = .ok (.iand, 1) := by decide +kernel
theorem dX1_fits_33 : decode cX1_fits 33 = .ok (.ifCond .ne 23, 3) := by decide +kernel
theorem dX1_fits_36 : decode cX1_fits 36 = .ok (.aload_n 0, 1) := by decide +kernel
theorem dX1_fits_37 : decode cX1_fits 37 = .ok (.getfield 27, 3) := by decide +kernel
theorem dX1_fits_40 : decode cX1_fits 40 = .ok (.iload_n 2, 1) := by decide +kernel
theorem dX1_fits_41 : decode cX1_fits 41 = .ok (.iaload, 1) := by decide +kernel
theorem dX1_fits_42 : decode cX1_fits 42 = .ok (.aload_n 0, 1) := by decide +kernel
theorem dX1_fits_43 : decode cX1_fits 43 = .ok (.getfield 15, 3) := by decide +kernel
theorem dX1_fits_46 : decode cX1_fits 46 = .ok (.iload_n 1, 1) := by decide +kernel
theorem dX1_fits_47 : decode cX1_fits 47 = .ok (.iaload, 1) := by decide +kernel
theorem dX1_fits_48 : decode cX1_fits 48 = .ok (.iand, 1) := by decide +kernel
theorem dX1_fits_49 : decode cX1_fits 49 = .ok (.ifCond .ne 7, 3) := by decide +kernel
theorem dX1_fits_52 : decode cX1_fits 52 = .ok (.iconst 1, 1) := by decide +kernel
theorem dX1_fits_53 : decode cX1_fits 53 = .ok (.goto 4, 3) := by decide +kernel
theorem dX1_fits_56 : decode cX1_fits 56 = .ok (.iconst 0, 1) := by decide +kernel
theorem dX1_fits_57 : decode cX1_fits 57 = .ok (.ireturn, 1) := by decide +kernel
theorem dX1_hold_0 : decode cX1_hold 0 = .ok (.aload_n 0, 1) := by decide +kernel
theorem dX1_hold_1 : decode cX1_hold 1 = .ok (.getfield 21, 3) := by decide +kernel
theorem dX1_hold_4 : decode cX1_hold 4 = .ok (.iload_n 1, 1) := by decide +kernel
theorem dX1_hold_5 : decode cX1_hold 5 = .ok (.iload_n 2, 1) := by decide +kernel
theorem dX1_hold_6 : decode cX1_hold 6 = .ok (.iastore, 1) := by decide +kernel
theorem dX1_hold_7 : decode cX1_hold 7 = .ok (.aload_n 0, 1) := by decide +kernel
theorem dX1_hold_8 : decode cX1_hold 8 = .ok (.dup, 1) := by decide +kernel
theorem dX1_hold_9 : decode cX1_hold 9 = .ok (.getfield 78, 3) := by decide +kernel
theorem dX1_hold_12 : decode cX1_hold 12 = .ok (.iconst 1, 1) := by decide +kernel
theorem dX1_hold_13 : decode cX1_hold 13 = .ok (.iload_n 1, 1) := by decide +kernel
theorem dX1_hold_14 : decode cX1_hold 14 = .ok (.ishl, 1) := by decide +kernel
theorem dX1_hold_15 : decode cX1_hold 15 = .ok (.ior, 1) := by decide +kernel
theorem dX1_hold_16 : decode cX1_hold 16 = .ok (.putfield 78, 3) := by decide +kernel
theorem dX1_hold_19 : decode cX1_hold 19 = .ok (.aload_n 0, 1) := by decide +kernel
theorem dX1_hold_20 : decode cX1_hold 20 = .ok (.getfield 24, 3) := by decide +kernel
theorem dX1_hold_23 : decode cX1_hold 23 = .ok (.iload_n 2, 1) := by decide +kernel
theorem dX1_hold_24 : decode cX1_hold 24 = .ok (.dup2, 1) := by decide +kernel
theorem dX1_hold_25 : decode cX1_hold 25 = .ok (.iaload, 1) := by decide +kernel
theorem dX1_hold_26 : decode cX1_hold 26 = .ok (.aload_n 0, 1) := by decide +kernel
theorem dX1_hold_27 : decode cX1_hold 27 = .ok (.getfield 9, 3) := by decide +kernel
theorem dX1_hold_30 : decode cX1_hold 30 = .ok (.iload_n 1, 1) := by decide +kernel
theorem dX1_hold_31 : decode cX1_hold 31 = .ok (.iaload, 1) := by decide +kernel
theorem dX1_hold_32 : decode cX1_hold 32 = .ok (.ior, 1) := by decide +kernel
theorem dX1_hold_33 : decode cX1_hold 33 = .ok (.iastore, 1) := by decide +kernel
theorem dX1_hold_34 : decode cX1_hold 34 = .ok (.aload_n 0, 1) := by decide +kernel
theorem dX1_hold_35 : decode cX1_hold 35 = .ok (.getfield 27, 3) := by decide +kernel
theorem dX1_hold_38 : decode cX1_hold 38 = .ok (.iload_n 2, 1) := by decide +kernel
theorem dX1_hold_39 : decode cX1_hold 39 = .ok (.dup2, 1) := by decide +kernel
theorem dX1_hold_40 : decode cX1_hold 40 = .ok (.iaload, 1) := by decide +kernel
theorem dX1_hold_41 : decode cX1_hold 41 = .ok (.aload_n 0, 1) := by decide +kernel
theorem dX1_hold_42 : decode cX1_hold 42 = .ok (.getfield 15, 3) := by decide +kernel
theorem dX1_hold_45 : decode cX1_hold 45 = .ok (.iload_n 1, 1) := by decide +kernel
theorem dX1_hold_46 : decode cX1_hold 46 = .ok (.iaload, 1) := by decide +kernel
theorem dX1_hold_47 : decode cX1_hold 47 = .ok (.ior, 1) := by decide +kernel
theorem dX1_hold_48 : decode cX1_hold 48 = .ok (.iastore, 1) := by decide +kernel
theorem dX1_hold_49 : decode cX1_hold 49 = .ok (.return_, 1) := by decide +kernel
theorem dX1_release_0 : decode cX1_release 0 = .ok (.aload_n 0, 1) := by decide +kernel
theorem dX1_release_1 : decode cX1_release 1 = .ok (.getfield 21, 3) := by decide +kernel
theorem dX1_release_4 : decode cX1_release 4 = .ok (.iload_n 1, 1) := by decide +kernel
theorem dX1_release_5 : decode cX1_release 5 = .ok (.aload_n 0, 1) := by decide +kernel
theorem dX1_release_6 : decode cX1_release 6 = .ok (.getfield 18, 3) := by decide +kernel
theorem dX1_release_9 : decode cX1_release 9 = .ok (.iload_n 1, 1) := by decide +kernel
theorem dX1_release_10 : decode cX1_release 10 = .ok (.iaload, 1) := by decide +kernel
theorem dX1_release_11 : decode cX1_release 11 = .ok (.iastore, 1) := by decide +kernel
theorem dX1_release_12 : decode cX1_release 12 = .ok (.aload_n 0, 1) := by decide +kernel
theorem dX1_release_13 : decode cX1_release 13 = .ok (.dup, 1) := by decide +kernel
theorem dX1_release_14 : decode cX1_release 14 = .ok (.getfield 78, 3) := by decide +kernel
theorem dX1_release_17 : decode cX1_release 17 = .ok (.iconst 1, 1) := by decide +kernel
theorem dX1_release_18 : decode cX1_release 18 = .ok (.iload_n 1, 1) := by decide +kernel
theorem dX1_release_19 : decode cX1_release 19 = .ok (.ishl, 1) := by decide +kernel
theorem dX1_release_20 : decode cX1_release 20 = .ok (.iconst (-1), 1) := by decide +kernel
theorem dX1_release_21 : decode cX1_release 21 = .ok (.ixor, 1) := by decide +kernel
theorem dX1_release_22 : decode cX1_release 22 = .ok (.iand, 1) := by decide +kernel
theorem dX1_release_23 : decode cX1_release 23 = .ok (.putfield 78, 3) := by decide +kernel
theorem dX1_release_26 : decode cX1_release 26 = .ok (.aload_n 0, 1) := by decide +kernel
theorem dX1_release_27 : decode cX1_release 27 = .ok (.getfield 24, 3) := by decide +kernel
theorem dX1_release_30 : decode cX1_release 30 = .ok (.iload_n 2, 1) := by decide +kernel
theorem dX1_release_31 : decode cX1_release 31 = .ok (.dup2, 1) := by decide +kernel
theorem dX1_release_32 : decode cX1_release 32 = .ok (.iaload, 1) := by decide +kernel
theorem dX1_release_33 : decode cX1_release 33 = .ok (.aload_n 0, 1) := by decide +kernel
theorem dX1_release_34 : decode cX1_release 34 = .ok (.getfield 9, 3) := by decide +kernel
theorem dX1_release_37 : decode cX1_release 37 = .ok (.iload_n 1, 1) := by decide +kernel
theorem dX1_release_38 : decode cX1_release 38 = .ok (.iaload, 1) := by decide +kernel
theorem dX1_release_39 : decode cX1_release 39 = .ok (.iconst (-1), 1) := by decide +kernel
theorem dX1_release_40 : decode cX1_release 40 = .ok (.ixor, 1) := by decide +kernel
theorem dX1_release_41 : decode cX1_release 41 = .ok (.iand, 1) := by decide +kernel
theorem dX1_release_42 : decode cX1_release 42 = .ok (.iastore, 1) := by decide +kernel
theorem dX1_release_43 : decode cX1_release 43 = .ok (.aload_n 0, 1) := by decide +kernel
theorem dX1_release_44 : decode cX1_release 44 = .ok (.getfield 27, 3) := by decide +kernel
theorem dX1_release_47 : decode cX1_release 47 = .ok (.iload_n 2, 1) := by decide +kernel
theorem dX1_release_48 : decode cX1_release 48 = .ok (.dup2, 1) := by decide +kernel
theorem dX1_release_49 : decode cX1_release 49 = .ok (.iaload, 1) := by decide +kernel
theorem dX1_release_50 : decode cX1_release 50 = .ok (.aload_n 0, 1) := by decide +kernel
theorem dX1_release_51 : decode cX1_release 51 = .ok (.getfield 15, 3) := by decide +kernel
theorem dX1_release_54 : decode cX1_release 54 = .ok (.iload_n 1, 1) := by decide +kernel
theorem dX1_release_55 : decode cX1_release 55 = .ok (.iaload, 1) := by decide +kernel
theorem dX1_release_56 : decode cX1_release 56 = .ok (.iconst (-1), 1) := by decide +kernel
theorem dX1_release_57 : decode cX1_release 57 = .ok (.ixor, 1) := by decide +kernel
theorem dX1_release_58 : decode cX1_release 58 = .ok (.iand, 1) := by decide +kernel
theorem dX1_release_59 : decode cX1_release 59 = .ok (.iastore, 1) := by decide +kernel
theorem dX1_release_60 : decode cX1_release 60 = .ok (.return_, 1) := by decide +kernel
set_option maxRecDepth 20000 in
theorem ggX1_nextToHold_X1_isHeld : GoodIn wsX1_nextToHold wsX1_isHeld := goodIn_r _ [8, 9, 19, 20, 21, 22, 23, 24, 25, 26, 27, 28, 29, 30, 31] (by decide +kernel) (by decide +kernel)
set_option maxRecDepth 20000 in
theorem gX1_nextToHold_X1_isHeld : GoodIn wsX1_nextToHold (wsV RX1 87 RX1 yX1_isHeld wsX1_isHeld) := goodIn_app (goodIn_of _ (by decide +kernel)) ggX1_nextToHold_X1_isHeld
set_option maxRecDepth 20000 in
theorem ggX1_nextToHold_X1_fits : GoodIn wsX1_nextToHold wsX1_fits := goodIn_r _ [13, 14, 15, 16, 17, 18, 19, 20, 21, 22, 23, 24, 25, 26, 27, 28, 29, 30, 31] (by decide +kernel) (by decide +kernel)
set_option maxRecDepth 20000 in
theorem gX1_nextToHold_X1_fits : GoodIn wsX1_nextToHold (wsV RX1 91 RX1 yX1_fits wsX1_fits) := goodIn_app (goodIn_of _ (by decide +kernel)) ggX1_nextToHold_X1_fits
theorem dX1_nextToHold_0 : decode cX1_nextToHold 0 = .ok (.aload_n 0, 1) := by decide +kernel
theorem dX1_nextToHold_1 : decode cX1_nextToHold 1 = .ok (.getfield 50, 3) := by decide +kernel
theorem dX1_nextToHold_4 : decode cX1_nextToHold 4 = .ok (.iconst (-1), 1) := by decide +kernel
theorem dX1_nextToHold_5 : decode cX1_nextToHold 5 = .ok (.if_icmp .eq 19, 3) := by decide +kernel
theorem dX1_nextToHold_8 : decode cX1_nextToHold 8 = .ok (.aload_n 0, 1) := by decide +kernel
theorem dX1_nextToHold_9 : decode cX1_nextToHold 9 = .ok (.aload_n 0, 1) := by decide +kernel
theorem dX1_nextToHold_10 : decode cX1_nextToHold 10 = .ok (.getfield 50, 3) := by decide +kernel
theorem dX1_nextToHold_13 : decode cX1_nextToHold 13 = .ok (.invokevirtual 87, 3) := by decide +kernel
theorem dX1_nextToHold_16 : decode cX1_nextToHold 16 = .ok (.ifCond .ne 8, 3) := by decide +kernel
theorem dX1_nextToHold_19 : decode cX1_nextToHold 19 = .ok (.aload_n 0, 1) := by decide +kernel
theorem dX1_nextToHold_20 : decode cX1_nextToHold 20 = .ok (.getfield 50, 3) := by decide +kernel
theorem dX1_nextToHold_23 : decode cX1_nextToHold 23 = .ok (.ireturn, 1) := by decide +kernel
theorem dX1_nextToHold_24 : decode cX1_nextToHold 24 = .ok (.iconst 0, 1) := by decide +kernel
theorem dX1_nextToHold_25 : decode cX1_nextToHold 25 = .ok (.istore_n 1, 1) := by decide +kernel
theorem dX1_nextToHold_26 : decode cX1_nextToHold 26 = .ok (.iload_n 1, 1) := by decide +kernel
theorem dX1_nextToHold_27 : decode cX1_nextToHold 27 = .ok (.aload_n 0, 1) := by decide +kernel
theorem dX1_nextToHold_28 : decode cX1_nextToHold 28 = .ok (.getfield 47, 3) := by decide +kernel
theorem dX1_nextToHold_31 : decode cX1_nextToHold 31 = .ok (.if_icmp .ge 33, 3) := by decide +kernel
theorem dX1_nextToHold_34 : decode cX1_nextToHold 34 = .ok (.aload_n 0, 1) := by decide +kernel
theorem dX1_nextToHold_35 : decode cX1_nextToHold 35 = .ok (.iload_n 1, 1) := by decide +kernel
theorem dX1_nextToHold_36 : decode cX1_nextToHold 36 = .ok (.invokevirtual 87, 3) := by decide +kernel
theorem dX1_nextToHold_39 : decode cX1_nextToHold 39 = .ok (.ifCond .ne 19, 3) := by decide +kernel
theorem dX1_nextToHold_42 : decode cX1_nextToHold 42 = .ok (.aload_n 0, 1) := by decide +kernel
theorem dX1_nextToHold_43 : decode cX1_nextToHold 43 = .ok (.iload_n 1, 1) := by decide +kernel
theorem dX1_nextToHold_44 : decode cX1_nextToHold 44 = .ok (.aload_n 0, 1) := by decide +kernel
theorem dX1_nextToHold_45 : decode cX1_nextToHold 45 = .ok (.getfield 21, 3) := by decide +kernel
theorem dX1_nextToHold_48 : decode cX1_nextToHold 48 = .ok (.iload_n 1, 1) := by decide +kernel
theorem dX1_nextToHold_49 : decode cX1_nextToHold 49 = .ok (.iaload, 1) := by decide +kernel
theorem dX1_nextToHold_50 : decode cX1_nextToHold 50 = .ok (.invokevirtual 91, 3) := by decide +kernel
theorem dX1_nextToHold_53 : decode cX1_nextToHold 53 = .ok (.ifCond .ne 5, 3) := by decide +kernel
theorem dX1_nextToHold_56 : decode cX1_nextToHold 56 = .ok (.iload_n 1, 1) := by decide +kernel
theorem dX1_nextToHold_57 : decode cX1_nextToHold 57 = .ok (.ireturn, 1) := by decide +kernel
theorem dX1_nextToHold_58 : decode cX1_nextToHold 58 = .ok (.iinc 1 1, 3) := by decide +kernel
theorem dX1_nextToHold_61 : decode cX1_nextToHold 61 = .ok (.goto (-35), 3) := by decide +kernel
theorem dX1_nextToHold_64 : decode cX1_nextToHold 64 = .ok (.iconst (-1), 1) := by decide +kernel
theorem dX1_nextToHold_65 : decode cX1_nextToHold 65 = .ok (.ireturn, 1) := by decide +kernel
set_option maxRecDepth 20000 in
theorem ggX1_settle_X1_nextToHold : GoodIn wsX1_settle wsX1_nextToHold := goodIn_r _ [7, 8, 9, 10, 11, 12, 13, 6, 14, 15, 16, 17, 18, 19, 20, 21, 22, 23, 24, 49, 50, 51, 52, 53, 54, 55, 56, 57, 58, 59, 60, 61] (by decide +kernel) (by decide +kernel)
set_option maxRecDepth 20000 in
theorem gX1_settle_X1_nextToHold : GoodIn wsX1_settle (wsV RX1 95 RX1 yX1_nextToHold wsX1_nextToHold) := goodIn_app (goodIn_of _ (by decide +kernel)) ggX1_settle_X1_nextToHold
set_option maxRecDepth 20000 in
theorem ggX1_settle_X1_keepIfBetter : GoodIn wsX1_settle wsX1_keepIfBetter := goodIn_r _ [28, 29, 1, 10, 30, 31, 32, 33, 34, 35, 36, 37, 6, 38, 9, 49, 50, 51, 52, 53, 54, 55, 56, 57, 58, 59, 60, 61] (by decide +kernel) (by decide +kernel)
set_option maxRecDepth 20000 in
theorem gX1_settle_X1_keepIfBetter : GoodIn wsX1_settle (wsV RX1 98 RX1 yX1_keepIfBetter wsX1_keepIfBetter) := goodIn_app (goodIn_of _ (by decide +kernel)) ggX1_settle_X1_keepIfBetter
set_option maxRecDepth 20000 in
theorem ggX1_settle_X1_fits : GoodIn wsX1_settle wsX1_fits := goodIn_r _ [19, 20, 21, 22, 23, 24, 49, 50, 51, 52, 53, 54, 55, 56, 57, 58, 59, 60, 61] (by decide +kernel) (by decide +kernel)
set_option maxRecDepth 20000 in
theorem gX1_settle_X1_fits : GoodIn wsX1_settle (wsV RX1 91 RX1 yX1_fits wsX1_fits) := goodIn_app (goodIn_of _ (by decide +kernel)) ggX1_settle_X1_fits
set_option maxRecDepth 20000 in
theorem ggX1_settle_X1_hold : GoodIn wsX1_settle wsX1_hold := goodIn_r _ [42, 10, 15, 21, 22, 23, 24, 49, 50, 51, 52, 53, 54, 55, 56, 57, 58, 59, 60, 61] (by decide +kernel) (by decide +kernel)
set_option maxRecDepth 20000 in
theorem gX1_settle_X1_hold : GoodIn wsX1_settle (wsV RX1 102 RX1 yX1_hold wsX1_hold) := goodIn_app (goodIn_of _ (by decide +kernel)) ggX1_settle_X1_hold
set_option maxRecDepth 20000 in
theorem ggX1_settle_X1_settle : GoodIn wsX1_settle wsX1_settle := goodIn_r _ [0, 1, 2, 3, 4, 5, 6, 7, 8, 9, 10, 11, 12, 13, 14, 15, 16, 17, 18, 19, 20, 21, 22, 23, 24, 25, 26, 27, 28, 29, 30, 31, 32, 33, 34, 35, 36, 37, 38, 39, 40, 41, 42, 43, 44, 45, 46, 47, 48, 49, 50, 51, 52, 53, 54, 55, 56, 57, 58, 59, 60, 61] (by decide +kernel) (by decide +kernel)
set_option maxRecDepth 20000 in
theorem gX1_settle_X1_settle : GoodIn wsX1_settle (va_wsS RX1 53 yX1_settle wsX1_settle) := goodIn_app (goodIn_of _ (by decide +kernel)) ggX1_settle_X1_settle
set_option maxRecDepth 20000 in
theorem ggX1_settle_X1_release : GoodIn wsX1_settle wsX1_release := goodIn_r _ [48, 10, 2, 15, 21, 22, 23, 24, 49, 50, 51, 52, 53, 54, 55, 56, 57, 58, 59, 60, 61] (by decide +kernel) (by decide +kernel)
set_option maxRecDepth 20000 in
theorem gX1_settle_X1_release : GoodIn wsX1_settle (wsV RX1 106 RX1 yX1_release wsX1_release) := goodIn_app (goodIn_of _ (by decide +kernel)) ggX1_settle_X1_release
theorem dX1_settle_0 : decode cX1_settle 0 = .ok (.iload_n 1, 1) := by decide +kernel
theorem dX1_settle_1 : decode cX1_settle 1 = .ok (.bipush 16, 2) := by decide +kernel
theorem dX1_settle_3 : decode cX1_settle 3 = .ok (.if_icmp .gt 11, 3) := by decide +kernel
theorem dX1_settle_6 : decode cX1_settle 6 = .ok (.iload_n 2, 1) := by decide +kernel
theorem dX1_settle_7 : decode cX1_settle 7 = .ok (.aload_n 0, 1) := by decide +kernel
theorem dX1_settle_8 : decode cX1_settle 8 = .ok (.getfield 84, 3) := by decide +kernel
theorem dX1_settle_11 : decode cX1_settle 11 = .ok (.if_icmp .le 4, 3) := by decide +kernel
theorem dX1_settle_14 : decode cX1_settle 14 = .ok (.return_, 1) := by decide +kernel
theorem dX1_settle_15 : decode cX1_settle 15 = .ok (.aload_n 0, 1) := by decide +kernel
theorem dX1_settle_16 : decode cX1_settle 16 = .ok (.invokevirtual 95, 3) := by decide +kernel
theorem dX1_settle_19 : decode cX1_settle 19 = .ok (.istore_n 3, 1) := by decide +kernel
theorem dX1_settle_20 : decode cX1_settle 20 = .ok (.iload_n 3, 1) := by decide +kernel
theorem dX1_settle_21 : decode cX1_settle 21 = .ok (.iconst (-1), 1) := by decide +kernel
theorem dX1_settle_22 : decode cX1_settle 22 = .ok (.if_icmp .ne 9, 3) := by decide +kernel
theorem dX1_settle_25 : decode cX1_settle 25 = .ok (.aload_n 0, 1) := by decide +kernel
theorem dX1_settle_26 : decode cX1_settle 26 = .ok (.iload_n 2, 1) := by decide +kernel
theorem dX1_settle_27 : decode cX1_settle 27 = .ok (.invokevirtual 98, 3) := by decide +kernel
theorem dX1_settle_30 : decode cX1_settle 30 = .ok (.return_, 1) := by decide +kernel
theorem dX1_settle_31 : decode cX1_settle 31 = .ok (.iconst 0, 1) := by decide +kernel
theorem dX1_settle_32 : decode cX1_settle 32 = .ok (.istore 4, 2) := by decide +kernel
theorem dX1_settle_34 : decode cX1_settle 34 = .ok (.iload 4, 2) := by decide +kernel
theorem dX1_settle_36 : decode cX1_settle 36 = .ok (.iconst 4, 1) := by decide +kernel
theorem dX1_settle_37 : decode cX1_settle 37 = .ok (.if_icmp .ge 80, 3) := by decide +kernel
theorem dX1_settle_40 : decode cX1_settle 40 = .ok (.aload_n 0, 1) := by decide +kernel
theorem dX1_settle_41 : decode cX1_settle 41 = .ok (.iload_n 3, 1) := by decide +kernel
theorem dX1_settle_42 : decode cX1_settle 42 = .ok (.iload 4, 2) := by decide +kernel
theorem dX1_settle_44 : decode cX1_settle 44 = .ok (.invokevirtual 91, 3) := by decide +kernel
theorem dX1_settle_47 : decode cX1_settle 47 = .ok (.ifCond .eq 64, 3) := by decide +kernel
theorem dX1_settle_50 : decode cX1_settle 50 = .ok (.aload_n 0, 1) := by decide +kernel
theorem dX1_settle_51 : decode cX1_settle 51 = .ok (.getfield 18, 3) := by decide +kernel
theorem dX1_settle_54 : decode cX1_settle 54 = .ok (.iload_n 3, 1) := by decide +kernel
theorem dX1_settle_55 : decode cX1_settle 55 = .ok (.iaload, 1) := by decide +kernel
theorem dX1_settle_56 : decode cX1_settle 56 = .ok (.iconst (-1), 1) := by decide +kernel
theorem dX1_settle_57 : decode cX1_settle 57 = .ok (.if_icmp .eq 18, 3) := by decide +kernel
theorem dX1_settle_60 : decode cX1_settle 60 = .ok (.aload_n 0, 1) := by decide +kernel
theorem dX1_settle_61 : decode cX1_settle 61 = .ok (.getfield 18, 3) := by decide +kernel
theorem dX1_settle_64 : decode cX1_settle 64 = .ok (.iload_n 3, 1) := by decide +kernel
theorem dX1_settle_65 : decode cX1_settle 65 = .ok (.iaload, 1) := by decide +kernel
theorem dX1_settle_66 : decode cX1_settle 66 = .ok (.iload 4, 2) := by decide +kernel
theorem dX1_settle_68 : decode cX1_settle 68 = .ok (.if_icmp .eq 7, 3) := by decide +kernel
theorem dX1_settle_71 : decode cX1_settle 71 = .ok (.iconst 1, 1) := by decide +kernel
theorem dX1_settle_72 : decode cX1_settle 72 = .ok (.goto 4, 3) := by decide +kernel
theorem dX1_settle_75 : decode cX1_settle 75 = .ok (.iconst 0, 1) := by decide +kernel
theorem dX1_settle_76 : decode cX1_settle 76 = .ok (.istore 5, 2) := by decide +kernel
theorem dX1_settle_78 : decode cX1_settle 78 = .ok (.aload_n 0, 1) := by decide +kernel
theorem dX1_settle_79 : decode cX1_settle 79 = .ok (.iload_n 3, 1) := by decide +kernel
theorem dX1_settle_80 : decode cX1_settle 80 = .ok (.iload 4, 2) := by decide +kernel
theorem dX1_settle_82 : decode cX1_settle 82 = .ok (.invokevirtual 102, 3) := by decide +kernel
theorem dX1_settle_85 : decode cX1_settle 85 = .ok (.aload_n 0, 1) := by decide +kernel
theorem dX1_settle_86 : decode cX1_settle 86 = .ok (.iload_n 1, 1) := by decide +kernel
theorem dX1_settle_87 : decode cX1_settle 87 = .ok (.iconst 1, 1) := by decide +kernel
theorem dX1_settle_88 : decode cX1_settle 88 = .ok (.iadd, 1) := by decide +kernel
theorem dX1_settle_89 : decode cX1_settle 89 = .ok (.iload 5, 2) := by decide +kernel
theorem dX1_settle_91 : decode cX1_settle 91 = .ok (.ifCond .eq 9, 3) := by decide +kernel
theorem dX1_settle_94 : decode cX1_settle 94 = .ok (.iload_n 2, 1) := by decide +kernel
theorem dX1_settle_95 : decode cX1_settle 95 = .ok (.iconst 1, 1) := by decide +kernel
theorem dX1_settle_96 : decode cX1_settle 96 = .ok (.iadd, 1) := by decide +kernel
theorem dX1_settle_97 : decode cX1_settle 97 = .ok (.goto 4, 3) := by decide +kernel
theorem dX1_settle_100 : decode cX1_settle 100 = .ok (.iload_n 2, 1) := by decide +kernel
theorem dX1_settle_101 : decode cX1_settle 101 = .ok (.invokestatic 53, 3) := by decide +kernel
theorem dX1_settle_104 : decode cX1_settle 104 = .ok (.aload_n 0, 1) := by decide +kernel
theorem dX1_settle_105 : decode cX1_settle 105 = .ok (.iload_n 3, 1) := by decide +kernel
theorem dX1_settle_106 : decode cX1_settle 106 = .ok (.iload 4, 2) := by decide +kernel
theorem dX1_settle_108 : decode cX1_settle 108 = .ok (.invokevirtual 106, 3) := by decide +kernel
theorem dX1_settle_111 : decode cX1_settle 111 = .ok (.iinc 4 1, 3) := by decide +kernel
theorem dX1_settle_114 : decode cX1_settle 114 = .ok (.goto (-80), 3) := by decide +kernel
theorem dX1_settle_117 : decode cX1_settle 117 = .ok (.return_, 1) := by decide +kernel
set_option maxRecDepth 20000 in
theorem ggX1_keepIfBetter_X1_isTrialLower : GoodIn wsX1_keepIfBetter wsX1_isTrialLower := goodIn_r _ [13, 14, 3, 4, 15, 16, 17, 18, 19, 20, 21, 22, 23, 24, 25, 26, 27] (by decide +kernel) (by decide +kernel)
set_option maxRecDepth 20000 in
theorem gX1_keepIfBetter_X1_isTrialLower : GoodIn wsX1_keepIfBetter (wsV RX1 109 RX1 yX1_isTrialLower wsX1_isTrialLower) := goodIn_app (goodIn_of _ (by decide +kernel)) ggX1_keepIfBetter_X1_isTrialLower
theorem dX1_keepIfBetter_0 : decode cX1_keepIfBetter 0 = .ok (.aload_n 0, 1) := by decide +kernel
theorem dX1_keepIfBetter_1 : decode cX1_keepIfBetter 1 = .ok (.getfield 57, 3) := by decide +kernel
theorem dX1_keepIfBetter_4 : decode cX1_keepIfBetter 4 = .ok (.iconst (-1), 1) := by decide +kernel
theorem dX1_keepIfBetter_5 : decode cX1_keepIfBetter 5 = .ok (.if_icmp .eq 18, 3) := by decide +kernel
theorem dX1_keepIfBetter_8 : decode cX1_keepIfBetter 8 = .ok (.iload_n 1, 1) := by decide +kernel
theorem dX1_keepIfBetter_9 : decode cX1_keepIfBetter 9 = .ok (.aload_n 0, 1) := by decide +kernel
theorem dX1_keepIfBetter_10 : decode cX1_keepIfBetter 10 = .ok (.getfield 57, 3) := by decide +kernel
theorem dX1_keepIfBetter_13 : decode cX1_keepIfBetter 13 = .ok (.if_icmp .lt 10, 3) := by decide +kernel
theorem dX1_keepIfBetter_16 : decode cX1_keepIfBetter 16 = .ok (.aload_n 0, 1) := by decide +kernel
theorem dX1_keepIfBetter_17 : decode cX1_keepIfBetter 17 = .ok (.invokevirtual 109, 3) := by decide +kernel
theorem dX1_keepIfBetter_20 : decode cX1_keepIfBetter 20 = .ok (.ifCond .eq 28, 3) := by decide +kernel
theorem dX1_keepIfBetter_23 : decode cX1_keepIfBetter 23 = .ok (.aload_n 0, 1) := by decide +kernel
theorem dX1_keepIfBetter_24 : decode cX1_keepIfBetter 24 = .ok (.iload_n 1, 1) := by decide +kernel
theorem dX1_keepIfBetter_25 : decode cX1_keepIfBetter 25 = .ok (.putfield 57, 3) := by decide +kernel
theorem dX1_keepIfBetter_28 : decode cX1_keepIfBetter 28 = .ok (.aload_n 0, 1) := by decide +kernel
theorem dX1_keepIfBetter_29 : decode cX1_keepIfBetter 29 = .ok (.iload_n 1, 1) := by decide +kernel
theorem dX1_keepIfBetter_30 : decode cX1_keepIfBetter 30 = .ok (.putfield 84, 3) := by decide +kernel
theorem dX1_keepIfBetter_33 : decode cX1_keepIfBetter 33 = .ok (.aload_n 0, 1) := by decide +kernel
theorem dX1_keepIfBetter_34 : decode cX1_keepIfBetter 34 = .ok (.getfield 21, 3) := by decide +kernel
theorem dX1_keepIfBetter_37 : decode cX1_keepIfBetter 37 = .ok (.iconst 0, 1) := by decide +kernel
theorem dX1_keepIfBetter_38 : decode cX1_keepIfBetter 38 = .ok (.aload_n 0, 1) := by decide +kernel
theorem dX1_keepIfBetter_39 : decode cX1_keepIfBetter 39 = .ok (.getfield 30, 3) := by decide +kernel
theorem dX1_keepIfBetter_42 : decode cX1_keepIfBetter 42 = .ok (.iconst 0, 1) := by decide +kernel
theorem dX1_keepIfBetter_43 : decode cX1_keepIfBetter 43 = .ok (.bipush 16, 2) := by decide +kernel
theorem dX1_keepIfBetter_45 : decode cX1_keepIfBetter 45 = .ok (.invokestatic 113, 3) := by decide +kernel
theorem dX1_keepIfBetter_48 : decode cX1_keepIfBetter 48 = .ok (.return_, 1) := by decide +kernel
theorem dX1_isTrialLower_0 : decode cX1_isTrialLower 0 = .ok (.iconst 0, 1) := by decide +kernel
theorem dX1_isTrialLower_1 : decode cX1_isTrialLower 1 = .ok (.istore_n 1, 1) := by decide +kernel
theorem dX1_isTrialLower_2 : decode cX1_isTrialLower 2 = .ok (.iload_n 1, 1) := by decide +kernel
theorem dX1_isTrialLower_3 : decode cX1_isTrialLower 3 = .ok (.aload_n 0, 1) := by decide +kernel
theorem dX1_isTrialLower_4 : decode cX1_isTrialLower 4 = .ok (.getfield 47, 3) := by decide +kernel
theorem dX1_isTrialLower_7 : decode cX1_isTrialLower 7 = .ok (.if_icmp .ge 45, 3) := by decide +kernel
theorem dX1_isTrialLower_10 : decode cX1_isTrialLower 10 = .ok (.aload_n 0, 1) := by decide +kernel
theorem dX1_isTrialLower_11 : decode cX1_isTrialLower 11 = .ok (.getfield 21, 3) := by decide +kernel
theorem dX1_isTrialLower_14 : decode cX1_isTrialLower 14 = .ok (.iload_n 1, 1) := by decide +kernel
theorem dX1_isTrialLower_15 : decode cX1_isTrialLower 15 = .ok (.iaload, 1) := by decide +kernel
theorem dX1_isTrialLower_16 : decode cX1_isTrialLower 16 = .ok (.aload_n 0, 1) := by decide +kernel
theorem dX1_isTrialLower_17 : decode cX1_isTrialLower 17 = .ok (.getfield 30, 3) := by decide +kernel
theorem dX1_isTrialLower_20 : decode cX1_isTrialLower 20 = .ok (.iload_n 1, 1) := by decide +kernel
theorem dX1_isTrialLower_21 : decode cX1_isTrialLower 21 = .ok (.iaload, 1) := by decide +kernel
theorem dX1_isTrialLower_22 : decode cX1_isTrialLower 22 = .ok (.if_icmp .eq 24, 3) := by decide +kernel
theorem dX1_isTrialLower_25 : decode cX1_isTrialLower 25 = .ok (.aload_n 0, 1) := by decide +kernel
theorem dX1_isTrialLower_26 : decode cX1_isTrialLower 26 = .ok (.getfield 21, 3) := by decide +kernel
theorem dX1_isTrialLower_29 : decode cX1_isTrialLower 29 = .ok (.iload_n 1, 1) := by decide +kernel
theorem dX1_isTrialLower_30 : decode cX1_isTrialLower 30 = .ok (.iaload, 1) := by decide +kernel
theorem dX1_isTrialLower_31 : decode cX1_isTrialLower 31 = .ok (.aload_n 0, 1) := by decide +kernel
theorem dX1_isTrialLower_32 : decode cX1_isTrialLower 32 = .ok (.getfield 30, 3) := by decide +kernel
theorem dX1_isTrialLower_35 : decode cX1_isTrialLower 35 = .ok (.iload_n 1, 1) := by decide +kernel
theorem dX1_isTrialLower_36 : decode cX1_isTrialLower 36 = .ok (.iaload, 1) := by decide +kernel
theorem dX1_isTrialLower_37 : decode cX1_isTrialLower 37 = .ok (.if_icmp .ge 7, 3) := by decide +kernel
theorem dX1_isTrialLower_40 : decode cX1_isTrialLower 40 = .ok (.iconst 1, 1) := by decide +kernel
theorem dX1_isTrialLower_41 : decode cX1_isTrialLower 41 = .ok (.goto 4, 3) := by decide +kernel
theorem dX1_isTrialLower_44 : decode cX1_isTrialLower 44 = .ok (.iconst 0, 1) := by decide +kernel
theorem dX1_isTrialLower_45 : decode cX1_isTrialLower 45 = .ok (.ireturn, 1) := by decide +kernel
theorem dX1_isTrialLower_46 : decode cX1_isTrialLower 46 = .ok (.iinc 1 1, 3) := by decide +kernel
theorem dX1_isTrialLower_49 : decode cX1_isTrialLower 49 = .ok (.goto (-47), 3) := by decide +kernel
theorem dX1_isTrialLower_52 : decode cX1_isTrialLower 52 = .ok (.iconst 0, 1) := by decide +kernel
theorem dX1_isTrialLower_53 : decode cX1_isTrialLower 53 = .ok (.ireturn, 1) := by decide +kernel
set_option maxRecDepth 20000 in
theorem ggX1_placed_X1_fits : GoodIn wsX1_placed wsX1_fits := goodIn_r _ [7, 8, 2, 9, 10, 11, 25, 26, 27, 28, 29, 30, 31, 32, 33, 34, 35, 36, 37] (by decide +kernel) (by decide +kernel)
set_option maxRecDepth 20000 in
theorem gX1_placed_X1_fits : GoodIn wsX1_placed (wsV RX1 91 RX1 yX1_fits wsX1_fits) := goodIn_app (goodIn_of _ (by decide +kernel)) ggX1_placed_X1_fits
set_option maxRecDepth 20000 in
theorem ggX1_placed_X1_hold : GoodIn wsX1_placed wsX1_hold := goodIn_r _ [15, 16, 17, 2, 9, 10, 11, 25, 26, 27, 28, 29, 30, 31, 32, 33, 34, 35, 36, 37] (by decide +kernel) (by decide +kernel)
set_option maxRecDepth 20000 in
theorem gX1_placed_X1_hold : GoodIn wsX1_placed (wsV RX1 102 RX1 yX1_hold wsX1_hold) := goodIn_app (goodIn_of _ (by decide +kernel)) ggX1_placed_X1_hold
set_option maxRecDepth 20000 in
theorem ggX1_placed_X1_placed : GoodIn wsX1_placed wsX1_placed := goodIn_r _ [0, 1, 2, 3, 4, 5, 6, 7, 8, 9, 10, 11, 12, 13, 14, 15, 16, 17, 18, 19, 20, 21, 22, 23, 24, 25, 26, 27, 28, 29, 30, 31, 32, 33, 34, 35, 36, 37] (by decide +kernel) (by decide +kernel)
set_option maxRecDepth 20000 in
theorem gX1_placed_X1_placed : GoodIn wsX1_placed (va_wsS RX1 60 yX1_placed wsX1_placed) := goodIn_app (goodIn_of _ (by decide +kernel)) ggX1_placed_X1_placed
set_option maxRecDepth 20000 in
theorem ggX1_placed_X1_release : GoodIn wsX1_placed wsX1_release := goodIn_r _ [23, 16, 24, 17, 2, 9, 10, 11, 25, 26, 27, 28, 29, 30, 31, 32, 33, 34, 35, 36, 37] (by decide +kernel) (by decide +kernel)
set_option maxRecDepth 20000 in
theorem gX1_placed_X1_release : GoodIn wsX1_placed (wsV RX1 106 RX1 yX1_release wsX1_release) := goodIn_app (goodIn_of _ (by decide +kernel)) ggX1_placed_X1_release
theorem dX1_placed_0 : decode cX1_placed 0 = .ok (.iload_n 1, 1) := by decide +kernel
theorem dX1_placed_1 : decode cX1_placed 1 = .ok (.aload_n 0, 1) := by decide +kernel
theorem dX1_placed_2 : decode cX1_placed 2 = .ok (.getfield 47, 3) := by decide +kernel
theorem dX1_placed_5 : decode cX1_placed 5 = .ok (.if_icmp .ge 9, 3) := by decide +kernel
theorem dX1_placed_8 : decode cX1_placed 8 = .ok (.iload_n 1, 1) := by decide +kernel
theorem dX1_placed_9 : decode cX1_placed 9 = .ok (.bipush 16, 2) := by decide +kernel
theorem dX1_placed_11 : decode cX1_placed 11 = .ok (.if_icmp .lt 5, 3) := by decide +kernel
theorem dX1_placed_14 : decode cX1_placed 14 = .ok (.iconst 1, 1) := by decide +kernel
theorem dX1_placed_15 : decode cX1_placed 15 = .ok (.ireturn, 1) := by decide +kernel
theorem dX1_placed_16 : decode cX1_placed 16 = .ok (.iconst 0, 1) := by decide +kernel
theorem dX1_placed_17 : decode cX1_placed 17 = .ok (.istore_n 2, 1) := by decide +kernel
theorem dX1_placed_18 : decode cX1_placed 18 = .ok (.iload_n 2, 1) := by decide +kernel
theorem dX1_placed_19 : decode cX1_placed 19 = .ok (.iconst 4, 1) := by decide +kernel
theorem dX1_placed_20 : decode cX1_placed 20 = .ok (.if_icmp .ge 67, 3) := by decide +kernel
theorem dX1_placed_23 : decode cX1_placed 23 = .ok (.aload_n 0, 1) := by decide +kernel
theorem dX1_placed_24 : decode cX1_placed 24 = .ok (.getfield 24, 3) := by decide +kernel
theorem dX1_placed_27 : decode cX1_placed 27 = .ok (.iload_n 2, 1) := by decide +kernel
theorem dX1_placed_28 : decode cX1_placed 28 = .ok (.iaload, 1) := by decide +kernel
theorem dX1_placed_29 : decode cX1_placed 29 = .ok (.ifCond .ne 7, 3) := by decide +kernel
theorem dX1_placed_32 : decode cX1_placed 32 = .ok (.iconst 1, 1) := by decide +kernel
theorem dX1_placed_33 : decode cX1_placed 33 = .ok (.goto 4, 3) := by decide +kernel
theorem dX1_placed_36 : decode cX1_placed 36 = .ok (.iconst 0, 1) := by decide +kernel
theorem dX1_placed_37 : decode cX1_placed 37 = .ok (.istore_n 3, 1) := by decide +kernel
theorem dX1_placed_38 : decode cX1_placed 38 = .ok (.aload_n 0, 1) := by decide +kernel
theorem dX1_placed_39 : decode cX1_placed 39 = .ok (.iload_n 1, 1) := by decide +kernel
theorem dX1_placed_40 : decode cX1_placed 40 = .ok (.iload_n 2, 1) := by decide +kernel
theorem dX1_placed_41 : decode cX1_placed 41 = .ok (.invokevirtual 91, 3) := by decide +kernel
theorem dX1_placed_44 : decode cX1_placed 44 = .ok (.ifCond .eq 31, 3) := by decide +kernel
theorem dX1_placed_47 : decode cX1_placed 47 = .ok (.aload_n 0, 1) := by decide +kernel
theorem dX1_placed_48 : decode cX1_placed 48 = .ok (.iload_n 1, 1) := by decide +kernel
theorem dX1_placed_49 : decode cX1_placed 49 = .ok (.iload_n 2, 1) := by decide +kernel
theorem dX1_placed_50 : decode cX1_placed 50 = .ok (.invokevirtual 102, 3) := by decide +kernel
theorem dX1_placed_53 : decode cX1_placed 53 = .ok (.aload_n 0, 1) := by decide +kernel
theorem dX1_placed_54 : decode cX1_placed 54 = .ok (.iload_n 1, 1) := by decide +kernel
theorem dX1_placed_55 : decode cX1_placed 55 = .ok (.iconst 1, 1) := by decide +kernel
theorem dX1_placed_56 : decode cX1_placed 56 = .ok (.iadd, 1) := by decide +kernel
theorem dX1_placed_57 : decode cX1_placed 57 = .ok (.invokestatic 60, 3) := by decide +kernel
theorem dX1_placed_60 : decode cX1_placed 60 = .ok (.istore 4, 2) := by decide +kernel
theorem dX1_placed_62 : decode cX1_placed 62 = .ok (.aload_n 0, 1) := by decide +kernel
theorem dX1_placed_63 : decode cX1_placed 63 = .ok (.iload_n 1, 1) := by decide +kernel
theorem dX1_placed_64 : decode cX1_placed 64 = .ok (.iload_n 2, 1) := by decide +kernel
theorem dX1_placed_65 : decode cX1_placed 65 = .ok (.invokevirtual 106, 3) := by decide +kernel
theorem dX1_placed_68 : decode cX1_placed 68 = .ok (.iload 4, 2) := by decide +kernel
theorem dX1_placed_70 : decode cX1_placed 70 = .ok (.ifCond .eq 5, 3) := by decide +kernel
theorem dX1_placed_73 : decode cX1_placed 73 = .ok (.iconst 1, 1) := by decide +kernel
theorem dX1_placed_74 : decode cX1_placed 74 = .ok (.ireturn, 1) := by decide +kernel
theorem dX1_placed_75 : decode cX1_placed 75 = .ok (.iload_n 3, 1) := by decide +kernel
theorem dX1_placed_76 : decode cX1_placed 76 = .ok (.ifCond .eq 5, 3) := by decide +kernel
theorem dX1_placed_79 : decode cX1_placed 79 = .ok (.iconst 0, 1) := by decide +kernel
theorem dX1_placed_80 : decode cX1_placed 80 = .ok (.ireturn, 1) := by decide +kernel
theorem dX1_placed_81 : decode cX1_placed 81 = .ok (.iinc 2 1, 3) := by decide +kernel
theorem dX1_placed_84 : decode cX1_placed 84 = .ok (.goto (-66), 3) := by decide +kernel
theorem dX1_placed_87 : decode cX1_placed 87 = .ok (.iconst 0, 1) := by decide +kernel
theorem dX1_placed_88 : decode cX1_placed 88 = .ok (.ireturn, 1) := by decide +kernel
theorem dX2_init_0 : decode cX2_init 0 = .ok (.aload_n 0, 1) := by decide +kernel
theorem dX2_init_1 : decode cX2_init 1 = .ok (.invokespecial 3, 3) := by decide +kernel
theorem dX2_init_4 : decode cX2_init 4 = .ok (.aload_n 0, 1) := by decide +kernel
theorem dX2_init_5 : decode cX2_init 5 = .ok (.bipush 120, 2) := by decide +kernel
theorem dX2_init_7 : decode cX2_init 7 = .ok (.newarray .char, 2) := by decide +kernel
theorem dX2_init_9 : decode cX2_init 9 = .ok (.putfield 9, 3) := by decide +kernel
theorem dX2_init_12 : decode cX2_init 12 = .ok (.return_, 1) := by decide +kernel
set_option maxRecDepth 20000 in
theorem ggX2_findError_X2_readBoards : GoodIn wsX2_findError wsX2_readBoards := goodIn_r _ [7, 1, 8, 9, 10, 11, 12, 13, 14, 6, 15, 2, 16, 17, 18, 19, 20, 40, 41, 42, 43, 44, 45, 46, 47, 48, 49] (by decide +kernel) (by decide +kernel)
set_option maxRecDepth 20000 in
theorem gX2_findError_X2_readBoards : GoodIn wsX2_findError (wsV RX2 15 RX2 yX2_readBoards wsX2_readBoards) := goodIn_app (goodIn_of _ (by decide +kernel)) ggX2_findError_X2_readBoards
set_option maxRecDepth 20000 in
theorem ggX2_findError_X2_readCommand : GoodIn wsX2_findError wsX2_readCommand := goodIn_r _ [24, 25, 1, 8, 9, 26, 10, 12, 13, 14, 6, 15, 2, 16, 27, 28, 29, 30, 31, 32, 33, 34, 17, 18, 19, 20, 35, 36, 37, 38, 11, 39, 40, 41, 42, 43, 44, 45, 46, 47, 48, 49] (by decide +kernel) (by decide +kernel)
set_option maxRecDepth 20000 in
theorem gX2_findError_X2_readCommand : GoodIn wsX2_findError (wsV RX2 26 RX2 yX2_readCommand wsX2_readCommand) := goodIn_app (goodIn_of _ (by decide +kernel)) ggX2_findError_X2_readCommand
theorem dX2_findError_0 : decode cX2_findError 0 = .ok (.aload_n 0, 1) := by decide +kernel
theorem dX2_findError_1 : decode cX2_findError 1 = .ok (.invokevirtual 15, 3) := by decide +kernel
theorem dX2_findError_4 : decode cX2_findError 4 = .ok (.ifCond .ne 8, 3) := by decide +kernel
theorem dX2_findError_7 : decode cX2_findError 7 = .ok (.aload_n 0, 1) := by decide +kernel
theorem dX2_findError_8 : decode cX2_findError 8 = .ok (.getfield 19, 3) := by decide +kernel
theorem dX2_findError_11 : decode cX2_findError 11 = .ok (.ireturn, 1) := by decide +kernel
theorem dX2_findError_12 : decode cX2_findError 12 = .ok (.iconst 0, 1) := by decide +kernel
theorem dX2_findError_13 : decode cX2_findError 13 = .ok (.istore_n 1, 1) := by decide +kernel
theorem dX2_findError_14 : decode cX2_findError 14 = .ok (.iload_n 1, 1) := by decide +kernel
theorem dX2_findError_15 : decode cX2_findError 15 = .ok (.bipush 120, 2) := by decide +kernel
theorem dX2_findError_17 : decode cX2_findError 17 = .ok (.if_icmp .ge 32, 3) := by decide +kernel
theorem dX2_findError_20 : decode cX2_findError 20 = .ok (.aload_n 0, 1) := by decide +kernel
theorem dX2_findError_21 : decode cX2_findError 21 = .ok (.getfield 19, 3) := by decide +kernel
theorem dX2_findError_24 : decode cX2_findError 24 = .ok (.aload_n 0, 1) := by decide +kernel
theorem dX2_findError_25 : decode cX2_findError 25 = .ok (.getfield 23, 3) := by decide +kernel
theorem dX2_findError_28 : decode cX2_findError 28 = .ok (.if_icmp .ge 21, 3) := by decide +kernel
theorem dX2_findError_31 : decode cX2_findError 31 = .ok (.aload_n 0, 1) := by decide +kernel
theorem dX2_findError_32 : decode cX2_findError 32 = .ok (.invokevirtual 26, 3) := by decide +kernel
theorem dX2_findError_35 : decode cX2_findError 35 = .ok (.ifCond .ne 8, 3) := by decide +kernel
theorem dX2_findError_38 : decode cX2_findError 38 = .ok (.aload_n 0, 1) := by decide +kernel
theorem dX2_findError_39 : decode cX2_findError 39 = .ok (.getfield 19, 3) := by decide +kernel
theorem dX2_findError_42 : decode cX2_findError 42 = .ok (.ireturn, 1) := by decide +kernel
theorem dX2_findError_43 : decode cX2_findError 43 = .ok (.iinc 1 1, 3) := by decide +kernel
theorem dX2_findError_46 : decode cX2_findError 46 = .ok (.goto (-32), 3) := by decide +kernel
theorem dX2_findError_49 : decode cX2_findError 49 = .ok (.iconst (-1), 1) := by decide +kernel
theorem dX2_findError_50 : decode cX2_findError 50 = .ok (.ireturn, 1) := by decide +kernel
set_option maxRecDepth 20000 in
theorem ggX2_readBoards_X2_sign : GoodIn wsX2_readBoards wsX2_sign := goodIn_r _ [10, 1, 11, 12, 17, 18, 19, 20, 21, 22, 23, 24, 25, 26] (by decide +kernel) (by decide +kernel)
set_option maxRecDepth 20000 in
theorem gX2_readBoards_X2_sign : GoodIn wsX2_readBoards (wsV RX2 29 RX2 yX2_sign wsX2_sign) := goodIn_app (goodIn_of _ (by decide +kernel)) ggX2_readBoards_X2_sign
set_option maxRecDepth 20000 in
theorem ggX2_readBoards_X2_readDigit : GoodIn wsX2_readBoards wsX2_readDigit := goodIn_r _ [16, 1, 6, 7, 8, 9, 10, 11, 12, 17, 18, 19, 20, 21, 22, 23, 24, 25, 26] (by decide +kernel) (by decide +kernel)
set_option maxRecDepth 20000 in
theorem gX2_readBoards_X2_readDigit : GoodIn wsX2_readBoards (wsV RX2 33 RX2 yX2_readDigit wsX2_readDigit) := goodIn_app (goodIn_of _ (by decide +kernel)) ggX2_readBoards_X2_readDigit
theorem dX2_readBoards_0 : decode cX2_readBoards 0 = .ok (.aload_n 0, 1) := by decide +kernel
theorem dX2_readBoards_1 : decode cX2_readBoards 1 = .ok (.iconst 0, 1) := by decide +kernel
theorem dX2_readBoards_2 : decode cX2_readBoards 2 = .ok (.putfield 19, 3) := by decide +kernel
theorem dX2_readBoards_5 : decode cX2_readBoards 5 = .ok (.aload_n 0, 1) := by decide +kernel
theorem dX2_readBoards_6 : decode cX2_readBoards 6 = .ok (.invokevirtual 29, 3) := by decide +kernel
theorem dX2_readBoards_9 : decode cX2_readBoards 9 = .ok (.bipush 67, 2) := by decide +kernel
theorem dX2_readBoards_11 : decode cX2_readBoards 11 = .ok (.if_icmp .eq 5, 3) := by decide +kernel
theorem dX2_readBoards_14 : decode cX2_readBoards 14 = .ok (.iconst 0, 1) := by decide +kernel
theorem dX2_readBoards_15 : decode cX2_readBoards 15 = .ok (.ireturn, 1) := by decide +kernel
theorem dX2_readBoards_16 : decode cX2_readBoards 16 = .ok (.aload_n 0, 1) := by decide +kernel
theorem dX2_readBoards_17 : decode cX2_readBoards 17 = .ok (.dup, 1) := by decide +kernel
theorem dX2_readBoards_18 : decode cX2_readBoards 18 = .ok (.getfield 19, 3) := by decide +kernel
theorem dX2_readBoards_21 : decode cX2_readBoards 21 = .ok (.iconst 1, 1) := by decide +kernel
theorem dX2_readBoards_22 : decode cX2_readBoards 22 = .ok (.iadd, 1) := by decide +kernel
theorem dX2_readBoards_23 : decode cX2_readBoards 23 = .ok (.putfield 19, 3) := by decide +kernel
theorem dX2_readBoards_26 : decode cX2_readBoards 26 = .ok (.aload_n 0, 1) := by decide +kernel
theorem dX2_readBoards_27 : decode cX2_readBoards 27 = .ok (.aload_n 0, 1) := by decide +kernel
theorem dX2_readBoards_28 : decode cX2_readBoards 28 = .ok (.iconst 1, 1) := by decide +kernel
theorem dX2_readBoards_29 : decode cX2_readBoards 29 = .ok (.iconst 4, 1) := by decide +kernel
theorem dX2_readBoards_30 : decode cX2_readBoards 30 = .ok (.invokevirtual 33, 3) := by decide +kernel
theorem dX2_readBoards_33 : decode cX2_readBoards 33 = .ok (.putfield 37, 3) := by decide +kernel
theorem dX2_readBoards_36 : decode cX2_readBoards 36 = .ok (.aload_n 0, 1) := by decide +kernel
theorem dX2_readBoards_37 : decode cX2_readBoards 37 = .ok (.aload_n 0, 1) := by decide +kernel
theorem dX2_readBoards_38 : decode cX2_readBoards 38 = .ok (.getfield 37, 3) := by decide +kernel
theorem dX2_readBoards_41 : decode cX2_readBoards 41 = .ok (.iconst (-1), 1) := by decide +kernel
theorem dX2_readBoards_42 : decode cX2_readBoards 42 = .ok (.if_icmp .ne 7, 3) := by decide +kernel
theorem dX2_readBoards_45 : decode cX2_readBoards 45 = .ok (.iconst (-1), 1) := by decide +kernel
theorem dX2_readBoards_46 : decode cX2_readBoards 46 = .ok (.goto 9, 3) := by decide +kernel
theorem dX2_readBoards_49 : decode cX2_readBoards 49 = .ok (.aload_n 0, 1) := by decide +kernel
theorem dX2_readBoards_50 : decode cX2_readBoards 50 = .ok (.iconst 1, 1) := by decide +kernel
theorem dX2_readBoards_51 : decode cX2_readBoards 51 = .ok (.iconst 4, 1) := by decide +kernel
theorem dX2_readBoards_52 : decode cX2_readBoards 52 = .ok (.invokevirtual 33, 3) := by decide +kernel
theorem dX2_readBoards_55 : decode cX2_readBoards 55 = .ok (.putfield 40, 3) := by decide +kernel
theorem dX2_readBoards_58 : decode cX2_readBoards 58 = .ok (.aload_n 0, 1) := by decide +kernel
theorem dX2_readBoards_59 : decode cX2_readBoards 59 = .ok (.aload_n 0, 1) := by decide +kernel
theorem dX2_readBoards_60 : decode cX2_readBoards 60 = .ok (.getfield 40, 3) := by decide +kernel
theorem dX2_readBoards_63 : decode cX2_readBoards 63 = .ok (.iconst (-1), 1) := by decide +kernel
theorem dX2_readBoards_64 : decode cX2_readBoards 64 = .ok (.if_icmp .ne 7, 3) := by decide +kernel
theorem dX2_readBoards_67 : decode cX2_readBoards 67 = .ok (.iconst (-1), 1) := by decide +kernel
theorem dX2_readBoards_68 : decode cX2_readBoards 68 = .ok (.goto 9, 3) := by decide +kernel
theorem dX2_readBoards_71 : decode cX2_readBoards 71 = .ok (.aload_n 0, 1) := by decide +kernel
theorem dX2_readBoards_72 : decode cX2_readBoards 72 = .ok (.iconst 1, 1) := by decide +kernel
theorem dX2_readBoards_73 : decode cX2_readBoards 73 = .ok (.iconst 4, 1) := by decide +kernel
theorem dX2_readBoards_74 : decode cX2_readBoards 74 = .ok (.invokevirtual 33, 3) := by decide +kernel
theorem dX2_readBoards_77 : decode cX2_readBoards 77 = .ok (.putfield 43, 3) := by decide +kernel
theorem dX2_readBoards_80 : decode cX2_readBoards 80 = .ok (.aload_n 0, 1) := by decide +kernel
theorem dX2_readBoards_81 : decode cX2_readBoards 81 = .ok (.aload_n 0, 1) := by decide +kernel
theorem dX2_readBoards_82 : decode cX2_readBoards 82 = .ok (.getfield 43, 3) := by decide +kernel
theorem dX2_readBoards_85 : decode cX2_readBoards 85 = .ok (.iconst (-1), 1) := by decide +kernel
theorem dX2_readBoards_86 : decode cX2_readBoards 86 = .ok (.if_icmp .ne 7, 3) := by decide +kernel
theorem dX2_readBoards_89 : decode cX2_readBoards 89 = .ok (.iconst (-1), 1) := by decide +kernel
theorem dX2_readBoards_90 : decode cX2_readBoards 90 = .ok (.goto 9, 3) := by decide +kernel
theorem dX2_readBoards_93 : decode cX2_readBoards 93 = .ok (.aload_n 0, 1) := by decide +kernel
theorem dX2_readBoards_94 : decode cX2_readBoards 94 = .ok (.iconst 1, 1) := by decide +kernel
theorem dX2_readBoards_95 : decode cX2_readBoards 95 = .ok (.iconst 4, 1) := by decide +kernel
theorem dX2_readBoards_96 : decode cX2_readBoards 96 = .ok (.invokevirtual 33, 3) := by decide +kernel
theorem dX2_readBoards_99 : decode cX2_readBoards 99 = .ok (.putfield 46, 3) := by decide +kernel
theorem dX2_readBoards_102 : decode cX2_readBoards 102 = .ok (.aload_n 0, 1) := by decide +kernel
theorem dX2_readBoards_103 : decode cX2_readBoards 103 = .ok (.getfield 46, 3) := by decide +kernel
theorem dX2_readBoards_106 : decode cX2_readBoards 106 = .ok (.iconst (-1), 1) := by decide +kernel
theorem dX2_readBoards_107 : decode cX2_readBoards 107 = .ok (.if_icmp .eq 7, 3) := by decide +kernel
theorem dX2_readBoards_110 : decode cX2_readBoards 110 = .ok (.iconst 1, 1) := by decide +kernel
theorem dX2_readBoards_111 : decode cX2_readBoards 111 = .ok (.goto 4, 3) := by decide +kernel
theorem dX2_readBoards_114 : decode cX2_readBoards 114 = .ok (.iconst 0, 1) := by decide +kernel
theorem dX2_readBoards_115 : decode cX2_readBoards 115 = .ok (.ireturn, 1) := by decide +kernel
set_option maxRecDepth 20000 in
theorem ggX2_readCommand_X2_sign : GoodIn wsX2_readCommand wsX2_sign := goodIn_r _ [11, 2, 12, 13, 32, 33, 34, 35, 36, 37, 38, 39, 40, 41] (by decide +kernel) (by decide +kernel)
set_option maxRecDepth 20000 in
theorem gX2_readCommand_X2_sign : GoodIn wsX2_readCommand (wsV RX2 29 RX2 yX2_sign wsX2_sign) := goodIn_app (goodIn_of _ (by decide +kernel)) ggX2_readCommand_X2_sign
set_option maxRecDepth 20000 in
theorem ggX2_readCommand_X2_readNumber : GoodIn wsX2_readCommand wsX2_readNumber := goodIn_r _ [17, 18, 19, 20, 21, 22, 23, 24, 10, 25, 2, 7, 8, 9, 11, 12, 13, 32, 33, 34, 35, 36, 37, 38, 39, 40, 41] (by decide +kernel) (by decide +kernel)
set_option maxRecDepth 20000 in
theorem gX2_readCommand_X2_readNumber : GoodIn wsX2_readCommand (wsV RX2 52 RX2 yX2_readNumber wsX2_readNumber) := goodIn_app (goodIn_of _ (by decide +kernel)) ggX2_readCommand_X2_readNumber
set_option maxRecDepth 20000 in
theorem ggX2_readCommand_X2_readOutput : GoodIn wsX2_readCommand wsX2_readOutput := goodIn_r _ [29, 30, 4, 31, 14, 15, 16, 10, 17, 18, 19, 20, 21, 22, 23, 24, 25, 2, 7, 8, 9, 11, 12, 13, 32, 33, 34, 35, 36, 37, 38, 39, 40, 41] (by decide +kernel) (by decide +kernel)
set_option maxRecDepth 20000 in
theorem gX2_readCommand_X2_readOutput : GoodIn wsX2_readCommand (wsV RX2 59 RX2 yX2_readOutput wsX2_readOutput) := goodIn_app (goodIn_of _ (by decide +kernel)) ggX2_readCommand_X2_readOutput
set_option maxRecDepth 20000 in
theorem ggX2_readCommand_X2_readDigit : GoodIn wsX2_readCommand wsX2_readDigit := goodIn_r _ [25, 2, 7, 8, 9, 10, 11, 12, 13, 32, 33, 34, 35, 36, 37, 38, 39, 40, 41] (by decide +kernel) (by decide +kernel)
set_option maxRecDepth 20000 in
theorem gX2_readCommand_X2_readDigit : GoodIn wsX2_readCommand (wsV RX2 33 RX2 yX2_readDigit wsX2_readDigit) := goodIn_app (goodIn_of _ (by decide +kernel)) ggX2_readCommand_X2_readDigit
theorem dX2_readCommand_0 : decode cX2_readCommand 0 = .ok (.aload_n 0, 1) := by decide +kernel
theorem dX2_readCommand_1 : decode cX2_readCommand 1 = .ok (.aload_n 0, 1) := by decide +kernel
theorem dX2_readCommand_2 : decode cX2_readCommand 2 = .ok (.invokevirtual 29, 3) := by decide +kernel
theorem dX2_readCommand_5 : decode cX2_readCommand 5 = .ok (.putfield 49, 3) := by decide +kernel
theorem dX2_readCommand_8 : decode cX2_readCommand 8 = .ok (.aload_n 0, 1) := by decide +kernel
theorem dX2_readCommand_9 : decode cX2_readCommand 9 = .ok (.getfield 49, 3) := by decide +kernel
theorem dX2_readCommand_12 : decode cX2_readCommand 12 = .ok (.tableswitch 274 98 112 #[201, 76, 274, 274, 274, 274, 167, 274, 126, 274, 274, 274, 274, 274, 240], 76) := by decide +kernel
theorem dX2_readCommand_88 : decode cX2_readCommand 88 = .ok (.aload_n 0, 1) := by decide +kernel
theorem dX2_readCommand_89 : decode cX2_readCommand 89 = .ok (.dup, 1) := by decide +kernel
theorem dX2_readCommand_90 : decode cX2_readCommand 90 = .ok (.getfield 19, 3) := by decide +kernel
theorem dX2_readCommand_93 : decode cX2_readCommand 93 = .ok (.iconst 1, 1) := by decide +kernel
theorem dX2_readCommand_94 : decode cX2_readCommand 94 = .ok (.iadd, 1) := by decide +kernel
theorem dX2_readCommand_95 : decode cX2_readCommand 95 = .ok (.putfield 19, 3) := by decide +kernel
theorem dX2_readCommand_98 : decode cX2_readCommand 98 = .ok (.aload_n 0, 1) := by decide +kernel
theorem dX2_readCommand_99 : decode cX2_readCommand 99 = .ok (.aload_n 0, 1) := by decide +kernel
theorem dX2_readCommand_100 : decode cX2_readCommand 100 = .ok (.aload_n 0, 1) := by decide +kernel
theorem dX2_readCommand_101 : decode cX2_readCommand 101 = .ok (.getfield 37, 3) := by decide +kernel
theorem dX2_readCommand_104 : decode cX2_readCommand 104 = .ok (.aload_n 0, 1) := by decide +kernel
theorem dX2_readCommand_105 : decode cX2_readCommand 105 = .ok (.getfield 40, 3) := by decide +kernel
theorem dX2_readCommand_108 : decode cX2_readCommand 108 = .ok (.imul, 1) := by decide +kernel
theorem dX2_readCommand_109 : decode cX2_readCommand 109 = .ok (.iconst 1, 1) := by decide +kernel
theorem dX2_readCommand_110 : decode cX2_readCommand 110 = .ok (.isub, 1) := by decide +kernel
theorem dX2_readCommand_111 : decode cX2_readCommand 111 = .ok (.invokevirtual 52, 3) := by decide +kernel
theorem dX2_readCommand_114 : decode cX2_readCommand 114 = .ok (.putfield 56, 3) := by decide +kernel
theorem dX2_readCommand_117 : decode cX2_readCommand 117 = .ok (.aload_n 0, 1) := by decide +kernel
theorem dX2_readCommand_118 : decode cX2_readCommand 118 = .ok (.getfield 56, 3) := by decide +kernel
theorem dX2_readCommand_121 : decode cX2_readCommand 121 = .ok (.iconst (-1), 1) := by decide +kernel
theorem dX2_readCommand_122 : decode cX2_readCommand 122 = .ok (.if_icmp .eq 14, 3) := by decide +kernel
theorem dX2_readCommand_125 : decode cX2_readCommand 125 = .ok (.aload_n 0, 1) := by decide +kernel
theorem dX2_readCommand_126 : decode cX2_readCommand 126 = .ok (.invokevirtual 59, 3) := by decide +kernel
theorem dX2_readCommand_129 : decode cX2_readCommand 129 = .ok (.ifCond .eq 7, 3) := by decide +kernel
theorem dX2_readCommand_132 : decode cX2_readCommand 132 = .ok (.iconst 1, 1) := by decide +kernel
theorem dX2_readCommand_133 : decode cX2_readCommand 133 = .ok (.goto 4, 3) := by decide +kernel
theorem dX2_readCommand_136 : decode cX2_readCommand 136 = .ok (.iconst 0, 1) := by decide +kernel
theorem dX2_readCommand_137 : decode cX2_readCommand 137 = .ok (.ireturn, 1) := by decide +kernel
theorem dX2_readCommand_138 : decode cX2_readCommand 138 = .ok (.aload_n 0, 1) := by decide +kernel
theorem dX2_readCommand_139 : decode cX2_readCommand 139 = .ok (.dup, 1) := by decide +kernel
theorem dX2_readCommand_140 : decode cX2_readCommand 140 = .ok (.getfield 19, 3) := by decide +kernel
theorem dX2_readCommand_143 : decode cX2_readCommand 143 = .ok (.iconst 1, 1) := by decide +kernel
theorem dX2_readCommand_144 : decode cX2_readCommand 144 = .ok (.iadd, 1) := by decide +kernel
theorem dX2_readCommand_145 : decode cX2_readCommand 145 = .ok (.putfield 19, 3) := by decide +kernel
theorem dX2_readCommand_148 : decode cX2_readCommand 148 = .ok (.aload_n 0, 1) := by decide +kernel
theorem dX2_readCommand_149 : decode cX2_readCommand 149 = .ok (.aload_n 0, 1) := by decide +kernel
theorem dX2_readCommand_150 : decode cX2_readCommand 150 = .ok (.bipush 15, 2) := by decide +kernel
theorem dX2_readCommand_152 : decode cX2_readCommand 152 = .ok (.invokevirtual 52, 3) := by decide +kernel
theorem dX2_readCommand_155 : decode cX2_readCommand 155 = .ok (.putfield 56, 3) := by decide +kernel
theorem dX2_readCommand_158 : decode cX2_readCommand 158 = .ok (.aload_n 0, 1) := by decide +kernel
theorem dX2_readCommand_159 : decode cX2_readCommand 159 = .ok (.getfield 56, 3) := by decide +kernel
theorem dX2_readCommand_162 : decode cX2_readCommand 162 = .ok (.iconst (-1), 1) := by decide +kernel
theorem dX2_readCommand_163 : decode cX2_readCommand 163 = .ok (.if_icmp .eq 14, 3) := by decide +kernel
theorem dX2_readCommand_166 : decode cX2_readCommand 166 = .ok (.aload_n 0, 1) := by decide +kernel
theorem dX2_readCommand_167 : decode cX2_readCommand 167 = .ok (.invokevirtual 59, 3) := by decide +kernel
theorem dX2_readCommand_170 : decode cX2_readCommand 170 = .ok (.ifCond .eq 7, 3) := by decide +kernel
theorem dX2_readCommand_173 : decode cX2_readCommand 173 = .ok (.iconst 1, 1) := by decide +kernel
theorem dX2_readCommand_174 : decode cX2_readCommand 174 = .ok (.goto 4, 3) := by decide +kernel
theorem dX2_readCommand_177 : decode cX2_readCommand 177 = .ok (.iconst 0, 1) := by decide +kernel
theorem dX2_readCommand_178 : decode cX2_readCommand 178 = .ok (.ireturn, 1) := by decide +kernel
theorem dX2_readCommand_179 : decode cX2_readCommand 179 = .ok (.aload_n 0, 1) := by decide +kernel
theorem dX2_readCommand_180 : decode cX2_readCommand 180 = .ok (.dup, 1) := by decide +kernel
theorem dX2_readCommand_181 : decode cX2_readCommand 181 = .ok (.getfield 19, 3) := by decide +kernel
theorem dX2_readCommand_184 : decode cX2_readCommand 184 = .ok (.iconst 1, 1) := by decide +kernel
theorem dX2_readCommand_185 : decode cX2_readCommand 185 = .ok (.iadd, 1) := by decide +kernel
theorem dX2_readCommand_186 : decode cX2_readCommand 186 = .ok (.putfield 19, 3) := by decide +kernel
theorem dX2_readCommand_189 : decode cX2_readCommand 189 = .ok (.aload_n 0, 1) := by decide +kernel
theorem dX2_readCommand_190 : decode cX2_readCommand 190 = .ok (.aload_n 0, 1) := by decide +kernel
theorem dX2_readCommand_191 : decode cX2_readCommand 191 = .ok (.bipush 15, 2) := by decide +kernel
theorem dX2_readCommand_193 : decode cX2_readCommand 193 = .ok (.invokevirtual 52, 3) := by decide +kernel
theorem dX2_readCommand_196 : decode cX2_readCommand 196 = .ok (.putfield 56, 3) := by decide +kernel
theorem dX2_readCommand_199 : decode cX2_readCommand 199 = .ok (.aload_n 0, 1) := by decide +kernel
theorem dX2_readCommand_200 : decode cX2_readCommand 200 = .ok (.getfield 56, 3) := by decide +kernel
theorem dX2_readCommand_203 : decode cX2_readCommand 203 = .ok (.iconst (-1), 1) := by decide +kernel
theorem dX2_readCommand_204 : decode cX2_readCommand 204 = .ok (.if_icmp .eq 7, 3) := by decide +kernel
theorem dX2_readCommand_207 : decode cX2_readCommand 207 = .ok (.iconst 1, 1) := by decide +kernel
theorem dX2_readCommand_208 : decode cX2_readCommand 208 = .ok (.goto 4, 3) := by decide +kernel
theorem dX2_readCommand_211 : decode cX2_readCommand 211 = .ok (.iconst 0, 1) := by decide +kernel
theorem dX2_readCommand_212 : decode cX2_readCommand 212 = .ok (.ireturn, 1) := by decide +kernel
theorem dX2_readCommand_213 : decode cX2_readCommand 213 = .ok (.aload_n 0, 1) := by decide +kernel
theorem dX2_readCommand_214 : decode cX2_readCommand 214 = .ok (.dup, 1) := by decide +kernel
theorem dX2_readCommand_215 : decode cX2_readCommand 215 = .ok (.getfield 19, 3) := by decide +kernel
theorem dX2_readCommand_218 : decode cX2_readCommand 218 = .ok (.iconst 1, 1) := by decide +kernel
theorem dX2_readCommand_219 : decode cX2_readCommand 219 = .ok (.iadd, 1) := by decide +kernel
theorem dX2_readCommand_220 : decode cX2_readCommand 220 = .ok (.putfield 19, 3) := by decide +kernel
theorem dX2_readCommand_223 : decode cX2_readCommand 223 = .ok (.aload_n 0, 1) := by decide +kernel
theorem dX2_readCommand_224 : decode cX2_readCommand 224 = .ok (.aload_n 0, 1) := by decide +kernel
theorem dX2_readCommand_225 : decode cX2_readCommand 225 = .ok (.iconst 0, 1) := by decide +kernel
theorem dX2_readCommand_226 : decode cX2_readCommand 226 = .ok (.aload_n 0, 1) := by decide +kernel
theorem dX2_readCommand_227 : decode cX2_readCommand 227 = .ok (.getfield 43, 3) := by decide +kernel
theorem dX2_readCommand_230 : decode cX2_readCommand 230 = .ok (.iconst 1, 1) := by decide +kernel
theorem dX2_readCommand_231 : decode cX2_readCommand 231 = .ok (.isub, 1) := by decide +kernel
theorem dX2_readCommand_232 : decode cX2_readCommand 232 = .ok (.invokevirtual 33, 3) := by decide +kernel
theorem dX2_readCommand_235 : decode cX2_readCommand 235 = .ok (.putfield 56, 3) := by decide +kernel
theorem dX2_readCommand_238 : decode cX2_readCommand 238 = .ok (.aload_n 0, 1) := by decide +kernel
theorem dX2_readCommand_239 : decode cX2_readCommand 239 = .ok (.getfield 56, 3) := by decide +kernel
theorem dX2_readCommand_242 : decode cX2_readCommand 242 = .ok (.iconst (-1), 1) := by decide +kernel
theorem dX2_readCommand_243 : decode cX2_readCommand 243 = .ok (.if_icmp .eq 7, 3) := by decide +kernel
theorem dX2_readCommand_246 : decode cX2_readCommand 246 = .ok (.iconst 1, 1) := by decide +kernel
theorem dX2_readCommand_247 : decode cX2_readCommand 247 = .ok (.goto 4, 3) := by decide +kernel
theorem dX2_readCommand_250 : decode cX2_readCommand 250 = .ok (.iconst 0, 1) := by decide +kernel
theorem dX2_readCommand_251 : decode cX2_readCommand 251 = .ok (.ireturn, 1) := by decide +kernel
theorem dX2_readCommand_252 : decode cX2_readCommand 252 = .ok (.aload_n 0, 1) := by decide +kernel
theorem dX2_readCommand_253 : decode cX2_readCommand 253 = .ok (.dup, 1) := by decide +kernel
theorem dX2_readCommand_254 : decode cX2_readCommand 254 = .ok (.getfield 19, 3) := by decide +kernel
theorem dX2_readCommand_257 : decode cX2_readCommand 257 = .ok (.iconst 1, 1) := by decide +kernel
theorem dX2_readCommand_258 : decode cX2_readCommand 258 = .ok (.iadd, 1) := by decide +kernel
theorem dX2_readCommand_259 : decode cX2_readCommand 259 = .ok (.putfield 19, 3) := by decide +kernel
theorem dX2_readCommand_262 : decode cX2_readCommand 262 = .ok (.aload_n 0, 1) := by decide +kernel
theorem dX2_readCommand_263 : decode cX2_readCommand 263 = .ok (.aload_n 0, 1) := by decide +kernel
theorem dX2_readCommand_264 : decode cX2_readCommand 264 = .ok (.iconst 0, 1) := by decide +kernel
theorem dX2_readCommand_265 : decode cX2_readCommand 265 = .ok (.iconst 3, 1) := by decide +kernel
theorem dX2_readCommand_266 : decode cX2_readCommand 266 = .ok (.invokevirtual 33, 3) := by decide +kernel
theorem dX2_readCommand_269 : decode cX2_readCommand 269 = .ok (.putfield 56, 3) := by decide +kernel
theorem dX2_readCommand_272 : decode cX2_readCommand 272 = .ok (.aload_n 0, 1) := by decide +kernel
theorem dX2_readCommand_273 : decode cX2_readCommand 273 = .ok (.getfield 56, 3) := by decide +kernel
theorem dX2_readCommand_276 : decode cX2_readCommand 276 = .ok (.iconst (-1), 1) := by decide +kernel
theorem dX2_readCommand_277 : decode cX2_readCommand 277 = .ok (.if_icmp .eq 7, 3) := by decide +kernel
theorem dX2_readCommand_280 : decode cX2_readCommand 280 = .ok (.iconst 1, 1) := by decide +kernel
theorem dX2_readCommand_281 : decode cX2_readCommand 281 = .ok (.goto 4, 3) := by decide +kernel
theorem dX2_readCommand_284 : decode cX2_readCommand 284 = .ok (.iconst 0, 1) := by decide +kernel
theorem dX2_readCommand_285 : decode cX2_readCommand 285 = .ok (.ireturn, 1) := by decide +kernel
theorem dX2_readCommand_286 : decode cX2_readCommand 286 = .ok (.iconst 0, 1) := by decide +kernel
theorem dX2_readCommand_287 : decode cX2_readCommand 287 = .ok (.ireturn, 1) := by decide +kernel
set_option maxRecDepth 20000 in
theorem ggX2_readOutput_X2_readNumber : GoodIn wsX2_readOutput wsX2_readNumber := goodIn_r _ [8, 9, 10, 11, 12, 13, 14, 15, 7, 16, 17, 18, 19, 20, 21, 22, 23, 24, 25, 26, 27, 28, 29, 30, 31, 32, 33] (by decide +kernel) (by decide +kernel)
set_option maxRecDepth 20000 in
theorem gX2_readOutput_X2_readNumber : GoodIn wsX2_readOutput (wsV RX2 52 RX2 yX2_readNumber wsX2_readNumber) := goodIn_app (goodIn_of _ (by decide +kernel)) ggX2_readOutput_X2_readNumber
theorem dX2_readOutput_0 : decode cX2_readOutput 0 = .ok (.aload_n 0, 1) := by decide +kernel
theorem dX2_readOutput_1 : decode cX2_readOutput 1 = .ok (.aload_n 0, 1) := by decide +kernel
theorem dX2_readOutput_2 : decode cX2_readOutput 2 = .ok (.aload_n 0, 1) := by decide +kernel
theorem dX2_readOutput_3 : decode cX2_readOutput 3 = .ok (.getfield 46, 3) := by decide +kernel
theorem dX2_readOutput_6 : decode cX2_readOutput 6 = .ok (.aload_n 0, 1) := by decide +kernel
theorem dX2_readOutput_7 : decode cX2_readOutput 7 = .ok (.getfield 40, 3) := by decide +kernel
theorem dX2_readOutput_10 : decode cX2_readOutput 10 = .ok (.imul, 1) := by decide +kernel
theorem dX2_readOutput_11 : decode cX2_readOutput 11 = .ok (.iconst 1, 1) := by decide +kernel
theorem dX2_readOutput_12 : decode cX2_readOutput 12 = .ok (.isub, 1) := by decide +kernel
theorem dX2_readOutput_13 : decode cX2_readOutput 13 = .ok (.invokevirtual 52, 3) := by decide +kernel
theorem dX2_readOutput_16 : decode cX2_readOutput 16 = .ok (.putfield 62, 3) := by decide +kernel
theorem dX2_readOutput_19 : decode cX2_readOutput 19 = .ok (.aload_n 0, 1) := by decide +kernel
theorem dX2_readOutput_20 : decode cX2_readOutput 20 = .ok (.getfield 62, 3) := by decide +kernel
theorem dX2_readOutput_23 : decode cX2_readOutput 23 = .ok (.iconst (-1), 1) := by decide +kernel
theorem dX2_readOutput_24 : decode cX2_readOutput 24 = .ok (.if_icmp .eq 7, 3) := by decide +kernel
theorem dX2_readOutput_27 : decode cX2_readOutput 27 = .ok (.iconst 1, 1) := by decide +kernel
theorem dX2_readOutput_28 : decode cX2_readOutput 28 = .ok (.goto 4, 3) := by decide +kernel
theorem dX2_readOutput_31 : decode cX2_readOutput 31 = .ok (.iconst 0, 1) := by decide +kernel
theorem dX2_readOutput_32 : decode cX2_readOutput 32 = .ok (.ireturn, 1) := by decide +kernel
theorem dX2_sign_0 : decode cX2_sign 0 = .ok (.aload_n 0, 1) := by decide +kernel
theorem dX2_sign_1 : decode cX2_sign 1 = .ok (.getfield 19, 3) := by decide +kernel
theorem dX2_sign_4 : decode cX2_sign 4 = .ok (.aload_n 0, 1) := by decide +kernel
theorem dX2_sign_5 : decode cX2_sign 5 = .ok (.getfield 23, 3) := by decide +kernel
theorem dX2_sign_8 : decode cX2_sign 8 = .ok (.if_icmp .ge 24, 3) := by decide +kernel
theorem dX2_sign_11 : decode cX2_sign 11 = .ok (.aload_n 0, 1) := by decide +kernel
theorem dX2_sign_12 : decode cX2_sign 12 = .ok (.getfield 19, 3) := by decide +kernel
theorem dX2_sign_15 : decode cX2_sign 15 = .ok (.bipush 120, 2) := by decide +kernel
theorem dX2_sign_17 : decode cX2_sign 17 = .ok (.if_icmp .ge 15, 3) := by decide +kernel
theorem dX2_sign_20 : decode cX2_sign 20 = .ok (.aload_n 0, 1) := by decide +kernel
theorem dX2_sign_21 : decode cX2_sign 21 = .ok (.getfield 9, 3) := by decide +kernel
theorem dX2_sign_24 : decode cX2_sign 24 = .ok (.aload_n 0, 1) := by decide +kernel
theorem dX2_sign_25 : decode cX2_sign 25 = .ok (.getfield 19, 3) := by decide +kernel
theorem dX2_sign_28 : decode cX2_sign 28 = .ok (.caload, 1) := by decide +kernel
theorem dX2_sign_29 : decode cX2_sign 29 = .ok (.goto 4, 3) := by decide +kernel
theorem dX2_sign_32 : decode cX2_sign 32 = .ok (.iconst (-1), 1) := by decide +kernel
theorem dX2_sign_33 : decode cX2_sign 33 = .ok (.ireturn, 1) := by decide +kernel
set_option maxRecDepth 20000 in
theorem ggX2_readDigit_X2_sign : GoodIn wsX2_readDigit wsX2_sign := goodIn_r _ [6, 1, 7, 8, 9, 10, 11, 12, 13, 14, 15, 16, 17, 18] (by decide +kernel) (by decide +kernel)
set_option maxRecDepth 20000 in
theorem gX2_readDigit_X2_sign : GoodIn wsX2_readDigit (wsV RX2 29 RX2 yX2_sign wsX2_sign) := goodIn_app (goodIn_of _ (by decide +kernel)) ggX2_readDigit_X2_sign
theorem dX2_readDigit_0 : decode cX2_readDigit 0 = .ok (.aload_n 0, 1) := by decide +kernel
theorem dX2_readDigit_1 : decode cX2_readDigit 1 = .ok (.invokevirtual 29, 3) := by decide +kernel
theorem dX2_readDigit_4 : decode cX2_readDigit 4 = .ok (.bipush 48, 2) := by decide +kernel
theorem dX2_readDigit_6 : decode cX2_readDigit 6 = .ok (.isub, 1) := by decide +kernel
theorem dX2_readDigit_7 : decode cX2_readDigit 7 = .ok (.istore_n 3, 1) := by decide +kernel
theorem dX2_readDigit_8 : decode cX2_readDigit 8 = .ok (.iload_n 3, 1) := by decide +kernel
theorem dX2_readDigit_9 : decode cX2_readDigit 9 = .ok (.iload_n 1, 1) := by decide +kernel
theorem dX2_readDigit_10 : decode cX2_readDigit 10 = .ok (.if_icmp .lt 8, 3) := by decide +kernel
theorem dX2_readDigit_13 : decode cX2_readDigit 13 = .ok (.iload_n 3, 1) := by decide +kernel
theorem dX2_readDigit_14 : decode cX2_readDigit 14 = .ok (.iload_n 2, 1) := by decide +kernel
theorem dX2_readDigit_15 : decode cX2_readDigit 15 = .ok (.if_icmp .le 5, 3) := by decide +kernel
theorem dX2_readDigit_18 : decode cX2_readDigit 18 = .ok (.iconst (-1), 1) := by decide +kernel
theorem dX2_readDigit_19 : decode cX2_readDigit 19 = .ok (.ireturn, 1) := by decide +kernel
theorem dX2_readDigit_20 : decode cX2_readDigit 20 = .ok (.aload_n 0, 1) := by decide +kernel
theorem dX2_readDigit_21 : decode cX2_readDigit 21 = .ok (.dup, 1) := by decide +kernel
theorem dX2_readDigit_22 : decode cX2_readDigit 22 = .ok (.getfield 19, 3) := by decide +kernel
theorem dX2_readDigit_25 : decode cX2_readDigit 25 = .ok (.iconst 1, 1) := by decide +kernel
theorem dX2_readDigit_26 : decode cX2_readDigit 26 = .ok (.iadd, 1) := by decide +kernel
theorem dX2_readDigit_27 : decode cX2_readDigit 27 = .ok (.putfield 19, 3) := by decide +kernel
theorem dX2_readDigit_30 : decode cX2_readDigit 30 = .ok (.iload_n 3, 1) := by decide +kernel
theorem dX2_readDigit_31 : decode cX2_readDigit 31 = .ok (.ireturn, 1) := by decide +kernel
set_option maxRecDepth 20000 in
theorem ggX2_readNumber_X2_readDigit : GoodIn wsX2_readNumber wsX2_readDigit := goodIn_r _ [9, 10, 11, 12, 13, 8, 14, 15, 16, 17, 18, 19, 20, 21, 22, 23, 24, 25, 26] (by decide +kernel) (by decide +kernel)
set_option maxRecDepth 20000 in
theorem gX2_readNumber_X2_readDigit : GoodIn wsX2_readNumber (wsV RX2 33 RX2 yX2_readDigit wsX2_readDigit) := goodIn_app (goodIn_of _ (by decide +kernel)) ggX2_readNumber_X2_readDigit
theorem dX2_readNumber_0 : decode cX2_readNumber 0 = .ok (.aload_n 0, 1) := by decide +kernel
theorem dX2_readNumber_1 : decode cX2_readNumber 1 = .ok (.iconst 0, 1) := by decide +kernel
theorem dX2_readNumber_2 : decode cX2_readNumber 2 = .ok (.iload_n 1, 1) := by decide +kernel
theorem dX2_readNumber_3 : decode cX2_readNumber 3 = .ok (.bipush 10, 2) := by decide +kernel
theorem dX2_readNumber_5 : decode cX2_readNumber 5 = .ok (.idiv, 1) := by decide +kernel
theorem dX2_readNumber_6 : decode cX2_readNumber 6 = .ok (.invokevirtual 33, 3) := by decide +kernel
theorem dX2_readNumber_9 : decode cX2_readNumber 9 = .ok (.istore_n 2, 1) := by decide +kernel
theorem dX2_readNumber_10 : decode cX2_readNumber 10 = .ok (.iload_n 2, 1) := by decide +kernel
theorem dX2_readNumber_11 : decode cX2_readNumber 11 = .ok (.iconst (-1), 1) := by decide +kernel
theorem dX2_readNumber_12 : decode cX2_readNumber 12 = .ok (.if_icmp .ne 5, 3) := by decide +kernel
theorem dX2_readNumber_15 : decode cX2_readNumber 15 = .ok (.iconst (-1), 1) := by decide +kernel
theorem dX2_readNumber_16 : decode cX2_readNumber 16 = .ok (.ireturn, 1) := by decide +kernel
theorem dX2_readNumber_17 : decode cX2_readNumber 17 = .ok (.aload_n 0, 1) := by decide +kernel
theorem dX2_readNumber_18 : decode cX2_readNumber 18 = .ok (.iconst 0, 1) := by decide +kernel
theorem dX2_readNumber_19 : decode cX2_readNumber 19 = .ok (.bipush 9, 2) := by decide +kernel
theorem dX2_readNumber_21 : decode cX2_readNumber 21 = .ok (.iload_n 1, 1) := by decide +kernel
theorem dX2_readNumber_22 : decode cX2_readNumber 22 = .ok (.bipush 10, 2) := by decide +kernel
theorem dX2_readNumber_24 : decode cX2_readNumber 24 = .ok (.iload_n 2, 1) := by decide +kernel
theorem dX2_readNumber_25 : decode cX2_readNumber 25 = .ok (.imul, 1) := by decide +kernel
theorem dX2_readNumber_26 : decode cX2_readNumber 26 = .ok (.isub, 1) := by decide +kernel
theorem dX2_readNumber_27 : decode cX2_readNumber 27 = .ok (.invokestatic 65, 3) := by decide +kernel
theorem dX2_readNumber_30 : decode cX2_readNumber 30 = .ok (.invokevirtual 33, 3) := by decide +kernel
theorem dX2_readNumber_33 : decode cX2_readNumber 33 = .ok (.istore_n 3, 1) := by decide +kernel
theorem dX2_readNumber_34 : decode cX2_readNumber 34 = .ok (.iload_n 3, 1) := by decide +kernel
theorem dX2_readNumber_35 : decode cX2_readNumber 35 = .ok (.iconst (-1), 1) := by decide +kernel
theorem dX2_readNumber_36 : decode cX2_readNumber 36 = .ok (.if_icmp .ne 7, 3) := by decide +kernel
theorem dX2_readNumber_39 : decode cX2_readNumber 39 = .ok (.iconst (-1), 1) := by decide +kernel
theorem dX2_readNumber_40 : decode cX2_readNumber 40 = .ok (.goto 9, 3) := by decide +kernel
theorem dX2_readNumber_43 : decode cX2_readNumber 43 = .ok (.bipush 10, 2) := by decide +kernel
theorem dX2_readNumber_45 : decode cX2_readNumber 45 = .ok (.iload_n 2, 1) := by decide +kernel
theorem dX2_readNumber_46 : decode cX2_readNumber 46 = .ok (.imul, 1) := by decide +kernel
theorem dX2_readNumber_47 : decode cX2_readNumber 47 = .ok (.iload_n 3, 1) := by decide +kernel
theorem dX2_readNumber_48 : decode cX2_readNumber 48 = .ok (.iadd, 1) := by decide +kernel
theorem dX2_readNumber_49 : decode cX2_readNumber 49 = .ok (.ireturn, 1) := by decide +kernel
theorem dX3_init_0 : decode cX3_init 0 = .ok (.aload_n 0, 1) := by decide +kernel
theorem dX3_init_1 : decode cX3_init 1 = .ok (.invokespecial 3, 3) := by decide +kernel
theorem dX3_init_4 : decode cX3_init 4 = .ok (.aload_n 0, 1) := by decide +kernel
theorem dX3_init_5 : decode cX3_init 5 = .ok (.bipush 16, 2) := by decide +kernel
theorem dX3_init_7 : decode cX3_init 7 = .ok (.newarray .int, 2) := by decide +kernel
theorem dX3_init_9 : decode cX3_init 9 = .ok (.putfield 9, 3) := by decide +kernel
theorem dX3_init_12 : decode cX3_init 12 = .ok (.aload_n 0, 1) := by decide +kernel
theorem dX3_init_13 : decode cX3_init 13 = .ok (.bipush 16, 2) := by decide +kernel
theorem dX3_init_15 : decode cX3_init 15 = .ok (.newarray .int, 2) := by decide +kernel
theorem dX3_init_17 : decode cX3_init 17 = .ok (.putfield 15, 3) := by decide +kernel
theorem dX3_init_20 : decode cX3_init 20 = .ok (.aload_n 0, 1) := by decide +kernel
theorem dX3_init_21 : decode cX3_init 21 = .ok (.bipush 16, 2) := by decide +kernel
theorem dX3_init_23 : decode cX3_init 23 = .ok (.newarray .int, 2) := by decide +kernel
theorem dX3_init_25 : decode cX3_init 25 = .ok (.putfield 18, 3) := by decide +kernel
theorem dX3_init_28 : decode cX3_init 28 = .ok (.aload_n 0, 1) := by decide +kernel
theorem dX3_init_29 : decode cX3_init 29 = .ok (.bipush 16, 2) := by decide +kernel
theorem dX3_init_31 : decode cX3_init 31 = .ok (.newarray .int, 2) := by decide +kernel
theorem dX3_init_33 : decode cX3_init 33 = .ok (.putfield 21, 3) := by decide +kernel
theorem dX3_init_36 : decode cX3_init 36 = .ok (.aload_n 0, 1) := by decide +kernel
theorem dX3_init_37 : decode cX3_init 37 = .ok (.bipush 16, 2) := by decide +kernel
theorem dX3_init_39 : decode cX3_init 39 = .ok (.newarray .int, 2) := by decide +kernel
theorem dX3_init_41 : decode cX3_init 41 = .ok (.putfield 24, 3) := by decide +kernel
theorem dX3_init_44 : decode cX3_init 44 = .ok (.aload_n 0, 1) := by decide +kernel
theorem dX3_init_45 : decode cX3_init 45 = .ok (.bipush 16, 2) := by decide +kernel
theorem dX3_init_47 : decode cX3_init 47 = .ok (.newarray .int, 2) := by decide +kernel
theorem dX3_init_49 : decode cX3_init 49 = .ok (.putfield 27, 3) := by decide +kernel
theorem dX3_init_52 : decode cX3_init 52 = .ok (.return_, 1) := by decide +kernel
theorem dX3_clear_0 : decode cX3_clear 0 = .ok (.aload_n 0, 1) := by decide +kernel
theorem dX3_clear_1 : decode cX3_clear 1 = .ok (.iload_n 1, 1) := by decide +kernel
theorem dX3_clear_2 : decode cX3_clear 2 = .ok (.putfield 30, 3) := by decide +kernel
theorem dX3_clear_5 : decode cX3_clear 5 = .ok (.aload_n 0, 1) := by decide +kernel
theorem dX3_clear_6 : decode cX3_clear 6 = .ok (.iload_n 2, 1) := by decide +kernel
theorem dX3_clear_7 : decode cX3_clear 7 = .ok (.putfield 34, 3) := by decide +kernel
theorem dX3_clear_10 : decode cX3_clear 10 = .ok (.aload_n 0, 1) := by decide +kernel
theorem dX3_clear_11 : decode cX3_clear 11 = .ok (.iload_n 3, 1) := by decide +kernel
theorem dX3_clear_12 : decode cX3_clear 12 = .ok (.putfield 37, 3) := by decide +kernel
theorem dX3_clear_15 : decode cX3_clear 15 = .ok (.aload_n 0, 1) := by decide +kernel
theorem dX3_clear_16 : decode cX3_clear 16 = .ok (.iload 4, 2) := by decide +kernel
theorem dX3_clear_18 : decode cX3_clear 18 = .ok (.putfield 40, 3) := by decide +kernel
theorem dX3_clear_21 : decode cX3_clear 21 = .ok (.aload_n 0, 1) := by decide +kernel
theorem dX3_clear_22 : decode cX3_clear 22 = .ok (.iconst 2, 1) := by decide +kernel
theorem dX3_clear_23 : decode cX3_clear 23 = .ok (.putfield 43, 3) := by decide +kernel
theorem dX3_clear_26 : decode cX3_clear 26 = .ok (.aload_n 0, 1) := by decide +kernel
theorem dX3_clear_27 : decode cX3_clear 27 = .ok (.iconst 0, 1) := by decide +kernel
theorem dX3_clear_28 : decode cX3_clear 28 = .ok (.putfield 46, 3) := by decide +kernel
theorem dX3_clear_31 : decode cX3_clear 31 = .ok (.aload_n 0, 1) := by decide +kernel
theorem dX3_clear_32 : decode cX3_clear 32 = .ok (.iconst 0, 1) := by decide +kernel
theorem dX3_clear_33 : decode cX3_clear 33 = .ok (.putfield 49, 3) := by decide +kernel
theorem dX3_clear_36 : decode cX3_clear 36 = .ok (.aload_n 0, 1) := by decide +kernel
theorem dX3_clear_37 : decode cX3_clear 37 = .ok (.iconst 0, 1) := by decide +kernel
theorem dX3_clear_38 : decode cX3_clear 38 = .ok (.putfield 52, 3) := by decide +kernel
theorem dX3_clear_41 : decode cX3_clear 41 = .ok (.iconst 0, 1) := by decide +kernel
theorem dX3_clear_42 : decode cX3_clear 42 = .ok (.istore 5, 2) := by decide +kernel
theorem dX3_clear_44 : decode cX3_clear 44 = .ok (.iload 5, 2) := by decide +kernel
theorem dX3_clear_46 : decode cX3_clear 46 = .ok (.bipush 16, 2) := by decide +kernel
theorem dX3_clear_48 : decode cX3_clear 48 = .ok (.if_icmp .ge 25, 3) := by decide +kernel
theorem dX3_clear_51 : decode cX3_clear 51 = .ok (.aload_n 0, 1) := by decide +kernel
theorem dX3_clear_52 : decode cX3_clear 52 = .ok (.getfield 24, 3) := by decide +kernel
theorem dX3_clear_55 : decode cX3_clear 55 = .ok (.iload 5, 2) := by decide +kernel
theorem dX3_clear_57 : decode cX3_clear 57 = .ok (.iconst 0, 1) := by decide +kernel
theorem dX3_clear_58 : decode cX3_clear 58 = .ok (.iastore, 1) := by decide +kernel
theorem dX3_clear_59 : decode cX3_clear 59 = .ok (.aload_n 0, 1) := by decide +kernel
theorem dX3_clear_60 : decode cX3_clear 60 = .ok (.getfield 27, 3) := by decide +kernel
theorem dX3_clear_63 : decode cX3_clear 63 = .ok (.iload 5, 2) := by decide +kernel
theorem dX3_clear_65 : decode cX3_clear 65 = .ok (.iconst 0, 1) := by decide +kernel
theorem dX3_clear_66 : decode cX3_clear 66 = .ok (.iastore, 1) := by decide +kernel
theorem dX3_clear_67 : decode cX3_clear 67 = .ok (.iinc 5 1, 3) := by decide +kernel
theorem dX3_clear_70 : decode cX3_clear 70 = .ok (.goto (-26), 3) := by decide +kernel
theorem dX3_clear_73 : decode cX3_clear 73 = .ok (.return_, 1) := by decide +kernel
theorem dX3_become_0 : decode cX3_become 0 = .ok (.aload_n 0, 1) := by decide +kernel
theorem dX3_become_1 : decode cX3_become 1 = .ok (.aload_n 1, 1) := by decide +kernel
theorem dX3_become_2 : decode cX3_become 2 = .ok (.getfield 30, 3) := by decide +kernel
theorem dX3_become_5 : decode cX3_become 5 = .ok (.putfield 30, 3) := by decide +kernel
theorem dX3_become_8 : decode cX3_become 8 = .ok (.aload_n 0, 1) := by decide +kernel
theorem dX3_become_9 : decode cX3_become 9 = .ok (.aload_n 1, 1) := by decide +kernel
theorem dX3_become_10 : decode cX3_become 10 = .ok (.getfield 34, 3) := by decide +kernel
theorem dX3_become_13 : decode cX3_become 13 = .ok (.putfield 34, 3) := by decide +kernel
theorem dX3_become_16 : decode cX3_become 16 = .ok (.aload_n 0, 1) := by decide +kernel
theorem dX3_become_17 : decode cX3_become 17 = .ok (.aload_n 1, 1) := by decide +kernel
theorem dX3_become_18 : decode cX3_become 18 = .ok (.getfield 37, 3) := by decide +kernel
theorem dX3_become_21 : decode cX3_become 21 = .ok (.putfield 37, 3) := by decide +kernel
theorem dX3_become_24 : decode cX3_become 24 = .ok (.aload_n 0, 1) := by decide +kernel
theorem dX3_become_25 : decode cX3_become 25 = .ok (.aload_n 1, 1) := by decide +kernel
theorem dX3_become_26 : decode cX3_become 26 = .ok (.getfield 40, 3) := by decide +kernel
theorem dX3_become_29 : decode cX3_become 29 = .ok (.putfield 40, 3) := by decide +kernel
theorem dX3_become_32 : decode cX3_become 32 = .ok (.aload_n 0, 1) := by decide +kernel
theorem dX3_become_33 : decode cX3_become 33 = .ok (.aload_n 1, 1) := by decide +kernel
theorem dX3_become_34 : decode cX3_become 34 = .ok (.getfield 43, 3) := by decide +kernel
theorem dX3_become_37 : decode cX3_become 37 = .ok (.putfield 43, 3) := by decide +kernel
theorem dX3_become_40 : decode cX3_become 40 = .ok (.aload_n 0, 1) := by decide +kernel
theorem dX3_become_41 : decode cX3_become 41 = .ok (.aload_n 1, 1) := by decide +kernel
theorem dX3_become_42 : decode cX3_become 42 = .ok (.getfield 46, 3) := by decide +kernel
theorem dX3_become_45 : decode cX3_become 45 = .ok (.putfield 46, 3) := by decide +kernel
theorem dX3_become_48 : decode cX3_become 48 = .ok (.aload_n 0, 1) := by decide +kernel
theorem dX3_become_49 : decode cX3_become 49 = .ok (.aload_n 1, 1) := by decide +kernel
theorem dX3_become_50 : decode cX3_become 50 = .ok (.getfield 49, 3) := by decide +kernel
theorem dX3_become_53 : decode cX3_become 53 = .ok (.putfield 49, 3) := by decide +kernel
theorem dX3_become_56 : decode cX3_become 56 = .ok (.aload_n 0, 1) := by decide +kernel
theorem dX3_become_57 : decode cX3_become 57 = .ok (.aload_n 1, 1) := by decide +kernel
theorem dX3_become_58 : decode cX3_become 58 = .ok (.getfield 52, 3) := by decide +kernel
theorem dX3_become_61 : decode cX3_become 61 = .ok (.putfield 52, 3) := by decide +kernel
theorem dX3_become_64 : decode cX3_become 64 = .ok (.aload_n 1, 1) := by decide +kernel
theorem dX3_become_65 : decode cX3_become 65 = .ok (.getfield 9, 3) := by decide +kernel
theorem dX3_become_68 : decode cX3_become 68 = .ok (.iconst 0, 1) := by decide +kernel
theorem dX3_become_69 : decode cX3_become 69 = .ok (.aload_n 0, 1) := by decide +kernel
theorem dX3_become_70 : decode cX3_become 70 = .ok (.getfield 9, 3) := by decide +kernel
theorem dX3_become_73 : decode cX3_become 73 = .ok (.iconst 0, 1) := by decide +kernel
theorem dX3_become_74 : decode cX3_become 74 = .ok (.bipush 16, 2) := by decide +kernel
theorem dX3_become_76 : decode cX3_become 76 = .ok (.invokestatic 55, 3) := by decide +kernel
theorem dX3_become_79 : decode cX3_become 79 = .ok (.aload_n 1, 1) := by decide +kernel
theorem dX3_become_80 : decode cX3_become 80 = .ok (.getfield 15, 3) := by decide +kernel
theorem dX3_become_83 : decode cX3_become 83 = .ok (.iconst 0, 1) := by decide +kernel
theorem dX3_become_84 : decode cX3_become 84 = .ok (.aload_n 0, 1) := by decide +kernel
theorem dX3_become_85 : decode cX3_become 85 = .ok (.getfield 15, 3) := by decide +kernel
theorem dX3_become_88 : decode cX3_become 88 = .ok (.iconst 0, 1) := by decide +kernel
theorem dX3_become_89 : decode cX3_become 89 = .ok (.bipush 16, 2) := by decide +kernel
theorem dX3_become_91 : decode cX3_become 91 = .ok (.invokestatic 55, 3) := by decide +kernel
theorem dX3_become_94 : decode cX3_become 94 = .ok (.aload_n 1, 1) := by decide +kernel
theorem dX3_become_95 : decode cX3_become 95 = .ok (.getfield 18, 3) := by decide +kernel
theorem dX3_become_98 : decode cX3_become 98 = .ok (.iconst 0, 1) := by decide +kernel
theorem dX3_become_99 : decode cX3_become 99 = .ok (.aload_n 0, 1) := by decide +kernel
theorem dX3_become_100 : decode cX3_become 100 = .ok (.getfield 18, 3) := by decide +kernel
theorem dX3_become_103 : decode cX3_become 103 = .ok (.iconst 0, 1) := by decide +kernel
theorem dX3_become_104 : decode cX3_become 104 = .ok (.bipush 16, 2) := by decide +kernel
theorem dX3_become_106 : decode cX3_become 106 = .ok (.invokestatic 55, 3) := by decide +kernel
theorem dX3_become_109 : decode cX3_become 109 = .ok (.aload_n 1, 1) := by decide +kernel
theorem dX3_become_110 : decode cX3_become 110 = .ok (.getfield 21, 3) := by decide +kernel
theorem dX3_become_113 : decode cX3_become 113 = .ok (.iconst 0, 1) := by decide +kernel
theorem dX3_become_114 : decode cX3_become 114 = .ok (.aload_n 0, 1) := by decide +kernel
theorem dX3_become_115 : decode cX3_become 115 = .ok (.getfield 21, 3) := by decide +kernel
theorem dX3_become_118 : decode cX3_become 118 = .ok (.iconst 0, 1) := by decide +kernel
theorem dX3_become_119 : decode cX3_become 119 = .ok (.bipush 16, 2) := by decide +kernel
theorem dX3_become_121 : decode cX3_become 121 = .ok (.invokestatic 55, 3) := by decide +kernel
theorem dX3_become_124 : decode cX3_become 124 = .ok (.aload_n 1, 1) := by decide +kernel
theorem dX3_become_125 : decode cX3_become 125 = .ok (.getfield 24, 3) := by decide +kernel
theorem dX3_become_128 : decode cX3_become 128 = .ok (.iconst 0, 1) := by decide +kernel
theorem dX3_become_129 : decode cX3_become 129 = .ok (.aload_n 0, 1) := by decide +kernel
theorem dX3_become_130 : decode cX3_become 130 = .ok (.getfield 24, 3) := by decide +kernel
theorem dX3_become_133 : decode cX3_become 133 = .ok (.iconst 0, 1) := by decide +kernel
theorem dX3_become_134 : decode cX3_become 134 = .ok (.bipush 16, 2) := by decide +kernel
theorem dX3_become_136 : decode cX3_become 136 = .ok (.invokestatic 55, 3) := by decide +kernel
theorem dX3_become_139 : decode cX3_become 139 = .ok (.aload_n 1, 1) := by decide +kernel
theorem dX3_become_140 : decode cX3_become 140 = .ok (.getfield 27, 3) := by decide +kernel
theorem dX3_become_143 : decode cX3_become 143 = .ok (.iconst 0, 1) := by decide +kernel
theorem dX3_become_144 : decode cX3_become 144 = .ok (.aload_n 0, 1) := by decide +kernel
theorem dX3_become_145 : decode cX3_become 145 = .ok (.getfield 27, 3) := by decide +kernel
theorem dX3_become_148 : decode cX3_become 148 = .ok (.iconst 0, 1) := by decide +kernel
theorem dX3_become_149 : decode cX3_become 149 = .ok (.bipush 16, 2) := by decide +kernel
theorem dX3_become_151 : decode cX3_become 151 = .ok (.invokestatic 55, 3) := by decide +kernel
theorem dX3_become_154 : decode cX3_become 154 = .ok (.return_, 1) := by decide +kernel
theorem dX3_places_0 : decode cX3_places 0 = .ok (.iload_n 1, 1) := by decide +kernel
theorem dX3_places_1 : decode cX3_places 1 = .ok (.aload_n 0, 1) := by decide +kernel
theorem dX3_places_2 : decode cX3_places 2 = .ok (.getfield 34, 3) := by decide +kernel
theorem dX3_places_5 : decode cX3_places 5 = .ok (.imul, 1) := by decide +kernel
theorem dX3_places_6 : decode cX3_places 6 = .ok (.ireturn, 1) := by decide +kernel
set_option maxRecDepth 20000 in
theorem ggX3_inputs_X3_places : GoodIn wsX3_inputs wsX3_places := goodIn_r _ [6, 7, 8, 9, 10, 11, 12, 13, 14, 15, 16, 17, 18, 19, 20, 21] (by decide +kernel) (by decide +kernel)
set_option maxRecDepth 20000 in
theorem gX3_inputs_X3_places : GoodIn wsX3_inputs (wsV RX3 61 RX3 yX3_places wsX3_places) := goodIn_app (goodIn_of _ (by decide +kernel)) ggX3_inputs_X3_places
theorem dX3_inputs_0 : decode cX3_inputs 0 = .ok (.aload_n 0, 1) := by decide +kernel
theorem dX3_inputs_1 : decode cX3_inputs 1 = .ok (.aload_n 0, 1) := by decide +kernel
theorem dX3_inputs_2 : decode cX3_inputs 2 = .ok (.getfield 30, 3) := by decide +kernel
theorem dX3_inputs_5 : decode cX3_inputs 5 = .ok (.invokevirtual 61, 3) := by decide +kernel
theorem dX3_inputs_8 : decode cX3_inputs 8 = .ok (.ireturn, 1) := by decide +kernel
set_option maxRecDepth 20000 in
theorem ggX3_hasInput_X3_inputs : GoodIn wsX3_hasInput wsX3_inputs := goodIn_r _ [5, 6, 7, 8, 9, 4, 10, 11, 12, 13, 14, 15, 16, 17, 18, 19, 20, 21, 22, 23, 24, 25] (by decide +kernel) (by decide +kernel)
set_option maxRecDepth 20000 in
theorem gX3_hasInput_X3_inputs : GoodIn wsX3_hasInput (wsV RX3 65 RX3 yX3_inputs wsX3_inputs) := goodIn_app (goodIn_of _ (by decide +kernel)) ggX3_hasInput_X3_inputs
theorem dX3_hasInput_0 : decode cX3_hasInput 0 = .ok (.iload_n 1, 1) := by decide +kernel
theorem dX3_hasInput_1 : decode cX3_hasInput 1 = .ok (.ifCond .lt 15, 3) := by decide +kernel
theorem dX3_hasInput_4 : decode cX3_hasInput 4 = .ok (.iload_n 1, 1) := by decide +kernel
theorem dX3_hasInput_5 : decode cX3_hasInput 5 = .ok (.aload_n 0, 1) := by decide +kernel
theorem dX3_hasInput_6 : decode cX3_hasInput 6 = .ok (.invokevirtual 65, 3) := by decide +kernel
theorem dX3_hasInput_9 : decode cX3_hasInput 9 = .ok (.if_icmp .ge 7, 3) := by decide +kernel
theorem dX3_hasInput_12 : decode cX3_hasInput 12 = .ok (.iconst 1, 1) := by decide +kernel
theorem dX3_hasInput_13 : decode cX3_hasInput 13 = .ok (.goto 4, 3) := by decide +kernel
theorem dX3_hasInput_16 : decode cX3_hasInput 16 = .ok (.iconst 0, 1) := by decide +kernel
theorem dX3_hasInput_17 : decode cX3_hasInput 17 = .ok (.ireturn, 1) := by decide +kernel
set_option maxRecDepth 20000 in
theorem ggX3_hasOutput_X3_places : GoodIn wsX3_hasOutput wsX3_places := goodIn_r _ [6, 7, 8, 9, 10, 11, 12, 13, 14, 15, 16, 17, 18, 19, 20, 21] (by decide +kernel) (by decide +kernel)
set_option maxRecDepth 20000 in
theorem gX3_hasOutput_X3_places : GoodIn wsX3_hasOutput (wsV RX3 61 RX3 yX3_places wsX3_places) := goodIn_app (goodIn_of _ (by decide +kernel)) ggX3_hasOutput_X3_places
theorem dX3_hasOutput_0 : decode cX3_hasOutput 0 = .ok (.iload_n 1, 1) := by decide +kernel
theorem dX3_hasOutput_1 : decode cX3_hasOutput 1 = .ok (.ifCond .lt 19, 3) := by decide +kernel
theorem dX3_hasOutput_4 : decode cX3_hasOutput 4 = .ok (.iload_n 1, 1) := by decide +kernel
theorem dX3_hasOutput_5 : decode cX3_hasOutput 5 = .ok (.aload_n 0, 1) := by decide +kernel
theorem dX3_hasOutput_6 : decode cX3_hasOutput 6 = .ok (.aload_n 0, 1) := by decide +kernel
theorem dX3_hasOutput_7 : decode cX3_hasOutput 7 = .ok (.getfield 40, 3) := by decide +kernel
theorem dX3_hasOutput_10 : decode cX3_hasOutput 10 = .ok (.invokevirtual 61, 3) := by decide +kernel
theorem dX3_hasOutput_13 : decode cX3_hasOutput 13 = .ok (.if_icmp .ge 7, 3) := by decide +kernel
theorem dX3_hasOutput_16 : decode cX3_hasOutput 16 = .ok (.iconst 1, 1) := by decide +kernel
theorem dX3_hasOutput_17 : decode cX3_hasOutput 17 = .ok (.goto 4, 3) := by decide +kernel
theorem dX3_hasOutput_20 : decode cX3_hasOutput 20 = .ok (.iconst 0, 1) := by decide +kernel
theorem dX3_hasOutput_21 : decode cX3_hasOutput 21 = .ok (.ireturn, 1) := by decide +kernel
theorem dX3_hasMiddle_0 : decode cX3_hasMiddle 0 = .ok (.iload_n 1, 1) := by decide +kernel
theorem dX3_hasMiddle_1 : decode cX3_hasMiddle 1 = .ok (.ifCond .lt 15, 3) := by decide +kernel
theorem dX3_hasMiddle_4 : decode cX3_hasMiddle 4 = .ok (.iload_n 1, 1) := by decide +kernel
theorem dX3_hasMiddle_5 : decode cX3_hasMiddle 5 = .ok (.aload_n 0, 1) := by decide +kernel
theorem dX3_hasMiddle_6 : decode cX3_hasMiddle 6 = .ok (.getfield 37, 3) := by decide +kernel
theorem dX3_hasMiddle_9 : decode cX3_hasMiddle 9 = .ok (.if_icmp .ge 7, 3) := by decide +kernel
theorem dX3_hasMiddle_12 : decode cX3_hasMiddle 12 = .ok (.iconst 1, 1) := by decide +kernel
theorem dX3_hasMiddle_13 : decode cX3_hasMiddle 13 = .ok (.goto 4, 3) := by decide +kernel
theorem dX3_hasMiddle_16 : decode cX3_hasMiddle 16 = .ok (.iconst 0, 1) := by decide +kernel
theorem dX3_hasMiddle_17 : decode cX3_hasMiddle 17 = .ok (.ireturn, 1) := by decide +kernel
theorem dX3_hasCall_0 : decode cX3_hasCall 0 = .ok (.iload_n 1, 1) := by decide +kernel
theorem dX3_hasCall_1 : decode cX3_hasCall 1 = .ok (.ifCond .lt 15, 3) := by decide +kernel
theorem dX3_hasCall_4 : decode cX3_hasCall 4 = .ok (.iload_n 1, 1) := by decide +kernel
theorem dX3_hasCall_5 : decode cX3_hasCall 5 = .ok (.aload_n 0, 1) := by decide +kernel
theorem dX3_hasCall_6 : decode cX3_hasCall 6 = .ok (.getfield 52, 3) := by decide +kernel
theorem dX3_hasCall_9 : decode cX3_hasCall 9 = .ok (.if_icmp .ge 7, 3) := by decide +kernel
theorem dX3_hasCall_12 : decode cX3_hasCall 12 = .ok (.iconst 1, 1) := by decide +kernel
theorem dX3_hasCall_13 : decode cX3_hasCall 13 = .ok (.goto 4, 3) := by decide +kernel
theorem dX3_hasCall_16 : decode cX3_hasCall 16 = .ok (.iconst 0, 1) := by decide +kernel
theorem dX3_hasCall_17 : decode cX3_hasCall 17 = .ok (.ireturn, 1) := by decide +kernel
theorem dX3_isBroken_0 : decode cX3_isBroken 0 = .ok (.aload_n 0, 1) := by decide +kernel
theorem dX3_isBroken_1 : decode cX3_isBroken 1 = .ok (.getfield 46, 3) := by decide +kernel
theorem dX3_isBroken_4 : decode cX3_isBroken 4 = .ok (.iload_n 1, 1) := by decide +kernel
theorem dX3_isBroken_5 : decode cX3_isBroken 5 = .ok (.ishr, 1) := by decide +kernel
theorem dX3_isBroken_6 : decode cX3_isBroken 6 = .ok (.iconst 1, 1) := by decide +kernel
theorem dX3_isBroken_7 : decode cX3_isBroken 7 = .ok (.iand, 1) := by decide +kernel
theorem dX3_isBroken_8 : decode cX3_isBroken 8 = .ok (.ifCond .eq 7, 3) := by decide +kernel
theorem dX3_isBroken_11 : decode cX3_isBroken 11 = .ok (.iconst 1, 1) := by decide +kernel
theorem dX3_isBroken_12 : decode cX3_isBroken 12 = .ok (.goto 4, 3) := by decide +kernel
theorem dX3_isBroken_15 : decode cX3_isBroken 15 = .ok (.iconst 0, 1) := by decide +kernel
theorem dX3_isBroken_16 : decode cX3_isBroken 16 = .ok (.ireturn, 1) := by decide +kernel
theorem dX3_wholeBoards_0 : decode cX3_wholeBoards 0 = .ok (.iconst 1, 1) := by decide +kernel
theorem dX3_wholeBoards_1 : decode cX3_wholeBoards 1 = .ok (.aload_n 0, 1) := by decide +kernel
theorem dX3_wholeBoards_2 : decode cX3_wholeBoards 2 = .ok (.getfield 37, 3) := by decide +kernel
theorem dX3_wholeBoards_5 : decode cX3_wholeBoards 5 = .ok (.ishl, 1) := by decide +kernel
theorem dX3_wholeBoards_6 : decode cX3_wholeBoards 6 = .ok (.iconst 1, 1) := by decide +kernel
theorem dX3_wholeBoards_7 : decode cX3_wholeBoards 7 = .ok (.isub, 1) := by decide +kernel
theorem dX3_wholeBoards_8 : decode cX3_wholeBoards 8 = .ok (.aload_n 0, 1) := by decide +kernel
theorem dX3_wholeBoards_9 : decode cX3_wholeBoards 9 = .ok (.getfield 46, 3) := by decide +kernel
theorem dX3_wholeBoards_12 : decode cX3_wholeBoards 12 = .ok (.iconst (-1), 1) := by decide +kernel
theorem dX3_wholeBoards_13 : decode cX3_wholeBoards 13 = .ok (.ixor, 1) := by decide +kernel
theorem dX3_wholeBoards_14 : decode cX3_wholeBoards 14 = .ok (.iand, 1) := by decide +kernel
theorem dX3_wholeBoards_15 : decode cX3_wholeBoards 15 = .ok (.ireturn, 1) := by decide +kernel
theorem dX3_boardOf_0 : decode cX3_boardOf 0 = .ok (.aload_n 0, 1) := by decide +kernel
theorem dX3_boardOf_1 : decode cX3_boardOf 1 = .ok (.getfield 34, 3) := by decide +kernel
theorem dX3_boardOf_4 : decode cX3_boardOf 4 = .ok (.ifCond .le 12, 3) := by decide +kernel
theorem dX3_boardOf_7 : decode cX3_boardOf 7 = .ok (.iload_n 1, 1) := by decide +kernel
theorem dX3_boardOf_8 : decode cX3_boardOf 8 = .ok (.aload_n 0, 1) := by decide +kernel
theorem dX3_boardOf_9 : decode cX3_boardOf 9 = .ok (.getfield 34, 3) := by decide +kernel
theorem dX3_boardOf_12 : decode cX3_boardOf 12 = .ok (.idiv, 1) := by decide +kernel
theorem dX3_boardOf_13 : decode cX3_boardOf 13 = .ok (.goto 4, 3) := by decide +kernel
theorem dX3_boardOf_16 : decode cX3_boardOf 16 = .ok (.iconst 0, 1) := by decide +kernel
theorem dX3_boardOf_17 : decode cX3_boardOf 17 = .ok (.ireturn, 1) := by decide +kernel
set_option maxRecDepth 20000 in
theorem ggX3_lastBoardsOf_X3_boardOf : GoodIn wsX3_lastBoardsOf wsX3_boardOf := goodIn_r _ [6, 7, 8, 9, 10, 11, 12, 13, 14, 15, 16, 17, 18, 19, 20, 21] (by decide +kernel) (by decide +kernel)
set_option maxRecDepth 20000 in
theorem gX3_lastBoardsOf_X3_boardOf : GoodIn wsX3_lastBoardsOf (wsV RX3 69 RX3 yX3_boardOf wsX3_boardOf) := goodIn_app (goodIn_of _ (by decide +kernel)) ggX3_lastBoardsOf_X3_boardOf
theorem dX3_lastBoardsOf_0 : decode cX3_lastBoardsOf 0 = .ok (.iconst 0, 1) := by decide +kernel
theorem dX3_lastBoardsOf_1 : decode cX3_lastBoardsOf 1 = .ok (.istore_n 2, 1) := by decide +kernel
theorem dX3_lastBoardsOf_2 : decode cX3_lastBoardsOf 2 = .ok (.iconst 0, 1) := by decide +kernel
theorem dX3_lastBoardsOf_3 : decode cX3_lastBoardsOf 3 = .ok (.istore_n 3, 1) := by decide +kernel
theorem dX3_lastBoardsOf_4 : decode cX3_lastBoardsOf 4 = .ok (.iload_n 3, 1) := by decide +kernel
theorem dX3_lastBoardsOf_5 : decode cX3_lastBoardsOf 5 = .ok (.bipush 16, 2) := by decide +kernel
theorem dX3_lastBoardsOf_7 : decode cX3_lastBoardsOf 7 = .ok (.if_icmp .ge 32, 3) := by decide +kernel
theorem dX3_lastBoardsOf_10 : decode cX3_lastBoardsOf 10 = .ok (.aload_n 0, 1) := by decide +kernel
theorem dX3_lastBoardsOf_11 : decode cX3_lastBoardsOf 11 = .ok (.getfield 15, 3) := by decide +kernel
theorem dX3_lastBoardsOf_14 : decode cX3_lastBoardsOf 14 = .ok (.iload_n 1, 1) := by decide +kernel
theorem dX3_lastBoardsOf_15 : decode cX3_lastBoardsOf 15 = .ok (.iaload, 1) := by decide +kernel
theorem dX3_lastBoardsOf_16 : decode cX3_lastBoardsOf 16 = .ok (.iload_n 3, 1) := by decide +kernel
theorem dX3_lastBoardsOf_17 : decode cX3_lastBoardsOf 17 = .ok (.ishr, 1) := by decide +kernel
theorem dX3_lastBoardsOf_18 : decode cX3_lastBoardsOf 18 = .ok (.iconst 1, 1) := by decide +kernel
theorem dX3_lastBoardsOf_19 : decode cX3_lastBoardsOf 19 = .ok (.iand, 1) := by decide +kernel
theorem dX3_lastBoardsOf_20 : decode cX3_lastBoardsOf 20 = .ok (.ifCond .eq 13, 3) := by decide +kernel
theorem dX3_lastBoardsOf_23 : decode cX3_lastBoardsOf 23 = .ok (.iload_n 2, 1) := by decide +kernel
theorem dX3_lastBoardsOf_24 : decode cX3_lastBoardsOf 24 = .ok (.iconst 1, 1) := by decide +kernel
theorem dX3_lastBoardsOf_25 : decode cX3_lastBoardsOf 25 = .ok (.aload_n 0, 1) := by decide +kernel
theorem dX3_lastBoardsOf_26 : decode cX3_lastBoardsOf 26 = .ok (.iload_n 3, 1) := by decide +kernel
theorem dX3_lastBoardsOf_27 : decode cX3_lastBoardsOf 27 = .ok (.invokevirtual 69, 3) := by decide +kernel
theorem dX3_lastBoardsOf_30 : decode cX3_lastBoardsOf 30 = .ok (.ishl, 1) := by decide +kernel
theorem dX3_lastBoardsOf_31 : decode cX3_lastBoardsOf 31 = .ok (.ior, 1) := by decide +kernel
theorem dX3_lastBoardsOf_32 : decode cX3_lastBoardsOf 32 = .ok (.istore_n 2, 1) := by decide +kernel
theorem dX3_lastBoardsOf_33 : decode cX3_lastBoardsOf 33 = .ok (.iinc 3 1, 3) := by decide +kernel
theorem dX3_lastBoardsOf_36 : decode cX3_lastBoardsOf 36 = .ok (.goto (-32), 3) := by decide +kernel
theorem dX3_lastBoardsOf_39 : decode cX3_lastBoardsOf 39 = .ok (.iload_n 2, 1) := by decide +kernel
theorem dX3_lastBoardsOf_40 : decode cX3_lastBoardsOf 40 = .ok (.ireturn, 1) := by decide +kernel
set_option maxRecDepth 20000 in
theorem ggX3_linksOf_X3_lastBoardsOf : GoodIn wsX3_linksOf wsX3_lastBoardsOf := goodIn_r _ [5, 6, 7, 8, 9, 4, 10, 11, 19, 20, 21, 22, 23, 24, 25, 26, 27, 28, 29, 30, 31, 32] (by decide +kernel) (by decide +kernel)
set_option maxRecDepth 20000 in
theorem gX3_linksOf_X3_lastBoardsOf : GoodIn wsX3_linksOf (wsV RX3 72 RX3 yX3_lastBoardsOf wsX3_lastBoardsOf) := goodIn_app (goodIn_of _ (by decide +kernel)) ggX3_linksOf_X3_lastBoardsOf
set_option maxRecDepth 20000 in
theorem ggX3_linksOf_J6_bitCount_0f7a4 : GoodIn wsX3_linksOf wsJ6_bitCount_0f7a4 := goodIn_r _ [15, 16, 17, 18] (by decide +kernel) (by decide +kernel)
set_option maxRecDepth 20000 in
theorem gX3_linksOf_J6_bitCount_0f7a4 : GoodIn wsX3_linksOf (va_wsS RX3 75 yJ6_bitCount_0f7a4 wsJ6_bitCount_0f7a4) := goodIn_app (goodIn_of _ (by decide +kernel)) ggX3_linksOf_J6_bitCount_0f7a4
theorem dX3_linksOf_0 : decode cX3_linksOf 0 = .ok (.iconst 1, 1) := by decide +kernel
theorem dX3_linksOf_1 : decode cX3_linksOf 1 = .ok (.aload_n 0, 1) := by decide +kernel
theorem dX3_linksOf_2 : decode cX3_linksOf 2 = .ok (.iload_n 1, 1) := by decide +kernel
theorem dX3_linksOf_3 : decode cX3_linksOf 3 = .ok (.invokevirtual 72, 3) := by decide +kernel
theorem dX3_linksOf_6 : decode cX3_linksOf 6 = .ok (.invokestatic 75, 3) := by decide +kernel
theorem dX3_linksOf_9 : decode cX3_linksOf 9 = .ok (.iadd, 1) := by decide +kernel
theorem dX3_linksOf_10 : decode cX3_linksOf 10 = .ok (.ireturn, 1) := by decide +kernel
set_option maxRecDepth 20000 in
theorem ggX3_linksTaken_X3_linksOf : GoodIn wsX3_linksTaken wsX3_linksOf := goodIn_r _ [6, 7, 8, 9, 5, 10, 11, 12, 13, 14, 15, 16, 17, 18, 19, 20, 21, 22, 23, 24, 25, 26, 27, 28, 29, 30, 31, 32, 33, 34, 35, 36, 37] (by decide +kernel) (by decide +kernel)
set_option maxRecDepth 20000 in
theorem gX3_linksTaken_X3_linksOf : GoodIn wsX3_linksTaken (wsV RX3 80 RX3 yX3_linksOf wsX3_linksOf) := goodIn_app (goodIn_of _ (by decide +kernel)) ggX3_linksTaken_X3_linksOf
theorem dX3_linksTaken_0 : decode cX3_linksTaken 0 = .ok (.iconst 0, 1) := by decide +kernel
theorem dX3_linksTaken_1 : decode cX3_linksTaken 1 = .ok (.istore_n 1, 1) := by decide +kernel
theorem dX3_linksTaken_2 : decode cX3_linksTaken 2 = .ok (.iconst 0, 1) := by decide +kernel
theorem dX3_linksTaken_3 : decode cX3_linksTaken 3 = .ok (.istore_n 2, 1) := by decide +kernel
theorem dX3_linksTaken_4 : decode cX3_linksTaken 4 = .ok (.iload_n 2, 1) := by decide +kernel
theorem dX3_linksTaken_5 : decode cX3_linksTaken 5 = .ok (.aload_n 0, 1) := by decide +kernel
theorem dX3_linksTaken_6 : decode cX3_linksTaken 6 = .ok (.getfield 52, 3) := by decide +kernel
theorem dX3_linksTaken_9 : decode cX3_linksTaken 9 = .ok (.if_icmp .ge 17, 3) := by decide +kernel
theorem dX3_linksTaken_12 : decode cX3_linksTaken 12 = .ok (.iload_n 1, 1) := by decide +kernel
theorem dX3_linksTaken_13 : decode cX3_linksTaken 13 = .ok (.aload_n 0, 1) := by decide +kernel
theorem dX3_linksTaken_14 : decode cX3_linksTaken 14 = .ok (.iload_n 2, 1) := by decide +kernel
theorem dX3_linksTaken_15 : decode cX3_linksTaken 15 = .ok (.invokevirtual 80, 3) := by decide +kernel
theorem dX3_linksTaken_18 : decode cX3_linksTaken 18 = .ok (.iadd, 1) := by decide +kernel
theorem dX3_linksTaken_19 : decode cX3_linksTaken 19 = .ok (.istore_n 1, 1) := by decide +kernel
theorem dX3_linksTaken_20 : decode cX3_linksTaken 20 = .ok (.iinc 2 1, 3) := by decide +kernel
theorem dX3_linksTaken_23 : decode cX3_linksTaken 23 = .ok (.goto (-19), 3) := by decide +kernel
theorem dX3_linksTaken_26 : decode cX3_linksTaken 26 = .ok (.iload_n 1, 1) := by decide +kernel
theorem dX3_linksTaken_27 : decode cX3_linksTaken 27 = .ok (.ireturn, 1) := by decide +kernel
set_option maxRecDepth 20000 in
theorem ggX3_outputsTaken_J6_bitCount_0f7a4 : GoodIn wsX3_outputsTaken wsJ6_bitCount_0f7a4 := goodIn_r _ [6, 7, 8, 9] (by decide +kernel) (by decide +kernel)
set_option maxRecDepth 20000 in
theorem gX3_outputsTaken_J6_bitCount_0f7a4 : GoodIn wsX3_outputsTaken (va_wsS RX3 75 yJ6_bitCount_0f7a4 wsJ6_bitCount_0f7a4) := goodIn_app (goodIn_of _ (by decide +kernel)) ggX3_outputsTaken_J6_bitCount_0f7a4
theorem dX3_outputsTaken_0 : decode cX3_outputsTaken 0 = .ok (.iconst 0, 1) := by decide +kernel
theorem dX3_outputsTaken_1 : decode cX3_outputsTaken 1 = .ok (.istore_n 1, 1) := by decide +kernel
theorem dX3_outputsTaken_2 : decode cX3_outputsTaken 2 = .ok (.iconst 0, 1) := by decide +kernel
theorem dX3_outputsTaken_3 : decode cX3_outputsTaken 3 = .ok (.istore_n 2, 1) := by decide +kernel
theorem dX3_outputsTaken_4 : decode cX3_outputsTaken 4 = .ok (.iload_n 2, 1) := by decide +kernel
theorem dX3_outputsTaken_5 : decode cX3_outputsTaken 5 = .ok (.aload_n 0, 1) := by decide +kernel
theorem dX3_outputsTaken_6 : decode cX3_outputsTaken 6 = .ok (.getfield 52, 3) := by decide +kernel
theorem dX3_outputsTaken_9 : decode cX3_outputsTaken 9 = .ok (.if_icmp .ge 21, 3) := by decide +kernel
theorem dX3_outputsTaken_12 : decode cX3_outputsTaken 12 = .ok (.iload_n 1, 1) := by decide +kernel
theorem dX3_outputsTaken_13 : decode cX3_outputsTaken 13 = .ok (.aload_n 0, 1) := by decide +kernel
theorem dX3_outputsTaken_14 : decode cX3_outputsTaken 14 = .ok (.getfield 15, 3) := by decide +kernel
theorem dX3_outputsTaken_17 : decode cX3_outputsTaken 17 = .ok (.iload_n 2, 1) := by decide +kernel
theorem dX3_outputsTaken_18 : decode cX3_outputsTaken 18 = .ok (.iaload, 1) := by decide +kernel
theorem dX3_outputsTaken_19 : decode cX3_outputsTaken 19 = .ok (.invokestatic 75, 3) := by decide +kernel
theorem dX3_outputsTaken_22 : decode cX3_outputsTaken 22 = .ok (.iadd, 1) := by decide +kernel
theorem dX3_outputsTaken_23 : decode cX3_outputsTaken 23 = .ok (.istore_n 1, 1) := by decide +kernel
theorem dX3_outputsTaken_24 : decode cX3_outputsTaken 24 = .ok (.iinc 2 1, 3) := by decide +kernel
theorem dX3_outputsTaken_27 : decode cX3_outputsTaken 27 = .ok (.goto (-23), 3) := by decide +kernel
theorem dX3_outputsTaken_30 : decode cX3_outputsTaken 30 = .ok (.iload_n 1, 1) := by decide +kernel
theorem dX3_outputsTaken_31 : decode cX3_outputsTaken 31 = .ok (.ireturn, 1) := by decide +kernel
theorem dX3_callAtInput_0 : decode cX3_callAtInput 0 = .ok (.iconst 0, 1) := by decide +kernel
theorem dX3_callAtInput_1 : decode cX3_callAtInput 1 = .ok (.istore_n 2, 1) := by decide +kernel
theorem dX3_callAtInput_2 : decode cX3_callAtInput 2 = .ok (.iload_n 2, 1) := by decide +kernel
theorem dX3_callAtInput_3 : decode cX3_callAtInput 3 = .ok (.aload_n 0, 1) := by decide +kernel
theorem dX3_callAtInput_4 : decode cX3_callAtInput 4 = .ok (.getfield 52, 3) := by decide +kernel
theorem dX3_callAtInput_7 : decode cX3_callAtInput 7 = .ok (.if_icmp .ge 21, 3) := by decide +kernel
theorem dX3_callAtInput_10 : decode cX3_callAtInput 10 = .ok (.aload_n 0, 1) := by decide +kernel
theorem dX3_callAtInput_11 : decode cX3_callAtInput 11 = .ok (.getfield 9, 3) := by decide +kernel
theorem dX3_callAtInput_14 : decode cX3_callAtInput 14 = .ok (.iload_n 2, 1) := by decide +kernel
theorem dX3_callAtInput_15 : decode cX3_callAtInput 15 = .ok (.iaload, 1) := by decide +kernel
theorem dX3_callAtInput_16 : decode cX3_callAtInput 16 = .ok (.iload_n 1, 1) := by decide +kernel
theorem dX3_callAtInput_17 : decode cX3_callAtInput 17 = .ok (.if_icmp .ne 5, 3) := by decide +kernel
theorem dX3_callAtInput_20 : decode cX3_callAtInput 20 = .ok (.iload_n 2, 1) := by decide +kernel
theorem dX3_callAtInput_21 : decode cX3_callAtInput 21 = .ok (.ireturn, 1) := by decide +kernel
theorem dX3_callAtInput_22 : decode cX3_callAtInput 22 = .ok (.iinc 2 1, 3) := by decide +kernel
theorem dX3_callAtInput_25 : decode cX3_callAtInput 25 = .ok (.goto (-23), 3) := by decide +kernel
theorem dX3_callAtInput_28 : decode cX3_callAtInput 28 = .ok (.iconst (-1), 1) := by decide +kernel
theorem dX3_callAtInput_29 : decode cX3_callAtInput 29 = .ok (.ireturn, 1) := by decide +kernel
theorem dX3_callAtOutput_0 : decode cX3_callAtOutput 0 = .ok (.iconst 0, 1) := by decide +kernel
theorem dX3_callAtOutput_1 : decode cX3_callAtOutput 1 = .ok (.istore_n 2, 1) := by decide +kernel
theorem dX3_callAtOutput_2 : decode cX3_callAtOutput 2 = .ok (.iload_n 2, 1) := by decide +kernel
theorem dX3_callAtOutput_3 : decode cX3_callAtOutput 3 = .ok (.aload_n 0, 1) := by decide +kernel
theorem dX3_callAtOutput_4 : decode cX3_callAtOutput 4 = .ok (.getfield 52, 3) := by decide +kernel
theorem dX3_callAtOutput_7 : decode cX3_callAtOutput 7 = .ok (.if_icmp .ge 24, 3) := by decide +kernel
theorem dX3_callAtOutput_10 : decode cX3_callAtOutput 10 = .ok (.aload_n 0, 1) := by decide +kernel
theorem dX3_callAtOutput_11 : decode cX3_callAtOutput 11 = .ok (.getfield 15, 3) := by decide +kernel
theorem dX3_callAtOutput_14 : decode cX3_callAtOutput 14 = .ok (.iload_n 2, 1) := by decide +kernel
theorem dX3_callAtOutput_15 : decode cX3_callAtOutput 15 = .ok (.iaload, 1) := by decide +kernel
theorem dX3_callAtOutput_16 : decode cX3_callAtOutput 16 = .ok (.iload_n 1, 1) := by decide +kernel
theorem dX3_callAtOutput_17 : decode cX3_callAtOutput 17 = .ok (.ishr, 1) := by decide +kernel
theorem dX3_callAtOutput_18 : decode cX3_callAtOutput 18 = .ok (.iconst 1, 1) := by decide +kernel
theorem dX3_callAtOutput_19 : decode cX3_callAtOutput 19 = .ok (.iand, 1) := by decide +kernel
theorem dX3_callAtOutput_20 : decode cX3_callAtOutput 20 = .ok (.ifCond .eq 5, 3) := by decide +kernel
theorem dX3_callAtOutput_23 : decode cX3_callAtOutput 23 = .ok (.iload_n 2, 1) := by decide +kernel
theorem dX3_callAtOutput_24 : decode cX3_callAtOutput 24 = .ok (.ireturn, 1) := by decide +kernel
theorem dX3_callAtOutput_25 : decode cX3_callAtOutput 25 = .ok (.iinc 2 1, 3) := by decide +kernel
theorem dX3_callAtOutput_28 : decode cX3_callAtOutput 28 = .ok (.goto (-26), 3) := by decide +kernel
theorem dX3_callAtOutput_31 : decode cX3_callAtOutput 31 = .ok (.iconst (-1), 1) := by decide +kernel
theorem dX3_callAtOutput_32 : decode cX3_callAtOutput 32 = .ok (.ireturn, 1) := by decide +kernel
set_option maxRecDepth 20000 in
theorem ggX3_callFromFirst_X3_boardOf : GoodIn wsX3_callFromFirst wsX3_boardOf := goodIn_r _ [8, 9, 10, 11, 12, 13, 14, 15, 16, 17, 18, 19, 20, 21, 22, 23] (by decide +kernel) (by decide +kernel)
set_option maxRecDepth 20000 in
theorem gX3_callFromFirst_X3_boardOf : GoodIn wsX3_callFromFirst (wsV RX3 69 RX3 yX3_boardOf wsX3_boardOf) := goodIn_app (goodIn_of _ (by decide +kernel)) ggX3_callFromFirst_X3_boardOf
theorem dX3_callFromFirst_0 : decode cX3_callFromFirst 0 = .ok (.iconst 0, 1) := by decide +kernel
theorem dX3_callFromFirst_1 : decode cX3_callFromFirst 1 = .ok (.istore_n 3, 1) := by decide +kernel
theorem dX3_callFromFirst_2 : decode cX3_callFromFirst 2 = .ok (.iload_n 3, 1) := by decide +kernel
theorem dX3_callFromFirst_3 : decode cX3_callFromFirst 3 = .ok (.aload_n 0, 1) := by decide +kernel
theorem dX3_callFromFirst_4 : decode cX3_callFromFirst 4 = .ok (.getfield 52, 3) := by decide +kernel
theorem dX3_callFromFirst_7 : decode cX3_callFromFirst 7 = .ok (.if_icmp .ge 35, 3) := by decide +kernel
theorem dX3_callFromFirst_10 : decode cX3_callFromFirst 10 = .ok (.aload_n 0, 1) := by decide +kernel
theorem dX3_callFromFirst_11 : decode cX3_callFromFirst 11 = .ok (.getfield 18, 3) := by decide +kernel
theorem dX3_callFromFirst_14 : decode cX3_callFromFirst 14 = .ok (.iload_n 3, 1) := by decide +kernel
theorem dX3_callFromFirst_15 : decode cX3_callFromFirst 15 = .ok (.iaload, 1) := by decide +kernel
theorem dX3_callFromFirst_16 : decode cX3_callFromFirst 16 = .ok (.iload_n 1, 1) := by decide +kernel
theorem dX3_callFromFirst_17 : decode cX3_callFromFirst 17 = .ok (.if_icmp .ne 19, 3) := by decide +kernel
theorem dX3_callFromFirst_20 : decode cX3_callFromFirst 20 = .ok (.aload_n 0, 1) := by decide +kernel
theorem dX3_callFromFirst_21 : decode cX3_callFromFirst 21 = .ok (.aload_n 0, 1) := by decide +kernel
theorem dX3_callFromFirst_22 : decode cX3_callFromFirst 22 = .ok (.getfield 9, 3) := by decide +kernel
theorem dX3_callFromFirst_25 : decode cX3_callFromFirst 25 = .ok (.iload_n 3, 1) := by decide +kernel
theorem dX3_callFromFirst_26 : decode cX3_callFromFirst 26 = .ok (.iaload, 1) := by decide +kernel
theorem dX3_callFromFirst_27 : decode cX3_callFromFirst 27 = .ok (.invokevirtual 69, 3) := by decide +kernel
theorem dX3_callFromFirst_30 : decode cX3_callFromFirst 30 = .ok (.iload_n 2, 1) := by decide +kernel
theorem dX3_callFromFirst_31 : decode cX3_callFromFirst 31 = .ok (.if_icmp .ne 5, 3) := by decide +kernel
theorem dX3_callFromFirst_34 : decode cX3_callFromFirst 34 = .ok (.iload_n 3, 1) := by decide +kernel
theorem dX3_callFromFirst_35 : decode cX3_callFromFirst 35 = .ok (.ireturn, 1) := by decide +kernel
theorem dX3_callFromFirst_36 : decode cX3_callFromFirst 36 = .ok (.iinc 3 1, 3) := by decide +kernel
theorem dX3_callFromFirst_39 : decode cX3_callFromFirst 39 = .ok (.goto (-37), 3) := by decide +kernel
theorem dX3_callFromFirst_42 : decode cX3_callFromFirst 42 = .ok (.iconst (-1), 1) := by decide +kernel
theorem dX3_callFromFirst_43 : decode cX3_callFromFirst 43 = .ok (.ireturn, 1) := by decide +kernel
set_option maxRecDepth 20000 in
theorem ggX3_callToLast_X3_lastBoardsOf : GoodIn wsX3_callToLast wsX3_lastBoardsOf := goodIn_r _ [7, 8, 9, 10, 11, 6, 12, 13, 14, 15, 16, 17, 18, 19, 20, 21, 22, 23, 24, 25, 26, 27] (by decide +kernel) (by decide +kernel)
set_option maxRecDepth 20000 in
theorem gX3_callToLast_X3_lastBoardsOf : GoodIn wsX3_callToLast (wsV RX3 72 RX3 yX3_lastBoardsOf wsX3_lastBoardsOf) := goodIn_app (goodIn_of _ (by decide +kernel)) ggX3_callToLast_X3_lastBoardsOf
theorem dX3_callToLast_0 : decode cX3_callToLast 0 = .ok (.iconst 0, 1) := by decide +kernel
theorem dX3_callToLast_1 : decode cX3_callToLast 1 = .ok (.istore_n 3, 1) := by decide +kernel
theorem dX3_callToLast_2 : decode cX3_callToLast 2 = .ok (.iload_n 3, 1) := by decide +kernel
theorem dX3_callToLast_3 : decode cX3_callToLast 3 = .ok (.aload_n 0, 1) := by decide +kernel
theorem dX3_callToLast_4 : decode cX3_callToLast 4 = .ok (.getfield 52, 3) := by decide +kernel
theorem dX3_callToLast_7 : decode cX3_callToLast 7 = .ok (.if_icmp .ge 33, 3) := by decide +kernel
theorem dX3_callToLast_10 : decode cX3_callToLast 10 = .ok (.aload_n 0, 1) := by decide +kernel
theorem dX3_callToLast_11 : decode cX3_callToLast 11 = .ok (.getfield 18, 3) := by decide +kernel
theorem dX3_callToLast_14 : decode cX3_callToLast 14 = .ok (.iload_n 3, 1) := by decide +kernel
theorem dX3_callToLast_15 : decode cX3_callToLast 15 = .ok (.iaload, 1) := by decide +kernel
theorem dX3_callToLast_16 : decode cX3_callToLast 16 = .ok (.iload_n 1, 1) := by decide +kernel
theorem dX3_callToLast_17 : decode cX3_callToLast 17 = .ok (.if_icmp .ne 17, 3) := by decide +kernel
theorem dX3_callToLast_20 : decode cX3_callToLast 20 = .ok (.aload_n 0, 1) := by decide +kernel
theorem dX3_callToLast_21 : decode cX3_callToLast 21 = .ok (.iload_n 3, 1) := by decide +kernel
theorem dX3_callToLast_22 : decode cX3_callToLast 22 = .ok (.invokevirtual 72, 3) := by decide +kernel
theorem dX3_callToLast_25 : decode cX3_callToLast 25 = .ok (.iload_n 2, 1) := by decide +kernel
theorem dX3_callToLast_26 : decode cX3_callToLast 26 = .ok (.ishr, 1) := by decide +kernel
theorem dX3_callToLast_27 : decode cX3_callToLast 27 = .ok (.iconst 1, 1) := by decide +kernel
theorem dX3_callToLast_28 : decode cX3_callToLast 28 = .ok (.iand, 1) := by decide +kernel
theorem dX3_callToLast_29 : decode cX3_callToLast 29 = .ok (.ifCond .eq 5, 3) := by decide +kernel
theorem dX3_callToLast_32 : decode cX3_callToLast 32 = .ok (.iload_n 3, 1) := by decide +kernel
theorem dX3_callToLast_33 : decode cX3_callToLast 33 = .ok (.ireturn, 1) := by decide +kernel
theorem dX3_callToLast_34 : decode cX3_callToLast 34 = .ok (.iinc 3 1, 3) := by decide +kernel
theorem dX3_callToLast_37 : decode cX3_callToLast 37 = .ok (.goto (-35), 3) := by decide +kernel
theorem dX3_callToLast_40 : decode cX3_callToLast 40 = .ok (.iconst (-1), 1) := by decide +kernel
theorem dX3_callToLast_41 : decode cX3_callToLast 41 = .ok (.ireturn, 1) := by decide +kernel
set_option maxRecDepth 20000 in
theorem ggX3_freeInputs_X3_callAtInput : GoodIn wsX3_freeInputs wsX3_callAtInput := goodIn_r _ [6, 7, 8, 9, 10, 11, 12, 13, 14, 15, 16, 17, 18, 19, 20, 21, 22] (by decide +kernel) (by decide +kernel)
set_option maxRecDepth 20000 in
theorem gX3_freeInputs_X3_callAtInput : GoodIn wsX3_freeInputs (wsV RX3 83 RX3 yX3_callAtInput wsX3_callAtInput) := goodIn_app (goodIn_of _ (by decide +kernel)) ggX3_freeInputs_X3_callAtInput
theorem dX3_freeInputs_0 : decode cX3_freeInputs 0 = .ok (.iconst 0, 1) := by decide +kernel
theorem dX3_freeInputs_1 : decode cX3_freeInputs 1 = .ok (.istore_n 2, 1) := by decide +kernel
theorem dX3_freeInputs_2 : decode cX3_freeInputs 2 = .ok (.iconst 0, 1) := by decide +kernel
theorem dX3_freeInputs_3 : decode cX3_freeInputs 3 = .ok (.istore_n 3, 1) := by decide +kernel
theorem dX3_freeInputs_4 : decode cX3_freeInputs 4 = .ok (.iload_n 3, 1) := by decide +kernel
theorem dX3_freeInputs_5 : decode cX3_freeInputs 5 = .ok (.aload_n 0, 1) := by decide +kernel
theorem dX3_freeInputs_6 : decode cX3_freeInputs 6 = .ok (.getfield 34, 3) := by decide +kernel
theorem dX3_freeInputs_9 : decode cX3_freeInputs 9 = .ok (.if_icmp .ge 28, 3) := by decide +kernel
theorem dX3_freeInputs_12 : decode cX3_freeInputs 12 = .ok (.aload_n 0, 1) := by decide +kernel
theorem dX3_freeInputs_13 : decode cX3_freeInputs 13 = .ok (.iload_n 1, 1) := by decide +kernel
theorem dX3_freeInputs_14 : decode cX3_freeInputs 14 = .ok (.aload_n 0, 1) := by decide +kernel
theorem dX3_freeInputs_15 : decode cX3_freeInputs 15 = .ok (.getfield 34, 3) := by decide +kernel
theorem dX3_freeInputs_18 : decode cX3_freeInputs 18 = .ok (.imul, 1) := by decide +kernel
theorem dX3_freeInputs_19 : decode cX3_freeInputs 19 = .ok (.iload_n 3, 1) := by decide +kernel
theorem dX3_freeInputs_20 : decode cX3_freeInputs 20 = .ok (.iadd, 1) := by decide +kernel
theorem dX3_freeInputs_21 : decode cX3_freeInputs 21 = .ok (.invokevirtual 83, 3) := by decide +kernel
theorem dX3_freeInputs_24 : decode cX3_freeInputs 24 = .ok (.iconst (-1), 1) := by decide +kernel
theorem dX3_freeInputs_25 : decode cX3_freeInputs 25 = .ok (.if_icmp .ne 6, 3) := by decide +kernel
theorem dX3_freeInputs_28 : decode cX3_freeInputs 28 = .ok (.iinc 2 1, 3) := by decide +kernel
theorem dX3_freeInputs_31 : decode cX3_freeInputs 31 = .ok (.iinc 3 1, 3) := by decide +kernel
theorem dX3_freeInputs_34 : decode cX3_freeInputs 34 = .ok (.goto (-30), 3) := by decide +kernel
theorem dX3_freeInputs_37 : decode cX3_freeInputs 37 = .ok (.iload_n 2, 1) := by decide +kernel
theorem dX3_freeInputs_38 : decode cX3_freeInputs 38 = .ok (.ireturn, 1) := by decide +kernel
set_option maxRecDepth 20000 in
theorem ggX3_freeOutputs_X3_callAtOutput : GoodIn wsX3_freeOutputs wsX3_callAtOutput := goodIn_r _ [6, 7, 8, 9, 10, 11, 12, 13, 14, 15, 16, 17, 18, 19, 20, 21, 22] (by decide +kernel) (by decide +kernel)
set_option maxRecDepth 20000 in
theorem gX3_freeOutputs_X3_callAtOutput : GoodIn wsX3_freeOutputs (wsV RX3 86 RX3 yX3_callAtOutput wsX3_callAtOutput) := goodIn_app (goodIn_of _ (by decide +kernel)) ggX3_freeOutputs_X3_callAtOutput
theorem dX3_freeOutputs_0 : decode cX3_freeOutputs 0 = .ok (.iconst 0, 1) := by decide +kernel
theorem dX3_freeOutputs_1 : decode cX3_freeOutputs 1 = .ok (.istore_n 2, 1) := by decide +kernel
theorem dX3_freeOutputs_2 : decode cX3_freeOutputs 2 = .ok (.iconst 0, 1) := by decide +kernel
theorem dX3_freeOutputs_3 : decode cX3_freeOutputs 3 = .ok (.istore_n 3, 1) := by decide +kernel
theorem dX3_freeOutputs_4 : decode cX3_freeOutputs 4 = .ok (.iload_n 3, 1) := by decide +kernel
theorem dX3_freeOutputs_5 : decode cX3_freeOutputs 5 = .ok (.aload_n 0, 1) := by decide +kernel
theorem dX3_freeOutputs_6 : decode cX3_freeOutputs 6 = .ok (.getfield 34, 3) := by decide +kernel
theorem dX3_freeOutputs_9 : decode cX3_freeOutputs 9 = .ok (.if_icmp .ge 28, 3) := by decide +kernel
theorem dX3_freeOutputs_12 : decode cX3_freeOutputs 12 = .ok (.aload_n 0, 1) := by decide +kernel
theorem dX3_freeOutputs_13 : decode cX3_freeOutputs 13 = .ok (.iload_n 1, 1) := by decide +kernel
theorem dX3_freeOutputs_14 : decode cX3_freeOutputs 14 = .ok (.aload_n 0, 1) := by decide +kernel
theorem dX3_freeOutputs_15 : decode cX3_freeOutputs 15 = .ok (.getfield 34, 3) := by decide +kernel
theorem dX3_freeOutputs_18 : decode cX3_freeOutputs 18 = .ok (.imul, 1) := by decide +kernel
theorem dX3_freeOutputs_19 : decode cX3_freeOutputs 19 = .ok (.iload_n 3, 1) := by decide +kernel
theorem dX3_freeOutputs_20 : decode cX3_freeOutputs 20 = .ok (.iadd, 1) := by decide +kernel
theorem dX3_freeOutputs_21 : decode cX3_freeOutputs 21 = .ok (.invokevirtual 86, 3) := by decide +kernel
theorem dX3_freeOutputs_24 : decode cX3_freeOutputs 24 = .ok (.iconst (-1), 1) := by decide +kernel
theorem dX3_freeOutputs_25 : decode cX3_freeOutputs 25 = .ok (.if_icmp .ne 6, 3) := by decide +kernel
theorem dX3_freeOutputs_28 : decode cX3_freeOutputs 28 = .ok (.iinc 2 1, 3) := by decide +kernel
theorem dX3_freeOutputs_31 : decode cX3_freeOutputs 31 = .ok (.iinc 3 1, 3) := by decide +kernel
theorem dX3_freeOutputs_34 : decode cX3_freeOutputs 34 = .ok (.goto (-30), 3) := by decide +kernel
theorem dX3_freeOutputs_37 : decode cX3_freeOutputs 37 = .ok (.iload_n 2, 1) := by decide +kernel
theorem dX3_freeOutputs_38 : decode cX3_freeOutputs 38 = .ok (.ireturn, 1) := by decide +kernel
set_option maxRecDepth 20000 in
theorem ggX3_addCall_X3_hasInput : GoodIn wsX3_addCall wsX3_hasInput := goodIn_r _ [11, 12, 13, 14, 10, 15, 16, 17, 18, 19, 20, 21, 118, 119, 120, 121, 122, 123, 124, 125, 126, 127, 128, 129, 130, 131] (by decide +kernel) (by decide +kernel)
set_option maxRecDepth 20000 in
theorem gX3_addCall_X3_hasInput : GoodIn wsX3_addCall (wsV RX3 89 RX3 yX3_hasInput wsX3_hasInput) := goodIn_app (goodIn_of _ (by decide +kernel)) ggX3_addCall_X3_hasInput
set_option maxRecDepth 20000 in
theorem ggX3_addCall_X3_hasOutput : GoodIn wsX3_addCall wsX3_hasOutput := goodIn_r _ [25, 26, 17, 18, 19, 10, 20, 21, 118, 119, 120, 121, 122, 123, 124, 125, 126, 127, 128, 129, 130, 131] (by decide +kernel) (by decide +kernel)
set_option maxRecDepth 20000 in
theorem gX3_addCall_X3_hasOutput : GoodIn wsX3_addCall (wsV RX3 93 RX3 yX3_hasOutput wsX3_hasOutput) := goodIn_app (goodIn_of _ (by decide +kernel)) ggX3_addCall_X3_hasOutput
set_option maxRecDepth 20000 in
theorem ggX3_addCall_X3_callAtInput : GoodIn wsX3_addCall wsX3_callAtInput := goodIn_r _ [30, 1, 2, 118, 119, 120, 121, 122, 123, 124, 125, 126, 127, 128, 129, 130, 131] (by decide +kernel) (by decide +kernel)
set_option maxRecDepth 20000 in
theorem gX3_addCall_X3_callAtInput : GoodIn wsX3_addCall (wsV RX3 83 RX3 yX3_callAtInput wsX3_callAtInput) := goodIn_app (goodIn_of _ (by decide +kernel)) ggX3_addCall_X3_callAtInput
set_option maxRecDepth 20000 in
theorem ggX3_addCall_X3_callAtOutput : GoodIn wsX3_addCall wsX3_callAtOutput := goodIn_r _ [34, 1, 3, 118, 119, 120, 121, 122, 123, 124, 125, 126, 127, 128, 129, 130, 131] (by decide +kernel) (by decide +kernel)
set_option maxRecDepth 20000 in
theorem gX3_addCall_X3_callAtOutput : GoodIn wsX3_addCall (wsV RX3 86 RX3 yX3_callAtOutput wsX3_callAtOutput) := goodIn_app (goodIn_of _ (by decide +kernel)) ggX3_addCall_X3_callAtOutput
set_option maxRecDepth 20000 in
theorem ggX3_addCall_X3_boardOf : GoodIn wsX3_addCall wsX3_boardOf := goodIn_r _ [38, 21, 118, 119, 120, 121, 122, 123, 124, 125, 126, 127, 128, 129, 130, 131] (by decide +kernel) (by decide +kernel)
set_option maxRecDepth 20000 in
theorem gX3_addCall_X3_boardOf : GoodIn wsX3_addCall (wsV RX3 69 RX3 yX3_boardOf wsX3_boardOf) := goodIn_app (goodIn_of _ (by decide +kernel)) ggX3_addCall_X3_boardOf
set_option maxRecDepth 20000 in
theorem ggX3_addCall_X1_forNewCall : GoodIn wsX3_addCall wsX1_forNewCall := goodIn_r _ [43, 44, 45, 46, 47, 48, 49, 50, 51, 52, 53, 10, 54, 55, 56, 57, 58, 59, 42, 60, 61, 62, 63, 64, 65, 66, 67, 68, 69, 70, 36, 37, 38, 21, 71, 72, 73, 74, 3, 35, 75, 76, 77, 78, 79, 80, 81, 82, 83, 84, 85, 86, 87, 88, 89, 90, 91, 92, 93, 94, 95, 96, 97, 98, 99, 100, 101, 102, 103, 104, 105, 106, 107, 108, 109, 110, 118, 119, 120, 121, 122, 123, 124, 125, 126, 127, 128, 129, 130, 131, 132, 133, 134, 135, 136, 137, 138, 139, 140, 141, 142, 143, 144] (by decide +kernel) (by decide +kernel)
set_option maxRecDepth 20000 in
theorem gX3_addCall_X1_forNewCall : GoodIn wsX3_addCall (wsV RX3 96 RX1 yX1_forNewCall wsX1_forNewCall) := goodIn_app (goodIn_of _ (by decide +kernel)) ggX3_addCall_X1_forNewCall
set_option maxRecDepth 20000 in
theorem ggX3_addCall_X3_moveOver : GoodIn wsX3_addCall wsX3_moveOver := goodIn_r _ [114, 1, 4, 5, 6, 115, 116, 2, 117, 118, 119, 120, 121, 122, 123, 124, 125, 126, 127, 128, 129, 130, 131, 132, 133, 134, 135, 136, 137, 138, 139, 140, 141, 142, 143, 144] (by decide +kernel) (by decide +kernel)
set_option maxRecDepth 20000 in
theorem gX3_addCall_X3_moveOver : GoodIn wsX3_addCall (wsV RX3 102 RX3 yX3_moveOver wsX3_moveOver) := goodIn_app (goodIn_of _ (by decide +kernel)) ggX3_addCall_X3_moveOver
theorem dX3_addCall_0 : decode cX3_addCall 0 = .ok (.aload_n 0, 1) := by decide +kernel
theorem dX3_addCall_1 : decode cX3_addCall 1 = .ok (.iload_n 2, 1) := by decide +kernel
theorem dX3_addCall_2 : decode cX3_addCall 2 = .ok (.invokevirtual 89, 3) := by decide +kernel
theorem dX3_addCall_5 : decode cX3_addCall 5 = .ok (.ifCond .eq 11, 3) := by decide +kernel
theorem dX3_addCall_8 : decode cX3_addCall 8 = .ok (.aload_n 0, 1) := by decide +kernel
theorem dX3_addCall_9 : decode cX3_addCall 9 = .ok (.iload_n 3, 1) := by decide +kernel
theorem dX3_addCall_10 : decode cX3_addCall 10 = .ok (.invokevirtual 93, 3) := by decide +kernel
theorem dX3_addCall_13 : decode cX3_addCall 13 = .ok (.ifCond .ne 6, 3) := by decide +kernel
theorem dX3_addCall_16 : decode cX3_addCall 16 = .ok (.bipush (-2), 2) := by decide +kernel
theorem dX3_addCall_18 : decode cX3_addCall 18 = .ok (.ireturn, 1) := by decide +kernel
theorem dX3_addCall_19 : decode cX3_addCall 19 = .ok (.aload_n 0, 1) := by decide +kernel
theorem dX3_addCall_20 : decode cX3_addCall 20 = .ok (.iload_n 2, 1) := by decide +kernel
theorem dX3_addCall_21 : decode cX3_addCall 21 = .ok (.invokevirtual 83, 3) := by decide +kernel
theorem dX3_addCall_24 : decode cX3_addCall 24 = .ok (.iconst (-1), 1) := by decide +kernel
theorem dX3_addCall_25 : decode cX3_addCall 25 = .ok (.if_icmp .ne 21, 3) := by decide +kernel
theorem dX3_addCall_28 : decode cX3_addCall 28 = .ok (.aload_n 0, 1) := by decide +kernel
theorem dX3_addCall_29 : decode cX3_addCall 29 = .ok (.iload_n 3, 1) := by decide +kernel
theorem dX3_addCall_30 : decode cX3_addCall 30 = .ok (.invokevirtual 86, 3) := by decide +kernel
theorem dX3_addCall_33 : decode cX3_addCall 33 = .ok (.iconst (-1), 1) := by decide +kernel
theorem dX3_addCall_34 : decode cX3_addCall 34 = .ok (.if_icmp .ne 12, 3) := by decide +kernel
theorem dX3_addCall_37 : decode cX3_addCall 37 = .ok (.aload_n 0, 1) := by decide +kernel
theorem dX3_addCall_38 : decode cX3_addCall 38 = .ok (.getfield 52, 3) := by decide +kernel
theorem dX3_addCall_41 : decode cX3_addCall 41 = .ok (.bipush 16, 2) := by decide +kernel
theorem dX3_addCall_43 : decode cX3_addCall 43 = .ok (.if_icmp .lt 6, 3) := by decide +kernel
theorem dX3_addCall_46 : decode cX3_addCall 46 = .ok (.bipush (-3), 2) := by decide +kernel
theorem dX3_addCall_48 : decode cX3_addCall 48 = .ok (.ireturn, 1) := by decide +kernel
theorem dX3_addCall_49 : decode cX3_addCall 49 = .ok (.aload_n 1, 1) := by decide +kernel
theorem dX3_addCall_50 : decode cX3_addCall 50 = .ok (.aload_n 0, 1) := by decide +kernel
theorem dX3_addCall_51 : decode cX3_addCall 51 = .ok (.aload_n 0, 1) := by decide +kernel
theorem dX3_addCall_52 : decode cX3_addCall 52 = .ok (.iload_n 2, 1) := by decide +kernel
theorem dX3_addCall_53 : decode cX3_addCall 53 = .ok (.invokevirtual 69, 3) := by decide +kernel
theorem dX3_addCall_56 : decode cX3_addCall 56 = .ok (.aload_n 0, 1) := by decide +kernel
theorem dX3_addCall_57 : decode cX3_addCall 57 = .ok (.iload_n 3, 1) := by decide +kernel
theorem dX3_addCall_58 : decode cX3_addCall 58 = .ok (.invokevirtual 69, 3) := by decide +kernel
theorem dX3_addCall_61 : decode cX3_addCall 61 = .ok (.invokevirtual 96, 3) := by decide +kernel
theorem dX3_addCall_64 : decode cX3_addCall 64 = .ok (.istore 4, 2) := by decide +kernel
theorem dX3_addCall_66 : decode cX3_addCall 66 = .ok (.iload 4, 2) := by decide +kernel
theorem dX3_addCall_68 : decode cX3_addCall 68 = .ok (.iconst (-1), 1) := by decide +kernel
theorem dX3_addCall_69 : decode cX3_addCall 69 = .ok (.if_icmp .ne 6, 3) := by decide +kernel
theorem dX3_addCall_72 : decode cX3_addCall 72 = .ok (.bipush (-3), 2) := by decide +kernel
theorem dX3_addCall_74 : decode cX3_addCall 74 = .ok (.ireturn, 1) := by decide +kernel
theorem dX3_addCall_75 : decode cX3_addCall 75 = .ok (.aload_n 0, 1) := by decide +kernel
theorem dX3_addCall_76 : decode cX3_addCall 76 = .ok (.aload_n 1, 1) := by decide +kernel
theorem dX3_addCall_77 : decode cX3_addCall 77 = .ok (.iconst (-1), 1) := by decide +kernel
theorem dX3_addCall_78 : decode cX3_addCall 78 = .ok (.iload_n 2, 1) := by decide +kernel
theorem dX3_addCall_79 : decode cX3_addCall 79 = .ok (.invokevirtual 102, 3) := by decide +kernel
theorem dX3_addCall_82 : decode cX3_addCall 82 = .ok (.aload_n 0, 1) := by decide +kernel
theorem dX3_addCall_83 : decode cX3_addCall 83 = .ok (.getfield 9, 3) := by decide +kernel
theorem dX3_addCall_86 : decode cX3_addCall 86 = .ok (.aload_n 0, 1) := by decide +kernel
theorem dX3_addCall_87 : decode cX3_addCall 87 = .ok (.getfield 52, 3) := by decide +kernel
theorem dX3_addCall_90 : decode cX3_addCall 90 = .ok (.iload_n 2, 1) := by decide +kernel
theorem dX3_addCall_91 : decode cX3_addCall 91 = .ok (.iastore, 1) := by decide +kernel
theorem dX3_addCall_92 : decode cX3_addCall 92 = .ok (.aload_n 0, 1) := by decide +kernel
theorem dX3_addCall_93 : decode cX3_addCall 93 = .ok (.getfield 15, 3) := by decide +kernel
theorem dX3_addCall_96 : decode cX3_addCall 96 = .ok (.aload_n 0, 1) := by decide +kernel
theorem dX3_addCall_97 : decode cX3_addCall 97 = .ok (.getfield 52, 3) := by decide +kernel
theorem dX3_addCall_100 : decode cX3_addCall 100 = .ok (.iconst 1, 1) := by decide +kernel
theorem dX3_addCall_101 : decode cX3_addCall 101 = .ok (.iload_n 3, 1) := by decide +kernel
theorem dX3_addCall_102 : decode cX3_addCall 102 = .ok (.ishl, 1) := by decide +kernel
theorem dX3_addCall_103 : decode cX3_addCall 103 = .ok (.iastore, 1) := by decide +kernel
theorem dX3_addCall_104 : decode cX3_addCall 104 = .ok (.aload_n 0, 1) := by decide +kernel
theorem dX3_addCall_105 : decode cX3_addCall 105 = .ok (.getfield 18, 3) := by decide +kernel
theorem dX3_addCall_108 : decode cX3_addCall 108 = .ok (.aload_n 0, 1) := by decide +kernel
theorem dX3_addCall_109 : decode cX3_addCall 109 = .ok (.getfield 52, 3) := by decide +kernel
theorem dX3_addCall_112 : decode cX3_addCall 112 = .ok (.aload_n 1, 1) := by decide +kernel
theorem dX3_addCall_113 : decode cX3_addCall 113 = .ok (.getfield 106, 3) := by decide +kernel
theorem dX3_addCall_116 : decode cX3_addCall 116 = .ok (.aload_n 0, 1) := by decide +kernel
theorem dX3_addCall_117 : decode cX3_addCall 117 = .ok (.getfield 52, 3) := by decide +kernel
theorem dX3_addCall_120 : decode cX3_addCall 120 = .ok (.iaload, 1) := by decide +kernel
theorem dX3_addCall_121 : decode cX3_addCall 121 = .ok (.iastore, 1) := by decide +kernel
theorem dX3_addCall_122 : decode cX3_addCall 122 = .ok (.aload_n 0, 1) := by decide +kernel
theorem dX3_addCall_123 : decode cX3_addCall 123 = .ok (.getfield 21, 3) := by decide +kernel
theorem dX3_addCall_126 : decode cX3_addCall 126 = .ok (.aload_n 0, 1) := by decide +kernel
theorem dX3_addCall_127 : decode cX3_addCall 127 = .ok (.getfield 52, 3) := by decide +kernel
theorem dX3_addCall_130 : decode cX3_addCall 130 = .ok (.iconst 0, 1) := by decide +kernel
theorem dX3_addCall_131 : decode cX3_addCall 131 = .ok (.iastore, 1) := by decide +kernel
theorem dX3_addCall_132 : decode cX3_addCall 132 = .ok (.aload_n 0, 1) := by decide +kernel
theorem dX3_addCall_133 : decode cX3_addCall 133 = .ok (.dup, 1) := by decide +kernel
theorem dX3_addCall_134 : decode cX3_addCall 134 = .ok (.getfield 52, 3) := by decide +kernel
theorem dX3_addCall_137 : decode cX3_addCall 137 = .ok (.iconst 1, 1) := by decide +kernel
theorem dX3_addCall_138 : decode cX3_addCall 138 = .ok (.iadd, 1) := by decide +kernel
theorem dX3_addCall_139 : decode cX3_addCall 139 = .ok (.putfield 52, 3) := by decide +kernel
theorem dX3_addCall_142 : decode cX3_addCall 142 = .ok (.iload 4, 2) := by decide +kernel
theorem dX3_addCall_144 : decode cX3_addCall 144 = .ok (.ireturn, 1) := by decide +kernel
set_option maxRecDepth 20000 in
theorem ggX3_addOutput_X3_hasCall : GoodIn wsX3_addOutput wsX3_hasCall := goodIn_r _ [7, 8, 116, 117, 118, 119, 120, 121, 122, 123, 124, 125, 126, 127, 128, 129] (by decide +kernel) (by decide +kernel)
set_option maxRecDepth 20000 in
theorem gX3_addOutput_X3_hasCall : GoodIn wsX3_addOutput (wsV RX3 109 RX3 yX3_hasCall wsX3_hasCall) := goodIn_app (goodIn_of _ (by decide +kernel)) ggX3_addOutput_X3_hasCall
set_option maxRecDepth 20000 in
theorem ggX3_addOutput_X3_hasOutput : GoodIn wsX3_addOutput wsX3_hasOutput := goodIn_r _ [12, 13, 14, 15, 16, 6, 17, 18, 116, 117, 118, 119, 120, 121, 122, 123, 124, 125, 126, 127, 128, 129] (by decide +kernel) (by decide +kernel)
set_option maxRecDepth 20000 in
theorem gX3_addOutput_X3_hasOutput : GoodIn wsX3_addOutput (wsV RX3 93 RX3 yX3_hasOutput wsX3_hasOutput) := goodIn_app (goodIn_of _ (by decide +kernel)) ggX3_addOutput_X3_hasOutput
set_option maxRecDepth 20000 in
theorem ggX3_addOutput_X3_callAtOutput : GoodIn wsX3_addOutput wsX3_callAtOutput := goodIn_r _ [22, 8, 1, 116, 117, 118, 119, 120, 121, 122, 123, 124, 125, 126, 127, 128, 129] (by decide +kernel) (by decide +kernel)
set_option maxRecDepth 20000 in
theorem gX3_addOutput_X3_callAtOutput : GoodIn wsX3_addOutput (wsV RX3 86 RX3 yX3_callAtOutput wsX3_callAtOutput) := goodIn_app (goodIn_of _ (by decide +kernel)) ggX3_addOutput_X3_callAtOutput
set_option maxRecDepth 20000 in
theorem ggX3_addOutput_J6_bitCount_0f7a4 : GoodIn wsX3_addOutput wsJ6_bitCount_0f7a4 := goodIn_r _ [26, 27, 28, 29] (by decide +kernel) (by decide +kernel)
set_option maxRecDepth 20000 in
theorem gX3_addOutput_J6_bitCount_0f7a4 : GoodIn wsX3_addOutput (va_wsS RX3 75 yJ6_bitCount_0f7a4 wsJ6_bitCount_0f7a4) := goodIn_app (goodIn_of _ (by decide +kernel)) ggX3_addOutput_J6_bitCount_0f7a4
set_option maxRecDepth 20000 in
theorem ggX3_addOutput_X3_boardOf : GoodIn wsX3_addOutput wsX3_boardOf := goodIn_r _ [33, 18, 116, 117, 118, 119, 120, 121, 122, 123, 124, 125, 126, 127, 128, 129] (by decide +kernel) (by decide +kernel)
set_option maxRecDepth 20000 in
theorem gX3_addOutput_X3_boardOf : GoodIn wsX3_addOutput (wsV RX3 69 RX3 yX3_boardOf wsX3_boardOf) := goodIn_app (goodIn_of _ (by decide +kernel)) ggX3_addOutput_X3_boardOf
set_option maxRecDepth 20000 in
theorem ggX3_addOutput_X1_forMoreOutputs : GoodIn wsX3_addOutput wsX1_forMoreOutputs := goodIn_r _ [38, 39, 40, 41, 42, 43, 44, 45, 46, 6, 47, 48, 49, 50, 51, 52, 37, 53, 54, 55, 56, 57, 58, 59, 60, 61, 62, 63, 64, 65, 31, 32, 33, 18, 66, 67, 68, 69, 1, 30, 70, 71, 72, 73, 74, 75, 76, 77, 78, 79, 80, 81, 82, 83, 84, 85, 86, 87, 88, 89, 90, 91, 92, 93, 94, 95, 96, 97, 98, 99, 100, 101, 102, 103, 104, 105, 116, 117, 118, 119, 120, 121, 122, 123, 124, 125, 126, 127, 128, 129, 130, 131, 132, 133, 134, 135, 136, 137, 138, 139, 140, 141, 142] (by decide +kernel) (by decide +kernel)
set_option maxRecDepth 20000 in
theorem gX3_addOutput_X1_forMoreOutputs : GoodIn wsX3_addOutput (wsV RX3 112 RX1 yX1_forMoreOutputs wsX1_forMoreOutputs) := goodIn_app (goodIn_of _ (by decide +kernel)) ggX3_addOutput_X1_forMoreOutputs
set_option maxRecDepth 20000 in
theorem ggX3_addOutput_X3_moveOver : GoodIn wsX3_addOutput wsX3_moveOver := goodIn_r _ [109, 8, 110, 111, 112, 113, 114, 2, 115, 116, 117, 118, 119, 120, 121, 122, 123, 124, 125, 126, 127, 128, 129, 130, 131, 132, 133, 134, 135, 136, 137, 138, 139, 140, 141, 142] (by decide +kernel) (by decide +kernel)
set_option maxRecDepth 20000 in
theorem gX3_addOutput_X3_moveOver : GoodIn wsX3_addOutput (wsV RX3 102 RX3 yX3_moveOver wsX3_moveOver) := goodIn_app (goodIn_of _ (by decide +kernel)) ggX3_addOutput_X3_moveOver
theorem dX3_addOutput_0 : decode cX3_addOutput 0 = .ok (.aload_n 0, 1) := by decide +kernel
theorem dX3_addOutput_1 : decode cX3_addOutput 1 = .ok (.iload_n 2, 1) := by decide +kernel
theorem dX3_addOutput_2 : decode cX3_addOutput 2 = .ok (.invokevirtual 109, 3) := by decide +kernel
theorem dX3_addOutput_5 : decode cX3_addOutput 5 = .ok (.ifCond .eq 11, 3) := by decide +kernel
theorem dX3_addOutput_8 : decode cX3_addOutput 8 = .ok (.aload_n 0, 1) := by decide +kernel
theorem dX3_addOutput_9 : decode cX3_addOutput 9 = .ok (.iload_n 3, 1) := by decide +kernel
theorem dX3_addOutput_10 : decode cX3_addOutput 10 = .ok (.invokevirtual 93, 3) := by decide +kernel
theorem dX3_addOutput_13 : decode cX3_addOutput 13 = .ok (.ifCond .ne 6, 3) := by decide +kernel
theorem dX3_addOutput_16 : decode cX3_addOutput 16 = .ok (.bipush (-2), 2) := by decide +kernel
theorem dX3_addOutput_18 : decode cX3_addOutput 18 = .ok (.ireturn, 1) := by decide +kernel
theorem dX3_addOutput_19 : decode cX3_addOutput 19 = .ok (.aload_n 0, 1) := by decide +kernel
theorem dX3_addOutput_20 : decode cX3_addOutput 20 = .ok (.iload_n 3, 1) := by decide +kernel
theorem dX3_addOutput_21 : decode cX3_addOutput 21 = .ok (.invokevirtual 86, 3) := by decide +kernel
theorem dX3_addOutput_24 : decode cX3_addOutput 24 = .ok (.iconst (-1), 1) := by decide +kernel
theorem dX3_addOutput_25 : decode cX3_addOutput 25 = .ok (.if_icmp .ne 16, 3) := by decide +kernel
theorem dX3_addOutput_28 : decode cX3_addOutput 28 = .ok (.aload_n 0, 1) := by decide +kernel
theorem dX3_addOutput_29 : decode cX3_addOutput 29 = .ok (.getfield 15, 3) := by decide +kernel
theorem dX3_addOutput_32 : decode cX3_addOutput 32 = .ok (.iload_n 2, 1) := by decide +kernel
theorem dX3_addOutput_33 : decode cX3_addOutput 33 = .ok (.iaload, 1) := by decide +kernel
theorem dX3_addOutput_34 : decode cX3_addOutput 34 = .ok (.invokestatic 75, 3) := by decide +kernel
theorem dX3_addOutput_37 : decode cX3_addOutput 37 = .ok (.iconst 4, 1) := by decide +kernel
theorem dX3_addOutput_38 : decode cX3_addOutput 38 = .ok (.if_icmp .lt 6, 3) := by decide +kernel
theorem dX3_addOutput_41 : decode cX3_addOutput 41 = .ok (.bipush (-3), 2) := by decide +kernel
theorem dX3_addOutput_43 : decode cX3_addOutput 43 = .ok (.ireturn, 1) := by decide +kernel
theorem dX3_addOutput_44 : decode cX3_addOutput 44 = .ok (.aload_n 1, 1) := by decide +kernel
theorem dX3_addOutput_45 : decode cX3_addOutput 45 = .ok (.aload_n 0, 1) := by decide +kernel
theorem dX3_addOutput_46 : decode cX3_addOutput 46 = .ok (.iload_n 2, 1) := by decide +kernel
theorem dX3_addOutput_47 : decode cX3_addOutput 47 = .ok (.aload_n 0, 1) := by decide +kernel
theorem dX3_addOutput_48 : decode cX3_addOutput 48 = .ok (.iload_n 3, 1) := by decide +kernel
theorem dX3_addOutput_49 : decode cX3_addOutput 49 = .ok (.invokevirtual 69, 3) := by decide +kernel
theorem dX3_addOutput_52 : decode cX3_addOutput 52 = .ok (.invokevirtual 112, 3) := by decide +kernel
theorem dX3_addOutput_55 : decode cX3_addOutput 55 = .ok (.istore 4, 2) := by decide +kernel
theorem dX3_addOutput_57 : decode cX3_addOutput 57 = .ok (.iload 4, 2) := by decide +kernel
theorem dX3_addOutput_59 : decode cX3_addOutput 59 = .ok (.iconst (-1), 1) := by decide +kernel
theorem dX3_addOutput_60 : decode cX3_addOutput 60 = .ok (.if_icmp .ne 6, 3) := by decide +kernel
theorem dX3_addOutput_63 : decode cX3_addOutput 63 = .ok (.bipush (-3), 2) := by decide +kernel
theorem dX3_addOutput_65 : decode cX3_addOutput 65 = .ok (.ireturn, 1) := by decide +kernel
theorem dX3_addOutput_66 : decode cX3_addOutput 66 = .ok (.aload_n 0, 1) := by decide +kernel
theorem dX3_addOutput_67 : decode cX3_addOutput 67 = .ok (.aload_n 1, 1) := by decide +kernel
theorem dX3_addOutput_68 : decode cX3_addOutput 68 = .ok (.iload_n 2, 1) := by decide +kernel
theorem dX3_addOutput_69 : decode cX3_addOutput 69 = .ok (.aload_n 0, 1) := by decide +kernel
theorem dX3_addOutput_70 : decode cX3_addOutput 70 = .ok (.getfield 9, 3) := by decide +kernel
theorem dX3_addOutput_73 : decode cX3_addOutput 73 = .ok (.iload_n 2, 1) := by decide +kernel
theorem dX3_addOutput_74 : decode cX3_addOutput 74 = .ok (.iaload, 1) := by decide +kernel
theorem dX3_addOutput_75 : decode cX3_addOutput 75 = .ok (.invokevirtual 102, 3) := by decide +kernel
theorem dX3_addOutput_78 : decode cX3_addOutput 78 = .ok (.aload_n 0, 1) := by decide +kernel
theorem dX3_addOutput_79 : decode cX3_addOutput 79 = .ok (.getfield 15, 3) := by decide +kernel
theorem dX3_addOutput_82 : decode cX3_addOutput 82 = .ok (.iload_n 2, 1) := by decide +kernel
theorem dX3_addOutput_83 : decode cX3_addOutput 83 = .ok (.dup2, 1) := by decide +kernel
theorem dX3_addOutput_84 : decode cX3_addOutput 84 = .ok (.iaload, 1) := by decide +kernel
theorem dX3_addOutput_85 : decode cX3_addOutput 85 = .ok (.iconst 1, 1) := by decide +kernel
theorem dX3_addOutput_86 : decode cX3_addOutput 86 = .ok (.iload_n 3, 1) := by decide +kernel
theorem dX3_addOutput_87 : decode cX3_addOutput 87 = .ok (.ishl, 1) := by decide +kernel
theorem dX3_addOutput_88 : decode cX3_addOutput 88 = .ok (.ior, 1) := by decide +kernel
theorem dX3_addOutput_89 : decode cX3_addOutput 89 = .ok (.iastore, 1) := by decide +kernel
theorem dX3_addOutput_90 : decode cX3_addOutput 90 = .ok (.iload 4, 2) := by decide +kernel
theorem dX3_addOutput_92 : decode cX3_addOutput 92 = .ok (.ireturn, 1) := by decide +kernel
theorem dX3_moveOver_0 : decode cX3_moveOver 0 = .ok (.iconst 0, 1) := by decide +kernel
theorem dX3_moveOver_1 : decode cX3_moveOver 1 = .ok (.istore 4, 2) := by decide +kernel
theorem dX3_moveOver_3 : decode cX3_moveOver 3 = .ok (.iload 4, 2) := by decide +kernel
theorem dX3_moveOver_5 : decode cX3_moveOver 5 = .ok (.aload_n 0, 1) := by decide +kernel
theorem dX3_moveOver_6 : decode cX3_moveOver 6 = .ok (.getfield 52, 3) := by decide +kernel
theorem dX3_moveOver_9 : decode cX3_moveOver 9 = .ok (.if_icmp .ge 93, 3) := by decide +kernel
theorem dX3_moveOver_12 : decode cX3_moveOver 12 = .ok (.aload_n 0, 1) := by decide +kernel
theorem dX3_moveOver_13 : decode cX3_moveOver 13 = .ok (.getfield 18, 3) := by decide +kernel
theorem dX3_moveOver_16 : decode cX3_moveOver 16 = .ok (.iload 4, 2) := by decide +kernel
theorem dX3_moveOver_18 : decode cX3_moveOver 18 = .ok (.iaload, 1) := by decide +kernel
theorem dX3_moveOver_19 : decode cX3_moveOver 19 = .ok (.aload_n 1, 1) := by decide +kernel
theorem dX3_moveOver_20 : decode cX3_moveOver 20 = .ok (.getfield 106, 3) := by decide +kernel
theorem dX3_moveOver_23 : decode cX3_moveOver 23 = .ok (.iload 4, 2) := by decide +kernel
theorem dX3_moveOver_25 : decode cX3_moveOver 25 = .ok (.iaload, 1) := by decide +kernel
theorem dX3_moveOver_26 : decode cX3_moveOver 26 = .ok (.if_icmp .eq 70, 3) := by decide +kernel
theorem dX3_moveOver_29 : decode cX3_moveOver 29 = .ok (.aload_n 0, 1) := by decide +kernel
theorem dX3_moveOver_30 : decode cX3_moveOver 30 = .ok (.getfield 18, 3) := by decide +kernel
theorem dX3_moveOver_33 : decode cX3_moveOver 33 = .ok (.iload 4, 2) := by decide +kernel
theorem dX3_moveOver_35 : decode cX3_moveOver 35 = .ok (.aload_n 1, 1) := by decide +kernel
theorem dX3_moveOver_36 : decode cX3_moveOver 36 = .ok (.getfield 106, 3) := by decide +kernel
theorem dX3_moveOver_39 : decode cX3_moveOver 39 = .ok (.iload 4, 2) := by decide +kernel
theorem dX3_moveOver_41 : decode cX3_moveOver 41 = .ok (.iaload, 1) := by decide +kernel
theorem dX3_moveOver_42 : decode cX3_moveOver 42 = .ok (.iastore, 1) := by decide +kernel
theorem dX3_moveOver_43 : decode cX3_moveOver 43 = .ok (.aload_n 0, 1) := by decide +kernel
theorem dX3_moveOver_44 : decode cX3_moveOver 44 = .ok (.getfield 21, 3) := by decide +kernel
theorem dX3_moveOver_47 : decode cX3_moveOver 47 = .ok (.iload 4, 2) := by decide +kernel
theorem dX3_moveOver_49 : decode cX3_moveOver 49 = .ok (.dup2, 1) := by decide +kernel
theorem dX3_moveOver_50 : decode cX3_moveOver 50 = .ok (.iaload, 1) := by decide +kernel
theorem dX3_moveOver_51 : decode cX3_moveOver 51 = .ok (.iconst 1, 1) := by decide +kernel
theorem dX3_moveOver_52 : decode cX3_moveOver 52 = .ok (.iadd, 1) := by decide +kernel
theorem dX3_moveOver_53 : decode cX3_moveOver 53 = .ok (.iastore, 1) := by decide +kernel
theorem dX3_moveOver_54 : decode cX3_moveOver 54 = .ok (.aload_n 0, 1) := by decide +kernel
theorem dX3_moveOver_55 : decode cX3_moveOver 55 = .ok (.dup, 1) := by decide +kernel
theorem dX3_moveOver_56 : decode cX3_moveOver 56 = .ok (.getfield 49, 3) := by decide +kernel
theorem dX3_moveOver_59 : decode cX3_moveOver 59 = .ok (.iconst 1, 1) := by decide +kernel
theorem dX3_moveOver_60 : decode cX3_moveOver 60 = .ok (.iadd, 1) := by decide +kernel
theorem dX3_moveOver_61 : decode cX3_moveOver 61 = .ok (.putfield 49, 3) := by decide +kernel
theorem dX3_moveOver_64 : decode cX3_moveOver 64 = .ok (.iload 4, 2) := by decide +kernel
theorem dX3_moveOver_66 : decode cX3_moveOver 66 = .ok (.iload_n 2, 1) := by decide +kernel
theorem dX3_moveOver_67 : decode cX3_moveOver 67 = .ok (.if_icmp .eq 29, 3) := by decide +kernel
theorem dX3_moveOver_70 : decode cX3_moveOver 70 = .ok (.aload_n 0, 1) := by decide +kernel
theorem dX3_moveOver_71 : decode cX3_moveOver 71 = .ok (.getfield 24, 3) := by decide +kernel
theorem dX3_moveOver_74 : decode cX3_moveOver 74 = .ok (.aload_n 0, 1) := by decide +kernel
theorem dX3_moveOver_75 : decode cX3_moveOver 75 = .ok (.getfield 9, 3) := by decide +kernel
theorem dX3_moveOver_78 : decode cX3_moveOver 78 = .ok (.iload 4, 2) := by decide +kernel
theorem dX3_moveOver_80 : decode cX3_moveOver 80 = .ok (.iaload, 1) := by decide +kernel
theorem dX3_moveOver_81 : decode cX3_moveOver 81 = .ok (.dup2, 1) := by decide +kernel
theorem dX3_moveOver_82 : decode cX3_moveOver 82 = .ok (.iaload, 1) := by decide +kernel
theorem dX3_moveOver_83 : decode cX3_moveOver 83 = .ok (.iconst 1, 1) := by decide +kernel
theorem dX3_moveOver_84 : decode cX3_moveOver 84 = .ok (.iadd, 1) := by decide +kernel
theorem dX3_moveOver_85 : decode cX3_moveOver 85 = .ok (.iastore, 1) := by decide +kernel
theorem dX3_moveOver_86 : decode cX3_moveOver 86 = .ok (.aload_n 0, 1) := by decide +kernel
theorem dX3_moveOver_87 : decode cX3_moveOver 87 = .ok (.getfield 27, 3) := by decide +kernel
theorem dX3_moveOver_90 : decode cX3_moveOver 90 = .ok (.iload_n 3, 1) := by decide +kernel
theorem dX3_moveOver_91 : decode cX3_moveOver 91 = .ok (.dup2, 1) := by decide +kernel
theorem dX3_moveOver_92 : decode cX3_moveOver 92 = .ok (.iaload, 1) := by decide +kernel
theorem dX3_moveOver_93 : decode cX3_moveOver 93 = .ok (.iconst 1, 1) := by decide +kernel
theorem dX3_moveOver_94 : decode cX3_moveOver 94 = .ok (.iadd, 1) := by decide +kernel
theorem dX3_moveOver_95 : decode cX3_moveOver 95 = .ok (.iastore, 1) := by decide +kernel
theorem dX3_moveOver_96 : decode cX3_moveOver 96 = .ok (.iinc 4 1, 3) := by decide +kernel
theorem dX3_moveOver_99 : decode cX3_moveOver 99 = .ok (.goto (-96), 3) := by decide +kernel
theorem dX3_moveOver_102 : decode cX3_moveOver 102 = .ok (.return_, 1) := by decide +kernel
set_option maxRecDepth 20000 in
theorem ggX3_endCall_X3_hasCall : GoodIn wsX3_endCall wsX3_hasCall := goodIn_r _ [10, 1, 11, 12, 13, 14, 15, 16, 17, 18, 19, 20, 21, 22, 23, 24] (by decide +kernel) (by decide +kernel)
set_option maxRecDepth 20000 in
theorem gX3_endCall_X3_hasCall : GoodIn wsX3_endCall (wsV RX3 109 RX3 yX3_hasCall wsX3_hasCall) := goodIn_app (goodIn_of _ (by decide +kernel)) ggX3_endCall_X3_hasCall
theorem dX3_endCall_0 : decode cX3_endCall 0 = .ok (.aload_n 0, 1) := by decide +kernel
theorem dX3_endCall_1 : decode cX3_endCall 1 = .ok (.iload_n 1, 1) := by decide +kernel
theorem dX3_endCall_2 : decode cX3_endCall 2 = .ok (.invokevirtual 109, 3) := by decide +kernel
theorem dX3_endCall_5 : decode cX3_endCall 5 = .ok (.ifCond .ne 6, 3) := by decide +kernel
theorem dX3_endCall_8 : decode cX3_endCall 8 = .ok (.bipush (-2), 2) := by decide +kernel
theorem dX3_endCall_10 : decode cX3_endCall 10 = .ok (.ireturn, 1) := by decide +kernel
theorem dX3_endCall_11 : decode cX3_endCall 11 = .ok (.aload_n 0, 1) := by decide +kernel
theorem dX3_endCall_12 : decode cX3_endCall 12 = .ok (.dup, 1) := by decide +kernel
theorem dX3_endCall_13 : decode cX3_endCall 13 = .ok (.getfield 52, 3) := by decide +kernel
theorem dX3_endCall_16 : decode cX3_endCall 16 = .ok (.iconst 1, 1) := by decide +kernel
theorem dX3_endCall_17 : decode cX3_endCall 17 = .ok (.isub, 1) := by decide +kernel
theorem dX3_endCall_18 : decode cX3_endCall 18 = .ok (.putfield 52, 3) := by decide +kernel
theorem dX3_endCall_21 : decode cX3_endCall 21 = .ok (.iload_n 1, 1) := by decide +kernel
theorem dX3_endCall_22 : decode cX3_endCall 22 = .ok (.istore_n 2, 1) := by decide +kernel
theorem dX3_endCall_23 : decode cX3_endCall 23 = .ok (.iload_n 2, 1) := by decide +kernel
theorem dX3_endCall_24 : decode cX3_endCall 24 = .ok (.aload_n 0, 1) := by decide +kernel
theorem dX3_endCall_25 : decode cX3_endCall 25 = .ok (.getfield 52, 3) := by decide +kernel
theorem dX3_endCall_28 : decode cX3_endCall 28 = .ok (.if_icmp .ge 65, 3) := by decide +kernel
theorem dX3_endCall_31 : decode cX3_endCall 31 = .ok (.aload_n 0, 1) := by decide +kernel
theorem dX3_endCall_32 : decode cX3_endCall 32 = .ok (.getfield 9, 3) := by decide +kernel
theorem dX3_endCall_35 : decode cX3_endCall 35 = .ok (.iload_n 2, 1) := by decide +kernel
theorem dX3_endCall_36 : decode cX3_endCall 36 = .ok (.aload_n 0, 1) := by decide +kernel
theorem dX3_endCall_37 : decode cX3_endCall 37 = .ok (.getfield 9, 3) := by decide +kernel
theorem dX3_endCall_40 : decode cX3_endCall 40 = .ok (.iload_n 2, 1) := by decide +kernel
theorem dX3_endCall_41 : decode cX3_endCall 41 = .ok (.iconst 1, 1) := by decide +kernel
theorem dX3_endCall_42 : decode cX3_endCall 42 = .ok (.iadd, 1) := by decide +kernel
theorem dX3_endCall_43 : decode cX3_endCall 43 = .ok (.iaload, 1) := by decide +kernel
theorem dX3_endCall_44 : decode cX3_endCall 44 = .ok (.iastore, 1) := by decide +kernel
theorem dX3_endCall_45 : decode cX3_endCall 45 = .ok (.aload_n 0, 1) := by decide +kernel
theorem dX3_endCall_46 : decode cX3_endCall 46 = .ok (.getfield 15, 3) := by decide +kernel
theorem dX3_endCall_49 : decode cX3_endCall 49 = .ok (.iload_n 2, 1) := by decide +kernel
theorem dX3_endCall_50 : decode cX3_endCall 50 = .ok (.aload_n 0, 1) := by decide +kernel
theorem dX3_endCall_51 : decode cX3_endCall 51 = .ok (.getfield 15, 3) := by decide +kernel
theorem dX3_endCall_54 : decode cX3_endCall 54 = .ok (.iload_n 2, 1) := by decide +kernel
theorem dX3_endCall_55 : decode cX3_endCall 55 = .ok (.iconst 1, 1) := by decide +kernel
theorem dX3_endCall_56 : decode cX3_endCall 56 = .ok (.iadd, 1) := by decide +kernel
theorem dX3_endCall_57 : decode cX3_endCall 57 = .ok (.iaload, 1) := by decide +kernel
theorem dX3_endCall_58 : decode cX3_endCall 58 = .ok (.iastore, 1) := by decide +kernel
theorem dX3_endCall_59 : decode cX3_endCall 59 = .ok (.aload_n 0, 1) := by decide +kernel
theorem dX3_endCall_60 : decode cX3_endCall 60 = .ok (.getfield 18, 3) := by decide +kernel
theorem dX3_endCall_63 : decode cX3_endCall 63 = .ok (.iload_n 2, 1) := by decide +kernel
theorem dX3_endCall_64 : decode cX3_endCall 64 = .ok (.aload_n 0, 1) := by decide +kernel
theorem dX3_endCall_65 : decode cX3_endCall 65 = .ok (.getfield 18, 3) := by decide +kernel
theorem dX3_endCall_68 : decode cX3_endCall 68 = .ok (.iload_n 2, 1) := by decide +kernel
theorem dX3_endCall_69 : decode cX3_endCall 69 = .ok (.iconst 1, 1) := by decide +kernel
theorem dX3_endCall_70 : decode cX3_endCall 70 = .ok (.iadd, 1) := by decide +kernel
theorem dX3_endCall_71 : decode cX3_endCall 71 = .ok (.iaload, 1) := by decide +kernel
theorem dX3_endCall_72 : decode cX3_endCall 72 = .ok (.iastore, 1) := by decide +kernel
theorem dX3_endCall_73 : decode cX3_endCall 73 = .ok (.aload_n 0, 1) := by decide +kernel
theorem dX3_endCall_74 : decode cX3_endCall 74 = .ok (.getfield 21, 3) := by decide +kernel
theorem dX3_endCall_77 : decode cX3_endCall 77 = .ok (.iload_n 2, 1) := by decide +kernel
theorem dX3_endCall_78 : decode cX3_endCall 78 = .ok (.aload_n 0, 1) := by decide +kernel
theorem dX3_endCall_79 : decode cX3_endCall 79 = .ok (.getfield 21, 3) := by decide +kernel
theorem dX3_endCall_82 : decode cX3_endCall 82 = .ok (.iload_n 2, 1) := by decide +kernel
theorem dX3_endCall_83 : decode cX3_endCall 83 = .ok (.iconst 1, 1) := by decide +kernel
theorem dX3_endCall_84 : decode cX3_endCall 84 = .ok (.iadd, 1) := by decide +kernel
theorem dX3_endCall_85 : decode cX3_endCall 85 = .ok (.iaload, 1) := by decide +kernel
theorem dX3_endCall_86 : decode cX3_endCall 86 = .ok (.iastore, 1) := by decide +kernel
theorem dX3_endCall_87 : decode cX3_endCall 87 = .ok (.iinc 2 1, 3) := by decide +kernel
theorem dX3_endCall_90 : decode cX3_endCall 90 = .ok (.goto (-67), 3) := by decide +kernel
theorem dX3_endCall_93 : decode cX3_endCall 93 = .ok (.aload_n 0, 1) := by decide +kernel
theorem dX3_endCall_94 : decode cX3_endCall 94 = .ok (.getfield 52, 3) := by decide +kernel
theorem dX3_endCall_97 : decode cX3_endCall 97 = .ok (.ireturn, 1) := by decide +kernel
set_option maxRecDepth 20000 in
theorem ggX3_takeOutput_X3_hasOutput : GoodIn wsX3_takeOutput wsX3_hasOutput := goodIn_r _ [6, 7, 8, 9, 10, 5, 11, 12, 25, 26, 27, 28, 29, 30, 31, 32, 33, 34, 35, 36, 37, 38] (by decide +kernel) (by decide +kernel)
set_option maxRecDepth 20000 in
theorem gX3_takeOutput_X3_hasOutput : GoodIn wsX3_takeOutput (wsV RX3 93 RX3 yX3_hasOutput wsX3_hasOutput) := goodIn_app (goodIn_of _ (by decide +kernel)) ggX3_takeOutput_X3_hasOutput
set_option maxRecDepth 20000 in
theorem ggX3_takeOutput_X3_callAtOutput : GoodIn wsX3_takeOutput wsX3_callAtOutput := goodIn_r _ [16, 17, 1, 25, 26, 27, 28, 29, 30, 31, 32, 33, 34, 35, 36, 37, 38] (by decide +kernel) (by decide +kernel)
set_option maxRecDepth 20000 in
theorem gX3_takeOutput_X3_callAtOutput : GoodIn wsX3_takeOutput (wsV RX3 86 RX3 yX3_callAtOutput wsX3_callAtOutput) := goodIn_app (goodIn_of _ (by decide +kernel)) ggX3_takeOutput_X3_callAtOutput
set_option maxRecDepth 20000 in
theorem ggX3_takeOutput_J6_bitCount_0f7a4 : GoodIn wsX3_takeOutput wsJ6_bitCount_0f7a4 := goodIn_r _ [21, 22, 23, 24] (by decide +kernel) (by decide +kernel)
set_option maxRecDepth 20000 in
theorem gX3_takeOutput_J6_bitCount_0f7a4 : GoodIn wsX3_takeOutput (va_wsS RX3 75 yJ6_bitCount_0f7a4 wsJ6_bitCount_0f7a4) := goodIn_app (goodIn_of _ (by decide +kernel)) ggX3_takeOutput_J6_bitCount_0f7a4
theorem dX3_takeOutput_0 : decode cX3_takeOutput 0 = .ok (.aload_n 0, 1) := by decide +kernel
theorem dX3_takeOutput_1 : decode cX3_takeOutput 1 = .ok (.iload_n 1, 1) := by decide +kernel
theorem dX3_takeOutput_2 : decode cX3_takeOutput 2 = .ok (.invokevirtual 93, 3) := by decide +kernel
theorem dX3_takeOutput_5 : decode cX3_takeOutput 5 = .ok (.ifCond .ne 6, 3) := by decide +kernel
theorem dX3_takeOutput_8 : decode cX3_takeOutput 8 = .ok (.bipush (-2), 2) := by decide +kernel
theorem dX3_takeOutput_10 : decode cX3_takeOutput 10 = .ok (.ireturn, 1) := by decide +kernel
theorem dX3_takeOutput_11 : decode cX3_takeOutput 11 = .ok (.aload_n 0, 1) := by decide +kernel
theorem dX3_takeOutput_12 : decode cX3_takeOutput 12 = .ok (.iload_n 1, 1) := by decide +kernel
theorem dX3_takeOutput_13 : decode cX3_takeOutput 13 = .ok (.invokevirtual 86, 3) := by decide +kernel
theorem dX3_takeOutput_16 : decode cX3_takeOutput 16 = .ok (.istore_n 2, 1) := by decide +kernel
theorem dX3_takeOutput_17 : decode cX3_takeOutput 17 = .ok (.iload_n 2, 1) := by decide +kernel
theorem dX3_takeOutput_18 : decode cX3_takeOutput 18 = .ok (.iconst (-1), 1) := by decide +kernel
theorem dX3_takeOutput_19 : decode cX3_takeOutput 19 = .ok (.if_icmp .eq 15, 3) := by decide +kernel
theorem dX3_takeOutput_22 : decode cX3_takeOutput 22 = .ok (.aload_n 0, 1) := by decide +kernel
theorem dX3_takeOutput_23 : decode cX3_takeOutput 23 = .ok (.getfield 15, 3) := by decide +kernel
theorem dX3_takeOutput_26 : decode cX3_takeOutput 26 = .ok (.iload_n 2, 1) := by decide +kernel
theorem dX3_takeOutput_27 : decode cX3_takeOutput 27 = .ok (.iaload, 1) := by decide +kernel
theorem dX3_takeOutput_28 : decode cX3_takeOutput 28 = .ok (.iconst 1, 1) := by decide +kernel
theorem dX3_takeOutput_29 : decode cX3_takeOutput 29 = .ok (.iload_n 1, 1) := by decide +kernel
theorem dX3_takeOutput_30 : decode cX3_takeOutput 30 = .ok (.ishl, 1) := by decide +kernel
theorem dX3_takeOutput_31 : decode cX3_takeOutput 31 = .ok (.if_icmp .ne 6, 3) := by decide +kernel
theorem dX3_takeOutput_34 : decode cX3_takeOutput 34 = .ok (.bipush (-3), 2) := by decide +kernel
theorem dX3_takeOutput_36 : decode cX3_takeOutput 36 = .ok (.ireturn, 1) := by decide +kernel
theorem dX3_takeOutput_37 : decode cX3_takeOutput 37 = .ok (.aload_n 0, 1) := by decide +kernel
theorem dX3_takeOutput_38 : decode cX3_takeOutput 38 = .ok (.getfield 15, 3) := by decide +kernel
theorem dX3_takeOutput_41 : decode cX3_takeOutput 41 = .ok (.iload_n 2, 1) := by decide +kernel
theorem dX3_takeOutput_42 : decode cX3_takeOutput 42 = .ok (.dup2, 1) := by decide +kernel
theorem dX3_takeOutput_43 : decode cX3_takeOutput 43 = .ok (.iaload, 1) := by decide +kernel
theorem dX3_takeOutput_44 : decode cX3_takeOutput 44 = .ok (.iconst 1, 1) := by decide +kernel
theorem dX3_takeOutput_45 : decode cX3_takeOutput 45 = .ok (.iload_n 1, 1) := by decide +kernel
theorem dX3_takeOutput_46 : decode cX3_takeOutput 46 = .ok (.ishl, 1) := by decide +kernel
theorem dX3_takeOutput_47 : decode cX3_takeOutput 47 = .ok (.iconst (-1), 1) := by decide +kernel
theorem dX3_takeOutput_48 : decode cX3_takeOutput 48 = .ok (.ixor, 1) := by decide +kernel
theorem dX3_takeOutput_49 : decode cX3_takeOutput 49 = .ok (.iand, 1) := by decide +kernel
theorem dX3_takeOutput_50 : decode cX3_takeOutput 50 = .ok (.iastore, 1) := by decide +kernel
theorem dX3_takeOutput_51 : decode cX3_takeOutput 51 = .ok (.aload_n 0, 1) := by decide +kernel
theorem dX3_takeOutput_52 : decode cX3_takeOutput 52 = .ok (.getfield 15, 3) := by decide +kernel
theorem dX3_takeOutput_55 : decode cX3_takeOutput 55 = .ok (.iload_n 2, 1) := by decide +kernel
theorem dX3_takeOutput_56 : decode cX3_takeOutput 56 = .ok (.iaload, 1) := by decide +kernel
theorem dX3_takeOutput_57 : decode cX3_takeOutput 57 = .ok (.invokestatic 75, 3) := by decide +kernel
theorem dX3_takeOutput_60 : decode cX3_takeOutput 60 = .ok (.ireturn, 1) := by decide +kernel
set_option maxRecDepth 20000 in
theorem ggX3_makeBroken_X3_hasMiddle : GoodIn wsX3_makeBroken wsX3_hasMiddle := goodIn_r _ [6, 7, 25, 26, 27, 28, 29, 30, 31, 32, 33, 34, 35, 36, 37, 38] (by decide +kernel) (by decide +kernel)
set_option maxRecDepth 20000 in
theorem gX3_makeBroken_X3_hasMiddle : GoodIn wsX3_makeBroken (wsV RX3 115 RX3 yX3_hasMiddle wsX3_hasMiddle) := goodIn_app (goodIn_of _ (by decide +kernel)) ggX3_makeBroken_X3_hasMiddle
set_option maxRecDepth 20000 in
theorem ggX3_makeBroken_X3_hasCallBy : GoodIn wsX3_makeBroken wsX3_hasCallBy := goodIn_r _ [11, 12, 13, 25, 26, 27, 28, 29, 30, 31, 32, 33, 34, 35, 36, 37, 38] (by decide +kernel) (by decide +kernel)
set_option maxRecDepth 20000 in
theorem gX3_makeBroken_X3_hasCallBy : GoodIn wsX3_makeBroken (wsV RX3 118 RX3 yX3_hasCallBy wsX3_hasCallBy) := goodIn_app (goodIn_of _ (by decide +kernel)) ggX3_makeBroken_X3_hasCallBy
set_option maxRecDepth 20000 in
theorem ggX3_makeBroken_X3_wholeBoards : GoodIn wsX3_makeBroken wsX3_wholeBoards := goodIn_r _ [17, 7, 1, 25, 26, 27, 28, 29, 30, 31, 32, 33, 34, 35, 36, 37, 38] (by decide +kernel) (by decide +kernel)
set_option maxRecDepth 20000 in
theorem gX3_makeBroken_X3_wholeBoards : GoodIn wsX3_makeBroken (wsV RX3 121 RX3 yX3_wholeBoards wsX3_wholeBoards) := goodIn_app (goodIn_of _ (by decide +kernel)) ggX3_makeBroken_X3_wholeBoards
set_option maxRecDepth 20000 in
theorem ggX3_makeBroken_J6_bitCount_0f7a4 : GoodIn wsX3_makeBroken wsJ6_bitCount_0f7a4 := goodIn_r _ [21, 22, 23, 24] (by decide +kernel) (by decide +kernel)
set_option maxRecDepth 20000 in
theorem gX3_makeBroken_J6_bitCount_0f7a4 : GoodIn wsX3_makeBroken (va_wsS RX3 75 yJ6_bitCount_0f7a4 wsJ6_bitCount_0f7a4) := goodIn_app (goodIn_of _ (by decide +kernel)) ggX3_makeBroken_J6_bitCount_0f7a4
theorem dX3_makeBroken_0 : decode cX3_makeBroken 0 = .ok (.aload_n 0, 1) := by decide +kernel
theorem dX3_makeBroken_1 : decode cX3_makeBroken 1 = .ok (.iload_n 1, 1) := by decide +kernel
theorem dX3_makeBroken_2 : decode cX3_makeBroken 2 = .ok (.invokevirtual 115, 3) := by decide +kernel
theorem dX3_makeBroken_5 : decode cX3_makeBroken 5 = .ok (.ifCond .ne 6, 3) := by decide +kernel
theorem dX3_makeBroken_8 : decode cX3_makeBroken 8 = .ok (.bipush (-2), 2) := by decide +kernel
theorem dX3_makeBroken_10 : decode cX3_makeBroken 10 = .ok (.ireturn, 1) := by decide +kernel
theorem dX3_makeBroken_11 : decode cX3_makeBroken 11 = .ok (.iload_n 2, 1) := by decide +kernel
theorem dX3_makeBroken_12 : decode cX3_makeBroken 12 = .ok (.ifCond .eq 14, 3) := by decide +kernel
theorem dX3_makeBroken_15 : decode cX3_makeBroken 15 = .ok (.aload_n 0, 1) := by decide +kernel
theorem dX3_makeBroken_16 : decode cX3_makeBroken 16 = .ok (.iload_n 1, 1) := by decide +kernel
theorem dX3_makeBroken_17 : decode cX3_makeBroken 17 = .ok (.invokevirtual 118, 3) := by decide +kernel
theorem dX3_makeBroken_20 : decode cX3_makeBroken 20 = .ok (.ifCond .eq 6, 3) := by decide +kernel
theorem dX3_makeBroken_23 : decode cX3_makeBroken 23 = .ok (.bipush (-3), 2) := by decide +kernel
theorem dX3_makeBroken_25 : decode cX3_makeBroken 25 = .ok (.ireturn, 1) := by decide +kernel
theorem dX3_makeBroken_26 : decode cX3_makeBroken 26 = .ok (.aload_n 0, 1) := by decide +kernel
theorem dX3_makeBroken_27 : decode cX3_makeBroken 27 = .ok (.iload_n 2, 1) := by decide +kernel
theorem dX3_makeBroken_28 : decode cX3_makeBroken 28 = .ok (.ifCond .eq 14, 3) := by decide +kernel
theorem dX3_makeBroken_31 : decode cX3_makeBroken 31 = .ok (.aload_n 0, 1) := by decide +kernel
theorem dX3_makeBroken_32 : decode cX3_makeBroken 32 = .ok (.getfield 46, 3) := by decide +kernel
theorem dX3_makeBroken_35 : decode cX3_makeBroken 35 = .ok (.iconst 1, 1) := by decide +kernel
theorem dX3_makeBroken_36 : decode cX3_makeBroken 36 = .ok (.iload_n 1, 1) := by decide +kernel
theorem dX3_makeBroken_37 : decode cX3_makeBroken 37 = .ok (.ishl, 1) := by decide +kernel
theorem dX3_makeBroken_38 : decode cX3_makeBroken 38 = .ok (.ior, 1) := by decide +kernel
theorem dX3_makeBroken_39 : decode cX3_makeBroken 39 = .ok (.goto 13, 3) := by decide +kernel
theorem dX3_makeBroken_42 : decode cX3_makeBroken 42 = .ok (.aload_n 0, 1) := by decide +kernel
theorem dX3_makeBroken_43 : decode cX3_makeBroken 43 = .ok (.getfield 46, 3) := by decide +kernel
theorem dX3_makeBroken_46 : decode cX3_makeBroken 46 = .ok (.iconst 1, 1) := by decide +kernel
theorem dX3_makeBroken_47 : decode cX3_makeBroken 47 = .ok (.iload_n 1, 1) := by decide +kernel
theorem dX3_makeBroken_48 : decode cX3_makeBroken 48 = .ok (.ishl, 1) := by decide +kernel
theorem dX3_makeBroken_49 : decode cX3_makeBroken 49 = .ok (.iconst (-1), 1) := by decide +kernel
theorem dX3_makeBroken_50 : decode cX3_makeBroken 50 = .ok (.ixor, 1) := by decide +kernel
theorem dX3_makeBroken_51 : decode cX3_makeBroken 51 = .ok (.iand, 1) := by decide +kernel
theorem dX3_makeBroken_52 : decode cX3_makeBroken 52 = .ok (.putfield 46, 3) := by decide +kernel
theorem dX3_makeBroken_55 : decode cX3_makeBroken 55 = .ok (.aload_n 0, 1) := by decide +kernel
theorem dX3_makeBroken_56 : decode cX3_makeBroken 56 = .ok (.invokevirtual 121, 3) := by decide +kernel
theorem dX3_makeBroken_59 : decode cX3_makeBroken 59 = .ok (.invokestatic 75, 3) := by decide +kernel
theorem dX3_makeBroken_62 : decode cX3_makeBroken 62 = .ok (.ireturn, 1) := by decide +kernel
theorem dX3_hasCallBy_0 : decode cX3_hasCallBy 0 = .ok (.iconst 0, 1) := by decide +kernel
theorem dX3_hasCallBy_1 : decode cX3_hasCallBy 1 = .ok (.istore_n 2, 1) := by decide +kernel
theorem dX3_hasCallBy_2 : decode cX3_hasCallBy 2 = .ok (.iload_n 2, 1) := by decide +kernel
theorem dX3_hasCallBy_3 : decode cX3_hasCallBy 3 = .ok (.aload_n 0, 1) := by decide +kernel
theorem dX3_hasCallBy_4 : decode cX3_hasCallBy 4 = .ok (.getfield 52, 3) := by decide +kernel
theorem dX3_hasCallBy_7 : decode cX3_hasCallBy 7 = .ok (.if_icmp .ge 21, 3) := by decide +kernel
theorem dX3_hasCallBy_10 : decode cX3_hasCallBy 10 = .ok (.aload_n 0, 1) := by decide +kernel
theorem dX3_hasCallBy_11 : decode cX3_hasCallBy 11 = .ok (.getfield 18, 3) := by decide +kernel
theorem dX3_hasCallBy_14 : decode cX3_hasCallBy 14 = .ok (.iload_n 2, 1) := by decide +kernel
theorem dX3_hasCallBy_15 : decode cX3_hasCallBy 15 = .ok (.iaload, 1) := by decide +kernel
theorem dX3_hasCallBy_16 : decode cX3_hasCallBy 16 = .ok (.iload_n 1, 1) := by decide +kernel
theorem dX3_hasCallBy_17 : decode cX3_hasCallBy 17 = .ok (.if_icmp .ne 5, 3) := by decide +kernel
theorem dX3_hasCallBy_20 : decode cX3_hasCallBy 20 = .ok (.iconst 1, 1) := by decide +kernel
theorem dX3_hasCallBy_21 : decode cX3_hasCallBy 21 = .ok (.ireturn, 1) := by decide +kernel
theorem dX3_hasCallBy_22 : decode cX3_hasCallBy 22 = .ok (.iinc 2 1, 3) := by decide +kernel
theorem dX3_hasCallBy_25 : decode cX3_hasCallBy 25 = .ok (.goto (-23), 3) := by decide +kernel
theorem dX3_hasCallBy_28 : decode cX3_hasCallBy 28 = .ok (.iconst 0, 1) := by decide +kernel
theorem dX3_hasCallBy_29 : decode cX3_hasCallBy 29 = .ok (.ireturn, 1) := by decide +kernel
theorem dX3_changePatience_0 : decode cX3_changePatience 0 = .ok (.aload_n 0, 1) := by decide +kernel
theorem dX3_changePatience_1 : decode cX3_changePatience 1 = .ok (.getfield 43, 3) := by decide +kernel
theorem dX3_changePatience_4 : decode cX3_changePatience 4 = .ok (.istore_n 2, 1) := by decide +kernel
theorem dX3_changePatience_5 : decode cX3_changePatience 5 = .ok (.aload_n 0, 1) := by decide +kernel
theorem dX3_changePatience_6 : decode cX3_changePatience 6 = .ok (.iload_n 1, 1) := by decide +kernel
theorem dX3_changePatience_7 : decode cX3_changePatience 7 = .ok (.putfield 43, 3) := by decide +kernel
theorem dX3_changePatience_10 : decode cX3_changePatience 10 = .ok (.iload_n 2, 1) := by decide +kernel
theorem dX3_changePatience_11 : decode cX3_changePatience 11 = .ok (.ireturn, 1) := by decide +kernel
set_option maxRecDepth 20000 in
theorem ggX4_init_X3_init : GoodIn wsX4_init wsX3_init := goodIn_r _ [25, 26, 2, 3, 27, 28, 29, 30, 31, 32, 33, 67, 68, 69, 70, 71, 72, 73, 74, 75, 76, 77, 78, 79, 80] (by decide +kernel) (by decide +kernel)
set_option maxRecDepth 20000 in
theorem gX4_init_X3_init_n9 : GoodIn wsX4_init (wsX3_init) := ggX4_init_X3_init
set_option maxRecDepth 20000 in
theorem ggX4_init_X0_init : GoodIn wsX4_init wsX0_init := goodIn_r _ [36, 37, 2, 3, 38, 39, 5, 6, 24, 25, 26, 27, 28, 29, 30, 31, 32, 33, 88, 89, 90, 67, 68, 69, 70, 71, 72, 73, 74, 75, 76, 77, 78, 79, 80] (by decide +kernel) (by decide +kernel)
set_option maxRecDepth 20000 in
theorem gX4_init_X0_init : GoodIn wsX4_init (wsX0_init) := ggX4_init_X0_init
set_option maxRecDepth 20000 in
theorem ggX4_init_X1_init : GoodIn wsX4_init wsX1_init := goodIn_r _ [41, 42, 2, 3, 27, 43, 44, 45, 46, 47, 48, 49, 91, 92, 93, 94, 95, 96, 97, 98, 99, 100, 101, 102, 103] (by decide +kernel) (by decide +kernel)
set_option maxRecDepth 20000 in
theorem gX4_init_X1_init_n36 : GoodIn wsX4_init (wsX1_init) := ggX4_init_X1_init
set_option maxRecDepth 20000 in
theorem ggX4_init_X2_init : GoodIn wsX4_init wsX2_init := goodIn_r _ [51, 52, 2, 3, 53, 54, 104, 105, 106, 107, 108, 109, 110, 111, 112, 113] (by decide +kernel) (by decide +kernel)
set_option maxRecDepth 20000 in
theorem gX4_init_X2_init_n43 : GoodIn wsX4_init (wsX2_init) := ggX4_init_X2_init
set_option maxRecDepth 20000 in
theorem ggX4_init_X3_clear : GoodIn wsX4_init wsX3_clear := goodIn_r _ [58, 59, 60, 61, 62, 63, 64, 65, 66, 32, 33, 67, 68, 69, 70, 71, 72, 73, 74, 75, 76, 77, 78, 79, 80] (by decide +kernel) (by decide +kernel)
set_option maxRecDepth 20000 in
theorem gX4_init_X3_clear : GoodIn wsX4_init (wsV RX4 48 RX3 yX3_clear wsX3_clear) := goodIn_app (goodIn_of _ (by decide +kernel)) ggX4_init_X3_clear
