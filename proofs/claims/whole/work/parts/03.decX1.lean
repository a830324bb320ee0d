theorem dX0_init_0 : decode cX0_init 0 = .ok (.aload_n 0, 1) := by decide +kernel
theorem dX0_init_1 : decode cX0_init 1 = .ok (.invokespecial 3, 3) := by decide +kernel
theorem dX0_init_4 : decode cX0_init 4 = .ok (.aload_n 0, 1) := by decide +kernel
theorem dX0_init_5 : decode cX0_init 5 = .ok (.bipush 12, 2) := by decide +kernel
theorem dX0_init_7 : decode cX0_init 7 = .ok (.newarray .int, 2) := by decide +kernel
theorem dX0_init_9 : decode cX0_init 9 = .ok (.putfield 9, 3) := by decide +kernel
theorem dX0_init_12 : decode cX0_init 12 = .ok (.aload_n 0, 1) := by decide +kernel
theorem dX0_init_13 : decode cX0_init 13 = .ok (.bipush 12, 2) := by decide +kernel
theorem dX0_init_15 : decode cX0_init 15 = .ok (.newarray .double, 2) := by decide +kernel
theorem dX0_init_17 : decode cX0_init 17 = .ok (.putfield 15, 3) := by decide +kernel
theorem dX0_init_20 : decode cX0_init 20 = .ok (.aload_n 0, 1) := by decide +kernel
theorem dX0_init_21 : decode cX0_init 21 = .ok (.bipush 12, 2) := by decide +kernel
theorem dX0_init_23 : decode cX0_init 23 = .ok (.newarray .double, 2) := by decide +kernel
theorem dX0_init_25 : decode cX0_init 25 = .ok (.putfield 19, 3) := by decide +kernel
theorem dX0_init_28 : decode cX0_init 28 = .ok (.aload_n 0, 1) := by decide +kernel
theorem dX0_init_29 : decode cX0_init 29 = .ok (.bipush 12, 2) := by decide +kernel
theorem dX0_init_31 : decode cX0_init 31 = .ok (.newarray .double, 2) := by decide +kernel
theorem dX0_init_33 : decode cX0_init 33 = .ok (.putfield 22, 3) := by decide +kernel
theorem dX0_init_36 : decode cX0_init 36 = .ok (.return_, 1) := by decide +kernel
set_option maxRecDepth 20000 in
theorem ggX0_sumOfPower_X1_cosine : GoodIn wsX0_sumOfPower wsX1_cosine := goodIn_r _ [8, 9, 10, 7, 11, 12, 13, 14, 15, 16, 17, 18, 19, 20, 21, 22, 23, 24, 25, 26, 27, 28] (by decide +kernel) (by decide +kernel)
set_option maxRecDepth 20000 in
theorem gX0_sumOfPower_X1_cosine_n29 : GoodIn wsX0_sumOfPower (wsX1_cosine) := ggX0_sumOfPower_X1_cosine
theorem dX0_sumOfPower_0 : decode cX0_sumOfPower 0 = .ok (.dconst 0, 1) := by decide +kernel
theorem dX0_sumOfPower_1 : decode cX0_sumOfPower 1 = .ok (.dstore 4, 2) := by decide +kernel
theorem dX0_sumOfPower_3 : decode cX0_sumOfPower 3 = .ok (.iconst 0, 1) := by decide +kernel
theorem dX0_sumOfPower_4 : decode cX0_sumOfPower 4 = .ok (.istore 6, 2) := by decide +kernel
theorem dX0_sumOfPower_6 : decode cX0_sumOfPower 6 = .ok (.iload 6, 2) := by decide +kernel
theorem dX0_sumOfPower_8 : decode cX0_sumOfPower 8 = .ok (.aload_n 0, 1) := by decide +kernel
theorem dX0_sumOfPower_9 : decode cX0_sumOfPower 9 = .ok (.getfield 25, 3) := by decide +kernel
theorem dX0_sumOfPower_12 : decode cX0_sumOfPower 12 = .ok (.if_icmp .ge 60, 3) := by decide +kernel
theorem dX0_sumOfPower_15 : decode cX0_sumOfPower 15 = .ok (.iload 6, 2) := by decide +kernel
theorem dX0_sumOfPower_17 : decode cX0_sumOfPower 17 = .ok (.bipush 12, 2) := by decide +kernel
theorem dX0_sumOfPower_19 : decode cX0_sumOfPower 19 = .ok (.if_icmp .ge 53, 3) := by decide +kernel
theorem dX0_sumOfPower_22 : decode cX0_sumOfPower 22 = .ok (.aload_n 0, 1) := by decide +kernel
theorem dX0_sumOfPower_23 : decode cX0_sumOfPower 23 = .ok (.getfield 9, 3) := by decide +kernel
theorem dX0_sumOfPower_26 : decode cX0_sumOfPower 26 = .ok (.iload 6, 2) := by decide +kernel
theorem dX0_sumOfPower_28 : decode cX0_sumOfPower 28 = .ok (.iaload, 1) := by decide +kernel
theorem dX0_sumOfPower_29 : decode cX0_sumOfPower 29 = .ok (.iload_n 1, 1) := by decide +kernel
theorem dX0_sumOfPower_30 : decode cX0_sumOfPower 30 = .ok (.if_icmp .ne 36, 3) := by decide +kernel
theorem dX0_sumOfPower_33 : decode cX0_sumOfPower 33 = .ok (.dload 4, 2) := by decide +kernel
theorem dX0_sumOfPower_35 : decode cX0_sumOfPower 35 = .ok (.aload_n 0, 1) := by decide +kernel
theorem dX0_sumOfPower_36 : decode cX0_sumOfPower 36 = .ok (.getfield 15, 3) := by decide +kernel
theorem dX0_sumOfPower_39 : decode cX0_sumOfPower 39 = .ok (.iload 6, 2) := by decide +kernel
theorem dX0_sumOfPower_41 : decode cX0_sumOfPower 41 = .ok (.daload, 1) := by decide +kernel
theorem dX0_sumOfPower_42 : decode cX0_sumOfPower 42 = .ok (.aload_n 0, 1) := by decide +kernel
theorem dX0_sumOfPower_43 : decode cX0_sumOfPower 43 = .ok (.getfield 19, 3) := by decide +kernel
theorem dX0_sumOfPower_46 : decode cX0_sumOfPower 46 = .ok (.iload 6, 2) := by decide +kernel
theorem dX0_sumOfPower_48 : decode cX0_sumOfPower 48 = .ok (.daload, 1) := by decide +kernel
theorem dX0_sumOfPower_49 : decode cX0_sumOfPower 49 = .ok (.aload_n 0, 1) := by decide +kernel
theorem dX0_sumOfPower_50 : decode cX0_sumOfPower 50 = .ok (.getfield 22, 3) := by decide +kernel
theorem dX0_sumOfPower_53 : decode cX0_sumOfPower 53 = .ok (.iload 6, 2) := by decide +kernel
theorem dX0_sumOfPower_55 : decode cX0_sumOfPower 55 = .ok (.daload, 1) := by decide +kernel
theorem dX0_sumOfPower_56 : decode cX0_sumOfPower 56 = .ok (.dload_n 2, 1) := by decide +kernel
theorem dX0_sumOfPower_57 : decode cX0_sumOfPower 57 = .ok (.dmul, 1) := by decide +kernel
theorem dX0_sumOfPower_58 : decode cX0_sumOfPower 58 = .ok (.dadd, 1) := by decide +kernel
theorem dX0_sumOfPower_59 : decode cX0_sumOfPower 59 = .ok (.invokestatic 29, 3) := by decide +kernel
theorem dX0_sumOfPower_62 : decode cX0_sumOfPower 62 = .ok (.dmul, 1) := by decide +kernel
theorem dX0_sumOfPower_63 : decode cX0_sumOfPower 63 = .ok (.dadd, 1) := by decide +kernel
theorem dX0_sumOfPower_64 : decode cX0_sumOfPower 64 = .ok (.dstore 4, 2) := by decide +kernel
theorem dX0_sumOfPower_66 : decode cX0_sumOfPower 66 = .ok (.iinc 6 1, 3) := by decide +kernel
theorem dX0_sumOfPower_69 : decode cX0_sumOfPower 69 = .ok (.goto (-63), 3) := by decide +kernel
theorem dX0_sumOfPower_72 : decode cX0_sumOfPower 72 = .ok (.dload 4, 2) := by decide +kernel
theorem dX0_sumOfPower_74 : decode cX0_sumOfPower 74 = .ok (.dreturn, 1) := by decide +kernel
set_option maxRecDepth 20000 in
theorem ggX1_init_X0_init : GoodIn wsX1_init wsX0_init := goodIn_r _ [16, 17, 2, 3, 18, 19, 20, 21, 22, 23, 31, 32, 33, 34, 35, 36, 37, 38, 39, 40] (by decide +kernel) (by decide +kernel)
set_option maxRecDepth 20000 in
theorem gX1_init_X0_init_n15 : GoodIn wsX1_init (wsX0_init) := ggX1_init_X0_init
theorem dX1_init_0 : decode cX1_init 0 = .ok (.aload_n 0, 1) := by decide +kernel
theorem dX1_init_1 : decode cX1_init 1 = .ok (.invokespecial 1, 3) := by decide +kernel
theorem dX1_init_4 : decode cX1_init 4 = .ok (.aload_n 0, 1) := by decide +kernel
theorem dX1_init_5 : decode cX1_init 5 = .ok (.iconst 4, 1) := by decide +kernel
theorem dX1_init_6 : decode cX1_init 6 = .ok (.anewarray 9, 3) := by decide +kernel
theorem dX1_init_9 : decode cX1_init 9 = .ok (.putfield 11, 3) := by decide +kernel
theorem dX1_init_12 : decode cX1_init 12 = .ok (.iconst 0, 1) := by decide +kernel
theorem dX1_init_13 : decode cX1_init 13 = .ok (.istore_n 1, 1) := by decide +kernel
theorem dX1_init_14 : decode cX1_init 14 = .ok (.iload_n 1, 1) := by decide +kernel
theorem dX1_init_15 : decode cX1_init 15 = .ok (.iconst 4, 1) := by decide +kernel
theorem dX1_init_16 : decode cX1_init 16 = .ok (.if_icmp .ge 22, 3) := by decide +kernel
theorem dX1_init_19 : decode cX1_init 19 = .ok (.aload_n 0, 1) := by decide +kernel
theorem dX1_init_20 : decode cX1_init 20 = .ok (.getfield 11, 3) := by decide +kernel
theorem dX1_init_23 : decode cX1_init 23 = .ok (.iload_n 1, 1) := by decide +kernel
theorem dX1_init_24 : decode cX1_init 24 = .ok (.new 9, 3) := by decide +kernel
theorem dX1_init_27 : decode cX1_init 27 = .ok (.dup, 1) := by decide +kernel
theorem dX1_init_28 : decode cX1_init 28 = .ok (.invokespecial 15, 3) := by decide +kernel
theorem dX1_init_31 : decode cX1_init 31 = .ok (.aastore, 1) := by decide +kernel
theorem dX1_init_32 : decode cX1_init 32 = .ok (.iinc 1 1, 3) := by decide +kernel
theorem dX1_init_35 : decode cX1_init 35 = .ok (.goto (-21), 3) := by decide +kernel
theorem dX1_init_38 : decode cX1_init 38 = .ok (.aload_n 0, 1) := by decide +kernel
theorem dX1_init_39 : decode cX1_init 39 = .ok (.bipush 24, 2) := by decide +kernel
theorem dX1_init_41 : decode cX1_init 41 = .ok (.newarray .char, 2) := by decide +kernel
theorem dX1_init_43 : decode cX1_init 43 = .ok (.putfield 16, 3) := by decide +kernel
theorem dX1_init_46 : decode cX1_init 46 = .ok (.aload_n 0, 1) := by decide +kernel
theorem dX1_init_47 : decode cX1_init 47 = .ok (.iconst 0, 1) := by decide +kernel
theorem dX1_init_48 : decode cX1_init 48 = .ok (.putfield 20, 3) := by decide +kernel
theorem dX1_init_51 : decode cX1_init 51 = .ok (.aload_n 0, 1) := by decide +kernel
theorem dX1_init_52 : decode cX1_init 52 = .ok (.dconst 0, 1) := by decide +kernel
theorem dX1_init_53 : decode cX1_init 53 = .ok (.putfield 24, 3) := by decide +kernel
theorem dX1_init_56 : decode cX1_init 56 = .ok (.aload_n 0, 1) := by decide +kernel
theorem dX1_init_57 : decode cX1_init 57 = .ok (.dconst 0, 1) := by decide +kernel
theorem dX1_init_58 : decode cX1_init 58 = .ok (.putfield 28, 3) := by decide +kernel
theorem dX1_init_61 : decode cX1_init 61 = .ok (.aload_n 0, 1) := by decide +kernel
theorem dX1_init_62 : decode cX1_init 62 = .ok (.iconst 0, 1) := by decide +kernel
theorem dX1_init_63 : decode cX1_init 63 = .ok (.putfield 31, 3) := by decide +kernel
theorem dX1_init_66 : decode cX1_init 66 = .ok (.aload_n 0, 1) := by decide +kernel
theorem dX1_init_67 : decode cX1_init 67 = .ok (.iconst 0, 1) := by decide +kernel
theorem dX1_init_68 : decode cX1_init 68 = .ok (.putfield 34, 3) := by decide +kernel
theorem dX1_init_71 : decode cX1_init 71 = .ok (.return_, 1) := by decide +kernel
set_option maxRecDepth 20000 in
theorem ggX1_day_X1_isWholeWithin : GoodIn wsX1_day wsX1_isWholeWithin := goodIn_r _ [12] (by decide +kernel) (by decide +kernel)
set_option maxRecDepth 20000 in
theorem gX1_day_X1_isWholeWithin : GoodIn wsX1_day (va_wsS RX1 39 yX1_isWholeWithin wsX1_isWholeWithin) := goodIn_app (goodIn_of _ (by decide +kernel)) ggX1_day_X1_isWholeWithin
set_option maxRecDepth 20000 in
theorem ggX1_day_X1_monthLength : GoodIn wsX1_day wsX1_monthLength := goodIn_r _ [15, 16, 17, 18, 11, 19] (by decide +kernel) (by decide +kernel)
set_option maxRecDepth 20000 in
theorem gX1_day_X1_monthLength : GoodIn wsX1_day (va_wsS RX1 60 yX1_monthLength wsX1_monthLength) := goodIn_app (goodIn_of _ (by decide +kernel)) ggX1_day_X1_monthLength
set_option maxRecDepth 20000 in
theorem ggX1_day_X1_firstDayOfYear : GoodIn wsX1_day wsX1_firstDayOfYear := goodIn_r _ [22, 23, 24, 25, 26, 27, 28, 29] (by decide +kernel) (by decide +kernel)
set_option maxRecDepth 20000 in
theorem gX1_day_X1_firstDayOfYear : GoodIn wsX1_day (va_wsS RX1 66 yX1_firstDayOfYear wsX1_firstDayOfYear) := goodIn_app (goodIn_of _ (by decide +kernel)) ggX1_day_X1_firstDayOfYear
set_option maxRecDepth 20000 in
theorem ggX1_day_X1_daysBeforeMonth : GoodIn wsX1_day wsX1_daysBeforeMonth := goodIn_r _ [32, 16, 13, 14, 11, 15, 17, 18, 19] (by decide +kernel) (by decide +kernel)
set_option maxRecDepth 20000 in
theorem gX1_day_X1_daysBeforeMonth : GoodIn wsX1_day (va_wsS RX1 70 yX1_daysBeforeMonth wsX1_daysBeforeMonth) := goodIn_app (goodIn_of _ (by decide +kernel)) ggX1_day_X1_daysBeforeMonth
theorem dX1_day_0 : decode cX1_day 0 = .ok (.iload_n 1, 1) := by decide +kernel
theorem dX1_day_1 : decode cX1_day 1 = .ok (.i2l, 1) := by decide +kernel
theorem dX1_day_2 : decode cX1_day 2 = .ok (.lconst 0, 1) := by decide +kernel
theorem dX1_day_3 : decode cX1_day 3 = .ok (.ldc2_w 37, 3) := by decide +kernel
theorem dX1_day_6 : decode cX1_day 6 = .ok (.invokestatic 39, 3) := by decide +kernel
theorem dX1_day_9 : decode cX1_day 9 = .ok (.ifCond .ne 13, 3) := by decide +kernel
theorem dX1_day_12 : decode cX1_day 12 = .ok (.new 43, 3) := by decide +kernel
theorem dX1_day_15 : decode cX1_day 15 = .ok (.dup, 1) := by decide +kernel
theorem dX1_day_16 : decode cX1_day 16 = .ok (.ldc 45, 2) := by decide +kernel
theorem dX1_day_18 : decode cX1_day 18 = .ok (.invokespecial 47, 3) := by decide +kernel
theorem dX1_day_21 : decode cX1_day 21 = .ok (.athrow, 1) := by decide +kernel
theorem dX1_day_22 : decode cX1_day 22 = .ok (.iload_n 2, 1) := by decide +kernel
theorem dX1_day_23 : decode cX1_day 23 = .ok (.i2l, 1) := by decide +kernel
theorem dX1_day_24 : decode cX1_day 24 = .ok (.ldc2_w 50, 3) := by decide +kernel
theorem dX1_day_27 : decode cX1_day 27 = .ok (.ldc2_w 52, 3) := by decide +kernel
theorem dX1_day_30 : decode cX1_day 30 = .ok (.invokestatic 39, 3) := by decide +kernel
theorem dX1_day_33 : decode cX1_day 33 = .ok (.ifCond .ne 13, 3) := by decide +kernel
theorem dX1_day_36 : decode cX1_day 36 = .ok (.new 43, 3) := by decide +kernel
theorem dX1_day_39 : decode cX1_day 39 = .ok (.dup, 1) := by decide +kernel
theorem dX1_day_40 : decode cX1_day 40 = .ok (.ldc 54, 2) := by decide +kernel
theorem dX1_day_42 : decode cX1_day 42 = .ok (.invokespecial 47, 3) := by decide +kernel
theorem dX1_day_45 : decode cX1_day 45 = .ok (.athrow, 1) := by decide +kernel
theorem dX1_day_46 : decode cX1_day 46 = .ok (.iload_n 1, 1) := by decide +kernel
theorem dX1_day_47 : decode cX1_day 47 = .ok (.istore 5, 2) := by decide +kernel
theorem dX1_day_49 : decode cX1_day 49 = .ok (.iload_n 1, 1) := by decide +kernel
theorem dX1_day_50 : decode cX1_day 50 = .ok (.iconst 2, 1) := by decide +kernel
theorem dX1_day_51 : decode cX1_day 51 = .ok (.if_icmp .ne 38, 3) := by decide +kernel
theorem dX1_day_54 : decode cX1_day 54 = .ok (.iload_n 2, 1) := by decide +kernel
theorem dX1_day_55 : decode cX1_day 55 = .ok (.i2l, 1) := by decide +kernel
theorem dX1_day_56 : decode cX1_day 56 = .ok (.ldc2_w 56, 3) := by decide +kernel
theorem dX1_day_59 : decode cX1_day 59 = .ok (.lmul, 1) := by decide +kernel
theorem dX1_day_60 : decode cX1_day 60 = .ok (.iload_n 3, 1) := by decide +kernel
theorem dX1_day_61 : decode cX1_day 61 = .ok (.i2l, 1) := by decide +kernel
theorem dX1_day_62 : decode cX1_day 62 = .ok (.ladd, 1) := by decide +kernel
theorem dX1_day_63 : decode cX1_day 63 = .ok (.ldc2_w 56, 3) := by decide +kernel
theorem dX1_day_66 : decode cX1_day 66 = .ok (.lmul, 1) := by decide +kernel
theorem dX1_day_67 : decode cX1_day 67 = .ok (.iload 4, 2) := by decide +kernel
theorem dX1_day_69 : decode cX1_day 69 = .ok (.i2l, 1) := by decide +kernel
theorem dX1_day_70 : decode cX1_day 70 = .ok (.ladd, 1) := by decide +kernel
theorem dX1_day_71 : decode cX1_day 71 = .ok (.lstore 6, 2) := by decide +kernel
theorem dX1_day_73 : decode cX1_day 73 = .ok (.lload 6, 2) := by decide +kernel
theorem dX1_day_75 : decode cX1_day 75 = .ok (.ldc2_w 58, 3) := by decide +kernel
theorem dX1_day_78 : decode cX1_day 78 = .ok (.lcmp, 1) := by decide +kernel
theorem dX1_day_79 : decode cX1_day 79 = .ok (.ifCond .gt 7, 3) := by decide +kernel
theorem dX1_day_82 : decode cX1_day 82 = .ok (.iconst 0, 1) := by decide +kernel
theorem dX1_day_83 : decode cX1_day 83 = .ok (.goto 4, 3) := by decide +kernel
theorem dX1_day_86 : decode cX1_day 86 = .ok (.iconst 1, 1) := by decide +kernel
theorem dX1_day_87 : decode cX1_day 87 = .ok (.istore 5, 2) := by decide +kernel
theorem dX1_day_89 : decode cX1_day 89 = .ok (.iload 4, 2) := by decide +kernel
theorem dX1_day_91 : decode cX1_day 91 = .ok (.i2l, 1) := by decide +kernel
theorem dX1_day_92 : decode cX1_day 92 = .ok (.lconst 1, 1) := by decide +kernel
theorem dX1_day_93 : decode cX1_day 93 = .ok (.iload 5, 2) := by decide +kernel
theorem dX1_day_95 : decode cX1_day 95 = .ok (.iload_n 2, 1) := by decide +kernel
theorem dX1_day_96 : decode cX1_day 96 = .ok (.iload_n 3, 1) := by decide +kernel
theorem dX1_day_97 : decode cX1_day 97 = .ok (.invokestatic 60, 3) := by decide +kernel
theorem dX1_day_100 : decode cX1_day 100 = .ok (.i2l, 1) := by decide +kernel
theorem dX1_day_101 : decode cX1_day 101 = .ok (.invokestatic 39, 3) := by decide +kernel
theorem dX1_day_104 : decode cX1_day 104 = .ok (.ifCond .ne 13, 3) := by decide +kernel
theorem dX1_day_107 : decode cX1_day 107 = .ok (.new 43, 3) := by decide +kernel
theorem dX1_day_110 : decode cX1_day 110 = .ok (.dup, 1) := by decide +kernel
theorem dX1_day_111 : decode cX1_day 111 = .ok (.ldc 64, 2) := by decide +kernel
theorem dX1_day_113 : decode cX1_day 113 = .ok (.invokespecial 47, 3) := by decide +kernel
theorem dX1_day_116 : decode cX1_day 116 = .ok (.athrow, 1) := by decide +kernel
theorem dX1_day_117 : decode cX1_day 117 = .ok (.iload 5, 2) := by decide +kernel
theorem dX1_day_119 : decode cX1_day 119 = .ok (.iload_n 2, 1) := by decide +kernel
theorem dX1_day_120 : decode cX1_day 120 = .ok (.invokestatic 66, 3) := by decide +kernel
theorem dX1_day_123 : decode cX1_day 123 = .ok (.iload 5, 2) := by decide +kernel
theorem dX1_day_125 : decode cX1_day 125 = .ok (.iload_n 2, 1) := by decide +kernel
theorem dX1_day_126 : decode cX1_day 126 = .ok (.iload_n 3, 1) := by decide +kernel
theorem dX1_day_127 : decode cX1_day 127 = .ok (.invokestatic 70, 3) := by decide +kernel
theorem dX1_day_130 : decode cX1_day 130 = .ok (.i2l, 1) := by decide +kernel
theorem dX1_day_131 : decode cX1_day 131 = .ok (.ladd, 1) := by decide +kernel
theorem dX1_day_132 : decode cX1_day 132 = .ok (.iload 4, 2) := by decide +kernel
theorem dX1_day_134 : decode cX1_day 134 = .ok (.i2l, 1) := by decide +kernel
theorem dX1_day_135 : decode cX1_day 135 = .ok (.ladd, 1) := by decide +kernel
theorem dX1_day_136 : decode cX1_day 136 = .ok (.lconst 1, 1) := by decide +kernel
theorem dX1_day_137 : decode cX1_day 137 = .ok (.lsub, 1) := by decide +kernel
theorem dX1_day_138 : decode cX1_day 138 = .ok (.lstore 6, 2) := by decide +kernel
theorem dX1_day_140 : decode cX1_day 140 = .ok (.iload_n 1, 1) := by decide +kernel
theorem dX1_day_141 : decode cX1_day 141 = .ok (.iconst 2, 1) := by decide +kernel
theorem dX1_day_142 : decode cX1_day 142 = .ok (.if_icmp .ne 28, 3) := by decide +kernel
theorem dX1_day_145 : decode cX1_day 145 = .ok (.iload 5, 2) := by decide +kernel
theorem dX1_day_147 : decode cX1_day 147 = .ok (.iconst 1, 1) := by decide +kernel
theorem dX1_day_148 : decode cX1_day 148 = .ok (.if_icmp .ne 22, 3) := by decide +kernel
theorem dX1_day_151 : decode cX1_day 151 = .ok (.lload 6, 2) := by decide +kernel
theorem dX1_day_153 : decode cX1_day 153 = .ok (.ldc2_w 73, 3) := by decide +kernel
theorem dX1_day_156 : decode cX1_day 156 = .ok (.lcmp, 1) := by decide +kernel
theorem dX1_day_157 : decode cX1_day 157 = .ok (.ifCond .gt 13, 3) := by decide +kernel
theorem dX1_day_160 : decode cX1_day 160 = .ok (.new 43, 3) := by decide +kernel
theorem dX1_day_163 : decode cX1_day 163 = .ok (.dup, 1) := by decide +kernel
theorem dX1_day_164 : decode cX1_day 164 = .ok (.ldc 75, 2) := by decide +kernel
theorem dX1_day_166 : decode cX1_day 166 = .ok (.invokespecial 47, 3) := by decide +kernel
theorem dX1_day_169 : decode cX1_day 169 = .ok (.athrow, 1) := by decide +kernel
theorem dX1_day_170 : decode cX1_day 170 = .ok (.lload 6, 2) := by decide +kernel
theorem dX1_day_172 : decode cX1_day 172 = .ok (.lreturn, 1) := by decide +kernel
set_option maxRecDepth 20000 in
theorem ggX1_date_X1_isWholeWithin : GoodIn wsX1_date wsX1_isWholeWithin := goodIn_r _ [13] (by decide +kernel) (by decide +kernel)
set_option maxRecDepth 20000 in
theorem gX1_date_X1_isWholeWithin : GoodIn wsX1_date (va_wsS RX1 39 yX1_isWholeWithin wsX1_isWholeWithin) := goodIn_app (goodIn_of _ (by decide +kernel)) ggX1_date_X1_isWholeWithin
set_option maxRecDepth 20000 in
theorem ggX1_date_X1_yearOfDay : GoodIn wsX1_date wsX1_yearOfDay := goodIn_r _ [16, 17, 18, 19, 20, 21, 12, 22, 23, 24, 25, 26, 27, 28, 29, 30, 31, 32] (by decide +kernel) (by decide +kernel)
set_option maxRecDepth 20000 in
theorem gX1_date_X1_yearOfDay : GoodIn wsX1_date (va_wsS RX1 87 yX1_yearOfDay wsX1_yearOfDay) := goodIn_app (goodIn_of _ (by decide +kernel)) ggX1_date_X1_yearOfDay
set_option maxRecDepth 20000 in
theorem ggX1_date_X1_firstDayOfYear : GoodIn wsX1_date wsX1_firstDayOfYear := goodIn_r _ [22, 23, 24, 25, 26, 27, 28, 29] (by decide +kernel) (by decide +kernel)
set_option maxRecDepth 20000 in
theorem gX1_date_X1_firstDayOfYear : GoodIn wsX1_date (va_wsS RX1 66 yX1_firstDayOfYear wsX1_firstDayOfYear) := goodIn_app (goodIn_of _ (by decide +kernel)) ggX1_date_X1_firstDayOfYear
set_option maxRecDepth 20000 in
theorem ggX1_date_X1_monthOfDayWithinYear : GoodIn wsX1_date wsX1_monthOfDayWithinYear := goodIn_r _ [35, 36, 37, 38, 12, 39, 40, 41, 42, 43, 44, 45] (by decide +kernel) (by decide +kernel)
set_option maxRecDepth 20000 in
theorem gX1_date_X1_monthOfDayWithinYear : GoodIn wsX1_date (va_wsS RX1 93 yX1_monthOfDayWithinYear wsX1_monthOfDayWithinYear) := goodIn_app (goodIn_of _ (by decide +kernel)) ggX1_date_X1_monthOfDayWithinYear
set_option maxRecDepth 20000 in
theorem ggX1_date_X1_daysBeforeMonth : GoodIn wsX1_date wsX1_daysBeforeMonth := goodIn_r _ [39, 36, 40, 41, 12, 42, 43, 44, 45] (by decide +kernel) (by decide +kernel)
set_option maxRecDepth 20000 in
theorem gX1_date_X1_daysBeforeMonth : GoodIn wsX1_date (va_wsS RX1 70 yX1_daysBeforeMonth wsX1_daysBeforeMonth) := goodIn_app (goodIn_of _ (by decide +kernel)) ggX1_date_X1_daysBeforeMonth
theorem dX1_date_0 : decode cX1_date 0 = .ok (.iload_n 1, 1) := by decide +kernel
theorem dX1_date_1 : decode cX1_date 1 = .ok (.i2l, 1) := by decide +kernel
theorem dX1_date_2 : decode cX1_date 2 = .ok (.lconst 0, 1) := by decide +kernel
theorem dX1_date_3 : decode cX1_date 3 = .ok (.ldc2_w 37, 3) := by decide +kernel
theorem dX1_date_6 : decode cX1_date 6 = .ok (.invokestatic 39, 3) := by decide +kernel
theorem dX1_date_9 : decode cX1_date 9 = .ok (.ifCond .ne 13, 3) := by decide +kernel
theorem dX1_date_12 : decode cX1_date 12 = .ok (.new 43, 3) := by decide +kernel
theorem dX1_date_15 : decode cX1_date 15 = .ok (.dup, 1) := by decide +kernel
theorem dX1_date_16 : decode cX1_date 16 = .ok (.ldc 45, 2) := by decide +kernel
theorem dX1_date_18 : decode cX1_date 18 = .ok (.invokespecial 47, 3) := by decide +kernel
theorem dX1_date_21 : decode cX1_date 21 = .ok (.athrow, 1) := by decide +kernel
theorem dX1_date_22 : decode cX1_date 22 = .ok (.lload_n 2, 1) := by decide +kernel
theorem dX1_date_23 : decode cX1_date 23 = .ok (.ldc2_w 77, 3) := by decide +kernel
theorem dX1_date_26 : decode cX1_date 26 = .ok (.ldc2_w 79, 3) := by decide +kernel
theorem dX1_date_29 : decode cX1_date 29 = .ok (.invokestatic 39, 3) := by decide +kernel
theorem dX1_date_32 : decode cX1_date 32 = .ok (.ifCond .ne 13, 3) := by decide +kernel
theorem dX1_date_35 : decode cX1_date 35 = .ok (.new 43, 3) := by decide +kernel
theorem dX1_date_38 : decode cX1_date 38 = .ok (.dup, 1) := by decide +kernel
theorem dX1_date_39 : decode cX1_date 39 = .ok (.ldc 81, 2) := by decide +kernel
theorem dX1_date_41 : decode cX1_date 41 = .ok (.invokespecial 47, 3) := by decide +kernel
theorem dX1_date_44 : decode cX1_date 44 = .ok (.athrow, 1) := by decide +kernel
theorem dX1_date_45 : decode cX1_date 45 = .ok (.iload 4, 2) := by decide +kernel
theorem dX1_date_47 : decode cX1_date 47 = .ok (.i2l, 1) := by decide +kernel
theorem dX1_date_48 : decode cX1_date 48 = .ok (.lconst 0, 1) := by decide +kernel
theorem dX1_date_49 : decode cX1_date 49 = .ok (.ldc2_w 83, 3) := by decide +kernel
theorem dX1_date_52 : decode cX1_date 52 = .ok (.invokestatic 39, 3) := by decide +kernel
theorem dX1_date_55 : decode cX1_date 55 = .ok (.ifCond .ne 13, 3) := by decide +kernel
theorem dX1_date_58 : decode cX1_date 58 = .ok (.new 43, 3) := by decide +kernel
theorem dX1_date_61 : decode cX1_date 61 = .ok (.dup, 1) := by decide +kernel
theorem dX1_date_62 : decode cX1_date 62 = .ok (.ldc 85, 2) := by decide +kernel
theorem dX1_date_64 : decode cX1_date 64 = .ok (.invokespecial 47, 3) := by decide +kernel
theorem dX1_date_67 : decode cX1_date 67 = .ok (.athrow, 1) := by decide +kernel
theorem dX1_date_68 : decode cX1_date 68 = .ok (.iload_n 1, 1) := by decide +kernel
theorem dX1_date_69 : decode cX1_date 69 = .ok (.istore 5, 2) := by decide +kernel
theorem dX1_date_71 : decode cX1_date 71 = .ok (.iload_n 1, 1) := by decide +kernel
theorem dX1_date_72 : decode cX1_date 72 = .ok (.iconst 2, 1) := by decide +kernel
theorem dX1_date_73 : decode cX1_date 73 = .ok (.if_icmp .ne 18, 3) := by decide +kernel
theorem dX1_date_76 : decode cX1_date 76 = .ok (.lload_n 2, 1) := by decide +kernel
theorem dX1_date_77 : decode cX1_date 77 = .ok (.ldc2_w 73, 3) := by decide +kernel
theorem dX1_date_80 : decode cX1_date 80 = .ok (.lcmp, 1) := by decide +kernel
theorem dX1_date_81 : decode cX1_date 81 = .ok (.ifCond .gt 7, 3) := by decide +kernel
theorem dX1_date_84 : decode cX1_date 84 = .ok (.iconst 0, 1) := by decide +kernel
theorem dX1_date_85 : decode cX1_date 85 = .ok (.goto 4, 3) := by decide +kernel
theorem dX1_date_88 : decode cX1_date 88 = .ok (.iconst 1, 1) := by decide +kernel
theorem dX1_date_89 : decode cX1_date 89 = .ok (.istore 5, 2) := by decide +kernel
theorem dX1_date_91 : decode cX1_date 91 = .ok (.iload 5, 2) := by decide +kernel
theorem dX1_date_93 : decode cX1_date 93 = .ok (.lload_n 2, 1) := by decide +kernel
theorem dX1_date_94 : decode cX1_date 94 = .ok (.invokestatic 87, 3) := by decide +kernel
theorem dX1_date_97 : decode cX1_date 97 = .ok (.istore 6, 2) := by decide +kernel
theorem dX1_date_99 : decode cX1_date 99 = .ok (.iload 6, 2) := by decide +kernel
theorem dX1_date_101 : decode cX1_date 101 = .ok (.i2l, 1) := by decide +kernel
theorem dX1_date_102 : decode cX1_date 102 = .ok (.ldc2_w 50, 3) := by decide +kernel
theorem dX1_date_105 : decode cX1_date 105 = .ok (.ldc2_w 52, 3) := by decide +kernel
theorem dX1_date_108 : decode cX1_date 108 = .ok (.invokestatic 39, 3) := by decide +kernel
theorem dX1_date_111 : decode cX1_date 111 = .ok (.ifCond .ne 13, 3) := by decide +kernel
theorem dX1_date_114 : decode cX1_date 114 = .ok (.new 43, 3) := by decide +kernel
theorem dX1_date_117 : decode cX1_date 117 = .ok (.dup, 1) := by decide +kernel
theorem dX1_date_118 : decode cX1_date 118 = .ok (.ldc 91, 2) := by decide +kernel
theorem dX1_date_120 : decode cX1_date 120 = .ok (.invokespecial 47, 3) := by decide +kernel
theorem dX1_date_123 : decode cX1_date 123 = .ok (.athrow, 1) := by decide +kernel
theorem dX1_date_124 : decode cX1_date 124 = .ok (.iload 4, 2) := by decide +kernel
theorem dX1_date_126 : decode cX1_date 126 = .ok (.ifCond .ne 6, 3) := by decide +kernel
theorem dX1_date_129 : decode cX1_date 129 = .ok (.iload 6, 2) := by decide +kernel
theorem dX1_date_131 : decode cX1_date 131 = .ok (.ireturn, 1) := by decide +kernel
theorem dX1_date_132 : decode cX1_date 132 = .ok (.lload_n 2, 1) := by decide +kernel
theorem dX1_date_133 : decode cX1_date 133 = .ok (.iload 5, 2) := by decide +kernel
theorem dX1_date_135 : decode cX1_date 135 = .ok (.iload 6, 2) := by decide +kernel
theorem dX1_date_137 : decode cX1_date 137 = .ok (.invokestatic 66, 3) := by decide +kernel
theorem dX1_date_140 : decode cX1_date 140 = .ok (.lsub, 1) := by decide +kernel
theorem dX1_date_141 : decode cX1_date 141 = .ok (.l2i, 1) := by decide +kernel
theorem dX1_date_142 : decode cX1_date 142 = .ok (.iconst 1, 1) := by decide +kernel
theorem dX1_date_143 : decode cX1_date 143 = .ok (.iadd, 1) := by decide +kernel
theorem dX1_date_144 : decode cX1_date 144 = .ok (.istore 7, 2) := by decide +kernel
theorem dX1_date_146 : decode cX1_date 146 = .ok (.iload 4, 2) := by decide +kernel
theorem dX1_date_148 : decode cX1_date 148 = .ok (.iconst 3, 1) := by decide +kernel
theorem dX1_date_149 : decode cX1_date 149 = .ok (.if_icmp .ne 45, 3) := by decide +kernel
theorem dX1_date_152 : decode cX1_date 152 = .ok (.iload_n 1, 1) := by decide +kernel
theorem dX1_date_153 : decode cX1_date 153 = .ok (.iconst 2, 1) := by decide +kernel
theorem dX1_date_154 : decode cX1_date 154 = .ok (.if_icmp .ne 21, 3) := by decide +kernel
theorem dX1_date_157 : decode cX1_date 157 = .ok (.iload 5, 2) := by decide +kernel
theorem dX1_date_159 : decode cX1_date 159 = .ok (.iconst 1, 1) := by decide +kernel
theorem dX1_date_160 : decode cX1_date 160 = .ok (.if_icmp .ne 15, 3) := by decide +kernel
theorem dX1_date_163 : decode cX1_date 163 = .ok (.iload 6, 2) := by decide +kernel
theorem dX1_date_165 : decode cX1_date 165 = .ok (.sipush 1582, 3) := by decide +kernel
theorem dX1_date_168 : decode cX1_date 168 = .ok (.if_icmp .ne 7, 3) := by decide +kernel
theorem dX1_date_171 : decode cX1_date 171 = .ok (.iconst 1, 1) := by decide +kernel
theorem dX1_date_172 : decode cX1_date 172 = .ok (.goto 4, 3) := by decide +kernel
theorem dX1_date_175 : decode cX1_date 175 = .ok (.iconst 0, 1) := by decide +kernel
theorem dX1_date_176 : decode cX1_date 176 = .ok (.istore 8, 2) := by decide +kernel
theorem dX1_date_178 : decode cX1_date 178 = .ok (.iload 8, 2) := by decide +kernel
theorem dX1_date_180 : decode cX1_date 180 = .ok (.ifCond .eq 11, 3) := by decide +kernel
theorem dX1_date_183 : decode cX1_date 183 = .ok (.iload 7, 2) := by decide +kernel
theorem dX1_date_185 : decode cX1_date 185 = .ok (.bipush 10, 2) := by decide +kernel
theorem dX1_date_187 : decode cX1_date 187 = .ok (.isub, 1) := by decide +kernel
theorem dX1_date_188 : decode cX1_date 188 = .ok (.goto 5, 3) := by decide +kernel
theorem dX1_date_191 : decode cX1_date 191 = .ok (.iload 7, 2) := by decide +kernel
theorem dX1_date_193 : decode cX1_date 193 = .ok (.ireturn, 1) := by decide +kernel
theorem dX1_date_194 : decode cX1_date 194 = .ok (.iload 5, 2) := by decide +kernel
theorem dX1_date_196 : decode cX1_date 196 = .ok (.iload 6, 2) := by decide +kernel
theorem dX1_date_198 : decode cX1_date 198 = .ok (.iload 7, 2) := by decide +kernel
theorem dX1_date_200 : decode cX1_date 200 = .ok (.invokestatic 93, 3) := by decide +kernel
theorem dX1_date_203 : decode cX1_date 203 = .ok (.istore 8, 2) := by decide +kernel
theorem dX1_date_205 : decode cX1_date 205 = .ok (.iload 4, 2) := by decide +kernel
theorem dX1_date_207 : decode cX1_date 207 = .ok (.iconst 1, 1) := by decide +kernel
theorem dX1_date_208 : decode cX1_date 208 = .ok (.if_icmp .ne 8, 3) := by decide +kernel
theorem dX1_date_211 : decode cX1_date 211 = .ok (.iload 8, 2) := by decide +kernel
theorem dX1_date_213 : decode cX1_date 213 = .ok (.goto 15, 3) := by decide +kernel
theorem dX1_date_216 : decode cX1_date 216 = .ok (.iload 7, 2) := by decide +kernel
theorem dX1_date_218 : decode cX1_date 218 = .ok (.iload 5, 2) := by decide +kernel
theorem dX1_date_220 : decode cX1_date 220 = .ok (.iload 6, 2) := by decide +kernel
theorem dX1_date_222 : decode cX1_date 222 = .ok (.iload 8, 2) := by decide +kernel
theorem dX1_date_224 : decode cX1_date 224 = .ok (.invokestatic 70, 3) := by decide +kernel
theorem dX1_date_227 : decode cX1_date 227 = .ok (.isub, 1) := by decide +kernel
theorem dX1_date_228 : decode cX1_date 228 = .ok (.ireturn, 1) := by decide +kernel
set_option maxRecDepth 20000 in
theorem ggX1_easter_X1_isWholeWithin : GoodIn wsX1_easter wsX1_isWholeWithin := goodIn_r _ [9] (by decide +kernel) (by decide +kernel)
set_option maxRecDepth 20000 in
theorem gX1_easter_X1_isWholeWithin : GoodIn wsX1_easter (va_wsS RX1 39 yX1_isWholeWithin wsX1_isWholeWithin) := goodIn_app (goodIn_of _ (by decide +kernel)) ggX1_easter_X1_isWholeWithin
set_option maxRecDepth 20000 in
theorem ggX1_easter_J9_floorMod_7cf53 : GoodIn wsX1_easter wsJ9_floorMod_7cf53 := goodIn_r _ [13] (by decide +kernel) (by decide +kernel)
set_option maxRecDepth 20000 in
theorem gX1_easter_J9_floorMod_7cf53 : GoodIn wsX1_easter (va_wsS RX1 102 yJ9_floorMod_7cf53 wsJ9_floorMod_7cf53) := goodIn_app (goodIn_of _ (by decide +kernel)) ggX1_easter_J9_floorMod_7cf53
set_option maxRecDepth 20000 in
theorem ggX1_easter_X1_firstDayOfYear : GoodIn wsX1_easter wsX1_firstDayOfYear := goodIn_r _ [16, 17, 18, 19, 20, 21, 12, 22] (by decide +kernel) (by decide +kernel)
set_option maxRecDepth 20000 in
theorem gX1_easter_X1_firstDayOfYear : GoodIn wsX1_easter (va_wsS RX1 66 yX1_firstDayOfYear wsX1_firstDayOfYear) := goodIn_app (goodIn_of _ (by decide +kernel)) ggX1_easter_X1_firstDayOfYear
set_option maxRecDepth 20000 in
theorem ggX1_easter_X1_daysBeforeMonth : GoodIn wsX1_easter wsX1_daysBeforeMonth := goodIn_r _ [25, 26, 27, 28, 8, 29, 30, 31, 32] (by decide +kernel) (by decide +kernel)
set_option maxRecDepth 20000 in
theorem gX1_easter_X1_daysBeforeMonth : GoodIn wsX1_easter (va_wsS RX1 70 yX1_daysBeforeMonth wsX1_daysBeforeMonth) := goodIn_app (goodIn_of _ (by decide +kernel)) ggX1_easter_X1_daysBeforeMonth
theorem dX1_easter_0 : decode cX1_easter 0 = .ok (.iload_n 1, 1) := by decide +kernel
theorem dX1_easter_1 : decode cX1_easter 1 = .ok (.i2l, 1) := by decide +kernel
theorem dX1_easter_2 : decode cX1_easter 2 = .ok (.ldc2_w 96, 3) := by decide +kernel
theorem dX1_easter_5 : decode cX1_easter 5 = .ok (.ldc2_w 98, 3) := by decide +kernel
theorem dX1_easter_8 : decode cX1_easter 8 = .ok (.invokestatic 39, 3) := by decide +kernel
theorem dX1_easter_11 : decode cX1_easter 11 = .ok (.ifCond .ne 13, 3) := by decide +kernel
theorem dX1_easter_14 : decode cX1_easter 14 = .ok (.new 43, 3) := by decide +kernel
theorem dX1_easter_17 : decode cX1_easter 17 = .ok (.dup, 1) := by decide +kernel
theorem dX1_easter_18 : decode cX1_easter 18 = .ok (.ldc 100, 2) := by decide +kernel
theorem dX1_easter_20 : decode cX1_easter 20 = .ok (.invokespecial 47, 3) := by decide +kernel
theorem dX1_easter_23 : decode cX1_easter 23 = .ok (.athrow, 1) := by decide +kernel
theorem dX1_easter_24 : decode cX1_easter 24 = .ok (.iload_n 1, 1) := by decide +kernel
theorem dX1_easter_25 : decode cX1_easter 25 = .ok (.bipush 19, 2) := by decide +kernel
theorem dX1_easter_27 : decode cX1_easter 27 = .ok (.irem, 1) := by decide +kernel
theorem dX1_easter_28 : decode cX1_easter 28 = .ok (.istore_n 2, 1) := by decide +kernel
theorem dX1_easter_29 : decode cX1_easter 29 = .ok (.iload_n 1, 1) := by decide +kernel
theorem dX1_easter_30 : decode cX1_easter 30 = .ok (.bipush 100, 2) := by decide +kernel
theorem dX1_easter_32 : decode cX1_easter 32 = .ok (.idiv, 1) := by decide +kernel
theorem dX1_easter_33 : decode cX1_easter 33 = .ok (.istore_n 3, 1) := by decide +kernel
theorem dX1_easter_34 : decode cX1_easter 34 = .ok (.iload_n 3, 1) := by decide +kernel
theorem dX1_easter_35 : decode cX1_easter 35 = .ok (.iload_n 3, 1) := by decide +kernel
theorem dX1_easter_36 : decode cX1_easter 36 = .ok (.iconst 4, 1) := by decide +kernel
theorem dX1_easter_37 : decode cX1_easter 37 = .ok (.idiv, 1) := by decide +kernel
theorem dX1_easter_38 : decode cX1_easter 38 = .ok (.isub, 1) := by decide +kernel
theorem dX1_easter_39 : decode cX1_easter 39 = .ok (.bipush 8, 2) := by decide +kernel
theorem dX1_easter_41 : decode cX1_easter 41 = .ok (.iload_n 3, 1) := by decide +kernel
theorem dX1_easter_42 : decode cX1_easter 42 = .ok (.imul, 1) := by decide +kernel
theorem dX1_easter_43 : decode cX1_easter 43 = .ok (.bipush 13, 2) := by decide +kernel
theorem dX1_easter_45 : decode cX1_easter 45 = .ok (.iadd, 1) := by decide +kernel
theorem dX1_easter_46 : decode cX1_easter 46 = .ok (.bipush 25, 2) := by decide +kernel
theorem dX1_easter_48 : decode cX1_easter 48 = .ok (.idiv, 1) := by decide +kernel
theorem dX1_easter_49 : decode cX1_easter 49 = .ok (.isub, 1) := by decide +kernel
theorem dX1_easter_50 : decode cX1_easter 50 = .ok (.bipush 19, 2) := by decide +kernel
theorem dX1_easter_52 : decode cX1_easter 52 = .ok (.iload_n 2, 1) := by decide +kernel
theorem dX1_easter_53 : decode cX1_easter 53 = .ok (.imul, 1) := by decide +kernel
theorem dX1_easter_54 : decode cX1_easter 54 = .ok (.iadd, 1) := by decide +kernel
theorem dX1_easter_55 : decode cX1_easter 55 = .ok (.bipush 15, 2) := by decide +kernel
theorem dX1_easter_57 : decode cX1_easter 57 = .ok (.iadd, 1) := by decide +kernel
theorem dX1_easter_58 : decode cX1_easter 58 = .ok (.bipush 30, 2) := by decide +kernel
theorem dX1_easter_60 : decode cX1_easter 60 = .ok (.invokestatic 102, 3) := by decide +kernel
theorem dX1_easter_63 : decode cX1_easter 63 = .ok (.istore 4, 2) := by decide +kernel
theorem dX1_easter_65 : decode cX1_easter 65 = .ok (.iload 4, 2) := by decide +kernel
theorem dX1_easter_67 : decode cX1_easter 67 = .ok (.bipush 28, 2) := by decide +kernel
theorem dX1_easter_69 : decode cX1_easter 69 = .ok (.idiv, 1) := by decide +kernel
theorem dX1_easter_70 : decode cX1_easter 70 = .ok (.istore 5, 2) := by decide +kernel
theorem dX1_easter_72 : decode cX1_easter 72 = .ok (.iload 4, 2) := by decide +kernel
theorem dX1_easter_74 : decode cX1_easter 74 = .ok (.iload 5, 2) := by decide +kernel
theorem dX1_easter_76 : decode cX1_easter 76 = .ok (.iconst 1, 1) := by decide +kernel
theorem dX1_easter_77 : decode cX1_easter 77 = .ok (.iload 5, 2) := by decide +kernel
theorem dX1_easter_79 : decode cX1_easter 79 = .ok (.bipush 29, 2) := by decide +kernel
theorem dX1_easter_81 : decode cX1_easter 81 = .ok (.iload 4, 2) := by decide +kernel
theorem dX1_easter_83 : decode cX1_easter 83 = .ok (.iconst 1, 1) := by decide +kernel
theorem dX1_easter_84 : decode cX1_easter 84 = .ok (.iadd, 1) := by decide +kernel
theorem dX1_easter_85 : decode cX1_easter 85 = .ok (.idiv, 1) := by decide +kernel
theorem dX1_easter_86 : decode cX1_easter 86 = .ok (.imul, 1) := by decide +kernel
theorem dX1_easter_87 : decode cX1_easter 87 = .ok (.bipush 21, 2) := by decide +kernel
theorem dX1_easter_89 : decode cX1_easter 89 = .ok (.iload_n 2, 1) := by decide +kernel
theorem dX1_easter_90 : decode cX1_easter 90 = .ok (.isub, 1) := by decide +kernel
theorem dX1_easter_91 : decode cX1_easter 91 = .ok (.bipush 11, 2) := by decide +kernel
theorem dX1_easter_93 : decode cX1_easter 93 = .ok (.idiv, 1) := by decide +kernel
theorem dX1_easter_94 : decode cX1_easter 94 = .ok (.imul, 1) := by decide +kernel
theorem dX1_easter_95 : decode cX1_easter 95 = .ok (.isub, 1) := by decide +kernel
theorem dX1_easter_96 : decode cX1_easter 96 = .ok (.imul, 1) := by decide +kernel
theorem dX1_easter_97 : decode cX1_easter 97 = .ok (.isub, 1) := by decide +kernel
theorem dX1_easter_98 : decode cX1_easter 98 = .ok (.istore 6, 2) := by decide +kernel
theorem dX1_easter_100 : decode cX1_easter 100 = .ok (.iload_n 1, 1) := by decide +kernel
theorem dX1_easter_101 : decode cX1_easter 101 = .ok (.iload_n 1, 1) := by decide +kernel
theorem dX1_easter_102 : decode cX1_easter 102 = .ok (.iconst 4, 1) := by decide +kernel
theorem dX1_easter_103 : decode cX1_easter 103 = .ok (.idiv, 1) := by decide +kernel
theorem dX1_easter_104 : decode cX1_easter 104 = .ok (.iadd, 1) := by decide +kernel
theorem dX1_easter_105 : decode cX1_easter 105 = .ok (.iload 6, 2) := by decide +kernel
theorem dX1_easter_107 : decode cX1_easter 107 = .ok (.iadd, 1) := by decide +kernel
theorem dX1_easter_108 : decode cX1_easter 108 = .ok (.iconst 2, 1) := by decide +kernel
theorem dX1_easter_109 : decode cX1_easter 109 = .ok (.iadd, 1) := by decide +kernel
theorem dX1_easter_110 : decode cX1_easter 110 = .ok (.iload_n 3, 1) := by decide +kernel
theorem dX1_easter_111 : decode cX1_easter 111 = .ok (.isub, 1) := by decide +kernel
theorem dX1_easter_112 : decode cX1_easter 112 = .ok (.iload_n 3, 1) := by decide +kernel
theorem dX1_easter_113 : decode cX1_easter 113 = .ok (.iconst 4, 1) := by decide +kernel
theorem dX1_easter_114 : decode cX1_easter 114 = .ok (.idiv, 1) := by decide +kernel
theorem dX1_easter_115 : decode cX1_easter 115 = .ok (.iadd, 1) := by decide +kernel
theorem dX1_easter_116 : decode cX1_easter 116 = .ok (.bipush 7, 2) := by decide +kernel
theorem dX1_easter_118 : decode cX1_easter 118 = .ok (.invokestatic 102, 3) := by decide +kernel
theorem dX1_easter_121 : decode cX1_easter 121 = .ok (.istore 7, 2) := by decide +kernel
theorem dX1_easter_123 : decode cX1_easter 123 = .ok (.iload 6, 2) := by decide +kernel
theorem dX1_easter_125 : decode cX1_easter 125 = .ok (.iload 7, 2) := by decide +kernel
theorem dX1_easter_127 : decode cX1_easter 127 = .ok (.isub, 1) := by decide +kernel
theorem dX1_easter_128 : decode cX1_easter 128 = .ok (.istore 8, 2) := by decide +kernel
theorem dX1_easter_130 : decode cX1_easter 130 = .ok (.iconst 1, 1) := by decide +kernel
theorem dX1_easter_131 : decode cX1_easter 131 = .ok (.iload_n 1, 1) := by decide +kernel
theorem dX1_easter_132 : decode cX1_easter 132 = .ok (.invokestatic 66, 3) := by decide +kernel
theorem dX1_easter_135 : decode cX1_easter 135 = .ok (.iconst 1, 1) := by decide +kernel
theorem dX1_easter_136 : decode cX1_easter 136 = .ok (.iload_n 1, 1) := by decide +kernel
theorem dX1_easter_137 : decode cX1_easter 137 = .ok (.iconst 3, 1) := by decide +kernel
theorem dX1_easter_138 : decode cX1_easter 138 = .ok (.invokestatic 70, 3) := by decide +kernel
theorem dX1_easter_141 : decode cX1_easter 141 = .ok (.i2l, 1) := by decide +kernel
theorem dX1_easter_142 : decode cX1_easter 142 = .ok (.ladd, 1) := by decide +kernel
theorem dX1_easter_143 : decode cX1_easter 143 = .ok (.lconst 1, 1) := by decide +kernel
theorem dX1_easter_144 : decode cX1_easter 144 = .ok (.lsub, 1) := by decide +kernel
theorem dX1_easter_145 : decode cX1_easter 145 = .ok (.lstore 9, 2) := by decide +kernel
theorem dX1_easter_147 : decode cX1_easter 147 = .ok (.lload 9, 2) := by decide +kernel
theorem dX1_easter_149 : decode cX1_easter 149 = .ok (.ldc2_w 108, 3) := by decide +kernel
theorem dX1_easter_152 : decode cX1_easter 152 = .ok (.ladd, 1) := by decide +kernel
theorem dX1_easter_153 : decode cX1_easter 153 = .ok (.iload 8, 2) := by decide +kernel
theorem dX1_easter_155 : decode cX1_easter 155 = .ok (.i2l, 1) := by decide +kernel
theorem dX1_easter_156 : decode cX1_easter 156 = .ok (.ladd, 1) := by decide +kernel
theorem dX1_easter_157 : decode cX1_easter 157 = .ok (.lreturn, 1) := by decide +kernel
theorem dX1_isLeap_0 : decode cX1_isLeap 0 = .ok (.iload_n 1, 1) := by decide +kernel
theorem dX1_isLeap_1 : decode cX1_isLeap 1 = .ok (.iconst 4, 1) := by decide +kernel
theorem dX1_isLeap_2 : decode cX1_isLeap 2 = .ok (.irem, 1) := by decide +kernel
theorem dX1_isLeap_3 : decode cX1_isLeap 3 = .ok (.ifCond .eq 5, 3) := by decide +kernel
theorem dX1_isLeap_6 : decode cX1_isLeap 6 = .ok (.iconst 0, 1) := by decide +kernel
theorem dX1_isLeap_7 : decode cX1_isLeap 7 = .ok (.ireturn, 1) := by decide +kernel
theorem dX1_isLeap_8 : decode cX1_isLeap 8 = .ok (.iload_n 0, 1) := by decide +kernel
theorem dX1_isLeap_9 : decode cX1_isLeap 9 = .ok (.ifCond .eq 18, 3) := by decide +kernel
theorem dX1_isLeap_12 : decode cX1_isLeap 12 = .ok (.iload_n 1, 1) := by decide +kernel
theorem dX1_isLeap_13 : decode cX1_isLeap 13 = .ok (.bipush 100, 2) := by decide +kernel
theorem dX1_isLeap_15 : decode cX1_isLeap 15 = .ok (.irem, 1) := by decide +kernel
theorem dX1_isLeap_16 : decode cX1_isLeap 16 = .ok (.ifCond .ne 11, 3) := by decide +kernel
theorem dX1_isLeap_19 : decode cX1_isLeap 19 = .ok (.iload_n 1, 1) := by decide +kernel
theorem dX1_isLeap_20 : decode cX1_isLeap 20 = .ok (.sipush 400, 3) := by decide +kernel
theorem dX1_isLeap_23 : decode cX1_isLeap 23 = .ok (.irem, 1) := by decide +kernel
theorem dX1_isLeap_24 : decode cX1_isLeap 24 = .ok (.ifCond .ne 7, 3) := by decide +kernel
theorem dX1_isLeap_27 : decode cX1_isLeap 27 = .ok (.iconst 1, 1) := by decide +kernel
theorem dX1_isLeap_28 : decode cX1_isLeap 28 = .ok (.goto 4, 3) := by decide +kernel
theorem dX1_isLeap_31 : decode cX1_isLeap 31 = .ok (.iconst 0, 1) := by decide +kernel
theorem dX1_isLeap_32 : decode cX1_isLeap 32 = .ok (.ireturn, 1) := by decide +kernel
set_option maxRecDepth 20000 in
theorem ggX1_monthLength_X1_isLeap : GoodIn wsX1_monthLength wsX1_isLeap := goodIn_r _ [5] (by decide +kernel) (by decide +kernel)
set_option maxRecDepth 20000 in
theorem gX1_monthLength_X1_isLeap : GoodIn wsX1_monthLength (va_wsS RX1 114 yX1_isLeap wsX1_isLeap) := goodIn_app (goodIn_of _ (by decide +kernel)) ggX1_monthLength_X1_isLeap
theorem dX1_monthLength_0 : decode cX1_monthLength 0 = .ok (.iload_n 2, 1) := by decide +kernel
theorem dX1_monthLength_1 : decode cX1_monthLength 1 = .ok (.iconst 1, 1) := by decide +kernel
theorem dX1_monthLength_2 : decode cX1_monthLength 2 = .ok (.if_icmp .lt 11, 3) := by decide +kernel
theorem dX1_monthLength_5 : decode cX1_monthLength 5 = .ok (.iload_n 2, 1) := by decide +kernel
theorem dX1_monthLength_6 : decode cX1_monthLength 6 = .ok (.getstatic 110, 3) := by decide +kernel
theorem dX1_monthLength_9 : decode cX1_monthLength 9 = .ok (.arraylength, 1) := by decide +kernel
theorem dX1_monthLength_10 : decode cX1_monthLength 10 = .ok (.if_icmp .le 5, 3) := by decide +kernel
theorem dX1_monthLength_13 : decode cX1_monthLength 13 = .ok (.iconst 0, 1) := by decide +kernel
theorem dX1_monthLength_14 : decode cX1_monthLength 14 = .ok (.ireturn, 1) := by decide +kernel
theorem dX1_monthLength_15 : decode cX1_monthLength 15 = .ok (.getstatic 110, 3) := by decide +kernel
theorem dX1_monthLength_18 : decode cX1_monthLength 18 = .ok (.iload_n 2, 1) := by decide +kernel
theorem dX1_monthLength_19 : decode cX1_monthLength 19 = .ok (.iconst 1, 1) := by decide +kernel
theorem dX1_monthLength_20 : decode cX1_monthLength 20 = .ok (.isub, 1) := by decide +kernel
theorem dX1_monthLength_21 : decode cX1_monthLength 21 = .ok (.iaload, 1) := by decide +kernel
theorem dX1_monthLength_22 : decode cX1_monthLength 22 = .ok (.istore_n 3, 1) := by decide +kernel
theorem dX1_monthLength_23 : decode cX1_monthLength 23 = .ok (.iload_n 2, 1) := by decide +kernel
theorem dX1_monthLength_24 : decode cX1_monthLength 24 = .ok (.iconst 2, 1) := by decide +kernel
theorem dX1_monthLength_25 : decode cX1_monthLength 25 = .ok (.if_icmp .ne 17, 3) := by decide +kernel
theorem dX1_monthLength_28 : decode cX1_monthLength 28 = .ok (.iload_n 0, 1) := by decide +kernel
theorem dX1_monthLength_29 : decode cX1_monthLength 29 = .ok (.iload_n 1, 1) := by decide +kernel
theorem dX1_monthLength_30 : decode cX1_monthLength 30 = .ok (.invokestatic 114, 3) := by decide +kernel
theorem dX1_monthLength_33 : decode cX1_monthLength 33 = .ok (.ifCond .eq 9, 3) := by decide +kernel
theorem dX1_monthLength_36 : decode cX1_monthLength 36 = .ok (.iload_n 3, 1) := by decide +kernel
theorem dX1_monthLength_37 : decode cX1_monthLength 37 = .ok (.iconst 1, 1) := by decide +kernel
theorem dX1_monthLength_38 : decode cX1_monthLength 38 = .ok (.iadd, 1) := by decide +kernel
theorem dX1_monthLength_39 : decode cX1_monthLength 39 = .ok (.goto 4, 3) := by decide +kernel
theorem dX1_monthLength_42 : decode cX1_monthLength 42 = .ok (.iload_n 3, 1) := by decide +kernel
theorem dX1_monthLength_43 : decode cX1_monthLength 43 = .ok (.ireturn, 1) := by decide +kernel
set_option maxRecDepth 20000 in
theorem ggX1_daysBeforeMonth_X1_monthLength : GoodIn wsX1_daysBeforeMonth wsX1_monthLength := goodIn_r _ [5, 1, 6, 7, 4, 8] (by decide +kernel) (by decide +kernel)
set_option maxRecDepth 20000 in
theorem gX1_daysBeforeMonth_X1_monthLength : GoodIn wsX1_daysBeforeMonth (va_wsS RX1 60 yX1_monthLength wsX1_monthLength) := goodIn_app (goodIn_of _ (by decide +kernel)) ggX1_daysBeforeMonth_X1_monthLength
theorem dX1_daysBeforeMonth_0 : decode cX1_daysBeforeMonth 0 = .ok (.iconst 0, 1) := by decide +kernel
theorem dX1_daysBeforeMonth_1 : decode cX1_daysBeforeMonth 1 = .ok (.istore_n 3, 1) := by decide +kernel
theorem dX1_daysBeforeMonth_2 : decode cX1_daysBeforeMonth 2 = .ok (.iconst 1, 1) := by decide +kernel
theorem dX1_daysBeforeMonth_3 : decode cX1_daysBeforeMonth 3 = .ok (.istore 4, 2) := by decide +kernel
theorem dX1_daysBeforeMonth_5 : decode cX1_daysBeforeMonth 5 = .ok (.iload 4, 2) := by decide +kernel
theorem dX1_daysBeforeMonth_7 : decode cX1_daysBeforeMonth 7 = .ok (.iload_n 2, 1) := by decide +kernel
theorem dX1_daysBeforeMonth_8 : decode cX1_daysBeforeMonth 8 = .ok (.if_icmp .ge 28, 3) := by decide +kernel
theorem dX1_daysBeforeMonth_11 : decode cX1_daysBeforeMonth 11 = .ok (.iload 4, 2) := by decide +kernel
theorem dX1_daysBeforeMonth_13 : decode cX1_daysBeforeMonth 13 = .ok (.getstatic 110, 3) := by decide +kernel
theorem dX1_daysBeforeMonth_16 : decode cX1_daysBeforeMonth 16 = .ok (.arraylength, 1) := by decide +kernel
theorem dX1_daysBeforeMonth_17 : decode cX1_daysBeforeMonth 17 = .ok (.if_icmp .gt 19, 3) := by decide +kernel
theorem dX1_daysBeforeMonth_20 : decode cX1_daysBeforeMonth 20 = .ok (.iload_n 3, 1) := by decide +kernel
theorem dX1_daysBeforeMonth_21 : decode cX1_daysBeforeMonth 21 = .ok (.iload_n 0, 1) := by decide +kernel
theorem dX1_daysBeforeMonth_22 : decode cX1_daysBeforeMonth 22 = .ok (.iload_n 1, 1) := by decide +kernel
theorem dX1_daysBeforeMonth_23 : decode cX1_daysBeforeMonth 23 = .ok (.iload 4, 2) := by decide +kernel
theorem dX1_daysBeforeMonth_25 : decode cX1_daysBeforeMonth 25 = .ok (.invokestatic 60, 3) := by decide +kernel
theorem dX1_daysBeforeMonth_28 : decode cX1_daysBeforeMonth 28 = .ok (.iadd, 1) := by decide +kernel
theorem dX1_daysBeforeMonth_29 : decode cX1_daysBeforeMonth 29 = .ok (.istore_n 3, 1) := by decide +kernel
theorem dX1_daysBeforeMonth_30 : decode cX1_daysBeforeMonth 30 = .ok (.iinc 4 1, 3) := by decide +kernel
theorem dX1_daysBeforeMonth_33 : decode cX1_daysBeforeMonth 33 = .ok (.goto (-28), 3) := by decide +kernel
theorem dX1_daysBeforeMonth_36 : decode cX1_daysBeforeMonth 36 = .ok (.iload_n 3, 1) := by decide +kernel
theorem dX1_daysBeforeMonth_37 : decode cX1_daysBeforeMonth 37 = .ok (.ireturn, 1) := by decide +kernel
set_option maxRecDepth 20000 in
theorem ggX1_monthOfDayWithinYear_X1_daysBeforeMonth : GoodIn wsX1_monthOfDayWithinYear wsX1_daysBeforeMonth := goodIn_r _ [5, 1, 6, 7, 4, 8, 9, 10, 11] (by decide +kernel) (by decide +kernel)
set_option maxRecDepth 20000 in
theorem gX1_monthOfDayWithinYear_X1_daysBeforeMonth : GoodIn wsX1_monthOfDayWithinYear (va_wsS RX1 70 yX1_daysBeforeMonth wsX1_daysBeforeMonth) := goodIn_app (goodIn_of _ (by decide +kernel)) ggX1_monthOfDayWithinYear_X1_daysBeforeMonth
theorem dX1_monthOfDayWithinYear_0 : decode cX1_monthOfDayWithinYear 0 = .ok (.getstatic 110, 3) := by decide +kernel
theorem dX1_monthOfDayWithinYear_3 : decode cX1_monthOfDayWithinYear 3 = .ok (.arraylength, 1) := by decide +kernel
theorem dX1_monthOfDayWithinYear_4 : decode cX1_monthOfDayWithinYear 4 = .ok (.istore_n 3, 1) := by decide +kernel
theorem dX1_monthOfDayWithinYear_5 : decode cX1_monthOfDayWithinYear 5 = .ok (.iload_n 3, 1) := by decide +kernel
theorem dX1_monthOfDayWithinYear_6 : decode cX1_monthOfDayWithinYear 6 = .ok (.iconst 1, 1) := by decide +kernel
theorem dX1_monthOfDayWithinYear_7 : decode cX1_monthOfDayWithinYear 7 = .ok (.if_icmp .le 19, 3) := by decide +kernel
theorem dX1_monthOfDayWithinYear_10 : decode cX1_monthOfDayWithinYear 10 = .ok (.iload_n 0, 1) := by decide +kernel
theorem dX1_monthOfDayWithinYear_11 : decode cX1_monthOfDayWithinYear 11 = .ok (.iload_n 1, 1) := by decide +kernel
theorem dX1_monthOfDayWithinYear_12 : decode cX1_monthOfDayWithinYear 12 = .ok (.iload_n 3, 1) := by decide +kernel
theorem dX1_monthOfDayWithinYear_13 : decode cX1_monthOfDayWithinYear 13 = .ok (.invokestatic 70, 3) := by decide +kernel
theorem dX1_monthOfDayWithinYear_16 : decode cX1_monthOfDayWithinYear 16 = .ok (.iload_n 2, 1) := by decide +kernel
theorem dX1_monthOfDayWithinYear_17 : decode cX1_monthOfDayWithinYear 17 = .ok (.if_icmp .lt 9, 3) := by decide +kernel
theorem dX1_monthOfDayWithinYear_20 : decode cX1_monthOfDayWithinYear 20 = .ok (.iinc 3 (-1), 3) := by decide +kernel
theorem dX1_monthOfDayWithinYear_23 : decode cX1_monthOfDayWithinYear 23 = .ok (.goto (-18), 3) := by decide +kernel
theorem dX1_monthOfDayWithinYear_26 : decode cX1_monthOfDayWithinYear 26 = .ok (.iload_n 3, 1) := by decide +kernel
theorem dX1_monthOfDayWithinYear_27 : decode cX1_monthOfDayWithinYear 27 = .ok (.ireturn, 1) := by decide +kernel
set_option maxRecDepth 20000 in
theorem ggX1_firstDayOfYear_J9_floorDiv_7cf53 : GoodIn wsX1_firstDayOfYear wsJ9_floorDiv_7cf53 := goodIn_r _ [7] (by decide +kernel) (by decide +kernel)
set_option maxRecDepth 20000 in
theorem gX1_firstDayOfYear_J9_floorDiv_7cf53 : GoodIn wsX1_firstDayOfYear (va_wsS RX1 120 yJ9_floorDiv_7cf53 wsJ9_floorDiv_7cf53) := goodIn_app (goodIn_of _ (by decide +kernel)) ggX1_firstDayOfYear_J9_floorDiv_7cf53
theorem dX1_firstDayOfYear_0 : decode cX1_firstDayOfYear 0 = .ok (.ldc2_w 118, 3) := by decide +kernel
theorem dX1_firstDayOfYear_3 : decode cX1_firstDayOfYear 3 = .ok (.iload_n 1, 1) := by decide +kernel
theorem dX1_firstDayOfYear_4 : decode cX1_firstDayOfYear 4 = .ok (.i2l, 1) := by decide +kernel
theorem dX1_firstDayOfYear_5 : decode cX1_firstDayOfYear 5 = .ok (.lmul, 1) := by decide +kernel
theorem dX1_firstDayOfYear_6 : decode cX1_firstDayOfYear 6 = .ok (.iload_n 1, 1) := by decide +kernel
theorem dX1_firstDayOfYear_7 : decode cX1_firstDayOfYear 7 = .ok (.iconst 3, 1) := by decide +kernel
theorem dX1_firstDayOfYear_8 : decode cX1_firstDayOfYear 8 = .ok (.iadd, 1) := by decide +kernel
theorem dX1_firstDayOfYear_9 : decode cX1_firstDayOfYear 9 = .ok (.iconst 4, 1) := by decide +kernel
theorem dX1_firstDayOfYear_10 : decode cX1_firstDayOfYear 10 = .ok (.invokestatic 120, 3) := by decide +kernel
theorem dX1_firstDayOfYear_13 : decode cX1_firstDayOfYear 13 = .ok (.i2l, 1) := by decide +kernel
theorem dX1_firstDayOfYear_14 : decode cX1_firstDayOfYear 14 = .ok (.ladd, 1) := by decide +kernel
theorem dX1_firstDayOfYear_15 : decode cX1_firstDayOfYear 15 = .ok (.lstore_n 2, 1) := by decide +kernel
theorem dX1_firstDayOfYear_16 : decode cX1_firstDayOfYear 16 = .ok (.iload_n 0, 1) := by decide +kernel
theorem dX1_firstDayOfYear_17 : decode cX1_firstDayOfYear 17 = .ok (.ifCond .ne 9, 3) := by decide +kernel
theorem dX1_firstDayOfYear_20 : decode cX1_firstDayOfYear 20 = .ok (.lload_n 2, 1) := by decide +kernel
theorem dX1_firstDayOfYear_21 : decode cX1_firstDayOfYear 21 = .ok (.ldc2_w 123, 3) := by decide +kernel
theorem dX1_firstDayOfYear_24 : decode cX1_firstDayOfYear 24 = .ok (.ladd, 1) := by decide +kernel
theorem dX1_firstDayOfYear_25 : decode cX1_firstDayOfYear 25 = .ok (.lreturn, 1) := by decide +kernel
theorem dX1_firstDayOfYear_26 : decode cX1_firstDayOfYear 26 = .ok (.lload_n 2, 1) := by decide +kernel
theorem dX1_firstDayOfYear_27 : decode cX1_firstDayOfYear 27 = .ok (.iload_n 1, 1) := by decide +kernel
theorem dX1_firstDayOfYear_28 : decode cX1_firstDayOfYear 28 = .ok (.bipush 99, 2) := by decide +kernel
theorem dX1_firstDayOfYear_30 : decode cX1_firstDayOfYear 30 = .ok (.iadd, 1) := by decide +kernel
theorem dX1_firstDayOfYear_31 : decode cX1_firstDayOfYear 31 = .ok (.bipush 100, 2) := by decide +kernel
theorem dX1_firstDayOfYear_33 : decode cX1_firstDayOfYear 33 = .ok (.invokestatic 120, 3) := by decide +kernel
theorem dX1_firstDayOfYear_36 : decode cX1_firstDayOfYear 36 = .ok (.i2l, 1) := by decide +kernel
theorem dX1_firstDayOfYear_37 : decode cX1_firstDayOfYear 37 = .ok (.lsub, 1) := by decide +kernel
theorem dX1_firstDayOfYear_38 : decode cX1_firstDayOfYear 38 = .ok (.iload_n 1, 1) := by decide +kernel
theorem dX1_firstDayOfYear_39 : decode cX1_firstDayOfYear 39 = .ok (.sipush 399, 3) := by decide +kernel
theorem dX1_firstDayOfYear_42 : decode cX1_firstDayOfYear 42 = .ok (.iadd, 1) := by decide +kernel
theorem dX1_firstDayOfYear_43 : decode cX1_firstDayOfYear 43 = .ok (.sipush 400, 3) := by decide +kernel
theorem dX1_firstDayOfYear_46 : decode cX1_firstDayOfYear 46 = .ok (.invokestatic 120, 3) := by decide +kernel
theorem dX1_firstDayOfYear_49 : decode cX1_firstDayOfYear 49 = .ok (.i2l, 1) := by decide +kernel
theorem dX1_firstDayOfYear_50 : decode cX1_firstDayOfYear 50 = .ok (.ladd, 1) := by decide +kernel
theorem dX1_firstDayOfYear_51 : decode cX1_firstDayOfYear 51 = .ok (.ldc2_w 125, 3) := by decide +kernel
theorem dX1_firstDayOfYear_54 : decode cX1_firstDayOfYear 54 = .ok (.ladd, 1) := by decide +kernel
theorem dX1_firstDayOfYear_55 : decode cX1_firstDayOfYear 55 = .ok (.lreturn, 1) := by decide +kernel
set_option maxRecDepth 20000 in
theorem ggX1_yearOfDay_X1_firstDayOfYear : GoodIn wsX1_yearOfDay wsX1_firstDayOfYear := goodIn_r _ [7, 8, 9, 10, 11, 12, 13, 14] (by decide +kernel) (by decide +kernel)
set_option maxRecDepth 20000 in
theorem gX1_yearOfDay_X1_firstDayOfYear : GoodIn wsX1_yearOfDay (va_wsS RX1 66 yX1_firstDayOfYear wsX1_firstDayOfYear) := goodIn_app (goodIn_of _ (by decide +kernel)) ggX1_yearOfDay_X1_firstDayOfYear
set_option maxRecDepth 20000 in
theorem ggX1_yearOfDay_J9_floorDiv_f86c9 : GoodIn wsX1_yearOfDay wsJ9_floorDiv_f86c9 := goodIn_r _ [17] (by decide +kernel) (by decide +kernel)
set_option maxRecDepth 20000 in
theorem gX1_yearOfDay_J9_floorDiv_f86c9 : GoodIn wsX1_yearOfDay (va_wsS RX1 133 yJ9_floorDiv_f86c9 wsJ9_floorDiv_f86c9) := goodIn_app (goodIn_of _ (by decide +kernel)) ggX1_yearOfDay_J9_floorDiv_f86c9
theorem dX1_yearOfDay_0 : decode cX1_yearOfDay 0 = .ok (.iload_n 0, 1) := by decide +kernel
theorem dX1_yearOfDay_1 : decode cX1_yearOfDay 1 = .ok (.ifCond .ne 9, 3) := by decide +kernel
theorem dX1_yearOfDay_4 : decode cX1_yearOfDay 4 = .ok (.ldc2_w 127, 3) := by decide +kernel
theorem dX1_yearOfDay_7 : decode cX1_yearOfDay 7 = .ok (.goto 6, 3) := by decide +kernel
theorem dX1_yearOfDay_10 : decode cX1_yearOfDay 10 = .ok (.ldc2_w 129, 3) := by decide +kernel
theorem dX1_yearOfDay_13 : decode cX1_yearOfDay 13 = .ok (.lstore_n 3, 1) := by decide +kernel
theorem dX1_yearOfDay_14 : decode cX1_yearOfDay 14 = .ok (.lload_n 1, 1) := by decide +kernel
theorem dX1_yearOfDay_15 : decode cX1_yearOfDay 15 = .ok (.iload_n 0, 1) := by decide +kernel
theorem dX1_yearOfDay_16 : decode cX1_yearOfDay 16 = .ok (.iconst 0, 1) := by decide +kernel
theorem dX1_yearOfDay_17 : decode cX1_yearOfDay 17 = .ok (.invokestatic 66, 3) := by decide +kernel
theorem dX1_yearOfDay_20 : decode cX1_yearOfDay 20 = .ok (.lsub, 1) := by decide +kernel
theorem dX1_yearOfDay_21 : decode cX1_yearOfDay 21 = .ok (.lstore 5, 2) := by decide +kernel
theorem dX1_yearOfDay_23 : decode cX1_yearOfDay 23 = .ok (.lload 5, 2) := by decide +kernel
theorem dX1_yearOfDay_25 : decode cX1_yearOfDay 25 = .ok (.ldc2_w 131, 3) := by decide +kernel
theorem dX1_yearOfDay_28 : decode cX1_yearOfDay 28 = .ok (.lmul, 1) := by decide +kernel
theorem dX1_yearOfDay_29 : decode cX1_yearOfDay 29 = .ok (.lload_n 3, 1) := by decide +kernel
theorem dX1_yearOfDay_30 : decode cX1_yearOfDay 30 = .ok (.invokestatic 133, 3) := by decide +kernel
theorem dX1_yearOfDay_33 : decode cX1_yearOfDay 33 = .ok (.l2i, 1) := by decide +kernel
theorem dX1_yearOfDay_34 : decode cX1_yearOfDay 34 = .ok (.istore 7, 2) := by decide +kernel
theorem dX1_yearOfDay_36 : decode cX1_yearOfDay 36 = .ok (.iload_n 0, 1) := by decide +kernel
theorem dX1_yearOfDay_37 : decode cX1_yearOfDay 37 = .ok (.iload 7, 2) := by decide +kernel
theorem dX1_yearOfDay_39 : decode cX1_yearOfDay 39 = .ok (.invokestatic 66, 3) := by decide +kernel
theorem dX1_yearOfDay_42 : decode cX1_yearOfDay 42 = .ok (.lload_n 1, 1) := by decide +kernel
theorem dX1_yearOfDay_43 : decode cX1_yearOfDay 43 = .ok (.lcmp, 1) := by decide +kernel
theorem dX1_yearOfDay_44 : decode cX1_yearOfDay 44 = .ok (.ifCond .le 8, 3) := by decide +kernel
theorem dX1_yearOfDay_47 : decode cX1_yearOfDay 47 = .ok (.iload 7, 2) := by decide +kernel
theorem dX1_yearOfDay_49 : decode cX1_yearOfDay 49 = .ok (.iconst 1, 1) := by decide +kernel
theorem dX1_yearOfDay_50 : decode cX1_yearOfDay 50 = .ok (.isub, 1) := by decide +kernel
theorem dX1_yearOfDay_51 : decode cX1_yearOfDay 51 = .ok (.ireturn, 1) := by decide +kernel
theorem dX1_yearOfDay_52 : decode cX1_yearOfDay 52 = .ok (.iload_n 0, 1) := by decide +kernel
theorem dX1_yearOfDay_53 : decode cX1_yearOfDay 53 = .ok (.iload 7, 2) := by decide +kernel
theorem dX1_yearOfDay_55 : decode cX1_yearOfDay 55 = .ok (.iconst 1, 1) := by decide +kernel
theorem dX1_yearOfDay_56 : decode cX1_yearOfDay 56 = .ok (.iadd, 1) := by decide +kernel
theorem dX1_yearOfDay_57 : decode cX1_yearOfDay 57 = .ok (.invokestatic 66, 3) := by decide +kernel
theorem dX1_yearOfDay_60 : decode cX1_yearOfDay 60 = .ok (.lload_n 1, 1) := by decide +kernel
theorem dX1_yearOfDay_61 : decode cX1_yearOfDay 61 = .ok (.lcmp, 1) := by decide +kernel
theorem dX1_yearOfDay_62 : decode cX1_yearOfDay 62 = .ok (.ifCond .gt 10, 3) := by decide +kernel
theorem dX1_yearOfDay_65 : decode cX1_yearOfDay 65 = .ok (.iload 7, 2) := by decide +kernel
theorem dX1_yearOfDay_67 : decode cX1_yearOfDay 67 = .ok (.iconst 1, 1) := by decide +kernel
theorem dX1_yearOfDay_68 : decode cX1_yearOfDay 68 = .ok (.iadd, 1) := by decide +kernel
theorem dX1_yearOfDay_69 : decode cX1_yearOfDay 69 = .ok (.goto 5, 3) := by decide +kernel
theorem dX1_yearOfDay_72 : decode cX1_yearOfDay 72 = .ok (.iload 7, 2) := by decide +kernel
theorem dX1_yearOfDay_74 : decode cX1_yearOfDay 74 = .ok (.ireturn, 1) := by decide +kernel
set_option maxRecDepth 20000 in
theorem ggX1_orbit_X1_isWithin : GoodIn wsX1_orbit wsX1_isWithin := goodIn_r _ [14] (by decide +kernel) (by decide +kernel)
set_option maxRecDepth 20000 in
theorem gX1_orbit_X1_isWithin : GoodIn wsX1_orbit (va_wsS RX1 145 yX1_isWithin wsX1_isWithin) := goodIn_app (goodIn_of _ (by decide +kernel)) ggX1_orbit_X1_isWithin
theorem dX1_orbit_0 : decode cX1_orbit 0 = .ok (.iload_n 1, 1) := by decide +kernel
theorem dX1_orbit_1 : decode cX1_orbit 1 = .ok (.ifCond .lt 12, 3) := by decide +kernel
theorem dX1_orbit_4 : decode cX1_orbit 4 = .ok (.iload_n 1, 1) := by decide +kernel
theorem dX1_orbit_5 : decode cX1_orbit 5 = .ok (.aload_n 0, 1) := by decide +kernel
theorem dX1_orbit_6 : decode cX1_orbit 6 = .ok (.getfield 11, 3) := by decide +kernel
theorem dX1_orbit_9 : decode cX1_orbit 9 = .ok (.arraylength, 1) := by decide +kernel
theorem dX1_orbit_10 : decode cX1_orbit 10 = .ok (.if_icmp .lt 13, 3) := by decide +kernel
theorem dX1_orbit_13 : decode cX1_orbit 13 = .ok (.new 136, 3) := by decide +kernel
theorem dX1_orbit_16 : decode cX1_orbit 16 = .ok (.dup, 1) := by decide +kernel
theorem dX1_orbit_17 : decode cX1_orbit 17 = .ok (.ldc 138, 2) := by decide +kernel
theorem dX1_orbit_19 : decode cX1_orbit 19 = .ok (.invokespecial 140, 3) := by decide +kernel
theorem dX1_orbit_22 : decode cX1_orbit 22 = .ok (.athrow, 1) := by decide +kernel
theorem dX1_orbit_23 : decode cX1_orbit 23 = .ok (.dload_n 2, 1) := by decide +kernel
theorem dX1_orbit_24 : decode cX1_orbit 24 = .ok (.ldc2_w 141, 3) := by decide +kernel
theorem dX1_orbit_27 : decode cX1_orbit 27 = .ok (.ldc2_w 143, 3) := by decide +kernel
theorem dX1_orbit_30 : decode cX1_orbit 30 = .ok (.invokestatic 145, 3) := by decide +kernel
theorem dX1_orbit_33 : decode cX1_orbit 33 = .ok (.ifCond .eq 43, 3) := by decide +kernel
theorem dX1_orbit_36 : decode cX1_orbit 36 = .ok (.dload 4, 2) := by decide +kernel
theorem dX1_orbit_38 : decode cX1_orbit 38 = .ok (.ldc2_w 149, 3) := by decide +kernel
theorem dX1_orbit_41 : decode cX1_orbit 41 = .ok (.ldc2_w 151, 3) := by decide +kernel
theorem dX1_orbit_44 : decode cX1_orbit 44 = .ok (.invokestatic 145, 3) := by decide +kernel
theorem dX1_orbit_47 : decode cX1_orbit 47 = .ok (.ifCond .eq 29, 3) := by decide +kernel
theorem dX1_orbit_50 : decode cX1_orbit 50 = .ok (.dload 6, 2) := by decide +kernel
theorem dX1_orbit_52 : decode cX1_orbit 52 = .ok (.dconst 0, 1) := by decide +kernel
theorem dX1_orbit_53 : decode cX1_orbit 53 = .ok (.ldc2_w 153, 3) := by decide +kernel
theorem dX1_orbit_56 : decode cX1_orbit 56 = .ok (.invokestatic 145, 3) := by decide +kernel
theorem dX1_orbit_59 : decode cX1_orbit 59 = .ok (.ifCond .eq 17, 3) := by decide +kernel
theorem dX1_orbit_62 : decode cX1_orbit 62 = .ok (.dload 8, 2) := by decide +kernel
theorem dX1_orbit_64 : decode cX1_orbit 64 = .ok (.ldc2_w 141, 3) := by decide +kernel
theorem dX1_orbit_67 : decode cX1_orbit 67 = .ok (.ldc2_w 143, 3) := by decide +kernel
theorem dX1_orbit_70 : decode cX1_orbit 70 = .ok (.invokestatic 145, 3) := by decide +kernel
theorem dX1_orbit_73 : decode cX1_orbit 73 = .ok (.ifCond .ne 13, 3) := by decide +kernel
theorem dX1_orbit_76 : decode cX1_orbit 76 = .ok (.new 43, 3) := by decide +kernel
theorem dX1_orbit_79 : decode cX1_orbit 79 = .ok (.dup, 1) := by decide +kernel
theorem dX1_orbit_80 : decode cX1_orbit 80 = .ok (.ldc 155, 2) := by decide +kernel
theorem dX1_orbit_82 : decode cX1_orbit 82 = .ok (.invokespecial 47, 3) := by decide +kernel
theorem dX1_orbit_85 : decode cX1_orbit 85 = .ok (.athrow, 1) := by decide +kernel
theorem dX1_orbit_86 : decode cX1_orbit 86 = .ok (.aload_n 0, 1) := by decide +kernel
theorem dX1_orbit_87 : decode cX1_orbit 87 = .ok (.getfield 11, 3) := by decide +kernel
theorem dX1_orbit_90 : decode cX1_orbit 90 = .ok (.iload_n 1, 1) := by decide +kernel
theorem dX1_orbit_91 : decode cX1_orbit 91 = .ok (.aaload, 1) := by decide +kernel
theorem dX1_orbit_92 : decode cX1_orbit 92 = .ok (.astore 10, 2) := by decide +kernel
theorem dX1_orbit_94 : decode cX1_orbit 94 = .ok (.aload 10, 2) := by decide +kernel
theorem dX1_orbit_96 : decode cX1_orbit 96 = .ok (.getfield 157, 3) := by decide +kernel
theorem dX1_orbit_99 : decode cX1_orbit 99 = .ok (.ifCond .ne 7, 3) := by decide +kernel
theorem dX1_orbit_102 : decode cX1_orbit 102 = .ok (.iconst 1, 1) := by decide +kernel
theorem dX1_orbit_103 : decode cX1_orbit 103 = .ok (.goto 4, 3) := by decide +kernel
theorem dX1_orbit_106 : decode cX1_orbit 106 = .ok (.iconst 0, 1) := by decide +kernel
theorem dX1_orbit_107 : decode cX1_orbit 107 = .ok (.istore 11, 2) := by decide +kernel
theorem dX1_orbit_109 : decode cX1_orbit 109 = .ok (.aload 10, 2) := by decide +kernel
theorem dX1_orbit_111 : decode cX1_orbit 111 = .ok (.iconst 1, 1) := by decide +kernel
theorem dX1_orbit_112 : decode cX1_orbit 112 = .ok (.putfield 157, 3) := by decide +kernel
theorem dX1_orbit_115 : decode cX1_orbit 115 = .ok (.aload 10, 2) := by decide +kernel
theorem dX1_orbit_117 : decode cX1_orbit 117 = .ok (.dload_n 2, 1) := by decide +kernel
theorem dX1_orbit_118 : decode cX1_orbit 118 = .ok (.putfield 161, 3) := by decide +kernel
theorem dX1_orbit_121 : decode cX1_orbit 121 = .ok (.aload 10, 2) := by decide +kernel
theorem dX1_orbit_123 : decode cX1_orbit 123 = .ok (.dload 4, 2) := by decide +kernel
theorem dX1_orbit_125 : decode cX1_orbit 125 = .ok (.putfield 164, 3) := by decide +kernel
theorem dX1_orbit_128 : decode cX1_orbit 128 = .ok (.aload 10, 2) := by decide +kernel
theorem dX1_orbit_130 : decode cX1_orbit 130 = .ok (.dload 6, 2) := by decide +kernel
theorem dX1_orbit_132 : decode cX1_orbit 132 = .ok (.putfield 167, 3) := by decide +kernel
theorem dX1_orbit_135 : decode cX1_orbit 135 = .ok (.aload 10, 2) := by decide +kernel
theorem dX1_orbit_137 : decode cX1_orbit 137 = .ok (.dload 8, 2) := by decide +kernel
theorem dX1_orbit_139 : decode cX1_orbit 139 = .ok (.putfield 170, 3) := by decide +kernel
theorem dX1_orbit_142 : decode cX1_orbit 142 = .ok (.iload 11, 2) := by decide +kernel
theorem dX1_orbit_144 : decode cX1_orbit 144 = .ok (.ireturn, 1) := by decide +kernel
set_option maxRecDepth 20000 in
theorem ggX1_term_X1_bodyThatIsSet : GoodIn wsX1_term wsX1_bodyThatIsSet := goodIn_ca (goodIn_r _ [16, 17, 18, 19, 36, 37, 38, 39, 40, 41, 42, 26, 27, 28, 29, 30, 31, 32, 33, 34, 35] (by decide +kernel) (by decide +kernel)) (goodIn_sub (fun _ h => List.mem_cons_of_mem _ (List.mem_append_right _ h)) (by decide +kernel))
set_option maxRecDepth 20000 in
theorem gX1_term_X1_bodyThatIsSet : GoodIn wsX1_term (wsV RX1 173 RX1 yX1_bodyThatIsSet wsX1_bodyThatIsSet) := goodIn_app (goodIn_of _ (by decide +kernel)) ggX1_term_X1_bodyThatIsSet
set_option maxRecDepth 20000 in
theorem ggX1_term_X1_isWholeWithin : GoodIn wsX1_term wsX1_isWholeWithin := goodIn_r _ [22] (by decide +kernel) (by decide +kernel)
set_option maxRecDepth 20000 in
theorem gX1_term_X1_isWholeWithin : GoodIn wsX1_term (va_wsS RX1 39 yX1_isWholeWithin wsX1_isWholeWithin) := goodIn_app (goodIn_of _ (by decide +kernel)) ggX1_term_X1_isWholeWithin
set_option maxRecDepth 20000 in
theorem ggX1_term_X1_isWithin : GoodIn wsX1_term wsX1_isWithin := goodIn_r _ [25] (by decide +kernel) (by decide +kernel)
set_option maxRecDepth 20000 in
theorem gX1_term_X1_isWithin : GoodIn wsX1_term (va_wsS RX1 145 yX1_isWithin wsX1_isWithin) := goodIn_app (goodIn_of _ (by decide +kernel)) ggX1_term_X1_isWithin
theorem dX1_term_0 : decode cX1_term 0 = .ok (.aload_n 0, 1) := by decide +kernel
theorem dX1_term_1 : decode cX1_term 1 = .ok (.iload_n 1, 1) := by decide +kernel
theorem dX1_term_2 : decode cX1_term 2 = .ok (.invokevirtual 173, 3) := by decide +kernel
theorem dX1_term_5 : decode cX1_term 5 = .ok (.astore 9, 2) := by decide +kernel
theorem dX1_term_7 : decode cX1_term 7 = .ok (.iload_n 2, 1) := by decide +kernel
theorem dX1_term_8 : decode cX1_term 8 = .ok (.i2l, 1) := by decide +kernel
theorem dX1_term_9 : decode cX1_term 9 = .ok (.lconst 0, 1) := by decide +kernel
theorem dX1_term_10 : decode cX1_term 10 = .ok (.ldc2_w 37, 3) := by decide +kernel
theorem dX1_term_13 : decode cX1_term 13 = .ok (.invokestatic 39, 3) := by decide +kernel
theorem dX1_term_16 : decode cX1_term 16 = .ok (.ifCond .eq 44, 3) := by decide +kernel
theorem dX1_term_19 : decode cX1_term 19 = .ok (.dload_n 3, 1) := by decide +kernel
theorem dX1_term_20 : decode cX1_term 20 = .ok (.ldc2_w 177, 3) := by decide +kernel
theorem dX1_term_23 : decode cX1_term 23 = .ok (.ldc2_w 179, 3) := by decide +kernel
theorem dX1_term_26 : decode cX1_term 26 = .ok (.invokestatic 145, 3) := by decide +kernel
theorem dX1_term_29 : decode cX1_term 29 = .ok (.ifCond .eq 31, 3) := by decide +kernel
theorem dX1_term_32 : decode cX1_term 32 = .ok (.dload 5, 2) := by decide +kernel
theorem dX1_term_34 : decode cX1_term 34 = .ok (.ldc2_w 141, 3) := by decide +kernel
theorem dX1_term_37 : decode cX1_term 37 = .ok (.ldc2_w 143, 3) := by decide +kernel
theorem dX1_term_40 : decode cX1_term 40 = .ok (.invokestatic 145, 3) := by decide +kernel
theorem dX1_term_43 : decode cX1_term 43 = .ok (.ifCond .eq 17, 3) := by decide +kernel
theorem dX1_term_46 : decode cX1_term 46 = .ok (.dload 7, 2) := by decide +kernel
theorem dX1_term_48 : decode cX1_term 48 = .ok (.ldc2_w 149, 3) := by decide +kernel
theorem dX1_term_51 : decode cX1_term 51 = .ok (.ldc2_w 151, 3) := by decide +kernel
theorem dX1_term_54 : decode cX1_term 54 = .ok (.invokestatic 145, 3) := by decide +kernel
theorem dX1_term_57 : decode cX1_term 57 = .ok (.ifCond .ne 13, 3) := by decide +kernel
theorem dX1_term_60 : decode cX1_term 60 = .ok (.new 43, 3) := by decide +kernel
theorem dX1_term_63 : decode cX1_term 63 = .ok (.dup, 1) := by decide +kernel
theorem dX1_term_64 : decode cX1_term 64 = .ok (.ldc 181, 2) := by decide +kernel
theorem dX1_term_66 : decode cX1_term 66 = .ok (.invokespecial 47, 3) := by decide +kernel
theorem dX1_term_69 : decode cX1_term 69 = .ok (.athrow, 1) := by decide +kernel
theorem dX1_term_70 : decode cX1_term 70 = .ok (.aload 9, 2) := by decide +kernel
theorem dX1_term_72 : decode cX1_term 72 = .ok (.getfield 183, 3) := by decide +kernel
theorem dX1_term_75 : decode cX1_term 75 = .ok (.istore 10, 2) := by decide +kernel
theorem dX1_term_77 : decode cX1_term 77 = .ok (.iload 10, 2) := by decide +kernel
theorem dX1_term_79 : decode cX1_term 79 = .ok (.ifCond .lt 10, 3) := by decide +kernel
theorem dX1_term_82 : decode cX1_term 82 = .ok (.iload 10, 2) := by decide +kernel
theorem dX1_term_84 : decode cX1_term 84 = .ok (.bipush 12, 2) := by decide +kernel
theorem dX1_term_86 : decode cX1_term 86 = .ok (.if_icmp .lt 13, 3) := by decide +kernel
theorem dX1_term_89 : decode cX1_term 89 = .ok (.new 186, 3) := by decide +kernel
theorem dX1_term_92 : decode cX1_term 92 = .ok (.dup, 1) := by decide +kernel
theorem dX1_term_93 : decode cX1_term 93 = .ok (.ldc 188, 2) := by decide +kernel
theorem dX1_term_95 : decode cX1_term 95 = .ok (.invokespecial 190, 3) := by decide +kernel
theorem dX1_term_98 : decode cX1_term 98 = .ok (.athrow, 1) := by decide +kernel
theorem dX1_term_99 : decode cX1_term 99 = .ok (.aload 9, 2) := by decide +kernel
theorem dX1_term_101 : decode cX1_term 101 = .ok (.getfield 191, 3) := by decide +kernel
theorem dX1_term_104 : decode cX1_term 104 = .ok (.iload 10, 2) := by decide +kernel
theorem dX1_term_106 : decode cX1_term 106 = .ok (.iload_n 2, 1) := by decide +kernel
theorem dX1_term_107 : decode cX1_term 107 = .ok (.iastore, 1) := by decide +kernel
theorem dX1_term_108 : decode cX1_term 108 = .ok (.aload 9, 2) := by decide +kernel
theorem dX1_term_110 : decode cX1_term 110 = .ok (.getfield 194, 3) := by decide +kernel
theorem dX1_term_113 : decode cX1_term 113 = .ok (.iload 10, 2) := by decide +kernel
theorem dX1_term_115 : decode cX1_term 115 = .ok (.dload_n 3, 1) := by decide +kernel
theorem dX1_term_116 : decode cX1_term 116 = .ok (.dastore, 1) := by decide +kernel
theorem dX1_term_117 : decode cX1_term 117 = .ok (.aload 9, 2) := by decide +kernel
theorem dX1_term_119 : decode cX1_term 119 = .ok (.getfield 198, 3) := by decide +kernel
theorem dX1_term_122 : decode cX1_term 122 = .ok (.iload 10, 2) := by decide +kernel
theorem dX1_term_124 : decode cX1_term 124 = .ok (.dload 5, 2) := by decide +kernel
theorem dX1_term_126 : decode cX1_term 126 = .ok (.dastore, 1) := by decide +kernel
theorem dX1_term_127 : decode cX1_term 127 = .ok (.aload 9, 2) := by decide +kernel
theorem dX1_term_129 : decode cX1_term 129 = .ok (.getfield 201, 3) := by decide +kernel
theorem dX1_term_132 : decode cX1_term 132 = .ok (.iload 10, 2) := by decide +kernel
theorem dX1_term_134 : decode cX1_term 134 = .ok (.dload 7, 2) := by decide +kernel
theorem dX1_term_136 : decode cX1_term 136 = .ok (.dastore, 1) := by decide +kernel
theorem dX1_term_137 : decode cX1_term 137 = .ok (.aload 9, 2) := by decide +kernel
theorem dX1_term_139 : decode cX1_term 139 = .ok (.iload 10, 2) := by decide +kernel
theorem dX1_term_141 : decode cX1_term 141 = .ok (.iconst 1, 1) := by decide +kernel
theorem dX1_term_142 : decode cX1_term 142 = .ok (.iadd, 1) := by decide +kernel
theorem dX1_term_143 : decode cX1_term 143 = .ok (.putfield 183, 3) := by decide +kernel
theorem dX1_term_146 : decode cX1_term 146 = .ok (.aload 9, 2) := by decide +kernel
theorem dX1_term_148 : decode cX1_term 148 = .ok (.getfield 183, 3) := by decide +kernel
theorem dX1_term_151 : decode cX1_term 151 = .ok (.ireturn, 1) := by decide +kernel
set_option maxRecDepth 20000 in
theorem ggX1_observer_X1_isWithin : GoodIn wsX1_observer wsX1_isWithin := goodIn_r _ [12] (by decide +kernel) (by decide +kernel)
set_option maxRecDepth 20000 in
theorem gX1_observer_X1_isWithin : GoodIn wsX1_observer (va_wsS RX1 145 yX1_isWithin wsX1_isWithin) := goodIn_app (goodIn_of _ (by decide +kernel)) ggX1_observer_X1_isWithin
theorem dX1_observer_0 : decode cX1_observer 0 = .ok (.dload_n 1, 1) := by decide +kernel
theorem dX1_observer_1 : decode cX1_observer 1 = .ok (.ldc2_w 204, 3) := by decide +kernel
theorem dX1_observer_4 : decode cX1_observer 4 = .ok (.ldc2_w 206, 3) := by decide +kernel
theorem dX1_observer_7 : decode cX1_observer 7 = .ok (.invokestatic 145, 3) := by decide +kernel
theorem dX1_observer_10 : decode cX1_observer 10 = .ok (.ifCond .eq 16, 3) := by decide +kernel
theorem dX1_observer_13 : decode cX1_observer 13 = .ok (.dload_n 3, 1) := by decide +kernel
theorem dX1_observer_14 : decode cX1_observer 14 = .ok (.ldc2_w 208, 3) := by decide +kernel
theorem dX1_observer_17 : decode cX1_observer 17 = .ok (.ldc2_w 210, 3) := by decide +kernel
theorem dX1_observer_20 : decode cX1_observer 20 = .ok (.invokestatic 145, 3) := by decide +kernel
theorem dX1_observer_23 : decode cX1_observer 23 = .ok (.ifCond .ne 13, 3) := by decide +kernel
theorem dX1_observer_26 : decode cX1_observer 26 = .ok (.new 43, 3) := by decide +kernel
theorem dX1_observer_29 : decode cX1_observer 29 = .ok (.dup, 1) := by decide +kernel
theorem dX1_observer_30 : decode cX1_observer 30 = .ok (.ldc 212, 2) := by decide +kernel
theorem dX1_observer_32 : decode cX1_observer 32 = .ok (.invokespecial 47, 3) := by decide +kernel
theorem dX1_observer_35 : decode cX1_observer 35 = .ok (.athrow, 1) := by decide +kernel
theorem dX1_observer_36 : decode cX1_observer 36 = .ok (.dload_n 1, 1) := by decide +kernel
theorem dX1_observer_37 : decode cX1_observer 37 = .ok (.aload_n 0, 1) := by decide +kernel
theorem dX1_observer_38 : decode cX1_observer 38 = .ok (.getfield 24, 3) := by decide +kernel
theorem dX1_observer_41 : decode cX1_observer 41 = .ok (.dcmp .l, 1) := by decide +kernel
theorem dX1_observer_42 : decode cX1_observer 42 = .ok (.ifCond .ne 12, 3) := by decide +kernel
theorem dX1_observer_45 : decode cX1_observer 45 = .ok (.dload_n 3, 1) := by decide +kernel
theorem dX1_observer_46 : decode cX1_observer 46 = .ok (.aload_n 0, 1) := by decide +kernel
theorem dX1_observer_47 : decode cX1_observer 47 = .ok (.getfield 28, 3) := by decide +kernel
theorem dX1_observer_50 : decode cX1_observer 50 = .ok (.dcmp .l, 1) := by decide +kernel
theorem dX1_observer_51 : decode cX1_observer 51 = .ok (.ifCond .eq 7, 3) := by decide +kernel
theorem dX1_observer_54 : decode cX1_observer 54 = .ok (.iconst 1, 1) := by decide +kernel
theorem dX1_observer_55 : decode cX1_observer 55 = .ok (.goto 4, 3) := by decide +kernel
theorem dX1_observer_58 : decode cX1_observer 58 = .ok (.iconst 0, 1) := by decide +kernel
theorem dX1_observer_59 : decode cX1_observer 59 = .ok (.istore 5, 2) := by decide +kernel
theorem dX1_observer_61 : decode cX1_observer 61 = .ok (.aload_n 0, 1) := by decide +kernel
theorem dX1_observer_62 : decode cX1_observer 62 = .ok (.dload_n 1, 1) := by decide +kernel
theorem dX1_observer_63 : decode cX1_observer 63 = .ok (.putfield 24, 3) := by decide +kernel
theorem dX1_observer_66 : decode cX1_observer 66 = .ok (.aload_n 0, 1) := by decide +kernel
theorem dX1_observer_67 : decode cX1_observer 67 = .ok (.dload_n 3, 1) := by decide +kernel
theorem dX1_observer_68 : decode cX1_observer 68 = .ok (.putfield 28, 3) := by decide +kernel
theorem dX1_observer_71 : decode cX1_observer 71 = .ok (.iload 5, 2) := by decide +kernel
theorem dX1_observer_73 : decode cX1_observer 73 = .ok (.ireturn, 1) := by decide +kernel
theorem dX1_bodyThatIsSet_0 : decode cX1_bodyThatIsSet 0 = .ok (.iload_n 1, 1) := by decide +kernel
theorem dX1_bodyThatIsSet_1 : decode cX1_bodyThatIsSet 1 = .ok (.ifCond .lt 24, 3) := by decide +kernel
theorem dX1_bodyThatIsSet_4 : decode cX1_bodyThatIsSet 4 = .ok (.iload_n 1, 1) := by decide +kernel
theorem dX1_bodyThatIsSet_5 : decode cX1_bodyThatIsSet 5 = .ok (.aload_n 0, 1) := by decide +kernel
theorem dX1_bodyThatIsSet_6 : decode cX1_bodyThatIsSet 6 = .ok (.getfield 11, 3) := by decide +kernel
theorem dX1_bodyThatIsSet_9 : decode cX1_bodyThatIsSet 9 = .ok (.arraylength, 1) := by decide +kernel
theorem dX1_bodyThatIsSet_10 : decode cX1_bodyThatIsSet 10 = .ok (.if_icmp .ge 15, 3) := by decide +kernel
theorem dX1_bodyThatIsSet_13 : decode cX1_bodyThatIsSet 13 = .ok (.aload_n 0, 1) := by decide +kernel
theorem dX1_bodyThatIsSet_14 : decode cX1_bodyThatIsSet 14 = .ok (.getfield 11, 3) := by decide +kernel
theorem dX1_bodyThatIsSet_17 : decode cX1_bodyThatIsSet 17 = .ok (.iload_n 1, 1) := by decide +kernel
theorem dX1_bodyThatIsSet_18 : decode cX1_bodyThatIsSet 18 = .ok (.aaload, 1) := by decide +kernel
theorem dX1_bodyThatIsSet_19 : decode cX1_bodyThatIsSet 19 = .ok (.getfield 157, 3) := by decide +kernel
theorem dX1_bodyThatIsSet_22 : decode cX1_bodyThatIsSet 22 = .ok (.ifCond .ne 13, 3) := by decide +kernel
theorem dX1_bodyThatIsSet_25 : decode cX1_bodyThatIsSet 25 = .ok (.new 214, 3) := by decide +kernel
theorem dX1_bodyThatIsSet_28 : decode cX1_bodyThatIsSet 28 = .ok (.dup, 1) := by decide +kernel
theorem dX1_bodyThatIsSet_29 : decode cX1_bodyThatIsSet 29 = .ok (.ldc 216, 2) := by decide +kernel
theorem dX1_bodyThatIsSet_31 : decode cX1_bodyThatIsSet 31 = .ok (.invokespecial 218, 3) := by decide +kernel
theorem dX1_bodyThatIsSet_34 : decode cX1_bodyThatIsSet 34 = .ok (.athrow, 1) := by decide +kernel
theorem dX1_bodyThatIsSet_35 : decode cX1_bodyThatIsSet 35 = .ok (.aload_n 0, 1) := by decide +kernel
theorem dX1_bodyThatIsSet_36 : decode cX1_bodyThatIsSet 36 = .ok (.getfield 11, 3) := by decide +kernel
theorem dX1_bodyThatIsSet_39 : decode cX1_bodyThatIsSet 39 = .ok (.iload_n 1, 1) := by decide +kernel
theorem dX1_bodyThatIsSet_40 : decode cX1_bodyThatIsSet 40 = .ok (.aaload, 1) := by decide +kernel
theorem dX1_bodyThatIsSet_41 : decode cX1_bodyThatIsSet 41 = .ok (.areturn, 1) := by decide +kernel
set_option maxRecDepth 20000 in
theorem ggX1_longitude_X1_bodyThatIsSet : GoodIn wsX1_longitude wsX1_bodyThatIsSet := goodIn_ca (goodIn_r _ [7, 8, 9, 10, 74, 75, 76, 77, 78, 79, 80, 81, 82, 83, 84, 85, 86, 87, 88, 89, 90] (by decide +kernel) (by decide +kernel)) (goodIn_sub (fun _ h => List.mem_cons_of_mem _ (List.mem_append_left _ (List.mem_append_right _ h))) (by decide +kernel))
set_option maxRecDepth 20000 in
theorem gX1_longitude_X1_bodyThatIsSet : GoodIn wsX1_longitude (wsV RX1 173 RX1 yX1_bodyThatIsSet wsX1_bodyThatIsSet) := goodIn_app (goodIn_of _ (by decide +kernel)) ggX1_longitude_X1_bodyThatIsSet
set_option maxRecDepth 20000 in
theorem ggX1_longitude_X1_isTime : GoodIn wsX1_longitude wsX1_isTime := goodIn_r _ [13, 14, 15, 16, 17, 6, 18] (by decide +kernel) (by decide +kernel)
set_option maxRecDepth 20000 in
theorem gX1_longitude_X1_isTime : GoodIn wsX1_longitude (va_wsS RX1 219 yX1_isTime wsX1_isTime) := goodIn_app (goodIn_of _ (by decide +kernel)) ggX1_longitude_X1_isTime
set_option maxRecDepth 20000 in
theorem ggX1_longitude_X1_longitudeOf : GoodIn wsX1_longitude wsX1_longitudeOf := goodIn_ca (goodIn_r _ [22, 23, 24, 25, 26, 27, 28, 6, 29, 30, 31, 32, 33, 34, 35, 36, 37, 38, 39, 40, 41, 42, 43, 44, 45, 46, 47, 48, 49, 50, 51, 52, 53, 54, 55, 56, 57, 58, 59, 60, 61, 62, 63, 64, 65, 66, 67, 68, 69, 70, 71, 72, 73, 74, 75, 76, 77, 78, 79, 80, 81, 82, 83, 84, 85, 86, 87, 88, 89, 90] (by decide +kernel) (by decide +kernel)) (goodIn_sub (fun _ h => List.mem_cons_of_mem _ (List.mem_append_right _ h)) (by decide +kernel))
set_option maxRecDepth 20000 in
theorem gX1_longitude_X1_longitudeOf : GoodIn wsX1_longitude (wsV RX1 225 RX1 yX1_longitudeOf wsX1_longitudeOf) := goodIn_app (goodIn_of _ (by decide +kernel)) ggX1_longitude_X1_longitudeOf
theorem dX1_longitude_0 : decode cX1_longitude 0 = .ok (.aload_n 0, 1) := by decide +kernel
theorem dX1_longitude_1 : decode cX1_longitude 1 = .ok (.iload_n 1, 1) := by decide +kernel
theorem dX1_longitude_2 : decode cX1_longitude 2 = .ok (.invokevirtual 173, 3) := by decide +kernel
theorem dX1_longitude_5 : decode cX1_longitude 5 = .ok (.astore 4, 2) := by decide +kernel
theorem dX1_longitude_7 : decode cX1_longitude 7 = .ok (.dload_n 2, 1) := by decide +kernel
theorem dX1_longitude_8 : decode cX1_longitude 8 = .ok (.invokestatic 219, 3) := by decide +kernel
theorem dX1_longitude_11 : decode cX1_longitude 11 = .ok (.ifCond .ne 13, 3) := by decide +kernel
theorem dX1_longitude_14 : decode cX1_longitude 14 = .ok (.new 43, 3) := by decide +kernel
theorem dX1_longitude_17 : decode cX1_longitude 17 = .ok (.dup, 1) := by decide +kernel
theorem dX1_longitude_18 : decode cX1_longitude 18 = .ok (.ldc 223, 2) := by decide +kernel
theorem dX1_longitude_20 : decode cX1_longitude 20 = .ok (.invokespecial 47, 3) := by decide +kernel
theorem dX1_longitude_23 : decode cX1_longitude 23 = .ok (.athrow, 1) := by decide +kernel
theorem dX1_longitude_24 : decode cX1_longitude 24 = .ok (.aload_n 0, 1) := by decide +kernel
theorem dX1_longitude_25 : decode cX1_longitude 25 = .ok (.aload 4, 2) := by decide +kernel
theorem dX1_longitude_27 : decode cX1_longitude 27 = .ok (.dload_n 2, 1) := by decide +kernel
theorem dX1_longitude_28 : decode cX1_longitude 28 = .ok (.invokevirtual 225, 3) := by decide +kernel
theorem dX1_longitude_31 : decode cX1_longitude 31 = .ok (.dreturn, 1) := by decide +kernel
set_option maxRecDepth 20000 in
theorem ggX1_height_X1_bodyThatIsSet : GoodIn wsX1_height wsX1_bodyThatIsSet := goodIn_ca (goodIn_r _ [7, 8, 9, 10, 87, 88, 89, 90, 91, 92, 93, 94, 95, 96, 97, 98, 99, 100, 101, 102, 103] (by decide +kernel) (by decide +kernel)) (goodIn_sub (fun _ h => List.mem_cons_of_mem _ (List.mem_append_left _ (List.mem_append_right _ h))) (by decide +kernel))
set_option maxRecDepth 20000 in
theorem gX1_height_X1_bodyThatIsSet : GoodIn wsX1_height (wsV RX1 173 RX1 yX1_bodyThatIsSet wsX1_bodyThatIsSet) := goodIn_app (goodIn_of _ (by decide +kernel)) ggX1_height_X1_bodyThatIsSet
set_option maxRecDepth 20000 in
theorem ggX1_height_X1_isTime : GoodIn wsX1_height wsX1_isTime := goodIn_r _ [13, 14, 15, 16, 17, 6, 18] (by decide +kernel) (by decide +kernel)
set_option maxRecDepth 20000 in
theorem gX1_height_X1_isTime : GoodIn wsX1_height (va_wsS RX1 219 yX1_isTime wsX1_isTime) := goodIn_app (goodIn_of _ (by decide +kernel)) ggX1_height_X1_isTime
set_option maxRecDepth 20000 in
theorem ggX1_height_X1_heightOf : GoodIn wsX1_height wsX1_heightOf := goodIn_ca (goodIn_r _ [22, 23, 24, 25, 26, 27, 28, 29, 6, 30, 31, 32, 33, 34, 35, 36, 37, 38, 39, 40, 41, 42, 43, 44, 45, 46, 47, 48, 49, 50, 51, 52, 53, 54, 55, 56, 57, 58, 59, 60, 61, 62, 63, 64, 65, 66, 67, 68, 69, 70, 71, 72, 73, 74, 75, 76, 77, 78, 79, 80, 81, 82, 83, 84, 85, 86, 87, 88, 89, 90, 91, 92, 93, 94, 95, 96, 97, 98, 99, 100, 101, 102, 103] (by decide +kernel) (by decide +kernel)) (goodIn_sub (fun _ h => List.mem_cons_of_mem _ (List.mem_append_right _ h)) (by decide +kernel))
set_option maxRecDepth 20000 in
theorem gX1_height_X1_heightOf : GoodIn wsX1_height (wsV RX1 229 RX1 yX1_heightOf wsX1_heightOf) := goodIn_app (goodIn_of _ (by decide +kernel)) ggX1_height_X1_heightOf
theorem dX1_height_0 : decode cX1_height 0 = .ok (.aload_n 0, 1) := by decide +kernel
theorem dX1_height_1 : decode cX1_height 1 = .ok (.iload_n 1, 1) := by decide +kernel
theorem dX1_height_2 : decode cX1_height 2 = .ok (.invokevirtual 173, 3) := by decide +kernel
theorem dX1_height_5 : decode cX1_height 5 = .ok (.astore 4, 2) := by decide +kernel
theorem dX1_height_7 : decode cX1_height 7 = .ok (.dload_n 2, 1) := by decide +kernel
theorem dX1_height_8 : decode cX1_height 8 = .ok (.invokestatic 219, 3) := by decide +kernel
theorem dX1_height_11 : decode cX1_height 11 = .ok (.ifCond .ne 13, 3) := by decide +kernel
theorem dX1_height_14 : decode cX1_height 14 = .ok (.new 43, 3) := by decide +kernel
theorem dX1_height_17 : decode cX1_height 17 = .ok (.dup, 1) := by decide +kernel
theorem dX1_height_18 : decode cX1_height 18 = .ok (.ldc 223, 2) := by decide +kernel
theorem dX1_height_20 : decode cX1_height 20 = .ok (.invokespecial 47, 3) := by decide +kernel
theorem dX1_height_23 : decode cX1_height 23 = .ok (.athrow, 1) := by decide +kernel
theorem dX1_height_24 : decode cX1_height 24 = .ok (.aload_n 0, 1) := by decide +kernel
theorem dX1_height_25 : decode cX1_height 25 = .ok (.aload 4, 2) := by decide +kernel
theorem dX1_height_27 : decode cX1_height 27 = .ok (.dload_n 2, 1) := by decide +kernel
theorem dX1_height_28 : decode cX1_height 28 = .ok (.invokevirtual 229, 3) := by decide +kernel
theorem dX1_height_31 : decode cX1_height 31 = .ok (.dreturn, 1) := by decide +kernel
set_option maxRecDepth 20000 in
theorem ggX1_sidereal_X1_isTime : GoodIn wsX1_sidereal wsX1_isTime := goodIn_r _ [6, 7, 8, 9, 10, 5, 11] (by decide +kernel) (by decide +kernel)
set_option maxRecDepth 20000 in
theorem gX1_sidereal_X1_isTime : GoodIn wsX1_sidereal (va_wsS RX1 219 yX1_isTime wsX1_isTime) := goodIn_app (goodIn_of _ (by decide +kernel)) ggX1_sidereal_X1_isTime
set_option maxRecDepth 20000 in
theorem ggX1_sidereal_X1_siderealAngle : GoodIn wsX1_sidereal wsX1_siderealAngle := goodIn_r _ [14, 15, 16, 17, 18, 19, 5, 20, 21] (by decide +kernel) (by decide +kernel)
set_option maxRecDepth 20000 in
theorem gX1_sidereal_X1_siderealAngle : GoodIn wsX1_sidereal (va_wsS RX1 232 yX1_siderealAngle wsX1_siderealAngle) := goodIn_app (goodIn_of _ (by decide +kernel)) ggX1_sidereal_X1_siderealAngle
theorem dX1_sidereal_0 : decode cX1_sidereal 0 = .ok (.dload_n 1, 1) := by decide +kernel
theorem dX1_sidereal_1 : decode cX1_sidereal 1 = .ok (.invokestatic 219, 3) := by decide +kernel
theorem dX1_sidereal_4 : decode cX1_sidereal 4 = .ok (.ifCond .ne 13, 3) := by decide +kernel
theorem dX1_sidereal_7 : decode cX1_sidereal 7 = .ok (.new 43, 3) := by decide +kernel
theorem dX1_sidereal_10 : decode cX1_sidereal 10 = .ok (.dup, 1) := by decide +kernel
theorem dX1_sidereal_11 : decode cX1_sidereal 11 = .ok (.ldc 223, 2) := by decide +kernel
theorem dX1_sidereal_13 : decode cX1_sidereal 13 = .ok (.invokespecial 47, 3) := by decide +kernel
theorem dX1_sidereal_16 : decode cX1_sidereal 16 = .ok (.athrow, 1) := by decide +kernel
theorem dX1_sidereal_17 : decode cX1_sidereal 17 = .ok (.dload_n 1, 1) := by decide +kernel
theorem dX1_sidereal_18 : decode cX1_sidereal 18 = .ok (.invokestatic 232, 3) := by decide +kernel
theorem dX1_sidereal_21 : decode cX1_sidereal 21 = .ok (.dreturn, 1) := by decide +kernel
theorem dX1_count_0 : decode cX1_count 0 = .ok (.iload_n 1, 1) := by decide +kernel
theorem dX1_count_1 : decode cX1_count 1 = .ok (.ifCond .eq 10, 3) := by decide +kernel
theorem dX1_count_4 : decode cX1_count 4 = .ok (.aload_n 0, 1) := by decide +kernel
theorem dX1_count_5 : decode cX1_count 5 = .ok (.getfield 34, 3) := by decide +kernel
theorem dX1_count_8 : decode cX1_count 8 = .ok (.goto 7, 3) := by decide +kernel
theorem dX1_count_11 : decode cX1_count 11 = .ok (.aload_n 0, 1) := by decide +kernel
theorem dX1_count_12 : decode cX1_count 12 = .ok (.getfield 31, 3) := by decide +kernel
theorem dX1_count_15 : decode cX1_count 15 = .ok (.ireturn, 1) := by decide +kernel
set_option maxRecDepth 20000 in
theorem ggX1_longitudeOf_X1_red : GoodIn wsX1_longitudeOf wsX1_red := goodIn_r _ [8, 9, 10] (by decide +kernel) (by decide +kernel)
set_option maxRecDepth 20000 in
theorem gX1_longitudeOf_X1_red : GoodIn wsX1_longitudeOf (va_wsS RX1 236 yX1_red wsX1_red) := goodIn_app (goodIn_of _ (by decide +kernel)) ggX1_longitudeOf_X1_red
set_option maxRecDepth 20000 in
theorem ggX1_longitudeOf_X1_anomalyOf : GoodIn wsX1_longitudeOf wsX1_anomalyOf := goodIn_ca (goodIn_r _ [14, 15, 16, 17, 18, 19, 20, 21, 7, 22, 23, 24, 25, 26, 5, 6, 8, 9, 10, 27, 28, 29, 30, 2, 31, 32, 33, 34, 35, 36, 37, 38, 39, 40, 41, 42, 43, 60, 61, 62, 63, 64, 65, 66, 67, 68, 69, 53, 54, 55, 56, 57, 58, 59] (by decide +kernel) (by decide +kernel)) (goodIn_sub (fun _ h => List.mem_cons_of_mem _ (List.mem_append_right _ h)) (by decide +kernel))
set_option maxRecDepth 20000 in
theorem gX1_longitudeOf_X1_anomalyOf : GoodIn wsX1_longitudeOf (wsV RX1 239 RX1 yX1_anomalyOf wsX1_anomalyOf) := goodIn_app (goodIn_of _ (by decide +kernel)) ggX1_longitudeOf_X1_anomalyOf
set_option maxRecDepth 20000 in
theorem ggX1_longitudeOf_X1_degreesInRadian : GoodIn wsX1_longitudeOf wsX1_degreesInRadian := goodIn_r _ [22, 23] (by decide +kernel) (by decide +kernel)
set_option maxRecDepth 20000 in
theorem gX1_longitudeOf_X1_degreesInRadian : GoodIn wsX1_longitudeOf (va_wsS RX1 242 yX1_degreesInRadian wsX1_degreesInRadian) := goodIn_app (goodIn_of _ (by decide +kernel)) ggX1_longitudeOf_X1_degreesInRadian
set_option maxRecDepth 20000 in
theorem ggX1_longitudeOf_X1_sine : GoodIn wsX1_longitudeOf wsX1_sine := goodIn_r _ [26, 5, 6, 7, 8, 9, 10, 27, 28, 29, 30, 2, 31, 32, 33, 34, 35, 36, 37, 38, 39, 40] (by decide +kernel) (by decide +kernel)
set_option maxRecDepth 20000 in
theorem gX1_longitudeOf_X1_sine : GoodIn wsX1_longitudeOf (va_wsS RX1 246 yX1_sine wsX1_sine) := goodIn_app (goodIn_of _ (by decide +kernel)) ggX1_longitudeOf_X1_sine
set_option maxRecDepth 20000 in
theorem ggX1_longitudeOf_X0_sumOfPower : GoodIn wsX1_longitudeOf wsX0_sumOfPower := goodIn_r _ [47, 48, 49, 50, 51, 52, 42, 7, 43, 5, 6, 8, 9, 10, 27, 28, 29, 30, 2, 31, 32, 33, 34, 35, 36, 37, 38, 39, 40, 60, 61, 62, 63, 64, 65, 66, 67, 68, 69] (by decide +kernel) (by decide +kernel)
set_option maxRecDepth 20000 in
theorem gX1_longitudeOf_X0_sumOfPower_n255 : GoodIn wsX1_longitudeOf (wsX0_sumOfPower) := ggX1_longitudeOf_X0_sumOfPower
theorem dX1_longitudeOf_0 : decode cX1_longitudeOf 0 = .ok (.aload_n 0, 1) := by decide +kernel
theorem dX1_longitudeOf_1 : decode cX1_longitudeOf 1 = .ok (.dup, 1) := by decide +kernel
theorem dX1_longitudeOf_2 : decode cX1_longitudeOf 2 = .ok (.getfield 31, 3) := by decide +kernel
theorem dX1_longitudeOf_5 : decode cX1_longitudeOf 5 = .ok (.iconst 1, 1) := by decide +kernel
theorem dX1_longitudeOf_6 : decode cX1_longitudeOf 6 = .ok (.iadd, 1) := by decide +kernel
theorem dX1_longitudeOf_7 : decode cX1_longitudeOf 7 = .ok (.putfield 31, 3) := by decide +kernel
theorem dX1_longitudeOf_10 : decode cX1_longitudeOf 10 = .ok (.aload_n 1, 1) := by decide +kernel
theorem dX1_longitudeOf_11 : decode cX1_longitudeOf 11 = .ok (.getfield 167, 3) := by decide +kernel
theorem dX1_longitudeOf_14 : decode cX1_longitudeOf 14 = .ok (.dstore 4, 2) := by decide +kernel
theorem dX1_longitudeOf_16 : decode cX1_longitudeOf 16 = .ok (.aload_n 0, 1) := by decide +kernel
theorem dX1_longitudeOf_17 : decode cX1_longitudeOf 17 = .ok (.aload_n 1, 1) := by decide +kernel
theorem dX1_longitudeOf_18 : decode cX1_longitudeOf 18 = .ok (.aload_n 1, 1) := by decide +kernel
theorem dX1_longitudeOf_19 : decode cX1_longitudeOf 19 = .ok (.getfield 161, 3) := by decide +kernel
theorem dX1_longitudeOf_22 : decode cX1_longitudeOf 22 = .ok (.aload_n 1, 1) := by decide +kernel
theorem dX1_longitudeOf_23 : decode cX1_longitudeOf 23 = .ok (.getfield 164, 3) := by decide +kernel
theorem dX1_longitudeOf_26 : decode cX1_longitudeOf 26 = .ok (.dload_n 2, 1) := by decide +kernel
theorem dX1_longitudeOf_27 : decode cX1_longitudeOf 27 = .ok (.dmul, 1) := by decide +kernel
theorem dX1_longitudeOf_28 : decode cX1_longitudeOf 28 = .ok (.dadd, 1) := by decide +kernel
theorem dX1_longitudeOf_29 : decode cX1_longitudeOf 29 = .ok (.aload_n 1, 1) := by decide +kernel
theorem dX1_longitudeOf_30 : decode cX1_longitudeOf 30 = .ok (.getfield 170, 3) := by decide +kernel
theorem dX1_longitudeOf_33 : decode cX1_longitudeOf 33 = .ok (.dsub, 1) := by decide +kernel
theorem dX1_longitudeOf_34 : decode cX1_longitudeOf 34 = .ok (.invokestatic 236, 3) := by decide +kernel
theorem dX1_longitudeOf_37 : decode cX1_longitudeOf 37 = .ok (.invokevirtual 239, 3) := by decide +kernel
theorem dX1_longitudeOf_40 : decode cX1_longitudeOf 40 = .ok (.dstore 6, 2) := by decide +kernel
theorem dX1_longitudeOf_42 : decode cX1_longitudeOf 42 = .ok (.dload 6, 2) := by decide +kernel
theorem dX1_longitudeOf_44 : decode cX1_longitudeOf 44 = .ok (.dload 4, 2) := by decide +kernel
theorem dX1_longitudeOf_46 : decode cX1_longitudeOf 46 = .ok (.invokestatic 242, 3) := by decide +kernel
theorem dX1_longitudeOf_49 : decode cX1_longitudeOf 49 = .ok (.dmul, 1) := by decide +kernel
theorem dX1_longitudeOf_50 : decode cX1_longitudeOf 50 = .ok (.dload 6, 2) := by decide +kernel
theorem dX1_longitudeOf_52 : decode cX1_longitudeOf 52 = .ok (.invokestatic 246, 3) := by decide +kernel
theorem dX1_longitudeOf_55 : decode cX1_longitudeOf 55 = .ok (.dmul, 1) := by decide +kernel
theorem dX1_longitudeOf_56 : decode cX1_longitudeOf 56 = .ok (.dadd, 1) := by decide +kernel
theorem dX1_longitudeOf_57 : decode cX1_longitudeOf 57 = .ok (.ldc2_w 249, 3) := by decide +kernel
theorem dX1_longitudeOf_60 : decode cX1_longitudeOf 60 = .ok (.dload 4, 2) := by decide +kernel
theorem dX1_longitudeOf_62 : decode cX1_longitudeOf 62 = .ok (.dmul, 1) := by decide +kernel
theorem dX1_longitudeOf_63 : decode cX1_longitudeOf 63 = .ok (.dload 4, 2) := by decide +kernel
theorem dX1_longitudeOf_65 : decode cX1_longitudeOf 65 = .ok (.dmul, 1) := by decide +kernel
theorem dX1_longitudeOf_66 : decode cX1_longitudeOf 66 = .ok (.invokestatic 242, 3) := by decide +kernel
theorem dX1_longitudeOf_69 : decode cX1_longitudeOf 69 = .ok (.dmul, 1) := by decide +kernel
theorem dX1_longitudeOf_70 : decode cX1_longitudeOf 70 = .ok (.ldc2_w 251, 3) := by decide +kernel
theorem dX1_longitudeOf_73 : decode cX1_longitudeOf 73 = .ok (.dload 6, 2) := by decide +kernel
theorem dX1_longitudeOf_75 : decode cX1_longitudeOf 75 = .ok (.dmul, 1) := by decide +kernel
theorem dX1_longitudeOf_76 : decode cX1_longitudeOf 76 = .ok (.invokestatic 246, 3) := by decide +kernel
theorem dX1_longitudeOf_79 : decode cX1_longitudeOf 79 = .ok (.dmul, 1) := by decide +kernel
theorem dX1_longitudeOf_80 : decode cX1_longitudeOf 80 = .ok (.dadd, 1) := by decide +kernel
theorem dX1_longitudeOf_81 : decode cX1_longitudeOf 81 = .ok (.dstore 8, 2) := by decide +kernel
theorem dX1_longitudeOf_83 : decode cX1_longitudeOf 83 = .ok (.dload_n 2, 1) := by decide +kernel
theorem dX1_longitudeOf_84 : decode cX1_longitudeOf 84 = .ok (.ldc2_w 253, 3) := by decide +kernel
theorem dX1_longitudeOf_87 : decode cX1_longitudeOf 87 = .ok (.ddiv, 1) := by decide +kernel
theorem dX1_longitudeOf_88 : decode cX1_longitudeOf 88 = .ok (.dstore 10, 2) := by decide +kernel
theorem dX1_longitudeOf_90 : decode cX1_longitudeOf 90 = .ok (.aload_n 1, 1) := by decide +kernel
theorem dX1_longitudeOf_91 : decode cX1_longitudeOf 91 = .ok (.iconst 0, 1) := by decide +kernel
theorem dX1_longitudeOf_92 : decode cX1_longitudeOf 92 = .ok (.dload_n 2, 1) := by decide +kernel
theorem dX1_longitudeOf_93 : decode cX1_longitudeOf 93 = .ok (.invokevirtual 255, 3) := by decide +kernel
theorem dX1_longitudeOf_96 : decode cX1_longitudeOf 96 = .ok (.dload 10, 2) := by decide +kernel
theorem dX1_longitudeOf_98 : decode cX1_longitudeOf 98 = .ok (.aload_n 1, 1) := by decide +kernel
theorem dX1_longitudeOf_99 : decode cX1_longitudeOf 99 = .ok (.iconst 1, 1) := by decide +kernel
theorem dX1_longitudeOf_100 : decode cX1_longitudeOf 100 = .ok (.dload_n 2, 1) := by decide +kernel
theorem dX1_longitudeOf_101 : decode cX1_longitudeOf 101 = .ok (.invokevirtual 255, 3) := by decide +kernel
theorem dX1_longitudeOf_104 : decode cX1_longitudeOf 104 = .ok (.dload 10, 2) := by decide +kernel
theorem dX1_longitudeOf_106 : decode cX1_longitudeOf 106 = .ok (.aload_n 1, 1) := by decide +kernel
theorem dX1_longitudeOf_107 : decode cX1_longitudeOf 107 = .ok (.iconst 2, 1) := by decide +kernel
theorem dX1_longitudeOf_108 : decode cX1_longitudeOf 108 = .ok (.dload_n 2, 1) := by decide +kernel
theorem dX1_longitudeOf_109 : decode cX1_longitudeOf 109 = .ok (.invokevirtual 255, 3) := by decide +kernel
theorem dX1_longitudeOf_112 : decode cX1_longitudeOf 112 = .ok (.dmul, 1) := by decide +kernel
theorem dX1_longitudeOf_113 : decode cX1_longitudeOf 113 = .ok (.dadd, 1) := by decide +kernel
theorem dX1_longitudeOf_114 : decode cX1_longitudeOf 114 = .ok (.dmul, 1) := by decide +kernel
theorem dX1_longitudeOf_115 : decode cX1_longitudeOf 115 = .ok (.dadd, 1) := by decide +kernel
theorem dX1_longitudeOf_116 : decode cX1_longitudeOf 116 = .ok (.dstore 12, 2) := by decide +kernel
theorem dX1_longitudeOf_118 : decode cX1_longitudeOf 118 = .ok (.dload 8, 2) := by decide +kernel
theorem dX1_longitudeOf_120 : decode cX1_longitudeOf 120 = .ok (.aload_n 1, 1) := by decide +kernel
theorem dX1_longitudeOf_121 : decode cX1_longitudeOf 121 = .ok (.getfield 170, 3) := by decide +kernel
theorem dX1_longitudeOf_124 : decode cX1_longitudeOf 124 = .ok (.dadd, 1) := by decide +kernel
theorem dX1_longitudeOf_125 : decode cX1_longitudeOf 125 = .ok (.dload 12, 2) := by decide +kernel
theorem dX1_longitudeOf_127 : decode cX1_longitudeOf 127 = .ok (.dadd, 1) := by decide +kernel
theorem dX1_longitudeOf_128 : decode cX1_longitudeOf 128 = .ok (.invokestatic 236, 3) := by decide +kernel
theorem dX1_longitudeOf_131 : decode cX1_longitudeOf 131 = .ok (.dreturn, 1) := by decide +kernel
set_option maxRecDepth 20000 in
theorem ggX1_anomalyOf_X1_degreesInRadian : GoodIn wsX1_anomalyOf wsX1_degreesInRadian := goodIn_r _ [9, 10] (by decide +kernel) (by decide +kernel)
set_option maxRecDepth 20000 in
theorem gX1_anomalyOf_X1_degreesInRadian : GoodIn wsX1_anomalyOf (va_wsS RX1 242 yX1_degreesInRadian wsX1_degreesInRadian) := goodIn_app (goodIn_of _ (by decide +kernel)) ggX1_anomalyOf_X1_degreesInRadian
set_option maxRecDepth 20000 in
theorem ggX1_anomalyOf_X1_sine : GoodIn wsX1_anomalyOf wsX1_sine := goodIn_r _ [13, 14, 15, 8, 16, 17, 18, 19, 20, 21, 22, 23, 24, 25, 26, 27, 28, 29, 30, 31, 32, 33] (by decide +kernel) (by decide +kernel)
set_option maxRecDepth 20000 in
theorem gX1_anomalyOf_X1_sine : GoodIn wsX1_anomalyOf (va_wsS RX1 246 yX1_sine wsX1_sine) := goodIn_app (goodIn_of _ (by decide +kernel)) ggX1_anomalyOf_X1_sine
set_option maxRecDepth 20000 in
theorem ggX1_anomalyOf_X1_cosine : GoodIn wsX1_anomalyOf wsX1_cosine := goodIn_r _ [36, 14, 15, 8, 16, 17, 18, 19, 20, 21, 22, 23, 24, 25, 26, 27, 28, 29, 30, 31, 32, 33] (by decide +kernel) (by decide +kernel)
set_option maxRecDepth 20000 in
theorem gX1_anomalyOf_X1_cosine : GoodIn wsX1_anomalyOf (va_wsS RX1 259 yX1_cosine wsX1_cosine) := goodIn_app (goodIn_of _ (by decide +kernel)) ggX1_anomalyOf_X1_cosine
theorem dX1_anomalyOf_0 : decode cX1_anomalyOf 0 = .ok (.aload_n 1, 1) := by decide +kernel
theorem dX1_anomalyOf_1 : decode cX1_anomalyOf 1 = .ok (.getfield 167, 3) := by decide +kernel
theorem dX1_anomalyOf_4 : decode cX1_anomalyOf 4 = .ok (.dstore 4, 2) := by decide +kernel
theorem dX1_anomalyOf_6 : decode cX1_anomalyOf 6 = .ok (.dload_n 2, 1) := by decide +kernel
theorem dX1_anomalyOf_7 : decode cX1_anomalyOf 7 = .ok (.dstore 6, 2) := by decide +kernel
theorem dX1_anomalyOf_9 : decode cX1_anomalyOf 9 = .ok (.iconst 0, 1) := by decide +kernel
theorem dX1_anomalyOf_10 : decode cX1_anomalyOf 10 = .ok (.istore 8, 2) := by decide +kernel
theorem dX1_anomalyOf_12 : decode cX1_anomalyOf 12 = .ok (.iload 8, 2) := by decide +kernel
theorem dX1_anomalyOf_14 : decode cX1_anomalyOf 14 = .ok (.iconst 4, 1) := by decide +kernel
theorem dX1_anomalyOf_15 : decode cX1_anomalyOf 15 = .ok (.if_icmp .ge 67, 3) := by decide +kernel
theorem dX1_anomalyOf_18 : decode cX1_anomalyOf 18 = .ok (.dload 6, 2) := by decide +kernel
theorem dX1_anomalyOf_20 : decode cX1_anomalyOf 20 = .ok (.dload 4, 2) := by decide +kernel
theorem dX1_anomalyOf_22 : decode cX1_anomalyOf 22 = .ok (.invokestatic 242, 3) := by decide +kernel
theorem dX1_anomalyOf_25 : decode cX1_anomalyOf 25 = .ok (.dmul, 1) := by decide +kernel
theorem dX1_anomalyOf_26 : decode cX1_anomalyOf 26 = .ok (.dload 6, 2) := by decide +kernel
theorem dX1_anomalyOf_28 : decode cX1_anomalyOf 28 = .ok (.invokestatic 246, 3) := by decide +kernel
theorem dX1_anomalyOf_31 : decode cX1_anomalyOf 31 = .ok (.dmul, 1) := by decide +kernel
theorem dX1_anomalyOf_32 : decode cX1_anomalyOf 32 = .ok (.dsub, 1) := by decide +kernel
theorem dX1_anomalyOf_33 : decode cX1_anomalyOf 33 = .ok (.dload_n 2, 1) := by decide +kernel
theorem dX1_anomalyOf_34 : decode cX1_anomalyOf 34 = .ok (.dsub, 1) := by decide +kernel
theorem dX1_anomalyOf_35 : decode cX1_anomalyOf 35 = .ok (.dconst 1, 1) := by decide +kernel
theorem dX1_anomalyOf_36 : decode cX1_anomalyOf 36 = .ok (.dload 4, 2) := by decide +kernel
theorem dX1_anomalyOf_38 : decode cX1_anomalyOf 38 = .ok (.dload 6, 2) := by decide +kernel
theorem dX1_anomalyOf_40 : decode cX1_anomalyOf 40 = .ok (.invokestatic 259, 3) := by decide +kernel
theorem dX1_anomalyOf_43 : decode cX1_anomalyOf 43 = .ok (.dmul, 1) := by decide +kernel
theorem dX1_anomalyOf_44 : decode cX1_anomalyOf 44 = .ok (.dsub, 1) := by decide +kernel
theorem dX1_anomalyOf_45 : decode cX1_anomalyOf 45 = .ok (.ddiv, 1) := by decide +kernel
theorem dX1_anomalyOf_46 : decode cX1_anomalyOf 46 = .ok (.dstore 9, 2) := by decide +kernel
theorem dX1_anomalyOf_48 : decode cX1_anomalyOf 48 = .ok (.dload 6, 2) := by decide +kernel
theorem dX1_anomalyOf_50 : decode cX1_anomalyOf 50 = .ok (.dload 9, 2) := by decide +kernel
theorem dX1_anomalyOf_52 : decode cX1_anomalyOf 52 = .ok (.dsub, 1) := by decide +kernel
theorem dX1_anomalyOf_53 : decode cX1_anomalyOf 53 = .ok (.dstore 6, 2) := by decide +kernel
theorem dX1_anomalyOf_55 : decode cX1_anomalyOf 55 = .ok (.dload 9, 2) := by decide +kernel
theorem dX1_anomalyOf_57 : decode cX1_anomalyOf 57 = .ok (.ldc2_w 262, 3) := by decide +kernel
theorem dX1_anomalyOf_60 : decode cX1_anomalyOf 60 = .ok (.dcmp .l, 1) := by decide +kernel
theorem dX1_anomalyOf_61 : decode cX1_anomalyOf 61 = .ok (.ifCond .le 15, 3) := by decide +kernel
theorem dX1_anomalyOf_64 : decode cX1_anomalyOf 64 = .ok (.dload 9, 2) := by decide +kernel
theorem dX1_anomalyOf_66 : decode cX1_anomalyOf 66 = .ok (.ldc2_w 264, 3) := by decide +kernel
theorem dX1_anomalyOf_69 : decode cX1_anomalyOf 69 = .ok (.dcmp .g, 1) := by decide +kernel
theorem dX1_anomalyOf_70 : decode cX1_anomalyOf 70 = .ok (.ifCond .ge 6, 3) := by decide +kernel
theorem dX1_anomalyOf_73 : decode cX1_anomalyOf 73 = .ok (.dload 6, 2) := by decide +kernel
theorem dX1_anomalyOf_75 : decode cX1_anomalyOf 75 = .ok (.dreturn, 1) := by decide +kernel
theorem dX1_anomalyOf_76 : decode cX1_anomalyOf 76 = .ok (.iinc 8 1, 3) := by decide +kernel
theorem dX1_anomalyOf_79 : decode cX1_anomalyOf 79 = .ok (.goto (-67), 3) := by decide +kernel
theorem dX1_anomalyOf_82 : decode cX1_anomalyOf 82 = .ok (.aload_n 0, 1) := by decide +kernel
theorem dX1_anomalyOf_83 : decode cX1_anomalyOf 83 = .ok (.dup, 1) := by decide +kernel
theorem dX1_anomalyOf_84 : decode cX1_anomalyOf 84 = .ok (.getfield 34, 3) := by decide +kernel
theorem dX1_anomalyOf_87 : decode cX1_anomalyOf 87 = .ok (.iconst 1, 1) := by decide +kernel
theorem dX1_anomalyOf_88 : decode cX1_anomalyOf 88 = .ok (.iadd, 1) := by decide +kernel
theorem dX1_anomalyOf_89 : decode cX1_anomalyOf 89 = .ok (.putfield 34, 3) := by decide +kernel
theorem dX1_anomalyOf_92 : decode cX1_anomalyOf 92 = .ok (.new 186, 3) := by decide +kernel
theorem dX1_anomalyOf_95 : decode cX1_anomalyOf 95 = .ok (.dup, 1) := by decide +kernel
theorem dX1_anomalyOf_96 : decode cX1_anomalyOf 96 = .ok (.ldc_w 266, 3) := by decide +kernel
theorem dX1_anomalyOf_99 : decode cX1_anomalyOf 99 = .ok (.invokespecial 190, 3) := by decide +kernel
theorem dX1_anomalyOf_102 : decode cX1_anomalyOf 102 = .ok (.athrow, 1) := by decide +kernel
set_option maxRecDepth 20000 in
theorem ggX1_heightOf_X1_longitudeOf : GoodIn wsX1_heightOf wsX1_longitudeOf := goodIn_ca (goodIn_r _ [9, 10, 11, 12, 13, 14, 15, 8, 16, 17, 18, 19, 20, 21, 22, 23, 24, 25, 26, 27, 28, 29, 30, 31, 32, 33, 34, 35, 36, 37, 38, 39, 40, 41, 42, 43, 44, 45, 46, 47, 48, 49, 50, 51, 52, 53, 54, 55, 56, 57, 58, 59, 60, 66, 67, 68, 69, 70, 71, 72, 73, 74, 75, 76, 77, 78, 79, 80, 81, 82] (by decide +kernel) (by decide +kernel)) (goodIn_sub (fun _ h => List.mem_cons_of_mem _ (List.mem_append_right _ h)) (by decide +kernel))
set_option maxRecDepth 20000 in
theorem gX1_heightOf_X1_longitudeOf : GoodIn wsX1_heightOf (wsV RX1 225 RX1 yX1_longitudeOf wsX1_longitudeOf) := goodIn_app (goodIn_of _ (by decide +kernel)) ggX1_heightOf_X1_longitudeOf
set_option maxRecDepth 20000 in
theorem ggX1_heightOf_X1_cosine : GoodIn wsX1_heightOf wsX1_cosine := goodIn_r _ [51, 14, 15, 8, 16, 17, 18, 35, 36, 37, 38, 11, 39, 40, 41, 42, 43, 44, 45, 46, 47, 48] (by decide +kernel) (by decide +kernel)
set_option maxRecDepth 20000 in
theorem gX1_heightOf_X1_cosine : GoodIn wsX1_heightOf (va_wsS RX1 259 yX1_cosine wsX1_cosine) := goodIn_app (goodIn_of _ (by decide +kernel)) ggX1_heightOf_X1_cosine
set_option maxRecDepth 20000 in
theorem ggX1_heightOf_X1_sine : GoodIn wsX1_heightOf wsX1_sine := goodIn_r _ [34, 14, 15, 8, 16, 17, 18, 35, 36, 37, 38, 11, 39, 40, 41, 42, 43, 44, 45, 46, 47, 48] (by decide +kernel) (by decide +kernel)
set_option maxRecDepth 20000 in
theorem gX1_heightOf_X1_sine : GoodIn wsX1_heightOf (va_wsS RX1 246 yX1_sine wsX1_sine) := goodIn_app (goodIn_of _ (by decide +kernel)) ggX1_heightOf_X1_sine
set_option maxRecDepth 20000 in
theorem ggX1_heightOf_X1_siderealAngle : GoodIn wsX1_heightOf wsX1_siderealAngle := goodIn_r _ [63, 64, 65, 18, 14, 15, 8, 16, 17] (by decide +kernel) (by decide +kernel)
set_option maxRecDepth 20000 in
theorem gX1_heightOf_X1_siderealAngle : GoodIn wsX1_heightOf (va_wsS RX1 232 yX1_siderealAngle wsX1_siderealAngle) := goodIn_app (goodIn_of _ (by decide +kernel)) ggX1_heightOf_X1_siderealAngle
theorem dX1_heightOf_0 : decode cX1_heightOf 0 = .ok (.aload_n 0, 1) := by decide +kernel
theorem dX1_heightOf_1 : decode cX1_heightOf 1 = .ok (.aload_n 1, 1) := by decide +kernel
theorem dX1_heightOf_2 : decode cX1_heightOf 2 = .ok (.dload_n 2, 1) := by decide +kernel
theorem dX1_heightOf_3 : decode cX1_heightOf 3 = .ok (.invokevirtual 225, 3) := by decide +kernel
theorem dX1_heightOf_6 : decode cX1_heightOf 6 = .ok (.dstore 4, 2) := by decide +kernel
theorem dX1_heightOf_8 : decode cX1_heightOf 8 = .ok (.dload 4, 2) := by decide +kernel
theorem dX1_heightOf_10 : decode cX1_heightOf 10 = .ok (.invokestatic 259, 3) := by decide +kernel
theorem dX1_heightOf_13 : decode cX1_heightOf 13 = .ok (.dstore 6, 2) := by decide +kernel
theorem dX1_heightOf_15 : decode cX1_heightOf 15 = .ok (.dload 4, 2) := by decide +kernel
theorem dX1_heightOf_17 : decode cX1_heightOf 17 = .ok (.invokestatic 246, 3) := by decide +kernel
theorem dX1_heightOf_20 : decode cX1_heightOf 20 = .ok (.ldc2_w 268, 3) := by decide +kernel
theorem dX1_heightOf_23 : decode cX1_heightOf 23 = .ok (.dmul, 1) := by decide +kernel
theorem dX1_heightOf_24 : decode cX1_heightOf 24 = .ok (.dstore 8, 2) := by decide +kernel
theorem dX1_heightOf_26 : decode cX1_heightOf 26 = .ok (.dload 4, 2) := by decide +kernel
theorem dX1_heightOf_28 : decode cX1_heightOf 28 = .ok (.invokestatic 246, 3) := by decide +kernel
theorem dX1_heightOf_31 : decode cX1_heightOf 31 = .ok (.ldc2_w 270, 3) := by decide +kernel
theorem dX1_heightOf_34 : decode cX1_heightOf 34 = .ok (.dmul, 1) := by decide +kernel
theorem dX1_heightOf_35 : decode cX1_heightOf 35 = .ok (.dstore 10, 2) := by decide +kernel
theorem dX1_heightOf_37 : decode cX1_heightOf 37 = .ok (.dload_n 2, 1) := by decide +kernel
theorem dX1_heightOf_38 : decode cX1_heightOf 38 = .ok (.invokestatic 232, 3) := by decide +kernel
theorem dX1_heightOf_41 : decode cX1_heightOf 41 = .ok (.aload_n 0, 1) := by decide +kernel
theorem dX1_heightOf_42 : decode cX1_heightOf 42 = .ok (.getfield 28, 3) := by decide +kernel
theorem dX1_heightOf_45 : decode cX1_heightOf 45 = .ok (.dadd, 1) := by decide +kernel
theorem dX1_heightOf_46 : decode cX1_heightOf 46 = .ok (.dstore 12, 2) := by decide +kernel
theorem dX1_heightOf_48 : decode cX1_heightOf 48 = .ok (.aload_n 0, 1) := by decide +kernel
theorem dX1_heightOf_49 : decode cX1_heightOf 49 = .ok (.getfield 24, 3) := by decide +kernel
theorem dX1_heightOf_52 : decode cX1_heightOf 52 = .ok (.invokestatic 259, 3) := by decide +kernel
theorem dX1_heightOf_55 : decode cX1_heightOf 55 = .ok (.dload 6, 2) := by decide +kernel
theorem dX1_heightOf_57 : decode cX1_heightOf 57 = .ok (.dload 12, 2) := by decide +kernel
theorem dX1_heightOf_59 : decode cX1_heightOf 59 = .ok (.invokestatic 259, 3) := by decide +kernel
theorem dX1_heightOf_62 : decode cX1_heightOf 62 = .ok (.dmul, 1) := by decide +kernel
theorem dX1_heightOf_63 : decode cX1_heightOf 63 = .ok (.dload 8, 2) := by decide +kernel
theorem dX1_heightOf_65 : decode cX1_heightOf 65 = .ok (.dload 12, 2) := by decide +kernel
theorem dX1_heightOf_67 : decode cX1_heightOf 67 = .ok (.invokestatic 246, 3) := by decide +kernel
theorem dX1_heightOf_70 : decode cX1_heightOf 70 = .ok (.dmul, 1) := by decide +kernel
theorem dX1_heightOf_71 : decode cX1_heightOf 71 = .ok (.dadd, 1) := by decide +kernel
theorem dX1_heightOf_72 : decode cX1_heightOf 72 = .ok (.dmul, 1) := by decide +kernel
theorem dX1_heightOf_73 : decode cX1_heightOf 73 = .ok (.aload_n 0, 1) := by decide +kernel
theorem dX1_heightOf_74 : decode cX1_heightOf 74 = .ok (.getfield 24, 3) := by decide +kernel
theorem dX1_heightOf_77 : decode cX1_heightOf 77 = .ok (.invokestatic 246, 3) := by decide +kernel
theorem dX1_heightOf_80 : decode cX1_heightOf 80 = .ok (.dload 10, 2) := by decide +kernel
theorem dX1_heightOf_82 : decode cX1_heightOf 82 = .ok (.dmul, 1) := by decide +kernel
theorem dX1_heightOf_83 : decode cX1_heightOf 83 = .ok (.dadd, 1) := by decide +kernel
theorem dX1_heightOf_84 : decode cX1_heightOf 84 = .ok (.dreturn, 1) := by decide +kernel
set_option maxRecDepth 20000 in
theorem ggX1_siderealAngle_X1_red : GoodIn wsX1_siderealAngle wsX1_red := goodIn_r _ [7, 8, 3] (by decide +kernel) (by decide +kernel)
set_option maxRecDepth 20000 in
theorem gX1_siderealAngle_X1_red : GoodIn wsX1_siderealAngle (va_wsS RX1 236 yX1_red wsX1_red) := goodIn_app (goodIn_of _ (by decide +kernel)) ggX1_siderealAngle_X1_red
theorem dX1_siderealAngle_0 : decode cX1_siderealAngle 0 = .ok (.ldc2_w 272, 3) := by decide +kernel
theorem dX1_siderealAngle_3 : decode cX1_siderealAngle 3 = .ok (.ldc2_w 274, 3) := by decide +kernel
theorem dX1_siderealAngle_6 : decode cX1_siderealAngle 6 = .ok (.dload_n 0, 1) := by decide +kernel
theorem dX1_siderealAngle_7 : decode cX1_siderealAngle 7 = .ok (.dmul, 1) := by decide +kernel
theorem dX1_siderealAngle_8 : decode cX1_siderealAngle 8 = .ok (.dadd, 1) := by decide +kernel
theorem dX1_siderealAngle_9 : decode cX1_siderealAngle 9 = .ok (.invokestatic 236, 3) := by decide +kernel
theorem dX1_siderealAngle_12 : decode cX1_siderealAngle 12 = .ok (.ldc2_w 143, 3) := by decide +kernel
theorem dX1_siderealAngle_15 : decode cX1_siderealAngle 15 = .ok (.dload_n 0, 1) := by decide +kernel
theorem dX1_siderealAngle_16 : decode cX1_siderealAngle 16 = .ok (.dload_n 0, 1) := by decide +kernel
theorem dX1_siderealAngle_17 : decode cX1_siderealAngle 17 = .ok (.d2l, 1) := by decide +kernel
theorem dX1_siderealAngle_18 : decode cX1_siderealAngle 18 = .ok (.l2d, 1) := by decide +kernel
theorem dX1_siderealAngle_19 : decode cX1_siderealAngle 19 = .ok (.dsub, 1) := by decide +kernel
theorem dX1_siderealAngle_20 : decode cX1_siderealAngle 20 = .ok (.dmul, 1) := by decide +kernel
theorem dX1_siderealAngle_21 : decode cX1_siderealAngle 21 = .ok (.dadd, 1) := by decide +kernel
theorem dX1_siderealAngle_22 : decode cX1_siderealAngle 22 = .ok (.invokestatic 236, 3) := by decide +kernel
theorem dX1_siderealAngle_25 : decode cX1_siderealAngle 25 = .ok (.dreturn, 1) := by decide +kernel
set_option maxRecDepth 20000 in
theorem ggX1_event_X1_isWholeWithin : GoodIn wsX1_event wsX1_isWholeWithin := goodIn_r _ [11] (by decide +kernel) (by decide +kernel)
set_option maxRecDepth 20000 in
theorem gX1_event_X1_isWholeWithin : GoodIn wsX1_event (va_wsS RX1 39 yX1_isWholeWithin wsX1_isWholeWithin) := goodIn_app (goodIn_of _ (by decide +kernel)) ggX1_event_X1_isWholeWithin
set_option maxRecDepth 20000 in
theorem ggX1_event_X1_bodyThatIsSet : GoodIn wsX1_event wsX1_bodyThatIsSet := goodIn_ca (goodIn_r _ [15, 3, 4, 16, 106, 107, 108, 109, 110, 111, 112, 113, 114, 115, 116, 117, 118, 119, 120, 121, 122] (by decide +kernel) (by decide +kernel)) (goodIn_sub (fun _ h => List.mem_cons_of_mem _ (List.mem_append_left _ (List.mem_append_right _ h))) (by decide +kernel))
set_option maxRecDepth 20000 in
theorem gX1_event_X1_bodyThatIsSet : GoodIn wsX1_event (wsV RX1 173 RX1 yX1_bodyThatIsSet wsX1_bodyThatIsSet) := goodIn_app (goodIn_of _ (by decide +kernel)) ggX1_event_X1_bodyThatIsSet
set_option maxRecDepth 20000 in
theorem ggX1_event_X1_partOfGreatestHeight : GoodIn wsX1_event wsX1_partOfGreatestHeight := goodIn_ca (goodIn_r _ [20, 21, 22, 10, 23, 24, 25, 26, 27, 28, 29, 30, 31, 32, 33, 34, 35, 36, 37, 38, 39, 40, 41, 42, 43, 44, 45, 46, 47, 48, 49, 50, 51, 52, 53, 54, 55, 56, 57, 58, 59, 60, 61, 62, 63, 64, 65, 66, 67, 68, 69, 70, 71, 72, 73, 74, 75, 76, 77, 78, 79, 80, 81, 82, 83, 84, 85, 86, 87, 88, 89, 90, 91, 92, 106, 107, 108, 109, 110, 111, 112, 113, 114, 115, 116, 117, 118, 119, 120, 121, 122] (by decide +kernel) (by decide +kernel)) (goodIn_sub (fun _ h => List.mem_cons_of_mem _ (List.mem_append_right _ h)) (by decide +kernel))
set_option maxRecDepth 20000 in
theorem gX1_event_X1_partOfGreatestHeight : GoodIn wsX1_event (wsV RX1 284 RX1 yX1_partOfGreatestHeight wsX1_partOfGreatestHeight) := goodIn_app (goodIn_of _ (by decide +kernel)) ggX1_event_X1_partOfGreatestHeight
set_option maxRecDepth 20000 in
theorem ggX1_event_X1_narrowedToHighest : GoodIn wsX1_event wsX1_narrowedToHighest := goodIn_ca (goodIn_r _ [96, 97, 39, 21, 22, 10, 23, 24, 25, 26, 27, 28, 29, 30, 31, 32, 33, 34, 35, 36, 37, 38, 40, 41, 42, 43, 44, 45, 46, 47, 48, 49, 50, 51, 52, 53, 54, 55, 56, 57, 58, 59, 60, 61, 62, 63, 64, 65, 66, 67, 68, 69, 70, 71, 72, 73, 74, 75, 76, 77, 78, 79, 80, 81, 82, 83, 84, 85, 86, 87, 88, 89, 90, 91, 92, 106, 107, 108, 109, 110, 111, 112, 113, 114, 115, 116, 117, 118, 119, 120, 121, 122] (by decide +kernel) (by decide +kernel)) (goodIn_sub (fun _ h => List.mem_cons_of_mem _ (List.mem_append_right _ h)) (by decide +kernel))
set_option maxRecDepth 20000 in
theorem gX1_event_X1_narrowedToHighest : GoodIn wsX1_event (wsV RX1 288 RX1 yX1_narrowedToHighest wsX1_narrowedToHighest) := goodIn_app (goodIn_of _ (by decide +kernel)) ggX1_event_X1_narrowedToHighest
set_option maxRecDepth 20000 in
theorem ggX1_event_X1_partOfCrossing : GoodIn wsX1_event wsX1_partOfCrossing := goodIn_ca (goodIn_r _ [101, 21, 22, 10, 23, 24, 25, 26, 27, 28, 29, 30, 31, 32, 33, 34, 35, 36, 37, 38, 39, 40, 41, 42, 43, 44, 45, 46, 47, 48, 49, 50, 51, 52, 53, 54, 55, 56, 57, 58, 59, 60, 61, 62, 63, 64, 65, 66, 67, 68, 69, 70, 71, 72, 73, 74, 75, 76, 77, 78, 79, 80, 81, 82, 83, 84, 85, 86, 87, 88, 89, 90, 91, 92, 106, 107, 108, 109, 110, 111, 112, 113, 114, 115, 116, 117, 118, 119, 120, 121, 122] (by decide +kernel) (by decide +kernel)) (goodIn_sub (fun _ h => List.mem_cons_of_mem _ (List.mem_append_right _ h)) (by decide +kernel))
set_option maxRecDepth 20000 in
theorem gX1_event_X1_partOfCrossing : GoodIn wsX1_event (wsV RX1 292 RX1 yX1_partOfCrossing wsX1_partOfCrossing) := goodIn_app (goodIn_of _ (by decide +kernel)) ggX1_event_X1_partOfCrossing
set_option maxRecDepth 20000 in
theorem ggX1_event_X1_narrowedToCrossing : GoodIn wsX1_event wsX1_narrowedToCrossing := goodIn_ca (goodIn_r _ [105, 39, 21, 22, 10, 23, 24, 25, 26, 27, 28, 29, 30, 31, 32, 33, 34, 35, 36, 37, 38, 40, 41, 42, 43, 44, 45, 46, 47, 48, 49, 50, 51, 52, 53, 54, 55, 56, 57, 58, 59, 60, 61, 62, 63, 64, 65, 66, 67, 68, 69, 70, 71, 72, 73, 74, 75, 76, 77, 78, 79, 80, 81, 82, 83, 84, 85, 86, 87, 88, 89, 90, 91, 92, 106, 107, 108, 109, 110, 111, 112, 113, 114, 115, 116, 117, 118, 119, 120, 121, 122] (by decide +kernel) (by decide +kernel)) (goodIn_sub (fun _ h => List.mem_cons_of_mem _ (List.mem_append_right _ h)) (by decide +kernel))
set_option maxRecDepth 20000 in
theorem gX1_event_X1_narrowedToCrossing : GoodIn wsX1_event (wsV RX1 298 RX1 yX1_narrowedToCrossing wsX1_narrowedToCrossing) := goodIn_app (goodIn_of _ (by decide +kernel)) ggX1_event_X1_narrowedToCrossing
theorem dX1_event_0 : decode cX1_event 0 = .ok (.iload_n 2, 1) := by decide +kernel
theorem dX1_event_1 : decode cX1_event 1 = .ok (.i2l, 1) := by decide +kernel
theorem dX1_event_2 : decode cX1_event 2 = .ok (.lconst 0, 1) := by decide +kernel
theorem dX1_event_3 : decode cX1_event 3 = .ok (.ldc2_w 37, 3) := by decide +kernel
theorem dX1_event_6 : decode cX1_event 6 = .ok (.invokestatic 39, 3) := by decide +kernel
theorem dX1_event_9 : decode cX1_event 9 = .ok (.ifCond .ne 14, 3) := by decide +kernel
theorem dX1_event_12 : decode cX1_event 12 = .ok (.new 43, 3) := by decide +kernel
theorem dX1_event_15 : decode cX1_event 15 = .ok (.dup, 1) := by decide +kernel
theorem dX1_event_16 : decode cX1_event 16 = .ok (.ldc_w 276, 3) := by decide +kernel
theorem dX1_event_19 : decode cX1_event 19 = .ok (.invokespecial 47, 3) := by decide +kernel
theorem dX1_event_22 : decode cX1_event 22 = .ok (.athrow, 1) := by decide +kernel
theorem dX1_event_23 : decode cX1_event 23 = .ok (.iload_n 3, 1) := by decide +kernel
theorem dX1_event_24 : decode cX1_event 24 = .ok (.i2l, 1) := by decide +kernel
theorem dX1_event_25 : decode cX1_event 25 = .ok (.ldc2_w 278, 3) := by decide +kernel
theorem dX1_event_28 : decode cX1_event 28 = .ok (.ldc2_w 280, 3) := by decide +kernel
theorem dX1_event_31 : decode cX1_event 31 = .ok (.invokestatic 39, 3) := by decide +kernel
theorem dX1_event_34 : decode cX1_event 34 = .ok (.ifCond .ne 14, 3) := by decide +kernel
theorem dX1_event_37 : decode cX1_event 37 = .ok (.new 43, 3) := by decide +kernel
theorem dX1_event_40 : decode cX1_event 40 = .ok (.dup, 1) := by decide +kernel
theorem dX1_event_41 : decode cX1_event 41 = .ok (.ldc_w 282, 3) := by decide +kernel
theorem dX1_event_44 : decode cX1_event 44 = .ok (.invokespecial 47, 3) := by decide +kernel
theorem dX1_event_47 : decode cX1_event 47 = .ok (.athrow, 1) := by decide +kernel
theorem dX1_event_48 : decode cX1_event 48 = .ok (.aload_n 0, 1) := by decide +kernel
theorem dX1_event_49 : decode cX1_event 49 = .ok (.iload_n 1, 1) := by decide +kernel
theorem dX1_event_50 : decode cX1_event 50 = .ok (.invokevirtual 173, 3) := by decide +kernel
theorem dX1_event_53 : decode cX1_event 53 = .ok (.astore 4, 2) := by decide +kernel
theorem dX1_event_55 : decode cX1_event 55 = .ok (.iload_n 2, 1) := by decide +kernel
theorem dX1_event_56 : decode cX1_event 56 = .ok (.iconst 2, 1) := by decide +kernel
theorem dX1_event_57 : decode cX1_event 57 = .ok (.if_icmp .ne 18, 3) := by decide +kernel
theorem dX1_event_60 : decode cX1_event 60 = .ok (.aload_n 0, 1) := by decide +kernel
theorem dX1_event_61 : decode cX1_event 61 = .ok (.aload 4, 2) := by decide +kernel
theorem dX1_event_63 : decode cX1_event 63 = .ok (.iload_n 3, 1) := by decide +kernel
theorem dX1_event_64 : decode cX1_event 64 = .ok (.aload_n 0, 1) := by decide +kernel
theorem dX1_event_65 : decode cX1_event 65 = .ok (.aload 4, 2) := by decide +kernel
theorem dX1_event_67 : decode cX1_event 67 = .ok (.iload_n 3, 1) := by decide +kernel
theorem dX1_event_68 : decode cX1_event 68 = .ok (.invokevirtual 284, 3) := by decide +kernel
theorem dX1_event_71 : decode cX1_event 71 = .ok (.invokevirtual 288, 3) := by decide +kernel
theorem dX1_event_74 : decode cX1_event 74 = .ok (.dreturn, 1) := by decide +kernel
theorem dX1_event_75 : decode cX1_event 75 = .ok (.iload_n 2, 1) := by decide +kernel
theorem dX1_event_76 : decode cX1_event 76 = .ok (.ifCond .ne 7, 3) := by decide +kernel
theorem dX1_event_79 : decode cX1_event 79 = .ok (.iconst 1, 1) := by decide +kernel
theorem dX1_event_80 : decode cX1_event 80 = .ok (.goto 4, 3) := by decide +kernel
theorem dX1_event_83 : decode cX1_event 83 = .ok (.iconst 0, 1) := by decide +kernel
theorem dX1_event_84 : decode cX1_event 84 = .ok (.istore 5, 2) := by decide +kernel
theorem dX1_event_86 : decode cX1_event 86 = .ok (.aload_n 0, 1) := by decide +kernel
theorem dX1_event_87 : decode cX1_event 87 = .ok (.aload 4, 2) := by decide +kernel
theorem dX1_event_89 : decode cX1_event 89 = .ok (.iload_n 3, 1) := by decide +kernel
theorem dX1_event_90 : decode cX1_event 90 = .ok (.iload 5, 2) := by decide +kernel
theorem dX1_event_92 : decode cX1_event 92 = .ok (.invokevirtual 292, 3) := by decide +kernel
theorem dX1_event_95 : decode cX1_event 95 = .ok (.istore 6, 2) := by decide +kernel
theorem dX1_event_97 : decode cX1_event 97 = .ok (.iload 6, 2) := by decide +kernel
theorem dX1_event_99 : decode cX1_event 99 = .ok (.iconst (-1), 1) := by decide +kernel
theorem dX1_event_100 : decode cX1_event 100 = .ok (.if_icmp .ne 14, 3) := by decide +kernel
theorem dX1_event_103 : decode cX1_event 103 = .ok (.new 214, 3) := by decide +kernel
theorem dX1_event_106 : decode cX1_event 106 = .ok (.dup, 1) := by decide +kernel
theorem dX1_event_107 : decode cX1_event 107 = .ok (.ldc_w 296, 3) := by decide +kernel
theorem dX1_event_110 : decode cX1_event 110 = .ok (.invokespecial 218, 3) := by decide +kernel
theorem dX1_event_113 : decode cX1_event 113 = .ok (.athrow, 1) := by decide +kernel
theorem dX1_event_114 : decode cX1_event 114 = .ok (.aload_n 0, 1) := by decide +kernel
theorem dX1_event_115 : decode cX1_event 115 = .ok (.aload 4, 2) := by decide +kernel
theorem dX1_event_117 : decode cX1_event 117 = .ok (.iload_n 3, 1) := by decide +kernel
theorem dX1_event_118 : decode cX1_event 118 = .ok (.iload 6, 2) := by decide +kernel
theorem dX1_event_120 : decode cX1_event 120 = .ok (.iload 5, 2) := by decide +kernel
theorem dX1_event_122 : decode cX1_event 122 = .ok (.invokevirtual 298, 3) := by decide +kernel
theorem dX1_event_125 : decode cX1_event 125 = .ok (.dreturn, 1) := by decide +kernel
theorem dX1_timeOfPart_0 : decode cX1_timeOfPart 0 = .ok (.iload_n 0, 1) := by decide +kernel
theorem dX1_timeOfPart_1 : decode cX1_timeOfPart 1 = .ok (.i2d, 1) := by decide +kernel
theorem dX1_timeOfPart_2 : decode cX1_timeOfPart 2 = .ok (.iload_n 1, 1) := by decide +kernel
theorem dX1_timeOfPart_3 : decode cX1_timeOfPart 3 = .ok (.i2d, 1) := by decide +kernel
theorem dX1_timeOfPart_4 : decode cX1_timeOfPart 4 = .ok (.ldc2_w 302, 3) := by decide +kernel
theorem dX1_timeOfPart_7 : decode cX1_timeOfPart 7 = .ok (.ddiv, 1) := by decide +kernel
theorem dX1_timeOfPart_8 : decode cX1_timeOfPart 8 = .ok (.dadd, 1) := by decide +kernel
theorem dX1_timeOfPart_9 : decode cX1_timeOfPart 9 = .ok (.dreturn, 1) := by decide +kernel
set_option maxRecDepth 20000 in
theorem ggX1_partOfCrossing_X1_timeOfPart : GoodIn wsX1_partOfCrossing wsX1_timeOfPart := goodIn_r _ [4, 5] (by decide +kernel) (by decide +kernel)
set_option maxRecDepth 20000 in
theorem gX1_partOfCrossing_X1_timeOfPart : GoodIn wsX1_partOfCrossing (va_wsS RX1 304 yX1_timeOfPart wsX1_timeOfPart) := goodIn_app (goodIn_of _ (by decide +kernel)) ggX1_partOfCrossing_X1_timeOfPart
set_option maxRecDepth 20000 in
theorem ggX1_partOfCrossing_X1_heightOf : GoodIn wsX1_partOfCrossing wsX1_heightOf := goodIn_ca (goodIn_r _ [9, 10, 11, 12, 13, 14, 15, 16, 3, 17, 18, 19, 20, 21, 22, 23, 24, 25, 26, 27, 28, 29, 30, 31, 32, 33, 34, 35, 36, 37, 38, 39, 40, 41, 42, 43, 44, 45, 46, 47, 48, 49, 50, 51, 52, 53, 54, 55, 56, 57, 58, 59, 60, 61, 62, 63, 64, 65, 66, 67, 68, 69, 70, 71, 72, 73, 74, 75, 76, 77, 78, 79, 80, 81, 82, 83, 84, 85, 86, 87, 88, 89, 90] (by decide +kernel) (by decide +kernel)) (goodIn_sub (fun _ h => List.mem_cons_of_mem _ (List.mem_append_right _ h)) (by decide +kernel))
set_option maxRecDepth 20000 in
theorem gX1_partOfCrossing_X1_heightOf : GoodIn wsX1_partOfCrossing (wsV RX1 229 RX1 yX1_heightOf wsX1_heightOf) := goodIn_app (goodIn_of _ (by decide +kernel)) ggX1_partOfCrossing_X1_heightOf
theorem dX1_partOfCrossing_0 : decode cX1_partOfCrossing 0 = .ok (.aload_n 0, 1) := by decide +kernel
theorem dX1_partOfCrossing_1 : decode cX1_partOfCrossing 1 = .ok (.aload_n 1, 1) := by decide +kernel
theorem dX1_partOfCrossing_2 : decode cX1_partOfCrossing 2 = .ok (.iload_n 2, 1) := by decide +kernel
theorem dX1_partOfCrossing_3 : decode cX1_partOfCrossing 3 = .ok (.iconst 0, 1) := by decide +kernel
theorem dX1_partOfCrossing_4 : decode cX1_partOfCrossing 4 = .ok (.invokestatic 304, 3) := by decide +kernel
theorem dX1_partOfCrossing_7 : decode cX1_partOfCrossing 7 = .ok (.invokevirtual 229, 3) := by decide +kernel
theorem dX1_partOfCrossing_10 : decode cX1_partOfCrossing 10 = .ok (.dconst 0, 1) := by decide +kernel
theorem dX1_partOfCrossing_11 : decode cX1_partOfCrossing 11 = .ok (.dcmp .l, 1) := by decide +kernel
theorem dX1_partOfCrossing_12 : decode cX1_partOfCrossing 12 = .ok (.ifCond .lt 7, 3) := by decide +kernel
theorem dX1_partOfCrossing_15 : decode cX1_partOfCrossing 15 = .ok (.iconst 1, 1) := by decide +kernel
theorem dX1_partOfCrossing_16 : decode cX1_partOfCrossing 16 = .ok (.goto 4, 3) := by decide +kernel
theorem dX1_partOfCrossing_19 : decode cX1_partOfCrossing 19 = .ok (.iconst 0, 1) := by decide +kernel
theorem dX1_partOfCrossing_20 : decode cX1_partOfCrossing 20 = .ok (.istore 4, 2) := by decide +kernel
theorem dX1_partOfCrossing_22 : decode cX1_partOfCrossing 22 = .ok (.iconst 1, 1) := by decide +kernel
theorem dX1_partOfCrossing_23 : decode cX1_partOfCrossing 23 = .ok (.istore 5, 2) := by decide +kernel
theorem dX1_partOfCrossing_25 : decode cX1_partOfCrossing 25 = .ok (.iload 5, 2) := by decide +kernel
theorem dX1_partOfCrossing_27 : decode cX1_partOfCrossing 27 = .ok (.bipush 16, 2) := by decide +kernel
theorem dX1_partOfCrossing_29 : decode cX1_partOfCrossing 29 = .ok (.if_icmp .gt 51, 3) := by decide +kernel
theorem dX1_partOfCrossing_32 : decode cX1_partOfCrossing 32 = .ok (.aload_n 0, 1) := by decide +kernel
theorem dX1_partOfCrossing_33 : decode cX1_partOfCrossing 33 = .ok (.aload_n 1, 1) := by decide +kernel
theorem dX1_partOfCrossing_34 : decode cX1_partOfCrossing 34 = .ok (.iload_n 2, 1) := by decide +kernel
theorem dX1_partOfCrossing_35 : decode cX1_partOfCrossing 35 = .ok (.iload 5, 2) := by decide +kernel
theorem dX1_partOfCrossing_37 : decode cX1_partOfCrossing 37 = .ok (.invokestatic 304, 3) := by decide +kernel
theorem dX1_partOfCrossing_40 : decode cX1_partOfCrossing 40 = .ok (.invokevirtual 229, 3) := by decide +kernel
theorem dX1_partOfCrossing_43 : decode cX1_partOfCrossing 43 = .ok (.dconst 0, 1) := by decide +kernel
theorem dX1_partOfCrossing_44 : decode cX1_partOfCrossing 44 = .ok (.dcmp .l, 1) := by decide +kernel
theorem dX1_partOfCrossing_45 : decode cX1_partOfCrossing 45 = .ok (.ifCond .lt 7, 3) := by decide +kernel
theorem dX1_partOfCrossing_48 : decode cX1_partOfCrossing 48 = .ok (.iconst 1, 1) := by decide +kernel
theorem dX1_partOfCrossing_49 : decode cX1_partOfCrossing 49 = .ok (.goto 4, 3) := by decide +kernel
theorem dX1_partOfCrossing_52 : decode cX1_partOfCrossing 52 = .ok (.iconst 0, 1) := by decide +kernel
theorem dX1_partOfCrossing_53 : decode cX1_partOfCrossing 53 = .ok (.istore 6, 2) := by decide +kernel
theorem dX1_partOfCrossing_55 : decode cX1_partOfCrossing 55 = .ok (.iload 6, 2) := by decide +kernel
theorem dX1_partOfCrossing_57 : decode cX1_partOfCrossing 57 = .ok (.iload_n 3, 1) := by decide +kernel
theorem dX1_partOfCrossing_58 : decode cX1_partOfCrossing 58 = .ok (.if_icmp .ne 12, 3) := by decide +kernel
theorem dX1_partOfCrossing_61 : decode cX1_partOfCrossing 61 = .ok (.iload 4, 2) := by decide +kernel
theorem dX1_partOfCrossing_63 : decode cX1_partOfCrossing 63 = .ok (.iload_n 3, 1) := by decide +kernel
theorem dX1_partOfCrossing_64 : decode cX1_partOfCrossing 64 = .ok (.if_icmp .eq 6, 3) := by decide +kernel
theorem dX1_partOfCrossing_67 : decode cX1_partOfCrossing 67 = .ok (.iload 5, 2) := by decide +kernel
theorem dX1_partOfCrossing_69 : decode cX1_partOfCrossing 69 = .ok (.ireturn, 1) := by decide +kernel
theorem dX1_partOfCrossing_70 : decode cX1_partOfCrossing 70 = .ok (.iload 6, 2) := by decide +kernel
theorem dX1_partOfCrossing_72 : decode cX1_partOfCrossing 72 = .ok (.istore 4, 2) := by decide +kernel
theorem dX1_partOfCrossing_74 : decode cX1_partOfCrossing 74 = .ok (.iinc 5 1, 3) := by decide +kernel
theorem dX1_partOfCrossing_77 : decode cX1_partOfCrossing 77 = .ok (.goto (-52), 3) := by decide +kernel
theorem dX1_partOfCrossing_80 : decode cX1_partOfCrossing 80 = .ok (.iconst (-1), 1) := by decide +kernel
theorem dX1_partOfCrossing_81 : decode cX1_partOfCrossing 81 = .ok (.ireturn, 1) := by decide +kernel
set_option maxRecDepth 20000 in
theorem ggX1_narrowedToCrossing_X1_timeOfPart : GoodIn wsX1_narrowedToCrossing wsX1_timeOfPart := goodIn_r _ [5, 6] (by decide +kernel) (by decide +kernel)
set_option maxRecDepth 20000 in
theorem gX1_narrowedToCrossing_X1_timeOfPart : GoodIn wsX1_narrowedToCrossing (va_wsS RX1 304 yX1_timeOfPart wsX1_timeOfPart) := goodIn_app (goodIn_of _ (by decide +kernel)) ggX1_narrowedToCrossing_X1_timeOfPart
set_option maxRecDepth 20000 in
theorem ggX1_narrowedToCrossing_X1_heightOf : GoodIn wsX1_narrowedToCrossing wsX1_heightOf := goodIn_ca (goodIn_r _ [10, 11, 12, 13, 14, 15, 16, 17, 4, 18, 19, 20, 1, 21, 22, 23, 24, 25, 26, 27, 28, 29, 30, 31, 32, 33, 34, 35, 36, 37, 38, 39, 40, 41, 42, 43, 44, 45, 46, 47, 48, 49, 50, 51, 52, 53, 54, 55, 56, 57, 58, 59, 60, 61, 62, 63, 64, 65, 66, 67, 68, 69, 70, 71, 72, 73, 74, 75, 76, 77, 78, 79, 80, 81, 82, 83, 84, 85, 86, 87, 88, 89, 90] (by decide +kernel) (by decide +kernel)) (goodIn_sub (fun _ h => List.mem_cons_of_mem _ (List.mem_append_right _ h)) (by decide +kernel))
set_option maxRecDepth 20000 in
theorem gX1_narrowedToCrossing_X1_heightOf : GoodIn wsX1_narrowedToCrossing (wsV RX1 229 RX1 yX1_heightOf wsX1_heightOf) := goodIn_app (goodIn_of _ (by decide +kernel)) ggX1_narrowedToCrossing_X1_heightOf
theorem dX1_narrowedToCrossing_0 : decode cX1_narrowedToCrossing 0 = .ok (.iload_n 2, 1) := by decide +kernel
theorem dX1_narrowedToCrossing_1 : decode cX1_narrowedToCrossing 1 = .ok (.iload_n 3, 1) := by decide +kernel
theorem dX1_narrowedToCrossing_2 : decode cX1_narrowedToCrossing 2 = .ok (.iconst 1, 1) := by decide +kernel
theorem dX1_narrowedToCrossing_3 : decode cX1_narrowedToCrossing 3 = .ok (.isub, 1) := by decide +kernel
theorem dX1_narrowedToCrossing_4 : decode cX1_narrowedToCrossing 4 = .ok (.invokestatic 304, 3) := by decide +kernel
theorem dX1_narrowedToCrossing_7 : decode cX1_narrowedToCrossing 7 = .ok (.dstore 5, 2) := by decide +kernel
theorem dX1_narrowedToCrossing_9 : decode cX1_narrowedToCrossing 9 = .ok (.iload_n 2, 1) := by decide +kernel
theorem dX1_narrowedToCrossing_10 : decode cX1_narrowedToCrossing 10 = .ok (.iload_n 3, 1) := by decide +kernel
theorem dX1_narrowedToCrossing_11 : decode cX1_narrowedToCrossing 11 = .ok (.invokestatic 304, 3) := by decide +kernel
theorem dX1_narrowedToCrossing_14 : decode cX1_narrowedToCrossing 14 = .ok (.dstore 7, 2) := by decide +kernel
theorem dX1_narrowedToCrossing_16 : decode cX1_narrowedToCrossing 16 = .ok (.iconst 0, 1) := by decide +kernel
theorem dX1_narrowedToCrossing_17 : decode cX1_narrowedToCrossing 17 = .ok (.istore 9, 2) := by decide +kernel
theorem dX1_narrowedToCrossing_19 : decode cX1_narrowedToCrossing 19 = .ok (.iload 9, 2) := by decide +kernel
theorem dX1_narrowedToCrossing_21 : decode cX1_narrowedToCrossing 21 = .ok (.bipush 20, 2) := by decide +kernel
theorem dX1_narrowedToCrossing_23 : decode cX1_narrowedToCrossing 23 = .ok (.if_icmp .ge 53, 3) := by decide +kernel
theorem dX1_narrowedToCrossing_26 : decode cX1_narrowedToCrossing 26 = .ok (.dload 5, 2) := by decide +kernel
theorem dX1_narrowedToCrossing_28 : decode cX1_narrowedToCrossing 28 = .ok (.dload 7, 2) := by decide +kernel
theorem dX1_narrowedToCrossing_30 : decode cX1_narrowedToCrossing 30 = .ok (.dadd, 1) := by decide +kernel
theorem dX1_narrowedToCrossing_31 : decode cX1_narrowedToCrossing 31 = .ok (.ldc2_w 251, 3) := by decide +kernel
theorem dX1_narrowedToCrossing_34 : decode cX1_narrowedToCrossing 34 = .ok (.ddiv, 1) := by decide +kernel
theorem dX1_narrowedToCrossing_35 : decode cX1_narrowedToCrossing 35 = .ok (.dstore 10, 2) := by decide +kernel
theorem dX1_narrowedToCrossing_37 : decode cX1_narrowedToCrossing 37 = .ok (.aload_n 0, 1) := by decide +kernel
theorem dX1_narrowedToCrossing_38 : decode cX1_narrowedToCrossing 38 = .ok (.aload_n 1, 1) := by decide +kernel
theorem dX1_narrowedToCrossing_39 : decode cX1_narrowedToCrossing 39 = .ok (.dload 10, 2) := by decide +kernel
theorem dX1_narrowedToCrossing_41 : decode cX1_narrowedToCrossing 41 = .ok (.invokevirtual 229, 3) := by decide +kernel
theorem dX1_narrowedToCrossing_44 : decode cX1_narrowedToCrossing 44 = .ok (.dconst 0, 1) := by decide +kernel
theorem dX1_narrowedToCrossing_45 : decode cX1_narrowedToCrossing 45 = .ok (.dcmp .l, 1) := by decide +kernel
theorem dX1_narrowedToCrossing_46 : decode cX1_narrowedToCrossing 46 = .ok (.ifCond .lt 7, 3) := by decide +kernel
theorem dX1_narrowedToCrossing_49 : decode cX1_narrowedToCrossing 49 = .ok (.iconst 1, 1) := by decide +kernel
theorem dX1_narrowedToCrossing_50 : decode cX1_narrowedToCrossing 50 = .ok (.goto 4, 3) := by decide +kernel
theorem dX1_narrowedToCrossing_53 : decode cX1_narrowedToCrossing 53 = .ok (.iconst 0, 1) := by decide +kernel
theorem dX1_narrowedToCrossing_54 : decode cX1_narrowedToCrossing 54 = .ok (.iload 4, 2) := by decide +kernel
theorem dX1_narrowedToCrossing_56 : decode cX1_narrowedToCrossing 56 = .ok (.if_icmp .ne 10, 3) := by decide +kernel
theorem dX1_narrowedToCrossing_59 : decode cX1_narrowedToCrossing 59 = .ok (.dload 10, 2) := by decide +kernel
theorem dX1_narrowedToCrossing_61 : decode cX1_narrowedToCrossing 61 = .ok (.dstore 7, 2) := by decide +kernel
theorem dX1_narrowedToCrossing_63 : decode cX1_narrowedToCrossing 63 = .ok (.goto 7, 3) := by decide +kernel
theorem dX1_narrowedToCrossing_66 : decode cX1_narrowedToCrossing 66 = .ok (.dload 10, 2) := by decide +kernel
theorem dX1_narrowedToCrossing_68 : decode cX1_narrowedToCrossing 68 = .ok (.dstore 5, 2) := by decide +kernel
theorem dX1_narrowedToCrossing_70 : decode cX1_narrowedToCrossing 70 = .ok (.iinc 9 1, 3) := by decide +kernel
theorem dX1_narrowedToCrossing_73 : decode cX1_narrowedToCrossing 73 = .ok (.goto (-54), 3) := by decide +kernel
theorem dX1_narrowedToCrossing_76 : decode cX1_narrowedToCrossing 76 = .ok (.dload 7, 2) := by decide +kernel
theorem dX1_narrowedToCrossing_78 : decode cX1_narrowedToCrossing 78 = .ok (.dreturn, 1) := by decide +kernel
set_option maxRecDepth 20000 in
theorem ggX1_partOfGreatestHeight_X1_timeOfPart : GoodIn wsX1_partOfGreatestHeight wsX1_timeOfPart := goodIn_r _ [4, 5] (by decide +kernel) (by decide +kernel)
set_option maxRecDepth 20000 in
theorem gX1_partOfGreatestHeight_X1_timeOfPart : GoodIn wsX1_partOfGreatestHeight (va_wsS RX1 304 yX1_timeOfPart wsX1_timeOfPart) := goodIn_app (goodIn_of _ (by decide +kernel)) ggX1_partOfGreatestHeight_X1_timeOfPart
set_option maxRecDepth 20000 in
theorem ggX1_partOfGreatestHeight_X1_heightOf : GoodIn wsX1_partOfGreatestHeight wsX1_heightOf := goodIn_ca (goodIn_r _ [9, 10, 11, 12, 13, 14, 15, 16, 3, 17, 18, 19, 20, 21, 22, 23, 24, 25, 26, 27, 28, 29, 30, 31, 32, 33, 34, 35, 36, 37, 38, 39, 40, 41, 42, 43, 44, 45, 46, 47, 48, 49, 50, 51, 52, 53, 54, 55, 56, 57, 58, 59, 60, 61, 62, 63, 64, 65, 66, 67, 68, 69, 70, 71, 72, 73, 74, 75, 76, 77, 78, 79, 80, 81, 82, 83, 84, 85, 86, 87, 88, 89, 90] (by decide +kernel) (by decide +kernel)) (goodIn_sub (fun _ h => List.mem_cons_of_mem _ (List.mem_append_right _ h)) (by decide +kernel))
set_option maxRecDepth 20000 in
theorem gX1_partOfGreatestHeight_X1_heightOf : GoodIn wsX1_partOfGreatestHeight (wsV RX1 229 RX1 yX1_heightOf wsX1_heightOf) := goodIn_app (goodIn_of _ (by decide +kernel)) ggX1_partOfGreatestHeight_X1_heightOf
theorem dX1_partOfGreatestHeight_0 : decode cX1_partOfGreatestHeight 0 = .ok (.iconst 1, 1) := by decide +kernel
theorem dX1_partOfGreatestHeight_1 : decode cX1_partOfGreatestHeight 1 = .ok (.istore_n 3, 1) := by decide +kernel
theorem dX1_partOfGreatestHeight_2 : decode cX1_partOfGreatestHeight 2 = .ok (.aload_n 0, 1) := by decide +kernel
theorem dX1_partOfGreatestHeight_3 : decode cX1_partOfGreatestHeight 3 = .ok (.aload_n 1, 1) := by decide +kernel
theorem dX1_partOfGreatestHeight_4 : decode cX1_partOfGreatestHeight 4 = .ok (.iload_n 2, 1) := by decide +kernel
theorem dX1_partOfGreatestHeight_5 : decode cX1_partOfGreatestHeight 5 = .ok (.iconst 1, 1) := by decide +kernel
theorem dX1_partOfGreatestHeight_6 : decode cX1_partOfGreatestHeight 6 = .ok (.invokestatic 304, 3) := by decide +kernel
theorem dX1_partOfGreatestHeight_9 : decode cX1_partOfGreatestHeight 9 = .ok (.invokevirtual 229, 3) := by decide +kernel
theorem dX1_partOfGreatestHeight_12 : decode cX1_partOfGreatestHeight 12 = .ok (.dstore 4, 2) := by decide +kernel
theorem dX1_partOfGreatestHeight_14 : decode cX1_partOfGreatestHeight 14 = .ok (.iconst 2, 1) := by decide +kernel
theorem dX1_partOfGreatestHeight_15 : decode cX1_partOfGreatestHeight 15 = .ok (.istore 6, 2) := by decide +kernel
theorem dX1_partOfGreatestHeight_17 : decode cX1_partOfGreatestHeight 17 = .ok (.iload 6, 2) := by decide +kernel
theorem dX1_partOfGreatestHeight_19 : decode cX1_partOfGreatestHeight 19 = .ok (.bipush 16, 2) := by decide +kernel
theorem dX1_partOfGreatestHeight_21 : decode cX1_partOfGreatestHeight 21 = .ok (.if_icmp .ge 37, 3) := by decide +kernel
theorem dX1_partOfGreatestHeight_24 : decode cX1_partOfGreatestHeight 24 = .ok (.aload_n 0, 1) := by decide +kernel
theorem dX1_partOfGreatestHeight_25 : decode cX1_partOfGreatestHeight 25 = .ok (.aload_n 1, 1) := by decide +kernel
theorem dX1_partOfGreatestHeight_26 : decode cX1_partOfGreatestHeight 26 = .ok (.iload_n 2, 1) := by decide +kernel
theorem dX1_partOfGreatestHeight_27 : decode cX1_partOfGreatestHeight 27 = .ok (.iload 6, 2) := by decide +kernel
theorem dX1_partOfGreatestHeight_29 : decode cX1_partOfGreatestHeight 29 = .ok (.invokestatic 304, 3) := by decide +kernel
theorem dX1_partOfGreatestHeight_32 : decode cX1_partOfGreatestHeight 32 = .ok (.invokevirtual 229, 3) := by decide +kernel
theorem dX1_partOfGreatestHeight_35 : decode cX1_partOfGreatestHeight 35 = .ok (.dstore 7, 2) := by decide +kernel
theorem dX1_partOfGreatestHeight_37 : decode cX1_partOfGreatestHeight 37 = .ok (.dload 7, 2) := by decide +kernel
theorem dX1_partOfGreatestHeight_39 : decode cX1_partOfGreatestHeight 39 = .ok (.dload 4, 2) := by decide +kernel
theorem dX1_partOfGreatestHeight_41 : decode cX1_partOfGreatestHeight 41 = .ok (.dcmp .l, 1) := by decide +kernel
theorem dX1_partOfGreatestHeight_42 : decode cX1_partOfGreatestHeight 42 = .ok (.ifCond .le 10, 3) := by decide +kernel
theorem dX1_partOfGreatestHeight_45 : decode cX1_partOfGreatestHeight 45 = .ok (.iload 6, 2) := by decide +kernel
theorem dX1_partOfGreatestHeight_47 : decode cX1_partOfGreatestHeight 47 = .ok (.istore_n 3, 1) := by decide +kernel
theorem dX1_partOfGreatestHeight_48 : decode cX1_partOfGreatestHeight 48 = .ok (.dload 7, 2) := by decide +kernel
theorem dX1_partOfGreatestHeight_50 : decode cX1_partOfGreatestHeight 50 = .ok (.dstore 4, 2) := by decide +kernel
theorem dX1_partOfGreatestHeight_52 : decode cX1_partOfGreatestHeight 52 = .ok (.iinc 6 1, 3) := by decide +kernel
theorem dX1_partOfGreatestHeight_55 : decode cX1_partOfGreatestHeight 55 = .ok (.goto (-38), 3) := by decide +kernel
theorem dX1_partOfGreatestHeight_58 : decode cX1_partOfGreatestHeight 58 = .ok (.iload_n 3, 1) := by decide +kernel
theorem dX1_partOfGreatestHeight_59 : decode cX1_partOfGreatestHeight 59 = .ok (.ireturn, 1) := by decide +kernel
set_option maxRecDepth 20000 in
theorem ggX1_narrowedToHighest_X1_timeOfPart : GoodIn wsX1_narrowedToHighest wsX1_timeOfPart := goodIn_r _ [6, 7] (by decide +kernel) (by decide +kernel)
set_option maxRecDepth 20000 in
theorem gX1_narrowedToHighest_X1_timeOfPart : GoodIn wsX1_narrowedToHighest (va_wsS RX1 304 yX1_timeOfPart wsX1_timeOfPart) := goodIn_app (goodIn_of _ (by decide +kernel)) ggX1_narrowedToHighest_X1_timeOfPart
set_option maxRecDepth 20000 in
theorem ggX1_narrowedToHighest_X1_heightOf : GoodIn wsX1_narrowedToHighest wsX1_heightOf := goodIn_ca (goodIn_r _ [11, 12, 13, 14, 15, 16, 17, 18, 5, 19, 20, 21, 2, 22, 23, 24, 25, 26, 27, 28, 29, 30, 31, 32, 33, 34, 35, 36, 37, 38, 39, 40, 41, 42, 43, 44, 45, 46, 47, 48, 49, 50, 51, 52, 53, 54, 55, 56, 57, 58, 59, 60, 61, 62, 63, 64, 65, 66, 67, 68, 69, 70, 71, 72, 73, 74, 75, 76, 77, 78, 79, 80, 81, 82, 83, 84, 85, 86, 87, 88, 89, 90, 91] (by decide +kernel) (by decide +kernel)) (goodIn_sub (fun _ h => List.mem_cons_of_mem _ (List.mem_append_right _ h)) (by decide +kernel))
set_option maxRecDepth 20000 in
theorem gX1_narrowedToHighest_X1_heightOf : GoodIn wsX1_narrowedToHighest (wsV RX1 229 RX1 yX1_heightOf wsX1_heightOf) := goodIn_app (goodIn_of _ (by decide +kernel)) ggX1_narrowedToHighest_X1_heightOf
theorem dX1_narrowedToHighest_0 : decode cX1_narrowedToHighest 0 = .ok (.iload_n 2, 1) := by decide +kernel
theorem dX1_narrowedToHighest_1 : decode cX1_narrowedToHighest 1 = .ok (.iload_n 3, 1) := by decide +kernel
theorem dX1_narrowedToHighest_2 : decode cX1_narrowedToHighest 2 = .ok (.iconst 1, 1) := by decide +kernel
theorem dX1_narrowedToHighest_3 : decode cX1_narrowedToHighest 3 = .ok (.isub, 1) := by decide +kernel
theorem dX1_narrowedToHighest_4 : decode cX1_narrowedToHighest 4 = .ok (.invokestatic 304, 3) := by decide +kernel
theorem dX1_narrowedToHighest_7 : decode cX1_narrowedToHighest 7 = .ok (.dstore 4, 2) := by decide +kernel
theorem dX1_narrowedToHighest_9 : decode cX1_narrowedToHighest 9 = .ok (.iload_n 2, 1) := by decide +kernel
theorem dX1_narrowedToHighest_10 : decode cX1_narrowedToHighest 10 = .ok (.iload_n 3, 1) := by decide +kernel
theorem dX1_narrowedToHighest_11 : decode cX1_narrowedToHighest 11 = .ok (.iconst 1, 1) := by decide +kernel
theorem dX1_narrowedToHighest_12 : decode cX1_narrowedToHighest 12 = .ok (.iadd, 1) := by decide +kernel
theorem dX1_narrowedToHighest_13 : decode cX1_narrowedToHighest 13 = .ok (.invokestatic 304, 3) := by decide +kernel
theorem dX1_narrowedToHighest_16 : decode cX1_narrowedToHighest 16 = .ok (.dstore 6, 2) := by decide +kernel
theorem dX1_narrowedToHighest_18 : decode cX1_narrowedToHighest 18 = .ok (.iconst 0, 1) := by decide +kernel
theorem dX1_narrowedToHighest_19 : decode cX1_narrowedToHighest 19 = .ok (.istore 8, 2) := by decide +kernel
theorem dX1_narrowedToHighest_21 : decode cX1_narrowedToHighest 21 = .ok (.iload 8, 2) := by decide +kernel
theorem dX1_narrowedToHighest_23 : decode cX1_narrowedToHighest 23 = .ok (.bipush 24, 2) := by decide +kernel
theorem dX1_narrowedToHighest_25 : decode cX1_narrowedToHighest 25 = .ok (.if_icmp .ge 74, 3) := by decide +kernel
theorem dX1_narrowedToHighest_28 : decode cX1_narrowedToHighest 28 = .ok (.dload 4, 2) := by decide +kernel
theorem dX1_narrowedToHighest_30 : decode cX1_narrowedToHighest 30 = .ok (.dload 6, 2) := by decide +kernel
theorem dX1_narrowedToHighest_32 : decode cX1_narrowedToHighest 32 = .ok (.dload 4, 2) := by decide +kernel
theorem dX1_narrowedToHighest_34 : decode cX1_narrowedToHighest 34 = .ok (.dsub, 1) := by decide +kernel
theorem dX1_narrowedToHighest_35 : decode cX1_narrowedToHighest 35 = .ok (.ldc2_w 308, 3) := by decide +kernel
theorem dX1_narrowedToHighest_38 : decode cX1_narrowedToHighest 38 = .ok (.ddiv, 1) := by decide +kernel
theorem dX1_narrowedToHighest_39 : decode cX1_narrowedToHighest 39 = .ok (.dadd, 1) := by decide +kernel
theorem dX1_narrowedToHighest_40 : decode cX1_narrowedToHighest 40 = .ok (.dstore 9, 2) := by decide +kernel
theorem dX1_narrowedToHighest_42 : decode cX1_narrowedToHighest 42 = .ok (.dload 6, 2) := by decide +kernel
theorem dX1_narrowedToHighest_44 : decode cX1_narrowedToHighest 44 = .ok (.dload 6, 2) := by decide +kernel
theorem dX1_narrowedToHighest_46 : decode cX1_narrowedToHighest 46 = .ok (.dload 4, 2) := by decide +kernel
theorem dX1_narrowedToHighest_48 : decode cX1_narrowedToHighest 48 = .ok (.dsub, 1) := by decide +kernel
theorem dX1_narrowedToHighest_49 : decode cX1_narrowedToHighest 49 = .ok (.ldc2_w 308, 3) := by decide +kernel
theorem dX1_narrowedToHighest_52 : decode cX1_narrowedToHighest 52 = .ok (.ddiv, 1) := by decide +kernel
theorem dX1_narrowedToHighest_53 : decode cX1_narrowedToHighest 53 = .ok (.dsub, 1) := by decide +kernel
theorem dX1_narrowedToHighest_54 : decode cX1_narrowedToHighest 54 = .ok (.dstore 11, 2) := by decide +kernel
theorem dX1_narrowedToHighest_56 : decode cX1_narrowedToHighest 56 = .ok (.aload_n 0, 1) := by decide +kernel
theorem dX1_narrowedToHighest_57 : decode cX1_narrowedToHighest 57 = .ok (.aload_n 1, 1) := by decide +kernel
theorem dX1_narrowedToHighest_58 : decode cX1_narrowedToHighest 58 = .ok (.dload 9, 2) := by decide +kernel
theorem dX1_narrowedToHighest_60 : decode cX1_narrowedToHighest 60 = .ok (.invokevirtual 229, 3) := by decide +kernel
theorem dX1_narrowedToHighest_63 : decode cX1_narrowedToHighest 63 = .ok (.dstore 13, 2) := by decide +kernel
theorem dX1_narrowedToHighest_65 : decode cX1_narrowedToHighest 65 = .ok (.aload_n 0, 1) := by decide +kernel
theorem dX1_narrowedToHighest_66 : decode cX1_narrowedToHighest 66 = .ok (.aload_n 1, 1) := by decide +kernel
theorem dX1_narrowedToHighest_67 : decode cX1_narrowedToHighest 67 = .ok (.dload 11, 2) := by decide +kernel
theorem dX1_narrowedToHighest_69 : decode cX1_narrowedToHighest 69 = .ok (.invokevirtual 229, 3) := by decide +kernel
theorem dX1_narrowedToHighest_72 : decode cX1_narrowedToHighest 72 = .ok (.dstore 15, 2) := by decide +kernel
theorem dX1_narrowedToHighest_74 : decode cX1_narrowedToHighest 74 = .ok (.dload 13, 2) := by decide +kernel
theorem dX1_narrowedToHighest_76 : decode cX1_narrowedToHighest 76 = .ok (.dload 15, 2) := by decide +kernel
theorem dX1_narrowedToHighest_78 : decode cX1_narrowedToHighest 78 = .ok (.dcmp .g, 1) := by decide +kernel
theorem dX1_narrowedToHighest_79 : decode cX1_narrowedToHighest 79 = .ok (.ifCond .ge 10, 3) := by decide +kernel
theorem dX1_narrowedToHighest_82 : decode cX1_narrowedToHighest 82 = .ok (.dload 9, 2) := by decide +kernel
theorem dX1_narrowedToHighest_84 : decode cX1_narrowedToHighest 84 = .ok (.dstore 4, 2) := by decide +kernel
theorem dX1_narrowedToHighest_86 : decode cX1_narrowedToHighest 86 = .ok (.goto 7, 3) := by decide +kernel
theorem dX1_narrowedToHighest_89 : decode cX1_narrowedToHighest 89 = .ok (.dload 11, 2) := by decide +kernel
theorem dX1_narrowedToHighest_91 : decode cX1_narrowedToHighest 91 = .ok (.dstore 6, 2) := by decide +kernel
theorem dX1_narrowedToHighest_93 : decode cX1_narrowedToHighest 93 = .ok (.iinc 8 1, 3) := by decide +kernel
theorem dX1_narrowedToHighest_96 : decode cX1_narrowedToHighest 96 = .ok (.goto (-75), 3) := by decide +kernel
theorem dX1_narrowedToHighest_99 : decode cX1_narrowedToHighest 99 = .ok (.dload 4, 2) := by decide +kernel
theorem dX1_narrowedToHighest_101 : decode cX1_narrowedToHighest 101 = .ok (.dload 6, 2) := by decide +kernel
theorem dX1_narrowedToHighest_103 : decode cX1_narrowedToHighest 103 = .ok (.dadd, 1) := by decide +kernel
theorem dX1_narrowedToHighest_104 : decode cX1_narrowedToHighest 104 = .ok (.ldc2_w 251, 3) := by decide +kernel
theorem dX1_narrowedToHighest_107 : decode cX1_narrowedToHighest 107 = .ok (.ddiv, 1) := by decide +kernel
theorem dX1_narrowedToHighest_108 : decode cX1_narrowedToHighest 108 = .ok (.dreturn, 1) := by decide +kernel
set_option maxRecDepth 20000 in
theorem ggX1_write_X1_isWithin : GoodIn wsX1_write wsX1_isWithin := goodIn_r _ [14] (by decide +kernel) (by decide +kernel)
set_option maxRecDepth 20000 in
theorem gX1_write_X1_isWithin : GoodIn wsX1_write (va_wsS RX1 145 yX1_isWithin wsX1_isWithin) := goodIn_app (goodIn_of _ (by decide +kernel)) ggX1_write_X1_isWithin
set_option maxRecDepth 20000 in
theorem ggX1_write_X1_isWholeWithin : GoodIn wsX1_write wsX1_isWholeWithin := goodIn_r _ [17] (by decide +kernel) (by decide +kernel)
set_option maxRecDepth 20000 in
theorem gX1_write_X1_isWholeWithin : GoodIn wsX1_write (va_wsS RX1 39 yX1_isWholeWithin wsX1_isWholeWithin) := goodIn_app (goodIn_of _ (by decide +kernel)) ggX1_write_X1_isWholeWithin
set_option maxRecDepth 20000 in
theorem ggX1_write_X1_tenToThe : GoodIn wsX1_write wsX1_tenToThe := goodIn_r _ [20, 21] (by decide +kernel) (by decide +kernel)
set_option maxRecDepth 20000 in
theorem gX1_write_X1_tenToThe : GoodIn wsX1_write (va_wsS RX1 320 yX1_tenToThe wsX1_tenToThe) := goodIn_app (goodIn_of _ (by decide +kernel)) ggX1_write_X1_tenToThe
set_option maxRecDepth 20000 in
theorem ggX1_write_X1_wholeParts : GoodIn wsX1_write wsX1_wholeParts := goodIn_r _ [24] (by decide +kernel) (by decide +kernel)
set_option maxRecDepth 20000 in
theorem gX1_write_X1_wholeParts : GoodIn wsX1_write (va_wsS RX1 326 yX1_wholeParts wsX1_wholeParts) := goodIn_app (goodIn_of _ (by decide +kernel)) ggX1_write_X1_wholeParts
set_option maxRecDepth 20000 in
theorem ggX1_write_X1_put : GoodIn wsX1_write wsX1_put := goodIn_r _ [28, 8, 29, 36, 37, 38, 39, 40, 41, 42] (by decide +kernel) (by decide +kernel)
set_option maxRecDepth 20000 in
theorem gX1_write_X1_put : GoodIn wsX1_write (wsV RX1 329 RX1 yX1_put wsX1_put) := goodIn_app (goodIn_of _ (by decide +kernel)) ggX1_write_X1_put
set_option maxRecDepth 20000 in
theorem ggX1_write_X1_putNumber : GoodIn wsX1_write wsX1_putNumber := goodIn_r _ [33, 21, 34, 35, 22, 23, 13, 24, 25, 26, 27, 28, 8, 29, 36, 37, 38, 39, 40, 41, 42] (by decide +kernel) (by decide +kernel)
set_option maxRecDepth 20000 in
theorem gX1_write_X1_putNumber : GoodIn wsX1_write (wsV RX1 335 RX1 yX1_putNumber wsX1_putNumber) := goodIn_app (goodIn_of _ (by decide +kernel)) ggX1_write_X1_putNumber
theorem dX1_write_0 : decode cX1_write 0 = .ok (.dload_n 1, 1) := by decide +kernel
theorem dX1_write_1 : decode cX1_write 1 = .ok (.ldc2_w 310, 3) := by decide +kernel
theorem dX1_write_4 : decode cX1_write 4 = .ok (.ldc2_w 312, 3) := by decide +kernel
theorem dX1_write_7 : decode cX1_write 7 = .ok (.invokestatic 145, 3) := by decide +kernel
theorem dX1_write_10 : decode cX1_write 10 = .ok (.ifCond .ne 14, 3) := by decide +kernel
theorem dX1_write_13 : decode cX1_write 13 = .ok (.new 43, 3) := by decide +kernel
theorem dX1_write_16 : decode cX1_write 16 = .ok (.dup, 1) := by decide +kernel
theorem dX1_write_17 : decode cX1_write 17 = .ok (.ldc_w 314, 3) := by decide +kernel
theorem dX1_write_20 : decode cX1_write 20 = .ok (.invokespecial 47, 3) := by decide +kernel
theorem dX1_write_23 : decode cX1_write 23 = .ok (.athrow, 1) := by decide +kernel
theorem dX1_write_24 : decode cX1_write 24 = .ok (.iload_n 3, 1) := by decide +kernel
theorem dX1_write_25 : decode cX1_write 25 = .ok (.i2l, 1) := by decide +kernel
theorem dX1_write_26 : decode cX1_write 26 = .ok (.lconst 0, 1) := by decide +kernel
theorem dX1_write_27 : decode cX1_write 27 = .ok (.ldc2_w 316, 3) := by decide +kernel
theorem dX1_write_30 : decode cX1_write 30 = .ok (.invokestatic 39, 3) := by decide +kernel
theorem dX1_write_33 : decode cX1_write 33 = .ok (.ifCond .ne 14, 3) := by decide +kernel
theorem dX1_write_36 : decode cX1_write 36 = .ok (.new 43, 3) := by decide +kernel
theorem dX1_write_39 : decode cX1_write 39 = .ok (.dup, 1) := by decide +kernel
theorem dX1_write_40 : decode cX1_write 40 = .ok (.ldc_w 318, 3) := by decide +kernel
theorem dX1_write_43 : decode cX1_write 43 = .ok (.invokespecial 47, 3) := by decide +kernel
theorem dX1_write_46 : decode cX1_write 46 = .ok (.athrow, 1) := by decide +kernel
theorem dX1_write_47 : decode cX1_write 47 = .ok (.iload_n 3, 1) := by decide +kernel
theorem dX1_write_48 : decode cX1_write 48 = .ok (.invokestatic 320, 3) := by decide +kernel
theorem dX1_write_51 : decode cX1_write 51 = .ok (.lstore 4, 2) := by decide +kernel
theorem dX1_write_53 : decode cX1_write 53 = .ok (.dload_n 1, 1) := by decide +kernel
theorem dX1_write_54 : decode cX1_write 54 = .ok (.dconst 0, 1) := by decide +kernel
theorem dX1_write_55 : decode cX1_write 55 = .ok (.dcmp .g, 1) := by decide +kernel
theorem dX1_write_56 : decode cX1_write 56 = .ok (.ifCond .ge 8, 3) := by decide +kernel
theorem dX1_write_59 : decode cX1_write 59 = .ok (.dload_n 1, 1) := by decide +kernel
theorem dX1_write_60 : decode cX1_write 60 = .ok (.dneg, 1) := by decide +kernel
theorem dX1_write_61 : decode cX1_write 61 = .ok (.goto 4, 3) := by decide +kernel
theorem dX1_write_64 : decode cX1_write 64 = .ok (.dload_n 1, 1) := by decide +kernel
theorem dX1_write_65 : decode cX1_write 65 = .ok (.dstore 6, 2) := by decide +kernel
theorem dX1_write_67 : decode cX1_write 67 = .ok (.dload 6, 2) := by decide +kernel
theorem dX1_write_69 : decode cX1_write 69 = .ok (.ldc2_w 324, 3) := by decide +kernel
theorem dX1_write_72 : decode cX1_write 72 = .ok (.dmul, 1) := by decide +kernel
theorem dX1_write_73 : decode cX1_write 73 = .ok (.lload 4, 2) := by decide +kernel
theorem dX1_write_75 : decode cX1_write 75 = .ok (.l2d, 1) := by decide +kernel
theorem dX1_write_76 : decode cX1_write 76 = .ok (.dmul, 1) := by decide +kernel
theorem dX1_write_77 : decode cX1_write 77 = .ok (.ldc2_w 249, 3) := by decide +kernel
theorem dX1_write_80 : decode cX1_write 80 = .ok (.dadd, 1) := by decide +kernel
theorem dX1_write_81 : decode cX1_write 81 = .ok (.d2l, 1) := by decide +kernel
theorem dX1_write_82 : decode cX1_write 82 = .ok (.lstore 8, 2) := by decide +kernel
theorem dX1_write_84 : decode cX1_write 84 = .ok (.lload 8, 2) := by decide +kernel
theorem dX1_write_86 : decode cX1_write 86 = .ok (.lload 4, 2) := by decide +kernel
theorem dX1_write_88 : decode cX1_write 88 = .ok (.invokestatic 326, 3) := by decide +kernel
theorem dX1_write_91 : decode cX1_write 91 = .ok (.lstore 10, 2) := by decide +kernel
theorem dX1_write_93 : decode cX1_write 93 = .ok (.aload_n 0, 1) := by decide +kernel
theorem dX1_write_94 : decode cX1_write 94 = .ok (.iconst 0, 1) := by decide +kernel
theorem dX1_write_95 : decode cX1_write 95 = .ok (.putfield 20, 3) := by decide +kernel
theorem dX1_write_98 : decode cX1_write 98 = .ok (.dload_n 1, 1) := by decide +kernel
theorem dX1_write_99 : decode cX1_write 99 = .ok (.dconst 0, 1) := by decide +kernel
theorem dX1_write_100 : decode cX1_write 100 = .ok (.dcmp .g, 1) := by decide +kernel
theorem dX1_write_101 : decode cX1_write 101 = .ok (.ifCond .ge 16, 3) := by decide +kernel
theorem dX1_write_104 : decode cX1_write 104 = .ok (.lload 8, 2) := by decide +kernel
theorem dX1_write_106 : decode cX1_write 106 = .ok (.lconst 0, 1) := by decide +kernel
theorem dX1_write_107 : decode cX1_write 107 = .ok (.lcmp, 1) := by decide +kernel
theorem dX1_write_108 : decode cX1_write 108 = .ok (.ifCond .le 9, 3) := by decide +kernel
theorem dX1_write_111 : decode cX1_write 111 = .ok (.aload_n 0, 1) := by decide +kernel
theorem dX1_write_112 : decode cX1_write 112 = .ok (.bipush 45, 2) := by decide +kernel
theorem dX1_write_114 : decode cX1_write 114 = .ok (.invokevirtual 329, 3) := by decide +kernel
theorem dX1_write_117 : decode cX1_write 117 = .ok (.aload_n 0, 1) := by decide +kernel
theorem dX1_write_118 : decode cX1_write 118 = .ok (.lload 10, 2) := by decide +kernel
theorem dX1_write_120 : decode cX1_write 120 = .ok (.ldc2_w 333, 3) := by decide +kernel
theorem dX1_write_123 : decode cX1_write 123 = .ok (.ldiv, 1) := by decide +kernel
theorem dX1_write_124 : decode cX1_write 124 = .ok (.iconst 1, 1) := by decide +kernel
theorem dX1_write_125 : decode cX1_write 125 = .ok (.invokevirtual 335, 3) := by decide +kernel
theorem dX1_write_128 : decode cX1_write 128 = .ok (.aload_n 0, 1) := by decide +kernel
theorem dX1_write_129 : decode cX1_write 129 = .ok (.bipush 100, 2) := by decide +kernel
theorem dX1_write_131 : decode cX1_write 131 = .ok (.invokevirtual 329, 3) := by decide +kernel
theorem dX1_write_134 : decode cX1_write 134 = .ok (.aload_n 0, 1) := by decide +kernel
theorem dX1_write_135 : decode cX1_write 135 = .ok (.lload 10, 2) := by decide +kernel
theorem dX1_write_137 : decode cX1_write 137 = .ok (.ldc2_w 339, 3) := by decide +kernel
theorem dX1_write_140 : decode cX1_write 140 = .ok (.ldiv, 1) := by decide +kernel
theorem dX1_write_141 : decode cX1_write 141 = .ok (.ldc2_w 339, 3) := by decide +kernel
theorem dX1_write_144 : decode cX1_write 144 = .ok (.lrem, 1) := by decide +kernel
theorem dX1_write_145 : decode cX1_write 145 = .ok (.iconst 2, 1) := by decide +kernel
theorem dX1_write_146 : decode cX1_write 146 = .ok (.invokevirtual 335, 3) := by decide +kernel
theorem dX1_write_149 : decode cX1_write 149 = .ok (.aload_n 0, 1) := by decide +kernel
theorem dX1_write_150 : decode cX1_write 150 = .ok (.bipush 109, 2) := by decide +kernel
theorem dX1_write_152 : decode cX1_write 152 = .ok (.invokevirtual 329, 3) := by decide +kernel
theorem dX1_write_155 : decode cX1_write 155 = .ok (.aload_n 0, 1) := by decide +kernel
theorem dX1_write_156 : decode cX1_write 156 = .ok (.lload 10, 2) := by decide +kernel
theorem dX1_write_158 : decode cX1_write 158 = .ok (.ldc2_w 339, 3) := by decide +kernel
theorem dX1_write_161 : decode cX1_write 161 = .ok (.lrem, 1) := by decide +kernel
theorem dX1_write_162 : decode cX1_write 162 = .ok (.iconst 2, 1) := by decide +kernel
theorem dX1_write_163 : decode cX1_write 163 = .ok (.invokevirtual 335, 3) := by decide +kernel
theorem dX1_write_166 : decode cX1_write 166 = .ok (.iload_n 3, 1) := by decide +kernel
theorem dX1_write_167 : decode cX1_write 167 = .ok (.ifCond .le 22, 3) := by decide +kernel
theorem dX1_write_170 : decode cX1_write 170 = .ok (.aload_n 0, 1) := by decide +kernel
theorem dX1_write_171 : decode cX1_write 171 = .ok (.bipush 46, 2) := by decide +kernel
theorem dX1_write_173 : decode cX1_write 173 = .ok (.invokevirtual 329, 3) := by decide +kernel
theorem dX1_write_176 : decode cX1_write 176 = .ok (.aload_n 0, 1) := by decide +kernel
theorem dX1_write_177 : decode cX1_write 177 = .ok (.lload 8, 2) := by decide +kernel
theorem dX1_write_179 : decode cX1_write 179 = .ok (.lload 10, 2) := by decide +kernel
theorem dX1_write_181 : decode cX1_write 181 = .ok (.lload 4, 2) := by decide +kernel
theorem dX1_write_183 : decode cX1_write 183 = .ok (.lmul, 1) := by decide +kernel
theorem dX1_write_184 : decode cX1_write 184 = .ok (.lsub, 1) := by decide +kernel
theorem dX1_write_185 : decode cX1_write 185 = .ok (.iload_n 3, 1) := by decide +kernel
theorem dX1_write_186 : decode cX1_write 186 = .ok (.invokevirtual 335, 3) := by decide +kernel
theorem dX1_write_189 : decode cX1_write 189 = .ok (.aload_n 0, 1) := by decide +kernel
theorem dX1_write_190 : decode cX1_write 190 = .ok (.bipush 115, 2) := by decide +kernel
theorem dX1_write_192 : decode cX1_write 192 = .ok (.invokevirtual 329, 3) := by decide +kernel
theorem dX1_write_195 : decode cX1_write 195 = .ok (.aload_n 0, 1) := by decide +kernel
theorem dX1_write_196 : decode cX1_write 196 = .ok (.getfield 20, 3) := by decide +kernel
theorem dX1_write_199 : decode cX1_write 199 = .ok (.ireturn, 1) := by decide +kernel
theorem dX1_letter_0 : decode cX1_letter 0 = .ok (.iload_n 1, 1) := by decide +kernel
theorem dX1_letter_1 : decode cX1_letter 1 = .ok (.ifCond .lt 20, 3) := by decide +kernel
theorem dX1_letter_4 : decode cX1_letter 4 = .ok (.iload_n 1, 1) := by decide +kernel
theorem dX1_letter_5 : decode cX1_letter 5 = .ok (.aload_n 0, 1) := by decide +kernel
theorem dX1_letter_6 : decode cX1_letter 6 = .ok (.getfield 20, 3) := by decide +kernel
theorem dX1_letter_9 : decode cX1_letter 9 = .ok (.if_icmp .ge 12, 3) := by decide +kernel
theorem dX1_letter_12 : decode cX1_letter 12 = .ok (.iload_n 1, 1) := by decide +kernel
theorem dX1_letter_13 : decode cX1_letter 13 = .ok (.aload_n 0, 1) := by decide +kernel
theorem dX1_letter_14 : decode cX1_letter 14 = .ok (.getfield 16, 3) := by decide +kernel
theorem dX1_letter_17 : decode cX1_letter 17 = .ok (.arraylength, 1) := by decide +kernel
theorem dX1_letter_18 : decode cX1_letter 18 = .ok (.if_icmp .lt 14, 3) := by decide +kernel
theorem dX1_letter_21 : decode cX1_letter 21 = .ok (.new 136, 3) := by decide +kernel
theorem dX1_letter_24 : decode cX1_letter 24 = .ok (.dup, 1) := by decide +kernel
theorem dX1_letter_25 : decode cX1_letter 25 = .ok (.ldc_w 341, 3) := by decide +kernel
theorem dX1_letter_28 : decode cX1_letter 28 = .ok (.invokespecial 140, 3) := by decide +kernel
theorem dX1_letter_31 : decode cX1_letter 31 = .ok (.athrow, 1) := by decide +kernel
theorem dX1_letter_32 : decode cX1_letter 32 = .ok (.aload_n 0, 1) := by decide +kernel
theorem dX1_letter_33 : decode cX1_letter 33 = .ok (.getfield 16, 3) := by decide +kernel
theorem dX1_letter_36 : decode cX1_letter 36 = .ok (.iload_n 1, 1) := by decide +kernel
theorem dX1_letter_37 : decode cX1_letter 37 = .ok (.caload, 1) := by decide +kernel
theorem dX1_letter_38 : decode cX1_letter 38 = .ok (.ireturn, 1) := by decide +kernel
set_option maxRecDepth 20000 in
theorem ggX1_angle_X1_isWholeWithin : GoodIn wsX1_angle wsX1_isWholeWithin := goodIn_r _ [10] (by decide +kernel) (by decide +kernel)
set_option maxRecDepth 20000 in
theorem gX1_angle_X1_isWholeWithin : GoodIn wsX1_angle (va_wsS RX1 39 yX1_isWholeWithin wsX1_isWholeWithin) := goodIn_app (goodIn_of _ (by decide +kernel)) ggX1_angle_X1_isWholeWithin
theorem dX1_angle_0 : decode cX1_angle 0 = .ok (.iload_n 1, 1) := by decide +kernel
theorem dX1_angle_1 : decode cX1_angle 1 = .ok (.iconst 1, 1) := by decide +kernel
theorem dX1_angle_2 : decode cX1_angle 2 = .ok (.if_icmp .eq 19, 3) := by decide +kernel
theorem dX1_angle_5 : decode cX1_angle 5 = .ok (.iload_n 1, 1) := by decide +kernel
theorem dX1_angle_6 : decode cX1_angle 6 = .ok (.iconst (-1), 1) := by decide +kernel
theorem dX1_angle_7 : decode cX1_angle 7 = .ok (.if_icmp .eq 14, 3) := by decide +kernel
theorem dX1_angle_10 : decode cX1_angle 10 = .ok (.new 43, 3) := by decide +kernel
theorem dX1_angle_13 : decode cX1_angle 13 = .ok (.dup, 1) := by decide +kernel
theorem dX1_angle_14 : decode cX1_angle 14 = .ok (.ldc_w 343, 3) := by decide +kernel
theorem dX1_angle_17 : decode cX1_angle 17 = .ok (.invokespecial 47, 3) := by decide +kernel
theorem dX1_angle_20 : decode cX1_angle 20 = .ok (.athrow, 1) := by decide +kernel
theorem dX1_angle_21 : decode cX1_angle 21 = .ok (.iload_n 2, 1) := by decide +kernel
theorem dX1_angle_22 : decode cX1_angle 22 = .ok (.i2l, 1) := by decide +kernel
theorem dX1_angle_23 : decode cX1_angle 23 = .ok (.lconst 0, 1) := by decide +kernel
theorem dX1_angle_24 : decode cX1_angle 24 = .ok (.ldc2_w 345, 3) := by decide +kernel
theorem dX1_angle_27 : decode cX1_angle 27 = .ok (.invokestatic 39, 3) := by decide +kernel
theorem dX1_angle_30 : decode cX1_angle 30 = .ok (.ifCond .eq 31, 3) := by decide +kernel
theorem dX1_angle_33 : decode cX1_angle 33 = .ok (.iload_n 3, 1) := by decide +kernel
theorem dX1_angle_34 : decode cX1_angle 34 = .ok (.i2l, 1) := by decide +kernel
theorem dX1_angle_35 : decode cX1_angle 35 = .ok (.lconst 0, 1) := by decide +kernel
theorem dX1_angle_36 : decode cX1_angle 36 = .ok (.ldc2_w 347, 3) := by decide +kernel
theorem dX1_angle_39 : decode cX1_angle 39 = .ok (.invokestatic 39, 3) := by decide +kernel
theorem dX1_angle_42 : decode cX1_angle 42 = .ok (.ifCond .eq 19, 3) := by decide +kernel
theorem dX1_angle_45 : decode cX1_angle 45 = .ok (.dload 4, 2) := by decide +kernel
theorem dX1_angle_47 : decode cX1_angle 47 = .ok (.dconst 0, 1) := by decide +kernel
theorem dX1_angle_48 : decode cX1_angle 48 = .ok (.dcmp .l, 1) := by decide +kernel
theorem dX1_angle_49 : decode cX1_angle 49 = .ok (.ifCond .lt 12, 3) := by decide +kernel
theorem dX1_angle_52 : decode cX1_angle 52 = .ok (.dload 4, 2) := by decide +kernel
theorem dX1_angle_54 : decode cX1_angle 54 = .ok (.ldc2_w 349, 3) := by decide +kernel
theorem dX1_angle_57 : decode cX1_angle 57 = .ok (.dcmp .g, 1) := by decide +kernel
theorem dX1_angle_58 : decode cX1_angle 58 = .ok (.ifCond .lt 14, 3) := by decide +kernel
theorem dX1_angle_61 : decode cX1_angle 61 = .ok (.new 43, 3) := by decide +kernel
theorem dX1_angle_64 : decode cX1_angle 64 = .ok (.dup, 1) := by decide +kernel
theorem dX1_angle_65 : decode cX1_angle 65 = .ok (.ldc_w 351, 3) := by decide +kernel
theorem dX1_angle_68 : decode cX1_angle 68 = .ok (.invokespecial 47, 3) := by decide +kernel
theorem dX1_angle_71 : decode cX1_angle 71 = .ok (.athrow, 1) := by decide +kernel
theorem dX1_angle_72 : decode cX1_angle 72 = .ok (.iload_n 1, 1) := by decide +kernel
theorem dX1_angle_73 : decode cX1_angle 73 = .ok (.i2d, 1) := by decide +kernel
theorem dX1_angle_74 : decode cX1_angle 74 = .ok (.iload_n 2, 1) := by decide +kernel
theorem dX1_angle_75 : decode cX1_angle 75 = .ok (.i2d, 1) := by decide +kernel
theorem dX1_angle_76 : decode cX1_angle 76 = .ok (.iload_n 3, 1) := by decide +kernel
theorem dX1_angle_77 : decode cX1_angle 77 = .ok (.i2d, 1) := by decide +kernel
theorem dX1_angle_78 : decode cX1_angle 78 = .ok (.ldc2_w 349, 3) := by decide +kernel
theorem dX1_angle_81 : decode cX1_angle 81 = .ok (.ddiv, 1) := by decide +kernel
theorem dX1_angle_82 : decode cX1_angle 82 = .ok (.dadd, 1) := by decide +kernel
theorem dX1_angle_83 : decode cX1_angle 83 = .ok (.dload 4, 2) := by decide +kernel
theorem dX1_angle_85 : decode cX1_angle 85 = .ok (.ldc2_w 324, 3) := by decide +kernel
theorem dX1_angle_88 : decode cX1_angle 88 = .ok (.ddiv, 1) := by decide +kernel
theorem dX1_angle_89 : decode cX1_angle 89 = .ok (.dadd, 1) := by decide +kernel
theorem dX1_angle_90 : decode cX1_angle 90 = .ok (.dmul, 1) := by decide +kernel
theorem dX1_angle_91 : decode cX1_angle 91 = .ok (.dreturn, 1) := by decide +kernel
theorem dX1_tenToThe_0 : decode cX1_tenToThe 0 = .ok (.iload_n 0, 1) := by decide +kernel
theorem dX1_tenToThe_1 : decode cX1_tenToThe 1 = .ok (.ifCond .lt 19, 3) := by decide +kernel
theorem dX1_tenToThe_4 : decode cX1_tenToThe 4 = .ok (.iload_n 0, 1) := by decide +kernel
theorem dX1_tenToThe_5 : decode cX1_tenToThe 5 = .ok (.getstatic 353, 3) := by decide +kernel
theorem dX1_tenToThe_8 : decode cX1_tenToThe 8 = .ok (.arraylength, 1) := by decide +kernel
theorem dX1_tenToThe_9 : decode cX1_tenToThe 9 = .ok (.if_icmp .ge 11, 3) := by decide +kernel
theorem dX1_tenToThe_12 : decode cX1_tenToThe 12 = .ok (.getstatic 353, 3) := by decide +kernel
theorem dX1_tenToThe_15 : decode cX1_tenToThe 15 = .ok (.iload_n 0, 1) := by decide +kernel
theorem dX1_tenToThe_16 : decode cX1_tenToThe 16 = .ok (.laload, 1) := by decide +kernel
theorem dX1_tenToThe_17 : decode cX1_tenToThe 17 = .ok (.goto 4, 3) := by decide +kernel
theorem dX1_tenToThe_20 : decode cX1_tenToThe 20 = .ok (.lconst 1, 1) := by decide +kernel
theorem dX1_tenToThe_21 : decode cX1_tenToThe 21 = .ok (.lreturn, 1) := by decide +kernel
theorem dX1_wholeParts_0 : decode cX1_wholeParts 0 = .ok (.lload_n 2, 1) := by decide +kernel
theorem dX1_wholeParts_1 : decode cX1_wholeParts 1 = .ok (.lconst 0, 1) := by decide +kernel
theorem dX1_wholeParts_2 : decode cX1_wholeParts 2 = .ok (.lcmp, 1) := by decide +kernel
theorem dX1_wholeParts_3 : decode cX1_wholeParts 3 = .ok (.ifCond .le 9, 3) := by decide +kernel
theorem dX1_wholeParts_6 : decode cX1_wholeParts 6 = .ok (.lload_n 0, 1) := by decide +kernel
theorem dX1_wholeParts_7 : decode cX1_wholeParts 7 = .ok (.lload_n 2, 1) := by decide +kernel
theorem dX1_wholeParts_8 : decode cX1_wholeParts 8 = .ok (.ldiv, 1) := by decide +kernel
theorem dX1_wholeParts_9 : decode cX1_wholeParts 9 = .ok (.goto 4, 3) := by decide +kernel
theorem dX1_wholeParts_12 : decode cX1_wholeParts 12 = .ok (.lload_n 0, 1) := by decide +kernel
theorem dX1_wholeParts_13 : decode cX1_wholeParts 13 = .ok (.lreturn, 1) := by decide +kernel
theorem dX1_put_0 : decode cX1_put 0 = .ok (.aload_n 0, 1) := by decide +kernel
theorem dX1_put_1 : decode cX1_put 1 = .ok (.getfield 20, 3) := by decide +kernel
theorem dX1_put_4 : decode cX1_put 4 = .ok (.ifCond .lt 35, 3) := by decide +kernel
theorem dX1_put_7 : decode cX1_put 7 = .ok (.aload_n 0, 1) := by decide +kernel
theorem dX1_put_8 : decode cX1_put 8 = .ok (.getfield 20, 3) := by decide +kernel
theorem dX1_put_11 : decode cX1_put 11 = .ok (.aload_n 0, 1) := by decide +kernel
theorem dX1_put_12 : decode cX1_put 12 = .ok (.getfield 16, 3) := by decide +kernel
theorem dX1_put_15 : decode cX1_put 15 = .ok (.arraylength, 1) := by decide +kernel
theorem dX1_put_16 : decode cX1_put 16 = .ok (.if_icmp .ge 23, 3) := by decide +kernel
theorem dX1_put_19 : decode cX1_put 19 = .ok (.aload_n 0, 1) := by decide +kernel
theorem dX1_put_20 : decode cX1_put 20 = .ok (.getfield 16, 3) := by decide +kernel
theorem dX1_put_23 : decode cX1_put 23 = .ok (.aload_n 0, 1) := by decide +kernel
theorem dX1_put_24 : decode cX1_put 24 = .ok (.getfield 20, 3) := by decide +kernel
theorem dX1_put_27 : decode cX1_put 27 = .ok (.iload_n 1, 1) := by decide +kernel
theorem dX1_put_28 : decode cX1_put 28 = .ok (.castore, 1) := by decide +kernel
theorem dX1_put_29 : decode cX1_put 29 = .ok (.aload_n 0, 1) := by decide +kernel
theorem dX1_put_30 : decode cX1_put 30 = .ok (.dup, 1) := by decide +kernel
theorem dX1_put_31 : decode cX1_put 31 = .ok (.getfield 20, 3) := by decide +kernel
theorem dX1_put_34 : decode cX1_put 34 = .ok (.iconst 1, 1) := by decide +kernel
theorem dX1_put_35 : decode cX1_put 35 = .ok (.iadd, 1) := by decide +kernel
theorem dX1_put_36 : decode cX1_put 36 = .ok (.putfield 20, 3) := by decide +kernel
theorem dX1_put_39 : decode cX1_put 39 = .ok (.return_, 1) := by decide +kernel
set_option maxRecDepth 20000 in
theorem ggX1_putNumber_X1_wholeParts : GoodIn wsX1_putNumber wsX1_wholeParts := goodIn_r _ [7] (by decide +kernel) (by decide +kernel)
set_option maxRecDepth 20000 in
theorem gX1_putNumber_X1_wholeParts : GoodIn wsX1_putNumber (va_wsS RX1 326 yX1_wholeParts wsX1_wholeParts) := goodIn_app (goodIn_of _ (by decide +kernel)) ggX1_putNumber_X1_wholeParts
set_option maxRecDepth 20000 in
theorem ggX1_putNumber_X1_put : GoodIn wsX1_putNumber wsX1_put := goodIn_r _ [11, 12, 13, 14, 15, 16, 17, 18, 19, 20] (by decide +kernel) (by decide +kernel)
set_option maxRecDepth 20000 in
theorem gX1_putNumber_X1_put : GoodIn wsX1_putNumber (wsV RX1 329 RX1 yX1_put wsX1_put) := goodIn_app (goodIn_of _ (by decide +kernel)) ggX1_putNumber_X1_put
theorem dX1_putNumber_0 : decode cX1_putNumber 0 = .ok (.getstatic 353, 3) := by decide +kernel
theorem dX1_putNumber_3 : decode cX1_putNumber 3 = .ok (.arraylength, 1) := by decide +kernel
theorem dX1_putNumber_4 : decode cX1_putNumber 4 = .ok (.iconst 1, 1) := by decide +kernel
theorem dX1_putNumber_5 : decode cX1_putNumber 5 = .ok (.isub, 1) := by decide +kernel
theorem dX1_putNumber_6 : decode cX1_putNumber 6 = .ok (.istore 4, 2) := by decide +kernel
theorem dX1_putNumber_8 : decode cX1_putNumber 8 = .ok (.iload 4, 2) := by decide +kernel
theorem dX1_putNumber_10 : decode cX1_putNumber 10 = .ok (.ifCond .lt 50, 3) := by decide +kernel
theorem dX1_putNumber_13 : decode cX1_putNumber 13 = .ok (.iload 4, 2) := by decide +kernel
theorem dX1_putNumber_15 : decode cX1_putNumber 15 = .ok (.iload_n 3, 1) := by decide +kernel
theorem dX1_putNumber_16 : decode cX1_putNumber 16 = .ok (.if_icmp .lt 14, 3) := by decide +kernel
theorem dX1_putNumber_19 : decode cX1_putNumber 19 = .ok (.lload_n 1, 1) := by decide +kernel
theorem dX1_putNumber_20 : decode cX1_putNumber 20 = .ok (.getstatic 353, 3) := by decide +kernel
theorem dX1_putNumber_23 : decode cX1_putNumber 23 = .ok (.iload 4, 2) := by decide +kernel
theorem dX1_putNumber_25 : decode cX1_putNumber 25 = .ok (.laload, 1) := by decide +kernel
theorem dX1_putNumber_26 : decode cX1_putNumber 26 = .ok (.lcmp, 1) := by decide +kernel
theorem dX1_putNumber_27 : decode cX1_putNumber 27 = .ok (.ifCond .lt 27, 3) := by decide +kernel
theorem dX1_putNumber_30 : decode cX1_putNumber 30 = .ok (.aload_n 0, 1) := by decide +kernel
theorem dX1_putNumber_31 : decode cX1_putNumber 31 = .ok (.ldc2_w 357, 3) := by decide +kernel
theorem dX1_putNumber_34 : decode cX1_putNumber 34 = .ok (.lload_n 1, 1) := by decide +kernel
theorem dX1_putNumber_35 : decode cX1_putNumber 35 = .ok (.getstatic 353, 3) := by decide +kernel
theorem dX1_putNumber_38 : decode cX1_putNumber 38 = .ok (.iload 4, 2) := by decide +kernel
theorem dX1_putNumber_40 : decode cX1_putNumber 40 = .ok (.laload, 1) := by decide +kernel
theorem dX1_putNumber_41 : decode cX1_putNumber 41 = .ok (.invokestatic 326, 3) := by decide +kernel
theorem dX1_putNumber_44 : decode cX1_putNumber 44 = .ok (.ldc2_w 359, 3) := by decide +kernel
theorem dX1_putNumber_47 : decode cX1_putNumber 47 = .ok (.lrem, 1) := by decide +kernel
theorem dX1_putNumber_48 : decode cX1_putNumber 48 = .ok (.ladd, 1) := by decide +kernel
theorem dX1_putNumber_49 : decode cX1_putNumber 49 = .ok (.l2i, 1) := by decide +kernel
theorem dX1_putNumber_50 : decode cX1_putNumber 50 = .ok (.i2c, 1) := by decide +kernel
theorem dX1_putNumber_51 : decode cX1_putNumber 51 = .ok (.invokevirtual 329, 3) := by decide +kernel
theorem dX1_putNumber_54 : decode cX1_putNumber 54 = .ok (.iinc 4 (-1), 3) := by decide +kernel
theorem dX1_putNumber_57 : decode cX1_putNumber 57 = .ok (.goto (-49), 3) := by decide +kernel
theorem dX1_putNumber_60 : decode cX1_putNumber 60 = .ok (.return_, 1) := by decide +kernel
theorem dX1_isWholeWithin_0 : decode cX1_isWholeWithin 0 = .ok (.lload_n 0, 1) := by decide +kernel
theorem dX1_isWholeWithin_1 : decode cX1_isWholeWithin 1 = .ok (.lload_n 2, 1) := by decide +kernel
theorem dX1_isWholeWithin_2 : decode cX1_isWholeWithin 2 = .ok (.lcmp, 1) := by decide +kernel
theorem dX1_isWholeWithin_3 : decode cX1_isWholeWithin 3 = .ok (.ifCond .lt 14, 3) := by decide +kernel
theorem dX1_isWholeWithin_6 : decode cX1_isWholeWithin 6 = .ok (.lload_n 0, 1) := by decide +kernel
theorem dX1_isWholeWithin_7 : decode cX1_isWholeWithin 7 = .ok (.lload 4, 2) := by decide +kernel
theorem dX1_isWholeWithin_9 : decode cX1_isWholeWithin 9 = .ok (.lcmp, 1) := by decide +kernel
theorem dX1_isWholeWithin_10 : decode cX1_isWholeWithin 10 = .ok (.ifCond .gt 7, 3) := by decide +kernel
theorem dX1_isWholeWithin_13 : decode cX1_isWholeWithin 13 = .ok (.iconst 1, 1) := by decide +kernel
theorem dX1_isWholeWithin_14 : decode cX1_isWholeWithin 14 = .ok (.goto 4, 3) := by decide +kernel
theorem dX1_isWholeWithin_17 : decode cX1_isWholeWithin 17 = .ok (.iconst 0, 1) := by decide +kernel
theorem dX1_isWholeWithin_18 : decode cX1_isWholeWithin 18 = .ok (.ireturn, 1) := by decide +kernel
theorem dX1_isWithin_0 : decode cX1_isWithin 0 = .ok (.dload_n 0, 1) := by decide +kernel
theorem dX1_isWithin_1 : decode cX1_isWithin 1 = .ok (.dload_n 2, 1) := by decide +kernel
theorem dX1_isWithin_2 : decode cX1_isWithin 2 = .ok (.dcmp .l, 1) := by decide +kernel
theorem dX1_isWithin_3 : decode cX1_isWithin 3 = .ok (.ifCond .lt 14, 3) := by decide +kernel
theorem dX1_isWithin_6 : decode cX1_isWithin 6 = .ok (.dload_n 0, 1) := by decide +kernel
theorem dX1_isWithin_7 : decode cX1_isWithin 7 = .ok (.dload 4, 2) := by decide +kernel
theorem dX1_isWithin_9 : decode cX1_isWithin 9 = .ok (.dcmp .g, 1) := by decide +kernel
theorem dX1_isWithin_10 : decode cX1_isWithin 10 = .ok (.ifCond .gt 7, 3) := by decide +kernel
theorem dX1_isWithin_13 : decode cX1_isWithin 13 = .ok (.iconst 1, 1) := by decide +kernel
theorem dX1_isWithin_14 : decode cX1_isWithin 14 = .ok (.goto 4, 3) := by decide +kernel
theorem dX1_isWithin_17 : decode cX1_isWithin 17 = .ok (.iconst 0, 1) := by decide +kernel
theorem dX1_isWithin_18 : decode cX1_isWithin 18 = .ok (.ireturn, 1) := by decide +kernel
set_option maxRecDepth 20000 in
theorem ggX1_isTime_X1_isWithin : GoodIn wsX1_isTime wsX1_isWithin := goodIn_r _ [6] (by decide +kernel) (by decide +kernel)
set_option maxRecDepth 20000 in
theorem gX1_isTime_X1_isWithin : GoodIn wsX1_isTime (va_wsS RX1 145 yX1_isWithin wsX1_isWithin) := goodIn_app (goodIn_of _ (by decide +kernel)) ggX1_isTime_X1_isWithin
theorem dX1_isTime_0 : decode cX1_isTime 0 = .ok (.dload_n 0, 1) := by decide +kernel
theorem dX1_isTime_1 : decode cX1_isTime 1 = .ok (.ldc2_w 361, 3) := by decide +kernel
theorem dX1_isTime_4 : decode cX1_isTime 4 = .ok (.ldc2_w 363, 3) := by decide +kernel
theorem dX1_isTime_7 : decode cX1_isTime 7 = .ok (.invokestatic 145, 3) := by decide +kernel
theorem dX1_isTime_10 : decode cX1_isTime 10 = .ok (.ireturn, 1) := by decide +kernel
theorem dX1_degreesInRadian_0 : decode cX1_degreesInRadian 0 = .ok (.ldc2_w 365, 3) := by decide +kernel
theorem dX1_degreesInRadian_3 : decode cX1_degreesInRadian 3 = .ok (.dreturn, 1) := by decide +kernel
theorem dX1_red_0 : decode cX1_red 0 = .ok (.dload_n 0, 1) := by decide +kernel
theorem dX1_red_1 : decode cX1_red 1 = .ok (.ldc2_w 345, 3) := by decide +kernel
theorem dX1_red_4 : decode cX1_red 4 = .ok (.dload_n 0, 1) := by decide +kernel
theorem dX1_red_5 : decode cX1_red 5 = .ok (.ldc2_w 143, 3) := by decide +kernel
theorem dX1_red_8 : decode cX1_red 8 = .ok (.ddiv, 1) := by decide +kernel
theorem dX1_red_9 : decode cX1_red 9 = .ok (.d2l, 1) := by decide +kernel
theorem dX1_red_10 : decode cX1_red 10 = .ok (.lmul, 1) := by decide +kernel
theorem dX1_red_11 : decode cX1_red 11 = .ok (.l2d, 1) := by decide +kernel
theorem dX1_red_12 : decode cX1_red 12 = .ok (.dsub, 1) := by decide +kernel
theorem dX1_red_13 : decode cX1_red 13 = .ok (.dstore_n 2, 1) := by decide +kernel
theorem dX1_red_14 : decode cX1_red 14 = .ok (.dload_n 2, 1) := by decide +kernel
theorem dX1_red_15 : decode cX1_red 15 = .ok (.dconst 0, 1) := by decide +kernel
theorem dX1_red_16 : decode cX1_red 16 = .ok (.dcmp .g, 1) := by decide +kernel
theorem dX1_red_17 : decode cX1_red 17 = .ok (.ifCond .ge 9, 3) := by decide +kernel
theorem dX1_red_20 : decode cX1_red 20 = .ok (.dload_n 2, 1) := by decide +kernel
theorem dX1_red_21 : decode cX1_red 21 = .ok (.ldc2_w 143, 3) := by decide +kernel
theorem dX1_red_24 : decode cX1_red 24 = .ok (.dadd, 1) := by decide +kernel
theorem dX1_red_25 : decode cX1_red 25 = .ok (.dstore_n 2, 1) := by decide +kernel
theorem dX1_red_26 : decode cX1_red 26 = .ok (.dload_n 2, 1) := by decide +kernel
theorem dX1_red_27 : decode cX1_red 27 = .ok (.ldc2_w 143, 3) := by decide +kernel
theorem dX1_red_30 : decode cX1_red 30 = .ok (.dcmp .l, 1) := by decide +kernel
theorem dX1_red_31 : decode cX1_red 31 = .ok (.ifCond .ne 7, 3) := by decide +kernel
theorem dX1_red_34 : decode cX1_red 34 = .ok (.dconst 0, 1) := by decide +kernel
theorem dX1_red_35 : decode cX1_red 35 = .ok (.goto 4, 3) := by decide +kernel
theorem dX1_red_38 : decode cX1_red 38 = .ok (.dload_n 2, 1) := by decide +kernel
theorem dX1_red_39 : decode cX1_red 39 = .ok (.dreturn, 1) := by decide +kernel
set_option maxRecDepth 20000 in
theorem ggX1_sine_X1_red : GoodIn wsX1_sine wsX1_red := goodIn_r _ [4, 5, 6] (by decide +kernel) (by decide +kernel)
set_option maxRecDepth 20000 in
theorem gX1_sine_X1_red : GoodIn wsX1_sine (va_wsS RX1 236 yX1_red wsX1_red) := goodIn_app (goodIn_of _ (by decide +kernel)) ggX1_sine_X1_red
set_option maxRecDepth 20000 in
theorem ggX1_sine_X1_waveAt : GoodIn wsX1_sine wsX1_waveAt := goodIn_r _ [9, 10, 11, 12, 13, 14, 15, 16, 17, 18, 19, 20, 21] (by decide +kernel) (by decide +kernel)
set_option maxRecDepth 20000 in
theorem gX1_sine_X1_waveAt : GoodIn wsX1_sine (va_wsS RX1 367 yX1_waveAt wsX1_waveAt) := goodIn_app (goodIn_of _ (by decide +kernel)) ggX1_sine_X1_waveAt
theorem dX1_sine_0 : decode cX1_sine 0 = .ok (.dload_n 0, 1) := by decide +kernel
theorem dX1_sine_1 : decode cX1_sine 1 = .ok (.invokestatic 236, 3) := by decide +kernel
theorem dX1_sine_4 : decode cX1_sine 4 = .ok (.iconst 0, 1) := by decide +kernel
theorem dX1_sine_5 : decode cX1_sine 5 = .ok (.invokestatic 367, 3) := by decide +kernel
theorem dX1_sine_8 : decode cX1_sine 8 = .ok (.dreturn, 1) := by decide +kernel
set_option maxRecDepth 20000 in
theorem ggX1_cosine_X1_red : GoodIn wsX1_cosine wsX1_red := goodIn_r _ [4, 5, 6] (by decide +kernel) (by decide +kernel)
set_option maxRecDepth 20000 in
theorem gX1_cosine_X1_red : GoodIn wsX1_cosine (va_wsS RX1 236 yX1_red wsX1_red) := goodIn_app (goodIn_of _ (by decide +kernel)) ggX1_cosine_X1_red
set_option maxRecDepth 20000 in
theorem ggX1_cosine_X1_waveAt : GoodIn wsX1_cosine wsX1_waveAt := goodIn_r _ [9, 10, 11, 12, 13, 14, 15, 16, 17, 18, 19, 20, 21] (by decide +kernel) (by decide +kernel)
set_option maxRecDepth 20000 in
theorem gX1_cosine_X1_waveAt : GoodIn wsX1_cosine (va_wsS RX1 367 yX1_waveAt wsX1_waveAt) := goodIn_app (goodIn_of _ (by decide +kernel)) ggX1_cosine_X1_waveAt
theorem dX1_cosine_0 : decode cX1_cosine 0 = .ok (.dload_n 0, 1) := by decide +kernel
theorem dX1_cosine_1 : decode cX1_cosine 1 = .ok (.invokestatic 236, 3) := by decide +kernel
theorem dX1_cosine_4 : decode cX1_cosine 4 = .ok (.iconst 1, 1) := by decide +kernel
theorem dX1_cosine_5 : decode cX1_cosine 5 = .ok (.invokestatic 367, 3) := by decide +kernel
theorem dX1_cosine_8 : decode cX1_cosine 8 = .ok (.dreturn, 1) := by decide +kernel
theorem dX1_waveAt_0 : decode cX1_waveAt 0 = .ok (.dload_n 0, 1) := by decide +kernel
theorem dX1_waveAt_1 : decode cX1_waveAt 1 = .ok (.ldc2_w 206, 3) := by decide +kernel
theorem dX1_waveAt_4 : decode cX1_waveAt 4 = .ok (.ddiv, 1) := by decide +kernel
theorem dX1_waveAt_5 : decode cX1_waveAt 5 = .ok (.ldc2_w 249, 3) := by decide +kernel
theorem dX1_waveAt_8 : decode cX1_waveAt 8 = .ok (.dadd, 1) := by decide +kernel
theorem dX1_waveAt_9 : decode cX1_waveAt 9 = .ok (.d2i, 1) := by decide +kernel
theorem dX1_waveAt_10 : decode cX1_waveAt 10 = .ok (.istore_n 3, 1) := by decide +kernel
theorem dX1_waveAt_11 : decode cX1_waveAt 11 = .ok (.dload_n 0, 1) := by decide +kernel
theorem dX1_waveAt_12 : decode cX1_waveAt 12 = .ok (.bipush 90, 2) := by decide +kernel
theorem dX1_waveAt_14 : decode cX1_waveAt 14 = .ok (.iload_n 3, 1) := by decide +kernel
theorem dX1_waveAt_15 : decode cX1_waveAt 15 = .ok (.imul, 1) := by decide +kernel
theorem dX1_waveAt_16 : decode cX1_waveAt 16 = .ok (.i2d, 1) := by decide +kernel
theorem dX1_waveAt_17 : decode cX1_waveAt 17 = .ok (.dsub, 1) := by decide +kernel
theorem dX1_waveAt_18 : decode cX1_waveAt 18 = .ok (.ldc2_w 371, 3) := by decide +kernel
theorem dX1_waveAt_21 : decode cX1_waveAt 21 = .ok (.dmul, 1) := by decide +kernel
theorem dX1_waveAt_22 : decode cX1_waveAt 22 = .ok (.dstore 4, 2) := by decide +kernel
theorem dX1_waveAt_24 : decode cX1_waveAt 24 = .ok (.dload 4, 2) := by decide +kernel
theorem dX1_waveAt_26 : decode cX1_waveAt 26 = .ok (.dload 4, 2) := by decide +kernel
theorem dX1_waveAt_28 : decode cX1_waveAt 28 = .ok (.dmul, 1) := by decide +kernel
theorem dX1_waveAt_29 : decode cX1_waveAt 29 = .ok (.dstore 6, 2) := by decide +kernel
theorem dX1_waveAt_31 : decode cX1_waveAt 31 = .ok (.dload 4, 2) := by decide +kernel
theorem dX1_waveAt_33 : decode cX1_waveAt 33 = .ok (.dconst 1, 1) := by decide +kernel
theorem dX1_waveAt_34 : decode cX1_waveAt 34 = .ok (.dload 6, 2) := by decide +kernel
theorem dX1_waveAt_36 : decode cX1_waveAt 36 = .ok (.ldc2_w 373, 3) := by decide +kernel
theorem dX1_waveAt_39 : decode cX1_waveAt 39 = .ok (.dload 6, 2) := by decide +kernel
theorem dX1_waveAt_41 : decode cX1_waveAt 41 = .ok (.ldc2_w 375, 3) := by decide +kernel
theorem dX1_waveAt_44 : decode cX1_waveAt 44 = .ok (.dload 6, 2) := by decide +kernel
theorem dX1_waveAt_46 : decode cX1_waveAt 46 = .ok (.ldc2_w 377, 3) := by decide +kernel
theorem dX1_waveAt_49 : decode cX1_waveAt 49 = .ok (.dload 6, 2) := by decide +kernel
theorem dX1_waveAt_51 : decode cX1_waveAt 51 = .ok (.ldc2_w 379, 3) := by decide +kernel
theorem dX1_waveAt_54 : decode cX1_waveAt 54 = .ok (.dmul, 1) := by decide +kernel
theorem dX1_waveAt_55 : decode cX1_waveAt 55 = .ok (.dadd, 1) := by decide +kernel
theorem dX1_waveAt_56 : decode cX1_waveAt 56 = .ok (.dmul, 1) := by decide +kernel
theorem dX1_waveAt_57 : decode cX1_waveAt 57 = .ok (.dadd, 1) := by decide +kernel
theorem dX1_waveAt_58 : decode cX1_waveAt 58 = .ok (.dmul, 1) := by decide +kernel
theorem dX1_waveAt_59 : decode cX1_waveAt 59 = .ok (.dadd, 1) := by decide +kernel
theorem dX1_waveAt_60 : decode cX1_waveAt 60 = .ok (.dmul, 1) := by decide +kernel
theorem dX1_waveAt_61 : decode cX1_waveAt 61 = .ok (.dadd, 1) := by decide +kernel
theorem dX1_waveAt_62 : decode cX1_waveAt 62 = .ok (.dmul, 1) := by decide +kernel
theorem dX1_waveAt_63 : decode cX1_waveAt 63 = .ok (.dstore 8, 2) := by decide +kernel
theorem dX1_waveAt_65 : decode cX1_waveAt 65 = .ok (.dconst 1, 1) := by decide +kernel
theorem dX1_waveAt_66 : decode cX1_waveAt 66 = .ok (.dload 6, 2) := by decide +kernel
theorem dX1_waveAt_68 : decode cX1_waveAt 68 = .ok (.ldc2_w 381, 3) := by decide +kernel
theorem dX1_waveAt_71 : decode cX1_waveAt 71 = .ok (.dload 6, 2) := by decide +kernel
theorem dX1_waveAt_73 : decode cX1_waveAt 73 = .ok (.ldc2_w 383, 3) := by decide +kernel
theorem dX1_waveAt_76 : decode cX1_waveAt 76 = .ok (.dload 6, 2) := by decide +kernel
theorem dX1_waveAt_78 : decode cX1_waveAt 78 = .ok (.ldc2_w 385, 3) := by decide +kernel
theorem dX1_waveAt_81 : decode cX1_waveAt 81 = .ok (.dload 6, 2) := by decide +kernel
theorem dX1_waveAt_83 : decode cX1_waveAt 83 = .ok (.ldc2_w 387, 3) := by decide +kernel
theorem dX1_waveAt_86 : decode cX1_waveAt 86 = .ok (.dload 6, 2) := by decide +kernel
theorem dX1_waveAt_88 : decode cX1_waveAt 88 = .ok (.ldc2_w 389, 3) := by decide +kernel
theorem dX1_waveAt_91 : decode cX1_waveAt 91 = .ok (.dmul, 1) := by decide +kernel
theorem dX1_waveAt_92 : decode cX1_waveAt 92 = .ok (.dadd, 1) := by decide +kernel
theorem dX1_waveAt_93 : decode cX1_waveAt 93 = .ok (.dmul, 1) := by decide +kernel
theorem dX1_waveAt_94 : decode cX1_waveAt 94 = .ok (.dadd, 1) := by decide +kernel
theorem dX1_waveAt_95 : decode cX1_waveAt 95 = .ok (.dmul, 1) := by decide +kernel
theorem dX1_waveAt_96 : decode cX1_waveAt 96 = .ok (.dadd, 1) := by decide +kernel
theorem dX1_waveAt_97 : decode cX1_waveAt 97 = .ok (.dmul, 1) := by decide +kernel
theorem dX1_waveAt_98 : decode cX1_waveAt 98 = .ok (.dadd, 1) := by decide +kernel
theorem dX1_waveAt_99 : decode cX1_waveAt 99 = .ok (.dmul, 1) := by decide +kernel
theorem dX1_waveAt_100 : decode cX1_waveAt 100 = .ok (.dadd, 1) := by decide +kernel
theorem dX1_waveAt_101 : decode cX1_waveAt 101 = .ok (.dstore 10, 2) := by decide +kernel
theorem dX1_waveAt_103 : decode cX1_waveAt 103 = .ok (.iload_n 3, 1) := by decide +kernel
theorem dX1_waveAt_104 : decode cX1_waveAt 104 = .ok (.iload_n 2, 1) := by decide +kernel
theorem dX1_waveAt_105 : decode cX1_waveAt 105 = .ok (.iadd, 1) := by decide +kernel
theorem dX1_waveAt_106 : decode cX1_waveAt 106 = .ok (.iconst 4, 1) := by decide +kernel
theorem dX1_waveAt_107 : decode cX1_waveAt 107 = .ok (.irem, 1) := by decide +kernel
theorem dX1_waveAt_108 : decode cX1_waveAt 108 = .ok (.istore 12, 2) := by decide +kernel
theorem dX1_waveAt_110 : decode cX1_waveAt 110 = .ok (.iload 12, 2) := by decide +kernel
theorem dX1_waveAt_112 : decode cX1_waveAt 112 = .ok (.iconst 2, 1) := by decide +kernel
theorem dX1_waveAt_113 : decode cX1_waveAt 113 = .ok (.irem, 1) := by decide +kernel
theorem dX1_waveAt_114 : decode cX1_waveAt 114 = .ok (.ifCond .ne 8, 3) := by decide +kernel
theorem dX1_waveAt_117 : decode cX1_waveAt 117 = .ok (.dload 8, 2) := by decide +kernel
theorem dX1_waveAt_119 : decode cX1_waveAt 119 = .ok (.goto 5, 3) := by decide +kernel
theorem dX1_waveAt_122 : decode cX1_waveAt 122 = .ok (.dload 10, 2) := by decide +kernel
theorem dX1_waveAt_124 : decode cX1_waveAt 124 = .ok (.dstore 13, 2) := by decide +kernel
theorem dX1_waveAt_126 : decode cX1_waveAt 126 = .ok (.iload 12, 2) := by decide +kernel
theorem dX1_waveAt_128 : decode cX1_waveAt 128 = .ok (.iconst 2, 1) := by decide +kernel
theorem dX1_waveAt_129 : decode cX1_waveAt 129 = .ok (.if_icmp .ge 8, 3) := by decide +kernel
theorem dX1_waveAt_132 : decode cX1_waveAt 132 = .ok (.dload 13, 2) := by decide +kernel
theorem dX1_waveAt_134 : decode cX1_waveAt 134 = .ok (.goto 6, 3) := by decide +kernel
theorem dX1_waveAt_137 : decode cX1_waveAt 137 = .ok (.dload 13, 2) := by decide +kernel
theorem dX1_waveAt_139 : decode cX1_waveAt 139 = .ok (.dneg, 1) := by decide +kernel
theorem dX1_waveAt_140 : decode cX1_waveAt 140 = .ok (.dreturn, 1) := by decide +kernel
theorem dJ9_floorDiv_7cf53_0 : decode cJ9_floorDiv_7cf53 0 = .ok (.iload_n 0, 1) := by decide +kernel
theorem dJ9_floorDiv_7cf53_1 : decode cJ9_floorDiv_7cf53 1 = .ok (.iload_n 1, 1) := by decide +kernel
theorem dJ9_floorDiv_7cf53_2 : decode cJ9_floorDiv_7cf53 2 = .ok (.idiv, 1) := by decide +kernel
theorem dJ9_floorDiv_7cf53_3 : decode cJ9_floorDiv_7cf53 3 = .ok (.istore_n 2, 1) := by decide +kernel
theorem dJ9_floorDiv_7cf53_4 : decode cJ9_floorDiv_7cf53 4 = .ok (.iload_n 0, 1) := by decide +kernel
theorem dJ9_floorDiv_7cf53_5 : decode cJ9_floorDiv_7cf53 5 = .ok (.iload_n 1, 1) := by decide +kernel
theorem dJ9_floorDiv_7cf53_6 : decode cJ9_floorDiv_7cf53 6 = .ok (.ixor, 1) := by decide +kernel
theorem dJ9_floorDiv_7cf53_7 : decode cJ9_floorDiv_7cf53 7 = .ok (.ifCond .ge 14, 3) := by decide +kernel
theorem dJ9_floorDiv_7cf53_10 : decode cJ9_floorDiv_7cf53 10 = .ok (.iload_n 2, 1) := by decide +kernel
theorem dJ9_floorDiv_7cf53_11 : decode cJ9_floorDiv_7cf53 11 = .ok (.iload_n 1, 1) := by decide +kernel
theorem dJ9_floorDiv_7cf53_12 : decode cJ9_floorDiv_7cf53 12 = .ok (.imul, 1) := by decide +kernel
theorem dJ9_floorDiv_7cf53_13 : decode cJ9_floorDiv_7cf53 13 = .ok (.iload_n 0, 1) := by decide +kernel
theorem dJ9_floorDiv_7cf53_14 : decode cJ9_floorDiv_7cf53 14 = .ok (.if_icmp .eq 7, 3) := by decide +kernel
theorem dJ9_floorDiv_7cf53_17 : decode cJ9_floorDiv_7cf53 17 = .ok (.iload_n 2, 1) := by decide +kernel
theorem dJ9_floorDiv_7cf53_18 : decode cJ9_floorDiv_7cf53 18 = .ok (.iconst 1, 1) := by decide +kernel
theorem dJ9_floorDiv_7cf53_19 : decode cJ9_floorDiv_7cf53 19 = .ok (.isub, 1) := by decide +kernel
theorem dJ9_floorDiv_7cf53_20 : decode cJ9_floorDiv_7cf53 20 = .ok (.ireturn, 1) := by decide +kernel
theorem dJ9_floorDiv_7cf53_21 : decode cJ9_floorDiv_7cf53 21 = .ok (.iload_n 2, 1) := by decide +kernel
theorem dJ9_floorDiv_7cf53_22 : decode cJ9_floorDiv_7cf53 22 = .ok (.ireturn, 1) := by decide +kernel
theorem dJ9_floorDiv_f86c9_0 : decode cJ9_floorDiv_f86c9 0 = .ok (.lload_n 0, 1) := by decide +kernel
theorem dJ9_floorDiv_f86c9_1 : decode cJ9_floorDiv_f86c9 1 = .ok (.lload_n 2, 1) := by decide +kernel
theorem dJ9_floorDiv_f86c9_2 : decode cJ9_floorDiv_f86c9 2 = .ok (.ldiv, 1) := by decide +kernel
theorem dJ9_floorDiv_f86c9_3 : decode cJ9_floorDiv_f86c9 3 = .ok (.lstore 4, 2) := by decide +kernel
theorem dJ9_floorDiv_f86c9_5 : decode cJ9_floorDiv_f86c9 5 = .ok (.lload_n 0, 1) := by decide +kernel
theorem dJ9_floorDiv_f86c9_6 : decode cJ9_floorDiv_f86c9 6 = .ok (.lload_n 2, 1) := by decide +kernel
theorem dJ9_floorDiv_f86c9_7 : decode cJ9_floorDiv_f86c9 7 = .ok (.lxor, 1) := by decide +kernel
theorem dJ9_floorDiv_f86c9_8 : decode cJ9_floorDiv_f86c9 8 = .ok (.lconst 0, 1) := by decide +kernel
theorem dJ9_floorDiv_f86c9_9 : decode cJ9_floorDiv_f86c9 9 = .ok (.lcmp, 1) := by decide +kernel
theorem dJ9_floorDiv_f86c9_10 : decode cJ9_floorDiv_f86c9 10 = .ok (.ifCond .ge 17, 3) := by decide +kernel
theorem dJ9_floorDiv_f86c9_13 : decode cJ9_floorDiv_f86c9 13 = .ok (.lload 4, 2) := by decide +kernel
theorem dJ9_floorDiv_f86c9_15 : decode cJ9_floorDiv_f86c9 15 = .ok (.lload_n 2, 1) := by decide +kernel
theorem dJ9_floorDiv_f86c9_16 : decode cJ9_floorDiv_f86c9 16 = .ok (.lmul, 1) := by decide +kernel
theorem dJ9_floorDiv_f86c9_17 : decode cJ9_floorDiv_f86c9 17 = .ok (.lload_n 0, 1) := by decide +kernel
theorem dJ9_floorDiv_f86c9_18 : decode cJ9_floorDiv_f86c9 18 = .ok (.lcmp, 1) := by decide +kernel
theorem dJ9_floorDiv_f86c9_19 : decode cJ9_floorDiv_f86c9 19 = .ok (.ifCond .eq 8, 3) := by decide +kernel
theorem dJ9_floorDiv_f86c9_22 : decode cJ9_floorDiv_f86c9 22 = .ok (.lload 4, 2) := by decide +kernel
theorem dJ9_floorDiv_f86c9_24 : decode cJ9_floorDiv_f86c9 24 = .ok (.lconst 1, 1) := by decide +kernel
theorem dJ9_floorDiv_f86c9_25 : decode cJ9_floorDiv_f86c9 25 = .ok (.lsub, 1) := by decide +kernel
theorem dJ9_floorDiv_f86c9_26 : decode cJ9_floorDiv_f86c9 26 = .ok (.lreturn, 1) := by decide +kernel
theorem dJ9_floorDiv_f86c9_27 : decode cJ9_floorDiv_f86c9 27 = .ok (.lload 4, 2) := by decide +kernel
theorem dJ9_floorDiv_f86c9_29 : decode cJ9_floorDiv_f86c9 29 = .ok (.lreturn, 1) := by decide +kernel
theorem dJ9_floorMod_7cf53_0 : decode cJ9_floorMod_7cf53 0 = .ok (.iload_n 0, 1) := by decide +kernel
theorem dJ9_floorMod_7cf53_1 : decode cJ9_floorMod_7cf53 1 = .ok (.iload_n 1, 1) := by decide +kernel
theorem dJ9_floorMod_7cf53_2 : decode cJ9_floorMod_7cf53 2 = .ok (.irem, 1) := by decide +kernel
theorem dJ9_floorMod_7cf53_3 : decode cJ9_floorMod_7cf53 3 = .ok (.istore_n 2, 1) := by decide +kernel
theorem dJ9_floorMod_7cf53_4 : decode cJ9_floorMod_7cf53 4 = .ok (.iload_n 0, 1) := by decide +kernel
theorem dJ9_floorMod_7cf53_5 : decode cJ9_floorMod_7cf53 5 = .ok (.iload_n 1, 1) := by decide +kernel
theorem dJ9_floorMod_7cf53_6 : decode cJ9_floorMod_7cf53 6 = .ok (.ixor, 1) := by decide +kernel
theorem dJ9_floorMod_7cf53_7 : decode cJ9_floorMod_7cf53 7 = .ok (.ifCond .ge 11, 3) := by decide +kernel
theorem dJ9_floorMod_7cf53_10 : decode cJ9_floorMod_7cf53 10 = .ok (.iload_n 2, 1) := by decide +kernel
theorem dJ9_floorMod_7cf53_11 : decode cJ9_floorMod_7cf53 11 = .ok (.ifCond .eq 7, 3) := by decide +kernel
theorem dJ9_floorMod_7cf53_14 : decode cJ9_floorMod_7cf53 14 = .ok (.iload_n 2, 1) := by decide +kernel
theorem dJ9_floorMod_7cf53_15 : decode cJ9_floorMod_7cf53 15 = .ok (.iload_n 1, 1) := by decide +kernel
theorem dJ9_floorMod_7cf53_16 : decode cJ9_floorMod_7cf53 16 = .ok (.iadd, 1) := by decide +kernel
theorem dJ9_floorMod_7cf53_17 : decode cJ9_floorMod_7cf53 17 = .ok (.ireturn, 1) := by decide +kernel
theorem dJ9_floorMod_7cf53_18 : decode cJ9_floorMod_7cf53 18 = .ok (.iload_n 2, 1) := by decide +kernel
theorem dJ9_floorMod_7cf53_19 : decode cJ9_floorMod_7cf53 19 = .ok (.ireturn, 1) := by decide +kernel
