theorem dX2_init_0 : decode cX2_init 0 = .ok (.aload_n 0, 1) := by decide +kernel
theorem dX2_init_1 : decode cX2_init 1 = .ok (.invokespecial 1, 3) := by decide +kernel
theorem dX2_init_4 : decode cX2_init 4 = .ok (.aload_n 0, 1) := by decide +kernel
theorem dX2_init_5 : decode cX2_init 5 = .ok (.iconst 4, 1) := by decide +kernel
theorem dX2_init_6 : decode cX2_init 6 = .ok (.newarray .boolean, 2) := by decide +kernel
theorem dX2_init_8 : decode cX2_init 8 = .ok (.putfield 7, 3) := by decide +kernel
theorem dX2_init_11 : decode cX2_init 11 = .ok (.aload_n 0, 1) := by decide +kernel
theorem dX2_init_12 : decode cX2_init 12 = .ok (.bipush 16, 2) := by decide +kernel
theorem dX2_init_14 : decode cX2_init 14 = .ok (.newarray .double, 2) := by decide +kernel
theorem dX2_init_16 : decode cX2_init 16 = .ok (.putfield 13, 3) := by decide +kernel
theorem dX2_init_19 : decode cX2_init 19 = .ok (.aload_n 0, 1) := by decide +kernel
theorem dX2_init_20 : decode cX2_init 20 = .ok (.iconst 4, 1) := by decide +kernel
theorem dX2_init_21 : decode cX2_init 21 = .ok (.newarray .int, 2) := by decide +kernel
theorem dX2_init_23 : decode cX2_init 23 = .ok (.putfield 17, 3) := by decide +kernel
theorem dX2_init_26 : decode cX2_init 26 = .ok (.aload_n 0, 1) := by decide +kernel
theorem dX2_init_27 : decode cX2_init 27 = .ok (.bipush 48, 2) := by decide +kernel
theorem dX2_init_29 : decode cX2_init 29 = .ok (.newarray .int, 2) := by decide +kernel
theorem dX2_init_31 : decode cX2_init 31 = .ok (.putfield 21, 3) := by decide +kernel
theorem dX2_init_34 : decode cX2_init 34 = .ok (.aload_n 0, 1) := by decide +kernel
theorem dX2_init_35 : decode cX2_init 35 = .ok (.sipush 144, 3) := by decide +kernel
theorem dX2_init_38 : decode cX2_init 38 = .ok (.newarray .double, 2) := by decide +kernel
theorem dX2_init_40 : decode cX2_init 40 = .ok (.putfield 24, 3) := by decide +kernel
theorem dX2_init_43 : decode cX2_init 43 = .ok (.aload_n 0, 1) := by decide +kernel
theorem dX2_init_44 : decode cX2_init 44 = .ok (.bipush 40, 2) := by decide +kernel
theorem dX2_init_46 : decode cX2_init 46 = .ok (.newarray .int, 2) := by decide +kernel
theorem dX2_init_48 : decode cX2_init 48 = .ok (.putfield 27, 3) := by decide +kernel
theorem dX2_init_51 : decode cX2_init 51 = .ok (.return_, 1) := by decide +kernel
theorem dX2_thrown_0 : decode cX2_thrown 0 = .ok (.aload_n 0, 1) := by decide +kernel
theorem dX2_thrown_1 : decode cX2_thrown 1 = .ok (.getfield 30, 3) := by decide +kernel
theorem dX2_thrown_4 : decode cX2_thrown 4 = .ok (.ireturn, 1) := by decide +kernel
theorem dX2_fail_0 : decode cX2_fail 0 = .ok (.aload_n 0, 1) := by decide +kernel
theorem dX2_fail_1 : decode cX2_fail 1 = .ok (.iload_n 1, 1) := by decide +kernel
theorem dX2_fail_2 : decode cX2_fail 2 = .ok (.putfield 30, 3) := by decide +kernel
theorem dX2_fail_5 : decode cX2_fail 5 = .ok (.iconst 0, 1) := by decide +kernel
theorem dX2_fail_6 : decode cX2_fail 6 = .ok (.ireturn, 1) := by decide +kernel
theorem dX2_within_0 : decode cX2_within 0 = .ok (.dload_n 0, 1) := by decide +kernel
theorem dX2_within_1 : decode cX2_within 1 = .ok (.dload_n 2, 1) := by decide +kernel
theorem dX2_within_2 : decode cX2_within 2 = .ok (.dcmp .l, 1) := by decide +kernel
theorem dX2_within_3 : decode cX2_within 3 = .ok (.ifCond .lt 14, 3) := by decide +kernel
theorem dX2_within_6 : decode cX2_within 6 = .ok (.dload_n 0, 1) := by decide +kernel
theorem dX2_within_7 : decode cX2_within 7 = .ok (.dload 4, 2) := by decide +kernel
theorem dX2_within_9 : decode cX2_within 9 = .ok (.dcmp .g, 1) := by decide +kernel
theorem dX2_within_10 : decode cX2_within 10 = .ok (.ifCond .gt 7, 3) := by decide +kernel
theorem dX2_within_13 : decode cX2_within 13 = .ok (.iconst 1, 1) := by decide +kernel
theorem dX2_within_14 : decode cX2_within 14 = .ok (.goto 4, 3) := by decide +kernel
theorem dX2_within_17 : decode cX2_within 17 = .ok (.iconst 0, 1) := by decide +kernel
theorem dX2_within_18 : decode cX2_within 18 = .ok (.ireturn, 1) := by decide +kernel
theorem dX2_floor_0 : decode cX2_floor 0 = .ok (.lload_n 0, 1) := by decide +kernel
theorem dX2_floor_1 : decode cX2_floor 1 = .ok (.lconst 0, 1) := by decide +kernel
theorem dX2_floor_2 : decode cX2_floor 2 = .ok (.lcmp, 1) := by decide +kernel
theorem dX2_floor_3 : decode cX2_floor 3 = .ok (.ifCond .lt 9, 3) := by decide +kernel
theorem dX2_floor_6 : decode cX2_floor 6 = .ok (.lload_n 0, 1) := by decide +kernel
theorem dX2_floor_7 : decode cX2_floor 7 = .ok (.lload_n 2, 1) := by decide +kernel
theorem dX2_floor_8 : decode cX2_floor 8 = .ok (.ldiv, 1) := by decide +kernel
theorem dX2_floor_9 : decode cX2_floor 9 = .ok (.goto 11, 3) := by decide +kernel
theorem dX2_floor_12 : decode cX2_floor 12 = .ok (.lload_n 2, 1) := by decide +kernel
theorem dX2_floor_13 : decode cX2_floor 13 = .ok (.lconst 1, 1) := by decide +kernel
theorem dX2_floor_14 : decode cX2_floor 14 = .ok (.lsub, 1) := by decide +kernel
theorem dX2_floor_15 : decode cX2_floor 15 = .ok (.lload_n 0, 1) := by decide +kernel
theorem dX2_floor_16 : decode cX2_floor 16 = .ok (.lsub, 1) := by decide +kernel
theorem dX2_floor_17 : decode cX2_floor 17 = .ok (.lload_n 2, 1) := by decide +kernel
theorem dX2_floor_18 : decode cX2_floor 18 = .ok (.ldiv, 1) := by decide +kernel
theorem dX2_floor_19 : decode cX2_floor 19 = .ok (.lneg, 1) := by decide +kernel
theorem dX2_floor_20 : decode cX2_floor 20 = .ok (.lreturn, 1) := by decide +kernel
set_option maxRecDepth 20000 in
theorem ggX2_before_X2_floor : GoodIn wsX2_before wsX2_floor := goodIn_r _ [11] (by decide +kernel) (by decide +kernel)
set_option maxRecDepth 20000 in
theorem gX2_before_X2_floor : GoodIn wsX2_before (va_wsS RX2 38 yX2_floor wsX2_floor) := goodIn_app (goodIn_of _ (by decide +kernel)) ggX2_before_X2_floor
theorem dX2_before_0 : decode cX2_before 0 = .ok (.lload_n 1, 1) := by decide +kernel
theorem dX2_before_1 : decode cX2_before 1 = .ok (.ldc2_w 34, 3) := by decide +kernel
theorem dX2_before_4 : decode cX2_before 4 = .ok (.ladd, 1) := by decide +kernel
theorem dX2_before_5 : decode cX2_before 5 = .ok (.ldc2_w 36, 3) := by decide +kernel
theorem dX2_before_8 : decode cX2_before 8 = .ok (.invokestatic 38, 3) := by decide +kernel
theorem dX2_before_11 : decode cX2_before 11 = .ok (.lstore_n 3, 1) := by decide +kernel
theorem dX2_before_12 : decode cX2_before 12 = .ok (.ldc2_w 42, 3) := by decide +kernel
theorem dX2_before_15 : decode cX2_before 15 = .ok (.lload_n 1, 1) := by decide +kernel
theorem dX2_before_16 : decode cX2_before 16 = .ok (.lmul, 1) := by decide +kernel
theorem dX2_before_17 : decode cX2_before 17 = .ok (.iload_n 0, 1) := by decide +kernel
theorem dX2_before_18 : decode cX2_before 18 = .ok (.ifCond .ne 7, 3) := by decide +kernel
theorem dX2_before_21 : decode cX2_before 21 = .ok (.lload_n 3, 1) := by decide +kernel
theorem dX2_before_22 : decode cX2_before 22 = .ok (.goto 28, 3) := by decide +kernel
theorem dX2_before_25 : decode cX2_before 25 = .ok (.lload_n 3, 1) := by decide +kernel
theorem dX2_before_26 : decode cX2_before 26 = .ok (.lload_n 1, 1) := by decide +kernel
theorem dX2_before_27 : decode cX2_before 27 = .ok (.ldc2_w 44, 3) := by decide +kernel
theorem dX2_before_30 : decode cX2_before 30 = .ok (.ladd, 1) := by decide +kernel
theorem dX2_before_31 : decode cX2_before 31 = .ok (.ldc2_w 46, 3) := by decide +kernel
theorem dX2_before_34 : decode cX2_before 34 = .ok (.invokestatic 38, 3) := by decide +kernel
theorem dX2_before_37 : decode cX2_before 37 = .ok (.lsub, 1) := by decide +kernel
theorem dX2_before_38 : decode cX2_before 38 = .ok (.lload_n 1, 1) := by decide +kernel
theorem dX2_before_39 : decode cX2_before 39 = .ok (.ldc2_w 48, 3) := by decide +kernel
theorem dX2_before_42 : decode cX2_before 42 = .ok (.ladd, 1) := by decide +kernel
theorem dX2_before_43 : decode cX2_before 43 = .ok (.ldc2_w 50, 3) := by decide +kernel
theorem dX2_before_46 : decode cX2_before 46 = .ok (.invokestatic 38, 3) := by decide +kernel
theorem dX2_before_49 : decode cX2_before 49 = .ok (.ladd, 1) := by decide +kernel
theorem dX2_before_50 : decode cX2_before 50 = .ok (.ladd, 1) := by decide +kernel
theorem dX2_before_51 : decode cX2_before 51 = .ok (.lreturn, 1) := by decide +kernel
set_option maxRecDepth 20000 in
theorem ggX2_leap_X2_before : GoodIn wsX2_leap wsX2_before := goodIn_r _ [5, 6, 7, 8, 9, 10, 11, 12, 13, 14, 4, 15] (by decide +kernel) (by decide +kernel)
set_option maxRecDepth 20000 in
theorem gX2_leap_X2_before : GoodIn wsX2_leap (va_wsS RX2 52 yX2_before wsX2_before) := goodIn_app (goodIn_of _ (by decide +kernel)) ggX2_leap_X2_before
theorem dX2_leap_0 : decode cX2_leap 0 = .ok (.iload_n 0, 1) := by decide +kernel
theorem dX2_leap_1 : decode cX2_leap 1 = .ok (.lload_n 1, 1) := by decide +kernel
theorem dX2_leap_2 : decode cX2_leap 2 = .ok (.lconst 1, 1) := by decide +kernel
theorem dX2_leap_3 : decode cX2_leap 3 = .ok (.ladd, 1) := by decide +kernel
theorem dX2_leap_4 : decode cX2_leap 4 = .ok (.invokestatic 52, 3) := by decide +kernel
theorem dX2_leap_7 : decode cX2_leap 7 = .ok (.iload_n 0, 1) := by decide +kernel
theorem dX2_leap_8 : decode cX2_leap 8 = .ok (.lload_n 1, 1) := by decide +kernel
theorem dX2_leap_9 : decode cX2_leap 9 = .ok (.invokestatic 52, 3) := by decide +kernel
theorem dX2_leap_12 : decode cX2_leap 12 = .ok (.lsub, 1) := by decide +kernel
theorem dX2_leap_13 : decode cX2_leap 13 = .ok (.ldc2_w 56, 3) := by decide +kernel
theorem dX2_leap_16 : decode cX2_leap 16 = .ok (.lcmp, 1) := by decide +kernel
theorem dX2_leap_17 : decode cX2_leap 17 = .ok (.ifCond .ne 7, 3) := by decide +kernel
theorem dX2_leap_20 : decode cX2_leap 20 = .ok (.iconst 1, 1) := by decide +kernel
theorem dX2_leap_21 : decode cX2_leap 21 = .ok (.goto 4, 3) := by decide +kernel
theorem dX2_leap_24 : decode cX2_leap 24 = .ok (.iconst 0, 1) := by decide +kernel
theorem dX2_leap_25 : decode cX2_leap 25 = .ok (.ireturn, 1) := by decide +kernel
set_option maxRecDepth 20000 in
theorem ggX2_length_X2_leap : GoodIn wsX2_length wsX2_leap := goodIn_r _ [4, 5, 6, 7, 3, 8, 9, 10, 11, 12, 13, 14, 15, 16, 17, 18] (by decide +kernel) (by decide +kernel)
set_option maxRecDepth 20000 in
theorem gX2_length_X2_leap : GoodIn wsX2_length (va_wsS RX2 58 yX2_leap wsX2_leap) := goodIn_app (goodIn_of _ (by decide +kernel)) ggX2_length_X2_leap
theorem dX2_length_0 : decode cX2_length 0 = .ok (.iload_n 3, 1) := by decide +kernel
theorem dX2_length_1 : decode cX2_length 1 = .ok (.iconst 2, 1) := by decide +kernel
theorem dX2_length_2 : decode cX2_length 2 = .ok (.if_icmp .ne 19, 3) := by decide +kernel
theorem dX2_length_5 : decode cX2_length 5 = .ok (.iload_n 0, 1) := by decide +kernel
theorem dX2_length_6 : decode cX2_length 6 = .ok (.lload_n 1, 1) := by decide +kernel
theorem dX2_length_7 : decode cX2_length 7 = .ok (.invokestatic 58, 3) := by decide +kernel
theorem dX2_length_10 : decode cX2_length 10 = .ok (.ifCond .eq 8, 3) := by decide +kernel
theorem dX2_length_13 : decode cX2_length 13 = .ok (.bipush 29, 2) := by decide +kernel
theorem dX2_length_15 : decode cX2_length 15 = .ok (.goto 5, 3) := by decide +kernel
theorem dX2_length_18 : decode cX2_length 18 = .ok (.bipush 28, 2) := by decide +kernel
theorem dX2_length_20 : decode cX2_length 20 = .ok (.ireturn, 1) := by decide +kernel
theorem dX2_length_21 : decode cX2_length 21 = .ok (.iload_n 3, 1) := by decide +kernel
theorem dX2_length_22 : decode cX2_length 22 = .ok (.iconst 4, 1) := by decide +kernel
theorem dX2_length_23 : decode cX2_length 23 = .ok (.if_icmp .eq 21, 3) := by decide +kernel
theorem dX2_length_26 : decode cX2_length 26 = .ok (.iload_n 3, 1) := by decide +kernel
theorem dX2_length_27 : decode cX2_length 27 = .ok (.bipush 6, 2) := by decide +kernel
theorem dX2_length_29 : decode cX2_length 29 = .ok (.if_icmp .eq 15, 3) := by decide +kernel
theorem dX2_length_32 : decode cX2_length 32 = .ok (.iload_n 3, 1) := by decide +kernel
theorem dX2_length_33 : decode cX2_length 33 = .ok (.bipush 9, 2) := by decide +kernel
theorem dX2_length_35 : decode cX2_length 35 = .ok (.if_icmp .eq 9, 3) := by decide +kernel
theorem dX2_length_38 : decode cX2_length 38 = .ok (.iload_n 3, 1) := by decide +kernel
theorem dX2_length_39 : decode cX2_length 39 = .ok (.bipush 11, 2) := by decide +kernel
theorem dX2_length_41 : decode cX2_length 41 = .ok (.if_icmp .ne 8, 3) := by decide +kernel
theorem dX2_length_44 : decode cX2_length 44 = .ok (.bipush 30, 2) := by decide +kernel
theorem dX2_length_46 : decode cX2_length 46 = .ok (.goto 5, 3) := by decide +kernel
theorem dX2_length_49 : decode cX2_length 49 = .ok (.bipush 31, 2) := by decide +kernel
theorem dX2_length_51 : decode cX2_length 51 = .ok (.ireturn, 1) := by decide +kernel
set_option maxRecDepth 20000 in
theorem ggX2_newYear_X2_before : GoodIn wsX2_newYear wsX2_before := goodIn_r _ [7, 8, 9, 10, 11, 12, 13, 14, 15, 16, 6, 17] (by decide +kernel) (by decide +kernel)
set_option maxRecDepth 20000 in
theorem gX2_newYear_X2_before : GoodIn wsX2_newYear (va_wsS RX2 52 yX2_before wsX2_before) := goodIn_app (goodIn_of _ (by decide +kernel)) ggX2_newYear_X2_before
theorem dX2_newYear_0 : decode cX2_newYear 0 = .ok (.iload_n 0, 1) := by decide +kernel
theorem dX2_newYear_1 : decode cX2_newYear 1 = .ok (.ifCond .ne 19, 3) := by decide +kernel
theorem dX2_newYear_4 : decode cX2_newYear 4 = .ok (.iconst 0, 1) := by decide +kernel
theorem dX2_newYear_5 : decode cX2_newYear 5 = .ok (.lload_n 1, 1) := by decide +kernel
theorem dX2_newYear_6 : decode cX2_newYear 6 = .ok (.invokestatic 52, 3) := by decide +kernel
theorem dX2_newYear_9 : decode cX2_newYear 9 = .ok (.iconst 0, 1) := by decide +kernel
theorem dX2_newYear_10 : decode cX2_newYear 10 = .ok (.ldc2_w 62, 3) := by decide +kernel
theorem dX2_newYear_13 : decode cX2_newYear 13 = .ok (.invokestatic 52, 3) := by decide +kernel
theorem dX2_newYear_16 : decode cX2_newYear 16 = .ok (.lsub, 1) := by decide +kernel
theorem dX2_newYear_17 : decode cX2_newYear 17 = .ok (.goto 20, 3) := by decide +kernel
theorem dX2_newYear_20 : decode cX2_newYear 20 = .ok (.iconst 1, 1) := by decide +kernel
theorem dX2_newYear_21 : decode cX2_newYear 21 = .ok (.lload_n 1, 1) := by decide +kernel
theorem dX2_newYear_22 : decode cX2_newYear 22 = .ok (.invokestatic 52, 3) := by decide +kernel
theorem dX2_newYear_25 : decode cX2_newYear 25 = .ok (.iconst 1, 1) := by decide +kernel
theorem dX2_newYear_26 : decode cX2_newYear 26 = .ok (.ldc2_w 64, 3) := by decide +kernel
theorem dX2_newYear_29 : decode cX2_newYear 29 = .ok (.invokestatic 52, 3) := by decide +kernel
theorem dX2_newYear_32 : decode cX2_newYear 32 = .ok (.lsub, 1) := by decide +kernel
theorem dX2_newYear_33 : decode cX2_newYear 33 = .ok (.ldc2_w 66, 3) := by decide +kernel
theorem dX2_newYear_36 : decode cX2_newYear 36 = .ok (.lsub, 1) := by decide +kernel
theorem dX2_newYear_37 : decode cX2_newYear 37 = .ok (.lreturn, 1) := by decide +kernel
set_option maxRecDepth 20000 in
theorem ggX2_noDate_X2_length : GoodIn wsX2_noDate wsX2_length := goodIn_r _ [6, 7, 8, 5, 9, 10, 11, 12, 13, 14, 15, 16, 17, 18, 19, 20, 21, 22, 23] (by decide +kernel) (by decide +kernel)
set_option maxRecDepth 20000 in
theorem gX2_noDate_X2_length : GoodIn wsX2_noDate (va_wsS RX2 70 yX2_length wsX2_length) := goodIn_app (goodIn_of _ (by decide +kernel)) ggX2_noDate_X2_length
theorem dX2_noDate_0 : decode cX2_noDate 0 = .ok (.iload_n 1, 1) := by decide +kernel
theorem dX2_noDate_1 : decode cX2_noDate 1 = .ok (.ldc 68, 2) := by decide +kernel
theorem dX2_noDate_3 : decode cX2_noDate 3 = .ok (.if_icmp .lt 36, 3) := by decide +kernel
theorem dX2_noDate_6 : decode cX2_noDate 6 = .ok (.iload_n 1, 1) := by decide +kernel
theorem dX2_noDate_7 : decode cX2_noDate 7 = .ok (.ldc 69, 2) := by decide +kernel
theorem dX2_noDate_9 : decode cX2_noDate 9 = .ok (.if_icmp .gt 30, 3) := by decide +kernel
theorem dX2_noDate_12 : decode cX2_noDate 12 = .ok (.iload_n 2, 1) := by decide +kernel
theorem dX2_noDate_13 : decode cX2_noDate 13 = .ok (.iconst 1, 1) := by decide +kernel
theorem dX2_noDate_14 : decode cX2_noDate 14 = .ok (.if_icmp .lt 25, 3) := by decide +kernel
theorem dX2_noDate_17 : decode cX2_noDate 17 = .ok (.iload_n 2, 1) := by decide +kernel
theorem dX2_noDate_18 : decode cX2_noDate 18 = .ok (.bipush 12, 2) := by decide +kernel
theorem dX2_noDate_20 : decode cX2_noDate 20 = .ok (.if_icmp .gt 19, 3) := by decide +kernel
theorem dX2_noDate_23 : decode cX2_noDate 23 = .ok (.iload_n 3, 1) := by decide +kernel
theorem dX2_noDate_24 : decode cX2_noDate 24 = .ok (.iconst 1, 1) := by decide +kernel
theorem dX2_noDate_25 : decode cX2_noDate 25 = .ok (.if_icmp .lt 14, 3) := by decide +kernel
theorem dX2_noDate_28 : decode cX2_noDate 28 = .ok (.iload_n 3, 1) := by decide +kernel
theorem dX2_noDate_29 : decode cX2_noDate 29 = .ok (.iload_n 0, 1) := by decide +kernel
theorem dX2_noDate_30 : decode cX2_noDate 30 = .ok (.iload_n 1, 1) := by decide +kernel
theorem dX2_noDate_31 : decode cX2_noDate 31 = .ok (.i2l, 1) := by decide +kernel
theorem dX2_noDate_32 : decode cX2_noDate 32 = .ok (.iload_n 2, 1) := by decide +kernel
theorem dX2_noDate_33 : decode cX2_noDate 33 = .ok (.invokestatic 70, 3) := by decide +kernel
theorem dX2_noDate_36 : decode cX2_noDate 36 = .ok (.if_icmp .le 7, 3) := by decide +kernel
theorem dX2_noDate_39 : decode cX2_noDate 39 = .ok (.iconst 1, 1) := by decide +kernel
theorem dX2_noDate_40 : decode cX2_noDate 40 = .ok (.goto 4, 3) := by decide +kernel
theorem dX2_noDate_43 : decode cX2_noDate 43 = .ok (.iconst 0, 1) := by decide +kernel
theorem dX2_noDate_44 : decode cX2_noDate 44 = .ok (.ireturn, 1) := by decide +kernel
set_option maxRecDepth 20000 in
theorem ggX2_number_X2_newYear : GoodIn wsX2_number wsX2_newYear := goodIn_r _ [4, 5, 6, 7, 8, 9, 3, 10, 11, 12, 13, 14, 15, 16, 17, 18, 19, 20] (by decide +kernel) (by decide +kernel)
set_option maxRecDepth 20000 in
theorem gX2_number_X2_newYear : GoodIn wsX2_number (va_wsS RX2 74 yX2_newYear wsX2_newYear) := goodIn_app (goodIn_of _ (by decide +kernel)) ggX2_number_X2_newYear
set_option maxRecDepth 20000 in
theorem ggX2_number_X2_length : GoodIn wsX2_number wsX2_length := goodIn_r _ [23, 24, 25, 3, 26, 27, 8, 9, 10, 11, 12, 13, 14, 15, 16, 17, 18, 19, 20] (by decide +kernel) (by decide +kernel)
set_option maxRecDepth 20000 in
theorem gX2_number_X2_length : GoodIn wsX2_number (va_wsS RX2 70 yX2_length wsX2_length) := goodIn_app (goodIn_of _ (by decide +kernel)) ggX2_number_X2_length
theorem dX2_number_0 : decode cX2_number 0 = .ok (.iload_n 0, 1) := by decide +kernel
theorem dX2_number_1 : decode cX2_number 1 = .ok (.iload_n 1, 1) := by decide +kernel
theorem dX2_number_2 : decode cX2_number 2 = .ok (.i2l, 1) := by decide +kernel
theorem dX2_number_3 : decode cX2_number 3 = .ok (.invokestatic 74, 3) := by decide +kernel
theorem dX2_number_6 : decode cX2_number 6 = .ok (.lstore 4, 2) := by decide +kernel
theorem dX2_number_8 : decode cX2_number 8 = .ok (.iconst 1, 1) := by decide +kernel
theorem dX2_number_9 : decode cX2_number 9 = .ok (.istore 6, 2) := by decide +kernel
theorem dX2_number_11 : decode cX2_number 11 = .ok (.iload 6, 2) := by decide +kernel
theorem dX2_number_13 : decode cX2_number 13 = .ok (.iload_n 2, 1) := by decide +kernel
theorem dX2_number_14 : decode cX2_number 14 = .ok (.if_icmp .ge 23, 3) := by decide +kernel
theorem dX2_number_17 : decode cX2_number 17 = .ok (.lload 4, 2) := by decide +kernel
theorem dX2_number_19 : decode cX2_number 19 = .ok (.iload_n 0, 1) := by decide +kernel
theorem dX2_number_20 : decode cX2_number 20 = .ok (.iload_n 1, 1) := by decide +kernel
theorem dX2_number_21 : decode cX2_number 21 = .ok (.i2l, 1) := by decide +kernel
theorem dX2_number_22 : decode cX2_number 22 = .ok (.iload 6, 2) := by decide +kernel
theorem dX2_number_24 : decode cX2_number 24 = .ok (.invokestatic 70, 3) := by decide +kernel
theorem dX2_number_27 : decode cX2_number 27 = .ok (.i2l, 1) := by decide +kernel
theorem dX2_number_28 : decode cX2_number 28 = .ok (.ladd, 1) := by decide +kernel
theorem dX2_number_29 : decode cX2_number 29 = .ok (.lstore 4, 2) := by decide +kernel
theorem dX2_number_31 : decode cX2_number 31 = .ok (.iinc 6 1, 3) := by decide +kernel
theorem dX2_number_34 : decode cX2_number 34 = .ok (.goto (-23), 3) := by decide +kernel
theorem dX2_number_37 : decode cX2_number 37 = .ok (.lload 4, 2) := by decide +kernel
theorem dX2_number_39 : decode cX2_number 39 = .ok (.iload_n 3, 1) := by decide +kernel
theorem dX2_number_40 : decode cX2_number 40 = .ok (.i2l, 1) := by decide +kernel
theorem dX2_number_41 : decode cX2_number 41 = .ok (.ladd, 1) := by decide +kernel
theorem dX2_number_42 : decode cX2_number 42 = .ok (.lconst 1, 1) := by decide +kernel
theorem dX2_number_43 : decode cX2_number 43 = .ok (.lsub, 1) := by decide +kernel
theorem dX2_number_44 : decode cX2_number 44 = .ok (.lreturn, 1) := by decide +kernel
set_option maxRecDepth 20000 in
theorem ggX2_day_X2_fail : GoodIn wsX2_day wsX2_fail := goodIn_r _ [10, 1, 44, 45, 46, 47, 48, 49, 50, 51, 52, 53, 54, 55, 56] (by decide +kernel) (by decide +kernel)
set_option maxRecDepth 20000 in
theorem gX2_day_X2_fail : GoodIn wsX2_day (wsV RX2 77 RX2 yX2_fail wsX2_fail) := goodIn_app (goodIn_of _ (by decide +kernel)) ggX2_day_X2_fail
set_option maxRecDepth 20000 in
theorem ggX2_day_X2_noDate : GoodIn wsX2_day wsX2_noDate := goodIn_r _ [13, 14, 15, 16, 17, 9, 18, 19, 20, 21, 22, 23, 24, 25, 26, 27, 28, 29, 3, 30, 31, 32, 33, 34] (by decide +kernel) (by decide +kernel)
set_option maxRecDepth 20000 in
theorem gX2_day_X2_noDate : GoodIn wsX2_day (va_wsS RX2 87 yX2_noDate wsX2_noDate) := goodIn_app (goodIn_of _ (by decide +kernel)) ggX2_day_X2_noDate
set_option maxRecDepth 20000 in
theorem ggX2_day_X2_number : GoodIn wsX2_day wsX2_number := goodIn_r _ [37, 38, 39, 9, 40, 41, 42, 43, 23, 24, 25, 26, 27, 28, 29, 3, 30, 31, 32, 33, 34, 16, 17, 18, 19, 20, 21, 22] (by decide +kernel) (by decide +kernel)
set_option maxRecDepth 20000 in
theorem gX2_day_X2_number : GoodIn wsX2_day (va_wsS RX2 91 yX2_number wsX2_number) := goodIn_app (goodIn_of _ (by decide +kernel)) ggX2_day_X2_number
theorem dX2_day_0 : decode cX2_day 0 = .ok (.aload_n 0, 1) := by decide +kernel
theorem dX2_day_1 : decode cX2_day 1 = .ok (.iconst 0, 1) := by decide +kernel
theorem dX2_day_2 : decode cX2_day 2 = .ok (.putfield 30, 3) := by decide +kernel
theorem dX2_day_5 : decode cX2_day 5 = .ok (.iload_n 1, 1) := by decide +kernel
theorem dX2_day_6 : decode cX2_day 6 = .ok (.ifCond .lt 8, 3) := by decide +kernel
theorem dX2_day_9 : decode cX2_day 9 = .ok (.iload_n 1, 1) := by decide +kernel
theorem dX2_day_10 : decode cX2_day 10 = .ok (.iconst 2, 1) := by decide +kernel
theorem dX2_day_11 : decode cX2_day 11 = .ok (.if_icmp .le 10, 3) := by decide +kernel
theorem dX2_day_14 : decode cX2_day 14 = .ok (.aload_n 0, 1) := by decide +kernel
theorem dX2_day_15 : decode cX2_day 15 = .ok (.iconst 1, 1) := by decide +kernel
theorem dX2_day_16 : decode cX2_day 16 = .ok (.invokevirtual 77, 3) := by decide +kernel
theorem dX2_day_19 : decode cX2_day 19 = .ok (.i2l, 1) := by decide +kernel
theorem dX2_day_20 : decode cX2_day 20 = .ok (.lreturn, 1) := by decide +kernel
theorem dX2_day_21 : decode cX2_day 21 = .ok (.iload_n 2, 1) := by decide +kernel
theorem dX2_day_22 : decode cX2_day 22 = .ok (.i2l, 1) := by decide +kernel
theorem dX2_day_23 : decode cX2_day 23 = .ok (.ldc2_w 81, 3) := by decide +kernel
theorem dX2_day_26 : decode cX2_day 26 = .ok (.lmul, 1) := by decide +kernel
theorem dX2_day_27 : decode cX2_day 27 = .ok (.iload_n 3, 1) := by decide +kernel
theorem dX2_day_28 : decode cX2_day 28 = .ok (.i2l, 1) := by decide +kernel
theorem dX2_day_29 : decode cX2_day 29 = .ok (.ldc2_w 46, 3) := by decide +kernel
theorem dX2_day_32 : decode cX2_day 32 = .ok (.lmul, 1) := by decide +kernel
theorem dX2_day_33 : decode cX2_day 33 = .ok (.ladd, 1) := by decide +kernel
theorem dX2_day_34 : decode cX2_day 34 = .ok (.iload 4, 2) := by decide +kernel
theorem dX2_day_36 : decode cX2_day 36 = .ok (.i2l, 1) := by decide +kernel
theorem dX2_day_37 : decode cX2_day 37 = .ok (.ladd, 1) := by decide +kernel
theorem dX2_day_38 : decode cX2_day 38 = .ok (.lstore 5, 2) := by decide +kernel
theorem dX2_day_40 : decode cX2_day 40 = .ok (.iload_n 1, 1) := by decide +kernel
theorem dX2_day_41 : decode cX2_day 41 = .ok (.iconst 2, 1) := by decide +kernel
theorem dX2_day_42 : decode cX2_day 42 = .ok (.if_icmp .ge 7, 3) := by decide +kernel
theorem dX2_day_45 : decode cX2_day 45 = .ok (.iload_n 1, 1) := by decide +kernel
theorem dX2_day_46 : decode cX2_day 46 = .ok (.goto 17, 3) := by decide +kernel
theorem dX2_day_49 : decode cX2_day 49 = .ok (.lload 5, 2) := by decide +kernel
theorem dX2_day_51 : decode cX2_day 51 = .ok (.ldc2_w 83, 3) := by decide +kernel
theorem dX2_day_54 : decode cX2_day 54 = .ok (.lcmp, 1) := by decide +kernel
theorem dX2_day_55 : decode cX2_day 55 = .ok (.ifCond .gt 7, 3) := by decide +kernel
theorem dX2_day_58 : decode cX2_day 58 = .ok (.iconst 0, 1) := by decide +kernel
theorem dX2_day_59 : decode cX2_day 59 = .ok (.goto 4, 3) := by decide +kernel
theorem dX2_day_62 : decode cX2_day 62 = .ok (.iconst 1, 1) := by decide +kernel
theorem dX2_day_63 : decode cX2_day 63 = .ok (.istore 7, 2) := by decide +kernel
theorem dX2_day_65 : decode cX2_day 65 = .ok (.iload_n 1, 1) := by decide +kernel
theorem dX2_day_66 : decode cX2_day 66 = .ok (.iconst 2, 1) := by decide +kernel
theorem dX2_day_67 : decode cX2_day 67 = .ok (.if_icmp .ne 25, 3) := by decide +kernel
theorem dX2_day_70 : decode cX2_day 70 = .ok (.lload 5, 2) := by decide +kernel
theorem dX2_day_72 : decode cX2_day 72 = .ok (.ldc2_w 83, 3) := by decide +kernel
theorem dX2_day_75 : decode cX2_day 75 = .ok (.lcmp, 1) := by decide +kernel
theorem dX2_day_76 : decode cX2_day 76 = .ok (.ifCond .le 16, 3) := by decide +kernel
theorem dX2_day_79 : decode cX2_day 79 = .ok (.lload 5, 2) := by decide +kernel
theorem dX2_day_81 : decode cX2_day 81 = .ok (.ldc2_w 85, 3) := by decide +kernel
theorem dX2_day_84 : decode cX2_day 84 = .ok (.lcmp, 1) := by decide +kernel
theorem dX2_day_85 : decode cX2_day 85 = .ok (.ifCond .ge 7, 3) := by decide +kernel
theorem dX2_day_88 : decode cX2_day 88 = .ok (.iconst 1, 1) := by decide +kernel
theorem dX2_day_89 : decode cX2_day 89 = .ok (.goto 4, 3) := by decide +kernel
theorem dX2_day_92 : decode cX2_day 92 = .ok (.iconst 0, 1) := by decide +kernel
theorem dX2_day_93 : decode cX2_day 93 = .ok (.istore 8, 2) := by decide +kernel
theorem dX2_day_95 : decode cX2_day 95 = .ok (.iload 7, 2) := by decide +kernel
theorem dX2_day_97 : decode cX2_day 97 = .ok (.iload_n 2, 1) := by decide +kernel
theorem dX2_day_98 : decode cX2_day 98 = .ok (.iload_n 3, 1) := by decide +kernel
theorem dX2_day_99 : decode cX2_day 99 = .ok (.iload 4, 2) := by decide +kernel
theorem dX2_day_101 : decode cX2_day 101 = .ok (.invokestatic 87, 3) := by decide +kernel
theorem dX2_day_104 : decode cX2_day 104 = .ok (.ifCond .ne 8, 3) := by decide +kernel
theorem dX2_day_107 : decode cX2_day 107 = .ok (.iload 8, 2) := by decide +kernel
theorem dX2_day_109 : decode cX2_day 109 = .ok (.ifCond .eq 10, 3) := by decide +kernel
theorem dX2_day_112 : decode cX2_day 112 = .ok (.aload_n 0, 1) := by decide +kernel
theorem dX2_day_113 : decode cX2_day 113 = .ok (.iconst 1, 1) := by decide +kernel
theorem dX2_day_114 : decode cX2_day 114 = .ok (.invokevirtual 77, 3) := by decide +kernel
theorem dX2_day_117 : decode cX2_day 117 = .ok (.i2l, 1) := by decide +kernel
theorem dX2_day_118 : decode cX2_day 118 = .ok (.lreturn, 1) := by decide +kernel
theorem dX2_day_119 : decode cX2_day 119 = .ok (.iload 7, 2) := by decide +kernel
theorem dX2_day_121 : decode cX2_day 121 = .ok (.iload_n 2, 1) := by decide +kernel
theorem dX2_day_122 : decode cX2_day 122 = .ok (.iload_n 3, 1) := by decide +kernel
theorem dX2_day_123 : decode cX2_day 123 = .ok (.iload 4, 2) := by decide +kernel
theorem dX2_day_125 : decode cX2_day 125 = .ok (.invokestatic 91, 3) := by decide +kernel
theorem dX2_day_128 : decode cX2_day 128 = .ok (.lreturn, 1) := by decide +kernel
set_option maxRecDepth 20000 in
theorem ggX2_yearOf_X2_floor : GoodIn wsX2_yearOf wsX2_floor := goodIn_r _ [7] (by decide +kernel) (by decide +kernel)
set_option maxRecDepth 20000 in
theorem gX2_yearOf_X2_floor : GoodIn wsX2_yearOf (va_wsS RX2 38 yX2_floor wsX2_floor) := goodIn_app (goodIn_of _ (by decide +kernel)) ggX2_yearOf_X2_floor
set_option maxRecDepth 20000 in
theorem ggX2_yearOf_X2_newYear : GoodIn wsX2_yearOf wsX2_newYear := goodIn_r _ [10, 11, 12, 13, 14, 15, 6, 16, 17, 1, 18, 19, 20, 21, 22, 4, 5, 7] (by decide +kernel) (by decide +kernel)
set_option maxRecDepth 20000 in
theorem gX2_yearOf_X2_newYear : GoodIn wsX2_yearOf (va_wsS RX2 74 yX2_newYear wsX2_newYear) := goodIn_app (goodIn_of _ (by decide +kernel)) ggX2_yearOf_X2_newYear
theorem dX2_yearOf_0 : decode cX2_yearOf 0 = .ok (.lload_n 1, 1) := by decide +kernel
theorem dX2_yearOf_1 : decode cX2_yearOf 1 = .ok (.ldc2_w 36, 3) := by decide +kernel
theorem dX2_yearOf_4 : decode cX2_yearOf 4 = .ok (.lmul, 1) := by decide +kernel
theorem dX2_yearOf_5 : decode cX2_yearOf 5 = .ok (.ldc2_w 95, 3) := by decide +kernel
theorem dX2_yearOf_8 : decode cX2_yearOf 8 = .ok (.invokestatic 38, 3) := by decide +kernel
theorem dX2_yearOf_11 : decode cX2_yearOf 11 = .ok (.ldc2_w 97, 3) := by decide +kernel
theorem dX2_yearOf_14 : decode cX2_yearOf 14 = .ok (.lsub, 1) := by decide +kernel
theorem dX2_yearOf_15 : decode cX2_yearOf 15 = .ok (.lstore_n 3, 1) := by decide +kernel
theorem dX2_yearOf_16 : decode cX2_yearOf 16 = .ok (.iload_n 0, 1) := by decide +kernel
theorem dX2_yearOf_17 : decode cX2_yearOf 17 = .ok (.lload_n 3, 1) := by decide +kernel
theorem dX2_yearOf_18 : decode cX2_yearOf 18 = .ok (.invokestatic 74, 3) := by decide +kernel
theorem dX2_yearOf_21 : decode cX2_yearOf 21 = .ok (.lload_n 1, 1) := by decide +kernel
theorem dX2_yearOf_22 : decode cX2_yearOf 22 = .ok (.lcmp, 1) := by decide +kernel
theorem dX2_yearOf_23 : decode cX2_yearOf 23 = .ok (.ifCond .le 10, 3) := by decide +kernel
theorem dX2_yearOf_26 : decode cX2_yearOf 26 = .ok (.lload_n 3, 1) := by decide +kernel
theorem dX2_yearOf_27 : decode cX2_yearOf 27 = .ok (.lconst 1, 1) := by decide +kernel
theorem dX2_yearOf_28 : decode cX2_yearOf 28 = .ok (.lsub, 1) := by decide +kernel
theorem dX2_yearOf_29 : decode cX2_yearOf 29 = .ok (.lstore_n 3, 1) := by decide +kernel
theorem dX2_yearOf_30 : decode cX2_yearOf 30 = .ok (.goto (-14), 3) := by decide +kernel
theorem dX2_yearOf_33 : decode cX2_yearOf 33 = .ok (.iload_n 0, 1) := by decide +kernel
theorem dX2_yearOf_34 : decode cX2_yearOf 34 = .ok (.lload_n 3, 1) := by decide +kernel
theorem dX2_yearOf_35 : decode cX2_yearOf 35 = .ok (.lconst 1, 1) := by decide +kernel
theorem dX2_yearOf_36 : decode cX2_yearOf 36 = .ok (.ladd, 1) := by decide +kernel
theorem dX2_yearOf_37 : decode cX2_yearOf 37 = .ok (.invokestatic 74, 3) := by decide +kernel
theorem dX2_yearOf_40 : decode cX2_yearOf 40 = .ok (.lload_n 1, 1) := by decide +kernel
theorem dX2_yearOf_41 : decode cX2_yearOf 41 = .ok (.lcmp, 1) := by decide +kernel
theorem dX2_yearOf_42 : decode cX2_yearOf 42 = .ok (.ifCond .gt 10, 3) := by decide +kernel
theorem dX2_yearOf_45 : decode cX2_yearOf 45 = .ok (.lload_n 3, 1) := by decide +kernel
theorem dX2_yearOf_46 : decode cX2_yearOf 46 = .ok (.lconst 1, 1) := by decide +kernel
theorem dX2_yearOf_47 : decode cX2_yearOf 47 = .ok (.ladd, 1) := by decide +kernel
theorem dX2_yearOf_48 : decode cX2_yearOf 48 = .ok (.lstore_n 3, 1) := by decide +kernel
theorem dX2_yearOf_49 : decode cX2_yearOf 49 = .ok (.goto (-16), 3) := by decide +kernel
theorem dX2_yearOf_52 : decode cX2_yearOf 52 = .ok (.lload_n 3, 1) := by decide +kernel
theorem dX2_yearOf_53 : decode cX2_yearOf 53 = .ok (.lreturn, 1) := by decide +kernel
set_option maxRecDepth 20000 in
theorem ggX2_date_X2_fail : GoodIn wsX2_date wsX2_fail := goodIn_r _ [12, 1, 44, 45, 46, 47, 48, 49, 50, 51, 52, 53, 54, 55, 56] (by decide +kernel) (by decide +kernel)
set_option maxRecDepth 20000 in
theorem gX2_date_X2_fail : GoodIn wsX2_date (wsV RX2 77 RX2 yX2_fail wsX2_fail) := goodIn_app (goodIn_of _ (by decide +kernel)) ggX2_date_X2_fail
set_option maxRecDepth 20000 in
theorem ggX2_date_X2_yearOf : GoodIn wsX2_date wsX2_yearOf := goodIn_r _ [15, 16, 17, 18, 19, 20, 11, 21, 22, 23, 24, 25, 26, 27, 28, 29, 30, 31, 32, 33, 34, 35, 36] (by decide +kernel) (by decide +kernel)
set_option maxRecDepth 20000 in
theorem gX2_date_X2_yearOf : GoodIn wsX2_date (va_wsS RX2 105 yX2_yearOf wsX2_yearOf) := goodIn_app (goodIn_of _ (by decide +kernel)) ggX2_date_X2_yearOf
set_option maxRecDepth 20000 in
theorem ggX2_date_X2_newYear : GoodIn wsX2_date wsX2_newYear := goodIn_r _ [24, 25, 26, 27, 28, 29, 11, 30, 31, 16, 32, 33, 34, 35, 36, 19, 20, 21] (by decide +kernel) (by decide +kernel)
set_option maxRecDepth 20000 in
theorem gX2_date_X2_newYear : GoodIn wsX2_date (va_wsS RX2 74 yX2_newYear wsX2_newYear) := goodIn_app (goodIn_of _ (by decide +kernel)) ggX2_date_X2_newYear
set_option maxRecDepth 20000 in
theorem ggX2_date_X2_length : GoodIn wsX2_date wsX2_length := goodIn_r _ [39, 40, 41, 11, 42, 43, 28, 29, 30, 31, 16, 32, 33, 34, 35, 36, 19, 20, 21] (by decide +kernel) (by decide +kernel)
set_option maxRecDepth 20000 in
theorem gX2_date_X2_length : GoodIn wsX2_date (va_wsS RX2 70 yX2_length wsX2_length) := goodIn_app (goodIn_of _ (by decide +kernel)) ggX2_date_X2_length
theorem dX2_date_0 : decode cX2_date 0 = .ok (.aload_n 0, 1) := by decide +kernel
theorem dX2_date_1 : decode cX2_date 1 = .ok (.iconst 0, 1) := by decide +kernel
theorem dX2_date_2 : decode cX2_date 2 = .ok (.putfield 30, 3) := by decide +kernel
theorem dX2_date_5 : decode cX2_date 5 = .ok (.iload_n 1, 1) := by decide +kernel
theorem dX2_date_6 : decode cX2_date 6 = .ok (.ifCond .lt 35, 3) := by decide +kernel
theorem dX2_date_9 : decode cX2_date 9 = .ok (.iload_n 1, 1) := by decide +kernel
theorem dX2_date_10 : decode cX2_date 10 = .ok (.iconst 2, 1) := by decide +kernel
theorem dX2_date_11 : decode cX2_date 11 = .ok (.if_icmp .gt 30, 3) := by decide +kernel
theorem dX2_date_14 : decode cX2_date 14 = .ok (.lload_n 2, 1) := by decide +kernel
theorem dX2_date_15 : decode cX2_date 15 = .ok (.ldc2_w 99, 3) := by decide +kernel
theorem dX2_date_18 : decode cX2_date 18 = .ok (.lcmp, 1) := by decide +kernel
theorem dX2_date_19 : decode cX2_date 19 = .ok (.ifCond .lt 22, 3) := by decide +kernel
theorem dX2_date_22 : decode cX2_date 22 = .ok (.lload_n 2, 1) := by decide +kernel
theorem dX2_date_23 : decode cX2_date 23 = .ok (.ldc2_w 101, 3) := by decide +kernel
theorem dX2_date_26 : decode cX2_date 26 = .ok (.lcmp, 1) := by decide +kernel
theorem dX2_date_27 : decode cX2_date 27 = .ok (.ifCond .gt 14, 3) := by decide +kernel
theorem dX2_date_30 : decode cX2_date 30 = .ok (.iload 4, 2) := by decide +kernel
theorem dX2_date_32 : decode cX2_date 32 = .ok (.ifCond .lt 9, 3) := by decide +kernel
theorem dX2_date_35 : decode cX2_date 35 = .ok (.iload 4, 2) := by decide +kernel
theorem dX2_date_37 : decode cX2_date 37 = .ok (.iconst 3, 1) := by decide +kernel
theorem dX2_date_38 : decode cX2_date 38 = .ok (.if_icmp .le 9, 3) := by decide +kernel
theorem dX2_date_41 : decode cX2_date 41 = .ok (.aload_n 0, 1) := by decide +kernel
theorem dX2_date_42 : decode cX2_date 42 = .ok (.iconst 1, 1) := by decide +kernel
theorem dX2_date_43 : decode cX2_date 43 = .ok (.invokevirtual 77, 3) := by decide +kernel
theorem dX2_date_46 : decode cX2_date 46 = .ok (.ireturn, 1) := by decide +kernel
theorem dX2_date_47 : decode cX2_date 47 = .ok (.iload_n 1, 1) := by decide +kernel
theorem dX2_date_48 : decode cX2_date 48 = .ok (.iconst 2, 1) := by decide +kernel
theorem dX2_date_49 : decode cX2_date 49 = .ok (.if_icmp .ge 7, 3) := by decide +kernel
theorem dX2_date_52 : decode cX2_date 52 = .ok (.iload_n 1, 1) := by decide +kernel
theorem dX2_date_53 : decode cX2_date 53 = .ok (.goto 16, 3) := by decide +kernel
theorem dX2_date_56 : decode cX2_date 56 = .ok (.lload_n 2, 1) := by decide +kernel
theorem dX2_date_57 : decode cX2_date 57 = .ok (.ldc2_w 103, 3) := by decide +kernel
theorem dX2_date_60 : decode cX2_date 60 = .ok (.lcmp, 1) := by decide +kernel
theorem dX2_date_61 : decode cX2_date 61 = .ok (.ifCond .ge 7, 3) := by decide +kernel
theorem dX2_date_64 : decode cX2_date 64 = .ok (.iconst 0, 1) := by decide +kernel
theorem dX2_date_65 : decode cX2_date 65 = .ok (.goto 4, 3) := by decide +kernel
theorem dX2_date_68 : decode cX2_date 68 = .ok (.iconst 1, 1) := by decide +kernel
theorem dX2_date_69 : decode cX2_date 69 = .ok (.istore 5, 2) := by decide +kernel
theorem dX2_date_71 : decode cX2_date 71 = .ok (.iload 5, 2) := by decide +kernel
theorem dX2_date_73 : decode cX2_date 73 = .ok (.lload_n 2, 1) := by decide +kernel
theorem dX2_date_74 : decode cX2_date 74 = .ok (.invokestatic 105, 3) := by decide +kernel
theorem dX2_date_77 : decode cX2_date 77 = .ok (.lstore 6, 2) := by decide +kernel
theorem dX2_date_79 : decode cX2_date 79 = .ok (.lload 6, 2) := by decide +kernel
theorem dX2_date_81 : decode cX2_date 81 = .ok (.ldc2_w 108, 3) := by decide +kernel
theorem dX2_date_84 : decode cX2_date 84 = .ok (.lcmp, 1) := by decide +kernel
theorem dX2_date_85 : decode cX2_date 85 = .ok (.ifCond .lt 12, 3) := by decide +kernel
theorem dX2_date_88 : decode cX2_date 88 = .ok (.lload 6, 2) := by decide +kernel
theorem dX2_date_90 : decode cX2_date 90 = .ok (.ldc2_w 110, 3) := by decide +kernel
theorem dX2_date_93 : decode cX2_date 93 = .ok (.lcmp, 1) := by decide +kernel
theorem dX2_date_94 : decode cX2_date 94 = .ok (.ifCond .le 9, 3) := by decide +kernel
theorem dX2_date_97 : decode cX2_date 97 = .ok (.aload_n 0, 1) := by decide +kernel
theorem dX2_date_98 : decode cX2_date 98 = .ok (.iconst 1, 1) := by decide +kernel
theorem dX2_date_99 : decode cX2_date 99 = .ok (.invokevirtual 77, 3) := by decide +kernel
theorem dX2_date_102 : decode cX2_date 102 = .ok (.ireturn, 1) := by decide +kernel
theorem dX2_date_103 : decode cX2_date 103 = .ok (.lload_n 2, 1) := by decide +kernel
theorem dX2_date_104 : decode cX2_date 104 = .ok (.iload 5, 2) := by decide +kernel
theorem dX2_date_106 : decode cX2_date 106 = .ok (.lload 6, 2) := by decide +kernel
theorem dX2_date_108 : decode cX2_date 108 = .ok (.invokestatic 74, 3) := by decide +kernel
theorem dX2_date_111 : decode cX2_date 111 = .ok (.lsub, 1) := by decide +kernel
theorem dX2_date_112 : decode cX2_date 112 = .ok (.lstore 8, 2) := by decide +kernel
theorem dX2_date_114 : decode cX2_date 114 = .ok (.iconst 1, 1) := by decide +kernel
theorem dX2_date_115 : decode cX2_date 115 = .ok (.istore 10, 2) := by decide +kernel
theorem dX2_date_117 : decode cX2_date 117 = .ok (.lload 8, 2) := by decide +kernel
theorem dX2_date_119 : decode cX2_date 119 = .ok (.iload 5, 2) := by decide +kernel
theorem dX2_date_121 : decode cX2_date 121 = .ok (.lload 6, 2) := by decide +kernel
theorem dX2_date_123 : decode cX2_date 123 = .ok (.iload 10, 2) := by decide +kernel
theorem dX2_date_125 : decode cX2_date 125 = .ok (.invokestatic 70, 3) := by decide +kernel
theorem dX2_date_128 : decode cX2_date 128 = .ok (.i2l, 1) := by decide +kernel
theorem dX2_date_129 : decode cX2_date 129 = .ok (.lcmp, 1) := by decide +kernel
theorem dX2_date_130 : decode cX2_date 130 = .ok (.ifCond .lt 24, 3) := by decide +kernel
theorem dX2_date_133 : decode cX2_date 133 = .ok (.lload 8, 2) := by decide +kernel
theorem dX2_date_135 : decode cX2_date 135 = .ok (.iload 5, 2) := by decide +kernel
theorem dX2_date_137 : decode cX2_date 137 = .ok (.lload 6, 2) := by decide +kernel
theorem dX2_date_139 : decode cX2_date 139 = .ok (.iload 10, 2) := by decide +kernel
theorem dX2_date_141 : decode cX2_date 141 = .ok (.invokestatic 70, 3) := by decide +kernel
theorem dX2_date_144 : decode cX2_date 144 = .ok (.i2l, 1) := by decide +kernel
theorem dX2_date_145 : decode cX2_date 145 = .ok (.lsub, 1) := by decide +kernel
theorem dX2_date_146 : decode cX2_date 146 = .ok (.lstore 8, 2) := by decide +kernel
theorem dX2_date_148 : decode cX2_date 148 = .ok (.iinc 10 1, 3) := by decide +kernel
theorem dX2_date_151 : decode cX2_date 151 = .ok (.goto (-34), 3) := by decide +kernel
theorem dX2_date_154 : decode cX2_date 154 = .ok (.iload 4, 2) := by decide +kernel
theorem dX2_date_156 : decode cX2_date 156 = .ok (.ifCond .ne 7, 3) := by decide +kernel
theorem dX2_date_159 : decode cX2_date 159 = .ok (.lload 6, 2) := by decide +kernel
theorem dX2_date_161 : decode cX2_date 161 = .ok (.l2i, 1) := by decide +kernel
theorem dX2_date_162 : decode cX2_date 162 = .ok (.ireturn, 1) := by decide +kernel
theorem dX2_date_163 : decode cX2_date 163 = .ok (.iload 4, 2) := by decide +kernel
theorem dX2_date_165 : decode cX2_date 165 = .ok (.iconst 1, 1) := by decide +kernel
theorem dX2_date_166 : decode cX2_date 166 = .ok (.if_icmp .ne 6, 3) := by decide +kernel
theorem dX2_date_169 : decode cX2_date 169 = .ok (.iload 10, 2) := by decide +kernel
theorem dX2_date_171 : decode cX2_date 171 = .ok (.ireturn, 1) := by decide +kernel
theorem dX2_date_172 : decode cX2_date 172 = .ok (.iload 4, 2) := by decide +kernel
theorem dX2_date_174 : decode cX2_date 174 = .ok (.iconst 2, 1) := by decide +kernel
theorem dX2_date_175 : decode cX2_date 175 = .ok (.if_icmp .ne 9, 3) := by decide +kernel
theorem dX2_date_178 : decode cX2_date 178 = .ok (.lload 8, 2) := by decide +kernel
theorem dX2_date_180 : decode cX2_date 180 = .ok (.l2i, 1) := by decide +kernel
theorem dX2_date_181 : decode cX2_date 181 = .ok (.iconst 1, 1) := by decide +kernel
theorem dX2_date_182 : decode cX2_date 182 = .ok (.iadd, 1) := by decide +kernel
theorem dX2_date_183 : decode cX2_date 183 = .ok (.ireturn, 1) := by decide +kernel
theorem dX2_date_184 : decode cX2_date 184 = .ok (.iload_n 1, 1) := by decide +kernel
theorem dX2_date_185 : decode cX2_date 185 = .ok (.iconst 2, 1) := by decide +kernel
theorem dX2_date_186 : decode cX2_date 186 = .ok (.if_icmp .ne 16, 3) := by decide +kernel
theorem dX2_date_189 : decode cX2_date 189 = .ok (.lload 6, 2) := by decide +kernel
theorem dX2_date_191 : decode cX2_date 191 = .ok (.ldc2_w 112, 3) := by decide +kernel
theorem dX2_date_194 : decode cX2_date 194 = .ok (.lcmp, 1) := by decide +kernel
theorem dX2_date_195 : decode cX2_date 195 = .ok (.ifCond .gt 7, 3) := by decide +kernel
theorem dX2_date_198 : decode cX2_date 198 = .ok (.iconst 0, 1) := by decide +kernel
theorem dX2_date_199 : decode cX2_date 199 = .ok (.goto 5, 3) := by decide +kernel
theorem dX2_date_202 : decode cX2_date 202 = .ok (.iload 5, 2) := by decide +kernel
theorem dX2_date_204 : decode cX2_date 204 = .ok (.istore 11, 2) := by decide +kernel
theorem dX2_date_206 : decode cX2_date 206 = .ok (.lload_n 2, 1) := by decide +kernel
theorem dX2_date_207 : decode cX2_date 207 = .ok (.iload 11, 2) := by decide +kernel
theorem dX2_date_209 : decode cX2_date 209 = .ok (.lload 6, 2) := by decide +kernel
theorem dX2_date_211 : decode cX2_date 211 = .ok (.invokestatic 74, 3) := by decide +kernel
theorem dX2_date_214 : decode cX2_date 214 = .ok (.lsub, 1) := by decide +kernel
theorem dX2_date_215 : decode cX2_date 215 = .ok (.l2i, 1) := by decide +kernel
theorem dX2_date_216 : decode cX2_date 216 = .ok (.iconst 1, 1) := by decide +kernel
theorem dX2_date_217 : decode cX2_date 217 = .ok (.iadd, 1) := by decide +kernel
theorem dX2_date_218 : decode cX2_date 218 = .ok (.ireturn, 1) := by decide +kernel
set_option maxRecDepth 20000 in
theorem ggX2_easter_X2_fail : GoodIn wsX2_easter wsX2_fail := goodIn_r _ [6, 1, 36, 37, 38, 39, 40, 41, 42, 43, 44, 45, 46, 47, 48] (by decide +kernel) (by decide +kernel)
set_option maxRecDepth 20000 in
theorem gX2_easter_X2_fail : GoodIn wsX2_easter (wsV RX2 77 RX2 yX2_fail wsX2_fail) := goodIn_app (goodIn_of _ (by decide +kernel)) ggX2_easter_X2_fail
set_option maxRecDepth 20000 in
theorem ggX2_easter_X2_number : GoodIn wsX2_easter wsX2_number := goodIn_r _ [9, 10, 11, 5, 12, 13, 14, 15, 16, 17, 18, 19, 20, 21, 22, 23, 24, 25, 26, 27, 28, 29, 30, 31, 32, 33, 34, 35] (by decide +kernel) (by decide +kernel)
set_option maxRecDepth 20000 in
theorem gX2_easter_X2_number : GoodIn wsX2_easter (va_wsS RX2 91 yX2_number wsX2_number) := goodIn_app (goodIn_of _ (by decide +kernel)) ggX2_easter_X2_number
theorem dX2_easter_0 : decode cX2_easter 0 = .ok (.aload_n 0, 1) := by decide +kernel
theorem dX2_easter_1 : decode cX2_easter 1 = .ok (.iconst 0, 1) := by decide +kernel
theorem dX2_easter_2 : decode cX2_easter 2 = .ok (.putfield 30, 3) := by decide +kernel
theorem dX2_easter_5 : decode cX2_easter 5 = .ok (.iload_n 1, 1) := by decide +kernel
theorem dX2_easter_6 : decode cX2_easter 6 = .ok (.sipush 1583, 3) := by decide +kernel
theorem dX2_easter_9 : decode cX2_easter 9 = .ok (.if_icmp .lt 10, 3) := by decide +kernel
theorem dX2_easter_12 : decode cX2_easter 12 = .ok (.iload_n 1, 1) := by decide +kernel
theorem dX2_easter_13 : decode cX2_easter 13 = .ok (.sipush 9999, 3) := by decide +kernel
theorem dX2_easter_16 : decode cX2_easter 16 = .ok (.if_icmp .le 10, 3) := by decide +kernel
theorem dX2_easter_19 : decode cX2_easter 19 = .ok (.aload_n 0, 1) := by decide +kernel
theorem dX2_easter_20 : decode cX2_easter 20 = .ok (.iconst 1, 1) := by decide +kernel
theorem dX2_easter_21 : decode cX2_easter 21 = .ok (.invokevirtual 77, 3) := by decide +kernel
theorem dX2_easter_24 : decode cX2_easter 24 = .ok (.i2l, 1) := by decide +kernel
theorem dX2_easter_25 : decode cX2_easter 25 = .ok (.lreturn, 1) := by decide +kernel
theorem dX2_easter_26 : decode cX2_easter 26 = .ok (.iload_n 1, 1) := by decide +kernel
theorem dX2_easter_27 : decode cX2_easter 27 = .ok (.bipush 19, 2) := by decide +kernel
theorem dX2_easter_29 : decode cX2_easter 29 = .ok (.irem, 1) := by decide +kernel
theorem dX2_easter_30 : decode cX2_easter 30 = .ok (.istore_n 2, 1) := by decide +kernel
theorem dX2_easter_31 : decode cX2_easter 31 = .ok (.iload_n 1, 1) := by decide +kernel
theorem dX2_easter_32 : decode cX2_easter 32 = .ok (.bipush 100, 2) := by decide +kernel
theorem dX2_easter_34 : decode cX2_easter 34 = .ok (.idiv, 1) := by decide +kernel
theorem dX2_easter_35 : decode cX2_easter 35 = .ok (.istore_n 3, 1) := by decide +kernel
theorem dX2_easter_36 : decode cX2_easter 36 = .ok (.iload_n 3, 1) := by decide +kernel
theorem dX2_easter_37 : decode cX2_easter 37 = .ok (.iload_n 3, 1) := by decide +kernel
theorem dX2_easter_38 : decode cX2_easter 38 = .ok (.iconst 4, 1) := by decide +kernel
theorem dX2_easter_39 : decode cX2_easter 39 = .ok (.idiv, 1) := by decide +kernel
theorem dX2_easter_40 : decode cX2_easter 40 = .ok (.isub, 1) := by decide +kernel
theorem dX2_easter_41 : decode cX2_easter 41 = .ok (.bipush 8, 2) := by decide +kernel
theorem dX2_easter_43 : decode cX2_easter 43 = .ok (.iload_n 3, 1) := by decide +kernel
theorem dX2_easter_44 : decode cX2_easter 44 = .ok (.imul, 1) := by decide +kernel
theorem dX2_easter_45 : decode cX2_easter 45 = .ok (.bipush 13, 2) := by decide +kernel
theorem dX2_easter_47 : decode cX2_easter 47 = .ok (.iadd, 1) := by decide +kernel
theorem dX2_easter_48 : decode cX2_easter 48 = .ok (.bipush 25, 2) := by decide +kernel
theorem dX2_easter_50 : decode cX2_easter 50 = .ok (.idiv, 1) := by decide +kernel
theorem dX2_easter_51 : decode cX2_easter 51 = .ok (.isub, 1) := by decide +kernel
theorem dX2_easter_52 : decode cX2_easter 52 = .ok (.bipush 19, 2) := by decide +kernel
theorem dX2_easter_54 : decode cX2_easter 54 = .ok (.iload_n 2, 1) := by decide +kernel
theorem dX2_easter_55 : decode cX2_easter 55 = .ok (.imul, 1) := by decide +kernel
theorem dX2_easter_56 : decode cX2_easter 56 = .ok (.iadd, 1) := by decide +kernel
theorem dX2_easter_57 : decode cX2_easter 57 = .ok (.bipush 15, 2) := by decide +kernel
theorem dX2_easter_59 : decode cX2_easter 59 = .ok (.iadd, 1) := by decide +kernel
theorem dX2_easter_60 : decode cX2_easter 60 = .ok (.bipush 30, 2) := by decide +kernel
theorem dX2_easter_62 : decode cX2_easter 62 = .ok (.irem, 1) := by decide +kernel
theorem dX2_easter_63 : decode cX2_easter 63 = .ok (.istore 4, 2) := by decide +kernel
theorem dX2_easter_65 : decode cX2_easter 65 = .ok (.iload 4, 2) := by decide +kernel
theorem dX2_easter_67 : decode cX2_easter 67 = .ok (.iload 4, 2) := by decide +kernel
theorem dX2_easter_69 : decode cX2_easter 69 = .ok (.bipush 28, 2) := by decide +kernel
theorem dX2_easter_71 : decode cX2_easter 71 = .ok (.idiv, 1) := by decide +kernel
theorem dX2_easter_72 : decode cX2_easter 72 = .ok (.iconst 1, 1) := by decide +kernel
theorem dX2_easter_73 : decode cX2_easter 73 = .ok (.iload 4, 2) := by decide +kernel
theorem dX2_easter_75 : decode cX2_easter 75 = .ok (.bipush 28, 2) := by decide +kernel
theorem dX2_easter_77 : decode cX2_easter 77 = .ok (.idiv, 1) := by decide +kernel
theorem dX2_easter_78 : decode cX2_easter 78 = .ok (.bipush 29, 2) := by decide +kernel
theorem dX2_easter_80 : decode cX2_easter 80 = .ok (.iload 4, 2) := by decide +kernel
theorem dX2_easter_82 : decode cX2_easter 82 = .ok (.iconst 1, 1) := by decide +kernel
theorem dX2_easter_83 : decode cX2_easter 83 = .ok (.iadd, 1) := by decide +kernel
theorem dX2_easter_84 : decode cX2_easter 84 = .ok (.idiv, 1) := by decide +kernel
theorem dX2_easter_85 : decode cX2_easter 85 = .ok (.imul, 1) := by decide +kernel
theorem dX2_easter_86 : decode cX2_easter 86 = .ok (.bipush 21, 2) := by decide +kernel
theorem dX2_easter_88 : decode cX2_easter 88 = .ok (.iload_n 2, 1) := by decide +kernel
theorem dX2_easter_89 : decode cX2_easter 89 = .ok (.isub, 1) := by decide +kernel
theorem dX2_easter_90 : decode cX2_easter 90 = .ok (.bipush 11, 2) := by decide +kernel
theorem dX2_easter_92 : decode cX2_easter 92 = .ok (.idiv, 1) := by decide +kernel
theorem dX2_easter_93 : decode cX2_easter 93 = .ok (.imul, 1) := by decide +kernel
theorem dX2_easter_94 : decode cX2_easter 94 = .ok (.isub, 1) := by decide +kernel
theorem dX2_easter_95 : decode cX2_easter 95 = .ok (.imul, 1) := by decide +kernel
theorem dX2_easter_96 : decode cX2_easter 96 = .ok (.isub, 1) := by decide +kernel
theorem dX2_easter_97 : decode cX2_easter 97 = .ok (.istore 5, 2) := by decide +kernel
theorem dX2_easter_99 : decode cX2_easter 99 = .ok (.iload_n 1, 1) := by decide +kernel
theorem dX2_easter_100 : decode cX2_easter 100 = .ok (.iload_n 1, 1) := by decide +kernel
theorem dX2_easter_101 : decode cX2_easter 101 = .ok (.iconst 4, 1) := by decide +kernel
theorem dX2_easter_102 : decode cX2_easter 102 = .ok (.idiv, 1) := by decide +kernel
theorem dX2_easter_103 : decode cX2_easter 103 = .ok (.iadd, 1) := by decide +kernel
theorem dX2_easter_104 : decode cX2_easter 104 = .ok (.iload 5, 2) := by decide +kernel
theorem dX2_easter_106 : decode cX2_easter 106 = .ok (.iadd, 1) := by decide +kernel
theorem dX2_easter_107 : decode cX2_easter 107 = .ok (.iconst 2, 1) := by decide +kernel
theorem dX2_easter_108 : decode cX2_easter 108 = .ok (.iadd, 1) := by decide +kernel
theorem dX2_easter_109 : decode cX2_easter 109 = .ok (.iload_n 3, 1) := by decide +kernel
theorem dX2_easter_110 : decode cX2_easter 110 = .ok (.isub, 1) := by decide +kernel
theorem dX2_easter_111 : decode cX2_easter 111 = .ok (.iload_n 3, 1) := by decide +kernel
theorem dX2_easter_112 : decode cX2_easter 112 = .ok (.iconst 4, 1) := by decide +kernel
theorem dX2_easter_113 : decode cX2_easter 113 = .ok (.idiv, 1) := by decide +kernel
theorem dX2_easter_114 : decode cX2_easter 114 = .ok (.iadd, 1) := by decide +kernel
theorem dX2_easter_115 : decode cX2_easter 115 = .ok (.bipush 7, 2) := by decide +kernel
theorem dX2_easter_117 : decode cX2_easter 117 = .ok (.irem, 1) := by decide +kernel
theorem dX2_easter_118 : decode cX2_easter 118 = .ok (.istore 6, 2) := by decide +kernel
theorem dX2_easter_120 : decode cX2_easter 120 = .ok (.iconst 1, 1) := by decide +kernel
theorem dX2_easter_121 : decode cX2_easter 121 = .ok (.iload_n 1, 1) := by decide +kernel
theorem dX2_easter_122 : decode cX2_easter 122 = .ok (.iconst 3, 1) := by decide +kernel
theorem dX2_easter_123 : decode cX2_easter 123 = .ok (.bipush 28, 2) := by decide +kernel
theorem dX2_easter_125 : decode cX2_easter 125 = .ok (.invokestatic 91, 3) := by decide +kernel
theorem dX2_easter_128 : decode cX2_easter 128 = .ok (.iload 5, 2) := by decide +kernel
theorem dX2_easter_130 : decode cX2_easter 130 = .ok (.i2l, 1) := by decide +kernel
theorem dX2_easter_131 : decode cX2_easter 131 = .ok (.ladd, 1) := by decide +kernel
theorem dX2_easter_132 : decode cX2_easter 132 = .ok (.iload 6, 2) := by decide +kernel
theorem dX2_easter_134 : decode cX2_easter 134 = .ok (.i2l, 1) := by decide +kernel
theorem dX2_easter_135 : decode cX2_easter 135 = .ok (.lsub, 1) := by decide +kernel
theorem dX2_easter_136 : decode cX2_easter 136 = .ok (.lreturn, 1) := by decide +kernel
theorem dX2_red_0 : decode cX2_red 0 = .ok (.dload_n 0, 1) := by decide +kernel
theorem dX2_red_1 : decode cX2_red 1 = .ok (.ldc2_w 114, 3) := by decide +kernel
theorem dX2_red_4 : decode cX2_red 4 = .ok (.ddiv, 1) := by decide +kernel
theorem dX2_red_5 : decode cX2_red 5 = .ok (.d2l, 1) := by decide +kernel
theorem dX2_red_6 : decode cX2_red 6 = .ok (.l2d, 1) := by decide +kernel
theorem dX2_red_7 : decode cX2_red 7 = .ok (.dstore_n 2, 1) := by decide +kernel
theorem dX2_red_8 : decode cX2_red 8 = .ok (.dload_n 0, 1) := by decide +kernel
theorem dX2_red_9 : decode cX2_red 9 = .ok (.ldc2_w 114, 3) := by decide +kernel
theorem dX2_red_12 : decode cX2_red 12 = .ok (.dload_n 2, 1) := by decide +kernel
theorem dX2_red_13 : decode cX2_red 13 = .ok (.dmul, 1) := by decide +kernel
theorem dX2_red_14 : decode cX2_red 14 = .ok (.dsub, 1) := by decide +kernel
theorem dX2_red_15 : decode cX2_red 15 = .ok (.dstore 4, 2) := by decide +kernel
theorem dX2_red_17 : decode cX2_red 17 = .ok (.dload 4, 2) := by decide +kernel
theorem dX2_red_19 : decode cX2_red 19 = .ok (.dconst 0, 1) := by decide +kernel
theorem dX2_red_20 : decode cX2_red 20 = .ok (.dcmp .g, 1) := by decide +kernel
theorem dX2_red_21 : decode cX2_red 21 = .ok (.ifCond .ge 12, 3) := by decide +kernel
theorem dX2_red_24 : decode cX2_red 24 = .ok (.dload 4, 2) := by decide +kernel
theorem dX2_red_26 : decode cX2_red 26 = .ok (.ldc2_w 114, 3) := by decide +kernel
theorem dX2_red_29 : decode cX2_red 29 = .ok (.dadd, 1) := by decide +kernel
theorem dX2_red_30 : decode cX2_red 30 = .ok (.goto 5, 3) := by decide +kernel
theorem dX2_red_33 : decode cX2_red 33 = .ok (.dload 4, 2) := by decide +kernel
theorem dX2_red_35 : decode cX2_red 35 = .ok (.dstore 4, 2) := by decide +kernel
theorem dX2_red_37 : decode cX2_red 37 = .ok (.dload 4, 2) := by decide +kernel
theorem dX2_red_39 : decode cX2_red 39 = .ok (.ldc2_w 114, 3) := by decide +kernel
theorem dX2_red_42 : decode cX2_red 42 = .ok (.dcmp .l, 1) := by decide +kernel
theorem dX2_red_43 : decode cX2_red 43 = .ok (.ifCond .ne 7, 3) := by decide +kernel
theorem dX2_red_46 : decode cX2_red 46 = .ok (.dconst 0, 1) := by decide +kernel
theorem dX2_red_47 : decode cX2_red 47 = .ok (.goto 5, 3) := by decide +kernel
theorem dX2_red_50 : decode cX2_red 50 = .ok (.dload 4, 2) := by decide +kernel
theorem dX2_red_52 : decode cX2_red 52 = .ok (.dreturn, 1) := by decide +kernel
set_option maxRecDepth 20000 in
theorem ggX2_wave_X2_red : GoodIn wsX2_wave wsX2_red := goodIn_r _ [18, 19] (by decide +kernel) (by decide +kernel)
set_option maxRecDepth 20000 in
theorem gX2_wave_X2_red : GoodIn wsX2_wave (va_wsS RX2 116 yX2_red wsX2_red) := goodIn_app (goodIn_of _ (by decide +kernel)) ggX2_wave_X2_red
theorem dX2_wave_0 : decode cX2_wave 0 = .ok (.dload_n 0, 1) := by decide +kernel
theorem dX2_wave_1 : decode cX2_wave 1 = .ok (.invokestatic 116, 3) := by decide +kernel
theorem dX2_wave_4 : decode cX2_wave 4 = .ok (.dstore_n 3, 1) := by decide +kernel
theorem dX2_wave_5 : decode cX2_wave 5 = .ok (.dload_n 3, 1) := by decide +kernel
theorem dX2_wave_6 : decode cX2_wave 6 = .ok (.ldc2_w 120, 3) := by decide +kernel
theorem dX2_wave_9 : decode cX2_wave 9 = .ok (.ddiv, 1) := by decide +kernel
theorem dX2_wave_10 : decode cX2_wave 10 = .ok (.ldc2_w 122, 3) := by decide +kernel
theorem dX2_wave_13 : decode cX2_wave 13 = .ok (.dadd, 1) := by decide +kernel
theorem dX2_wave_14 : decode cX2_wave 14 = .ok (.d2l, 1) := by decide +kernel
theorem dX2_wave_15 : decode cX2_wave 15 = .ok (.lstore 5, 2) := by decide +kernel
theorem dX2_wave_17 : decode cX2_wave 17 = .ok (.dload_n 3, 1) := by decide +kernel
theorem dX2_wave_18 : decode cX2_wave 18 = .ok (.ldc2_w 120, 3) := by decide +kernel
theorem dX2_wave_21 : decode cX2_wave 21 = .ok (.lload 5, 2) := by decide +kernel
theorem dX2_wave_23 : decode cX2_wave 23 = .ok (.l2d, 1) := by decide +kernel
theorem dX2_wave_24 : decode cX2_wave 24 = .ok (.dmul, 1) := by decide +kernel
theorem dX2_wave_25 : decode cX2_wave 25 = .ok (.dsub, 1) := by decide +kernel
theorem dX2_wave_26 : decode cX2_wave 26 = .ok (.ldc2_w 124, 3) := by decide +kernel
theorem dX2_wave_29 : decode cX2_wave 29 = .ok (.dmul, 1) := by decide +kernel
theorem dX2_wave_30 : decode cX2_wave 30 = .ok (.dstore 7, 2) := by decide +kernel
theorem dX2_wave_32 : decode cX2_wave 32 = .ok (.dload 7, 2) := by decide +kernel
theorem dX2_wave_34 : decode cX2_wave 34 = .ok (.dload 7, 2) := by decide +kernel
theorem dX2_wave_36 : decode cX2_wave 36 = .ok (.dmul, 1) := by decide +kernel
theorem dX2_wave_37 : decode cX2_wave 37 = .ok (.dstore 9, 2) := by decide +kernel
theorem dX2_wave_39 : decode cX2_wave 39 = .ok (.dload 7, 2) := by decide +kernel
theorem dX2_wave_41 : decode cX2_wave 41 = .ok (.dconst 1, 1) := by decide +kernel
theorem dX2_wave_42 : decode cX2_wave 42 = .ok (.dload 9, 2) := by decide +kernel
theorem dX2_wave_44 : decode cX2_wave 44 = .ok (.ldc2_w 126, 3) := by decide +kernel
theorem dX2_wave_47 : decode cX2_wave 47 = .ok (.dload 9, 2) := by decide +kernel
theorem dX2_wave_49 : decode cX2_wave 49 = .ok (.ldc2_w 128, 3) := by decide +kernel
theorem dX2_wave_52 : decode cX2_wave 52 = .ok (.dload 9, 2) := by decide +kernel
theorem dX2_wave_54 : decode cX2_wave 54 = .ok (.ldc2_w 130, 3) := by decide +kernel
theorem dX2_wave_57 : decode cX2_wave 57 = .ok (.dload 9, 2) := by decide +kernel
theorem dX2_wave_59 : decode cX2_wave 59 = .ok (.ldc2_w 132, 3) := by decide +kernel
theorem dX2_wave_62 : decode cX2_wave 62 = .ok (.dmul, 1) := by decide +kernel
theorem dX2_wave_63 : decode cX2_wave 63 = .ok (.dadd, 1) := by decide +kernel
theorem dX2_wave_64 : decode cX2_wave 64 = .ok (.dmul, 1) := by decide +kernel
theorem dX2_wave_65 : decode cX2_wave 65 = .ok (.dadd, 1) := by decide +kernel
theorem dX2_wave_66 : decode cX2_wave 66 = .ok (.dmul, 1) := by decide +kernel
theorem dX2_wave_67 : decode cX2_wave 67 = .ok (.dadd, 1) := by decide +kernel
theorem dX2_wave_68 : decode cX2_wave 68 = .ok (.dmul, 1) := by decide +kernel
theorem dX2_wave_69 : decode cX2_wave 69 = .ok (.dadd, 1) := by decide +kernel
theorem dX2_wave_70 : decode cX2_wave 70 = .ok (.dmul, 1) := by decide +kernel
theorem dX2_wave_71 : decode cX2_wave 71 = .ok (.dstore 11, 2) := by decide +kernel
theorem dX2_wave_73 : decode cX2_wave 73 = .ok (.dconst 1, 1) := by decide +kernel
theorem dX2_wave_74 : decode cX2_wave 74 = .ok (.dload 9, 2) := by decide +kernel
theorem dX2_wave_76 : decode cX2_wave 76 = .ok (.ldc2_w 134, 3) := by decide +kernel
theorem dX2_wave_79 : decode cX2_wave 79 = .ok (.dload 9, 2) := by decide +kernel
theorem dX2_wave_81 : decode cX2_wave 81 = .ok (.ldc2_w 136, 3) := by decide +kernel
theorem dX2_wave_84 : decode cX2_wave 84 = .ok (.dload 9, 2) := by decide +kernel
theorem dX2_wave_86 : decode cX2_wave 86 = .ok (.ldc2_w 138, 3) := by decide +kernel
theorem dX2_wave_89 : decode cX2_wave 89 = .ok (.dload 9, 2) := by decide +kernel
theorem dX2_wave_91 : decode cX2_wave 91 = .ok (.ldc2_w 140, 3) := by decide +kernel
theorem dX2_wave_94 : decode cX2_wave 94 = .ok (.dload 9, 2) := by decide +kernel
theorem dX2_wave_96 : decode cX2_wave 96 = .ok (.ldc2_w 142, 3) := by decide +kernel
theorem dX2_wave_99 : decode cX2_wave 99 = .ok (.dmul, 1) := by decide +kernel
theorem dX2_wave_100 : decode cX2_wave 100 = .ok (.dadd, 1) := by decide +kernel
theorem dX2_wave_101 : decode cX2_wave 101 = .ok (.dmul, 1) := by decide +kernel
theorem dX2_wave_102 : decode cX2_wave 102 = .ok (.dadd, 1) := by decide +kernel
theorem dX2_wave_103 : decode cX2_wave 103 = .ok (.dmul, 1) := by decide +kernel
theorem dX2_wave_104 : decode cX2_wave 104 = .ok (.dadd, 1) := by decide +kernel
theorem dX2_wave_105 : decode cX2_wave 105 = .ok (.dmul, 1) := by decide +kernel
theorem dX2_wave_106 : decode cX2_wave 106 = .ok (.dadd, 1) := by decide +kernel
theorem dX2_wave_107 : decode cX2_wave 107 = .ok (.dmul, 1) := by decide +kernel
theorem dX2_wave_108 : decode cX2_wave 108 = .ok (.dadd, 1) := by decide +kernel
theorem dX2_wave_109 : decode cX2_wave 109 = .ok (.dstore 13, 2) := by decide +kernel
theorem dX2_wave_111 : decode cX2_wave 111 = .ok (.lload 5, 2) := by decide +kernel
theorem dX2_wave_113 : decode cX2_wave 113 = .ok (.ldc2_w 36, 3) := by decide +kernel
theorem dX2_wave_116 : decode cX2_wave 116 = .ok (.lrem, 1) := by decide +kernel
theorem dX2_wave_117 : decode cX2_wave 117 = .ok (.lstore 15, 2) := by decide +kernel
theorem dX2_wave_119 : decode cX2_wave 119 = .ok (.iload_n 2, 1) := by decide +kernel
theorem dX2_wave_120 : decode cX2_wave 120 = .ok (.ifCond .eq 46, 3) := by decide +kernel
theorem dX2_wave_123 : decode cX2_wave 123 = .ok (.lload 15, 2) := by decide +kernel
theorem dX2_wave_125 : decode cX2_wave 125 = .ok (.lconst 0, 1) := by decide +kernel
theorem dX2_wave_126 : decode cX2_wave 126 = .ok (.lcmp, 1) := by decide +kernel
theorem dX2_wave_127 : decode cX2_wave 127 = .ok (.ifCond .ne 8, 3) := by decide +kernel
theorem dX2_wave_130 : decode cX2_wave 130 = .ok (.dload 11, 2) := by decide +kernel
theorem dX2_wave_132 : decode cX2_wave 132 = .ok (.goto 33, 3) := by decide +kernel
theorem dX2_wave_135 : decode cX2_wave 135 = .ok (.lload 15, 2) := by decide +kernel
theorem dX2_wave_137 : decode cX2_wave 137 = .ok (.lconst 1, 1) := by decide +kernel
theorem dX2_wave_138 : decode cX2_wave 138 = .ok (.lcmp, 1) := by decide +kernel
theorem dX2_wave_139 : decode cX2_wave 139 = .ok (.ifCond .ne 8, 3) := by decide +kernel
theorem dX2_wave_142 : decode cX2_wave 142 = .ok (.dload 13, 2) := by decide +kernel
theorem dX2_wave_144 : decode cX2_wave 144 = .ok (.goto 21, 3) := by decide +kernel
theorem dX2_wave_147 : decode cX2_wave 147 = .ok (.lload 15, 2) := by decide +kernel
theorem dX2_wave_149 : decode cX2_wave 149 = .ok (.ldc2_w 144, 3) := by decide +kernel
theorem dX2_wave_152 : decode cX2_wave 152 = .ok (.lcmp, 1) := by decide +kernel
theorem dX2_wave_153 : decode cX2_wave 153 = .ok (.ifCond .ne 9, 3) := by decide +kernel
theorem dX2_wave_156 : decode cX2_wave 156 = .ok (.dload 11, 2) := by decide +kernel
theorem dX2_wave_158 : decode cX2_wave 158 = .ok (.dneg, 1) := by decide +kernel
theorem dX2_wave_159 : decode cX2_wave 159 = .ok (.goto 6, 3) := by decide +kernel
theorem dX2_wave_162 : decode cX2_wave 162 = .ok (.dload 13, 2) := by decide +kernel
theorem dX2_wave_164 : decode cX2_wave 164 = .ok (.dneg, 1) := by decide +kernel
theorem dX2_wave_165 : decode cX2_wave 165 = .ok (.dreturn, 1) := by decide +kernel
theorem dX2_wave_166 : decode cX2_wave 166 = .ok (.lload 15, 2) := by decide +kernel
theorem dX2_wave_168 : decode cX2_wave 168 = .ok (.lconst 0, 1) := by decide +kernel
theorem dX2_wave_169 : decode cX2_wave 169 = .ok (.lcmp, 1) := by decide +kernel
theorem dX2_wave_170 : decode cX2_wave 170 = .ok (.ifCond .ne 8, 3) := by decide +kernel
theorem dX2_wave_173 : decode cX2_wave 173 = .ok (.dload 13, 2) := by decide +kernel
theorem dX2_wave_175 : decode cX2_wave 175 = .ok (.goto 33, 3) := by decide +kernel
theorem dX2_wave_178 : decode cX2_wave 178 = .ok (.lload 15, 2) := by decide +kernel
theorem dX2_wave_180 : decode cX2_wave 180 = .ok (.lconst 1, 1) := by decide +kernel
theorem dX2_wave_181 : decode cX2_wave 181 = .ok (.lcmp, 1) := by decide +kernel
theorem dX2_wave_182 : decode cX2_wave 182 = .ok (.ifCond .ne 9, 3) := by decide +kernel
theorem dX2_wave_185 : decode cX2_wave 185 = .ok (.dload 11, 2) := by decide +kernel
theorem dX2_wave_187 : decode cX2_wave 187 = .ok (.dneg, 1) := by decide +kernel
theorem dX2_wave_188 : decode cX2_wave 188 = .ok (.goto 20, 3) := by decide +kernel
theorem dX2_wave_191 : decode cX2_wave 191 = .ok (.lload 15, 2) := by decide +kernel
theorem dX2_wave_193 : decode cX2_wave 193 = .ok (.ldc2_w 144, 3) := by decide +kernel
theorem dX2_wave_196 : decode cX2_wave 196 = .ok (.lcmp, 1) := by decide +kernel
theorem dX2_wave_197 : decode cX2_wave 197 = .ok (.ifCond .ne 9, 3) := by decide +kernel
theorem dX2_wave_200 : decode cX2_wave 200 = .ok (.dload 13, 2) := by decide +kernel
theorem dX2_wave_202 : decode cX2_wave 202 = .ok (.dneg, 1) := by decide +kernel
theorem dX2_wave_203 : decode cX2_wave 203 = .ok (.goto 5, 3) := by decide +kernel
theorem dX2_wave_206 : decode cX2_wave 206 = .ok (.dload 11, 2) := by decide +kernel
theorem dX2_wave_208 : decode cX2_wave 208 = .ok (.dreturn, 1) := by decide +kernel
set_option maxRecDepth 20000 in
theorem ggX2_sine_X2_wave : GoodIn wsX2_sine wsX2_wave := goodIn_r _ [4, 5, 6, 7, 8, 9, 10, 11, 12, 13, 14, 15, 16, 17, 18, 19, 20, 3, 21, 22] (by decide +kernel) (by decide +kernel)
set_option maxRecDepth 20000 in
theorem gX2_sine_X2_wave : GoodIn wsX2_sine (va_wsS RX2 146 yX2_wave wsX2_wave) := goodIn_app (goodIn_of _ (by decide +kernel)) ggX2_sine_X2_wave
theorem dX2_sine_0 : decode cX2_sine 0 = .ok (.dload_n 0, 1) := by decide +kernel
theorem dX2_sine_1 : decode cX2_sine 1 = .ok (.iconst 1, 1) := by decide +kernel
theorem dX2_sine_2 : decode cX2_sine 2 = .ok (.invokestatic 146, 3) := by decide +kernel
theorem dX2_sine_5 : decode cX2_sine 5 = .ok (.dreturn, 1) := by decide +kernel
set_option maxRecDepth 20000 in
theorem ggX2_cosine_X2_wave : GoodIn wsX2_cosine wsX2_wave := goodIn_r _ [4, 5, 6, 7, 8, 9, 10, 11, 12, 13, 14, 15, 16, 17, 18, 19, 20, 3, 21, 22] (by decide +kernel) (by decide +kernel)
set_option maxRecDepth 20000 in
theorem gX2_cosine_X2_wave : GoodIn wsX2_cosine (va_wsS RX2 146 yX2_wave wsX2_wave) := goodIn_app (goodIn_of _ (by decide +kernel)) ggX2_cosine_X2_wave
theorem dX2_cosine_0 : decode cX2_cosine 0 = .ok (.dload_n 0, 1) := by decide +kernel
theorem dX2_cosine_1 : decode cX2_cosine 1 = .ok (.iconst 0, 1) := by decide +kernel
theorem dX2_cosine_2 : decode cX2_cosine 2 = .ok (.invokestatic 146, 3) := by decide +kernel
theorem dX2_cosine_5 : decode cX2_cosine 5 = .ok (.dreturn, 1) := by decide +kernel
set_option maxRecDepth 20000 in
theorem ggX2_turned_X2_red : GoodIn wsX2_turned wsX2_red := goodIn_r _ [7, 3] (by decide +kernel) (by decide +kernel)
set_option maxRecDepth 20000 in
theorem gX2_turned_X2_red : GoodIn wsX2_turned (va_wsS RX2 116 yX2_red wsX2_red) := goodIn_app (goodIn_of _ (by decide +kernel)) ggX2_turned_X2_red
theorem dX2_turned_0 : decode cX2_turned 0 = .ok (.dload_n 0, 1) := by decide +kernel
theorem dX2_turned_1 : decode cX2_turned 1 = .ok (.d2l, 1) := by decide +kernel
theorem dX2_turned_2 : decode cX2_turned 2 = .ok (.l2d, 1) := by decide +kernel
theorem dX2_turned_3 : decode cX2_turned 3 = .ok (.dstore_n 2, 1) := by decide +kernel
theorem dX2_turned_4 : decode cX2_turned 4 = .ok (.ldc2_w 150, 3) := by decide +kernel
theorem dX2_turned_7 : decode cX2_turned 7 = .ok (.ldc2_w 152, 3) := by decide +kernel
theorem dX2_turned_10 : decode cX2_turned 10 = .ok (.dload_n 0, 1) := by decide +kernel
theorem dX2_turned_11 : decode cX2_turned 11 = .ok (.dmul, 1) := by decide +kernel
theorem dX2_turned_12 : decode cX2_turned 12 = .ok (.dadd, 1) := by decide +kernel
theorem dX2_turned_13 : decode cX2_turned 13 = .ok (.invokestatic 116, 3) := by decide +kernel
theorem dX2_turned_16 : decode cX2_turned 16 = .ok (.ldc2_w 114, 3) := by decide +kernel
theorem dX2_turned_19 : decode cX2_turned 19 = .ok (.dload_n 0, 1) := by decide +kernel
theorem dX2_turned_20 : decode cX2_turned 20 = .ok (.dload_n 2, 1) := by decide +kernel
theorem dX2_turned_21 : decode cX2_turned 21 = .ok (.dsub, 1) := by decide +kernel
theorem dX2_turned_22 : decode cX2_turned 22 = .ok (.dmul, 1) := by decide +kernel
theorem dX2_turned_23 : decode cX2_turned 23 = .ok (.dadd, 1) := by decide +kernel
theorem dX2_turned_24 : decode cX2_turned 24 = .ok (.invokestatic 116, 3) := by decide +kernel
theorem dX2_turned_27 : decode cX2_turned 27 = .ok (.dreturn, 1) := by decide +kernel
set_option maxRecDepth 20000 in
theorem ggX2_orbit_X2_fail : GoodIn wsX2_orbit wsX2_fail := goodIn_r _ [13, 1, 17, 18, 19, 20, 21, 22, 23, 24, 25, 26, 27, 28, 29] (by decide +kernel) (by decide +kernel)
set_option maxRecDepth 20000 in
theorem gX2_orbit_X2_fail : GoodIn wsX2_orbit (wsV RX2 77 RX2 yX2_fail wsX2_fail) := goodIn_app (goodIn_of _ (by decide +kernel)) ggX2_orbit_X2_fail
set_option maxRecDepth 20000 in
theorem ggX2_orbit_X2_within : GoodIn wsX2_orbit wsX2_within := goodIn_r _ [16] (by decide +kernel) (by decide +kernel)
set_option maxRecDepth 20000 in
theorem gX2_orbit_X2_within : GoodIn wsX2_orbit (va_wsS RX2 156 yX2_within wsX2_within) := goodIn_app (goodIn_of _ (by decide +kernel)) ggX2_orbit_X2_within
theorem dX2_orbit_0 : decode cX2_orbit 0 = .ok (.aload_n 0, 1) := by decide +kernel
theorem dX2_orbit_1 : decode cX2_orbit 1 = .ok (.iconst 0, 1) := by decide +kernel
theorem dX2_orbit_2 : decode cX2_orbit 2 = .ok (.putfield 30, 3) := by decide +kernel
theorem dX2_orbit_5 : decode cX2_orbit 5 = .ok (.iload_n 1, 1) := by decide +kernel
theorem dX2_orbit_6 : decode cX2_orbit 6 = .ok (.ifCond .lt 8, 3) := by decide +kernel
theorem dX2_orbit_9 : decode cX2_orbit 9 = .ok (.iload_n 1, 1) := by decide +kernel
theorem dX2_orbit_10 : decode cX2_orbit 10 = .ok (.iconst 3, 1) := by decide +kernel
theorem dX2_orbit_11 : decode cX2_orbit 11 = .ok (.if_icmp .le 17, 3) := by decide +kernel
theorem dX2_orbit_14 : decode cX2_orbit 14 = .ok (.aload_n 0, 1) := by decide +kernel
theorem dX2_orbit_15 : decode cX2_orbit 15 = .ok (.iconst 1, 1) := by decide +kernel
theorem dX2_orbit_16 : decode cX2_orbit 16 = .ok (.invokevirtual 77, 3) := by decide +kernel
theorem dX2_orbit_19 : decode cX2_orbit 19 = .ok (.ifCond .le 7, 3) := by decide +kernel
theorem dX2_orbit_22 : decode cX2_orbit 22 = .ok (.iconst 1, 1) := by decide +kernel
theorem dX2_orbit_23 : decode cX2_orbit 23 = .ok (.goto 4, 3) := by decide +kernel
theorem dX2_orbit_26 : decode cX2_orbit 26 = .ok (.iconst 0, 1) := by decide +kernel
theorem dX2_orbit_27 : decode cX2_orbit 27 = .ok (.ireturn, 1) := by decide +kernel
theorem dX2_orbit_28 : decode cX2_orbit 28 = .ok (.dload_n 2, 1) := by decide +kernel
theorem dX2_orbit_29 : decode cX2_orbit 29 = .ok (.ldc2_w 154, 3) := by decide +kernel
theorem dX2_orbit_32 : decode cX2_orbit 32 = .ok (.ldc2_w 114, 3) := by decide +kernel
theorem dX2_orbit_35 : decode cX2_orbit 35 = .ok (.invokestatic 156, 3) := by decide +kernel
theorem dX2_orbit_38 : decode cX2_orbit 38 = .ok (.ifCond .eq 43, 3) := by decide +kernel
theorem dX2_orbit_41 : decode cX2_orbit 41 = .ok (.dload 8, 2) := by decide +kernel
theorem dX2_orbit_43 : decode cX2_orbit 43 = .ok (.ldc2_w 154, 3) := by decide +kernel
theorem dX2_orbit_46 : decode cX2_orbit 46 = .ok (.ldc2_w 114, 3) := by decide +kernel
theorem dX2_orbit_49 : decode cX2_orbit 49 = .ok (.invokestatic 156, 3) := by decide +kernel
theorem dX2_orbit_52 : decode cX2_orbit 52 = .ok (.ifCond .eq 29, 3) := by decide +kernel
theorem dX2_orbit_55 : decode cX2_orbit 55 = .ok (.dload 4, 2) := by decide +kernel
theorem dX2_orbit_57 : decode cX2_orbit 57 = .ok (.ldc2_w 160, 3) := by decide +kernel
theorem dX2_orbit_60 : decode cX2_orbit 60 = .ok (.ldc2_w 162, 3) := by decide +kernel
theorem dX2_orbit_63 : decode cX2_orbit 63 = .ok (.invokestatic 156, 3) := by decide +kernel
theorem dX2_orbit_66 : decode cX2_orbit 66 = .ok (.ifCond .eq 15, 3) := by decide +kernel
theorem dX2_orbit_69 : decode cX2_orbit 69 = .ok (.dload 6, 2) := by decide +kernel
theorem dX2_orbit_71 : decode cX2_orbit 71 = .ok (.dconst 0, 1) := by decide +kernel
theorem dX2_orbit_72 : decode cX2_orbit 72 = .ok (.ldc2_w 164, 3) := by decide +kernel
theorem dX2_orbit_75 : decode cX2_orbit 75 = .ok (.invokestatic 156, 3) := by decide +kernel
theorem dX2_orbit_78 : decode cX2_orbit 78 = .ok (.ifCond .ne 17, 3) := by decide +kernel
theorem dX2_orbit_81 : decode cX2_orbit 81 = .ok (.aload_n 0, 1) := by decide +kernel
theorem dX2_orbit_82 : decode cX2_orbit 82 = .ok (.iconst 2, 1) := by decide +kernel
theorem dX2_orbit_83 : decode cX2_orbit 83 = .ok (.invokevirtual 77, 3) := by decide +kernel
theorem dX2_orbit_86 : decode cX2_orbit 86 = .ok (.ifCond .le 7, 3) := by decide +kernel
theorem dX2_orbit_89 : decode cX2_orbit 89 = .ok (.iconst 1, 1) := by decide +kernel
theorem dX2_orbit_90 : decode cX2_orbit 90 = .ok (.goto 4, 3) := by decide +kernel
theorem dX2_orbit_93 : decode cX2_orbit 93 = .ok (.iconst 0, 1) := by decide +kernel
theorem dX2_orbit_94 : decode cX2_orbit 94 = .ok (.ireturn, 1) := by decide +kernel
theorem dX2_orbit_95 : decode cX2_orbit 95 = .ok (.aload_n 0, 1) := by decide +kernel
theorem dX2_orbit_96 : decode cX2_orbit 96 = .ok (.getfield 13, 3) := by decide +kernel
theorem dX2_orbit_99 : decode cX2_orbit 99 = .ok (.iconst 4, 1) := by decide +kernel
theorem dX2_orbit_100 : decode cX2_orbit 100 = .ok (.iload_n 1, 1) := by decide +kernel
theorem dX2_orbit_101 : decode cX2_orbit 101 = .ok (.imul, 1) := by decide +kernel
theorem dX2_orbit_102 : decode cX2_orbit 102 = .ok (.dload_n 2, 1) := by decide +kernel
theorem dX2_orbit_103 : decode cX2_orbit 103 = .ok (.dastore, 1) := by decide +kernel
theorem dX2_orbit_104 : decode cX2_orbit 104 = .ok (.aload_n 0, 1) := by decide +kernel
theorem dX2_orbit_105 : decode cX2_orbit 105 = .ok (.getfield 13, 3) := by decide +kernel
theorem dX2_orbit_108 : decode cX2_orbit 108 = .ok (.iconst 4, 1) := by decide +kernel
theorem dX2_orbit_109 : decode cX2_orbit 109 = .ok (.iload_n 1, 1) := by decide +kernel
theorem dX2_orbit_110 : decode cX2_orbit 110 = .ok (.imul, 1) := by decide +kernel
theorem dX2_orbit_111 : decode cX2_orbit 111 = .ok (.iconst 1, 1) := by decide +kernel
theorem dX2_orbit_112 : decode cX2_orbit 112 = .ok (.iadd, 1) := by decide +kernel
theorem dX2_orbit_113 : decode cX2_orbit 113 = .ok (.dload 4, 2) := by decide +kernel
theorem dX2_orbit_115 : decode cX2_orbit 115 = .ok (.dastore, 1) := by decide +kernel
theorem dX2_orbit_116 : decode cX2_orbit 116 = .ok (.aload_n 0, 1) := by decide +kernel
theorem dX2_orbit_117 : decode cX2_orbit 117 = .ok (.getfield 13, 3) := by decide +kernel
theorem dX2_orbit_120 : decode cX2_orbit 120 = .ok (.iconst 4, 1) := by decide +kernel
theorem dX2_orbit_121 : decode cX2_orbit 121 = .ok (.iload_n 1, 1) := by decide +kernel
theorem dX2_orbit_122 : decode cX2_orbit 122 = .ok (.imul, 1) := by decide +kernel
theorem dX2_orbit_123 : decode cX2_orbit 123 = .ok (.iconst 2, 1) := by decide +kernel
theorem dX2_orbit_124 : decode cX2_orbit 124 = .ok (.iadd, 1) := by decide +kernel
theorem dX2_orbit_125 : decode cX2_orbit 125 = .ok (.dload 6, 2) := by decide +kernel
theorem dX2_orbit_127 : decode cX2_orbit 127 = .ok (.dastore, 1) := by decide +kernel
theorem dX2_orbit_128 : decode cX2_orbit 128 = .ok (.aload_n 0, 1) := by decide +kernel
theorem dX2_orbit_129 : decode cX2_orbit 129 = .ok (.getfield 13, 3) := by decide +kernel
theorem dX2_orbit_132 : decode cX2_orbit 132 = .ok (.iconst 4, 1) := by decide +kernel
theorem dX2_orbit_133 : decode cX2_orbit 133 = .ok (.iload_n 1, 1) := by decide +kernel
theorem dX2_orbit_134 : decode cX2_orbit 134 = .ok (.imul, 1) := by decide +kernel
theorem dX2_orbit_135 : decode cX2_orbit 135 = .ok (.iconst 3, 1) := by decide +kernel
theorem dX2_orbit_136 : decode cX2_orbit 136 = .ok (.iadd, 1) := by decide +kernel
theorem dX2_orbit_137 : decode cX2_orbit 137 = .ok (.dload 8, 2) := by decide +kernel
theorem dX2_orbit_139 : decode cX2_orbit 139 = .ok (.dastore, 1) := by decide +kernel
theorem dX2_orbit_140 : decode cX2_orbit 140 = .ok (.aload_n 0, 1) := by decide +kernel
theorem dX2_orbit_141 : decode cX2_orbit 141 = .ok (.getfield 7, 3) := by decide +kernel
theorem dX2_orbit_144 : decode cX2_orbit 144 = .ok (.iload_n 1, 1) := by decide +kernel
theorem dX2_orbit_145 : decode cX2_orbit 145 = .ok (.baload, 1) := by decide +kernel
theorem dX2_orbit_146 : decode cX2_orbit 146 = .ok (.istore 10, 2) := by decide +kernel
theorem dX2_orbit_148 : decode cX2_orbit 148 = .ok (.aload_n 0, 1) := by decide +kernel
theorem dX2_orbit_149 : decode cX2_orbit 149 = .ok (.getfield 7, 3) := by decide +kernel
theorem dX2_orbit_152 : decode cX2_orbit 152 = .ok (.iload_n 1, 1) := by decide +kernel
theorem dX2_orbit_153 : decode cX2_orbit 153 = .ok (.iconst 1, 1) := by decide +kernel
theorem dX2_orbit_154 : decode cX2_orbit 154 = .ok (.bastore, 1) := by decide +kernel
theorem dX2_orbit_155 : decode cX2_orbit 155 = .ok (.iload 10, 2) := by decide +kernel
theorem dX2_orbit_157 : decode cX2_orbit 157 = .ok (.ifCond .ne 7, 3) := by decide +kernel
theorem dX2_orbit_160 : decode cX2_orbit 160 = .ok (.iconst 1, 1) := by decide +kernel
theorem dX2_orbit_161 : decode cX2_orbit 161 = .ok (.goto 4, 3) := by decide +kernel
theorem dX2_orbit_164 : decode cX2_orbit 164 = .ok (.iconst 0, 1) := by decide +kernel
theorem dX2_orbit_165 : decode cX2_orbit 165 = .ok (.ireturn, 1) := by decide +kernel
theorem dX2_noBody_0 : decode cX2_noBody 0 = .ok (.iload_n 1, 1) := by decide +kernel
theorem dX2_noBody_1 : decode cX2_noBody 1 = .ok (.ifCond .lt 17, 3) := by decide +kernel
theorem dX2_noBody_4 : decode cX2_noBody 4 = .ok (.iload_n 1, 1) := by decide +kernel
theorem dX2_noBody_5 : decode cX2_noBody 5 = .ok (.iconst 3, 1) := by decide +kernel
theorem dX2_noBody_6 : decode cX2_noBody 6 = .ok (.if_icmp .gt 12, 3) := by decide +kernel
theorem dX2_noBody_9 : decode cX2_noBody 9 = .ok (.aload_n 0, 1) := by decide +kernel
theorem dX2_noBody_10 : decode cX2_noBody 10 = .ok (.getfield 7, 3) := by decide +kernel
theorem dX2_noBody_13 : decode cX2_noBody 13 = .ok (.iload_n 1, 1) := by decide +kernel
theorem dX2_noBody_14 : decode cX2_noBody 14 = .ok (.baload, 1) := by decide +kernel
theorem dX2_noBody_15 : decode cX2_noBody 15 = .ok (.ifCond .ne 7, 3) := by decide +kernel
theorem dX2_noBody_18 : decode cX2_noBody 18 = .ok (.iconst 1, 1) := by decide +kernel
theorem dX2_noBody_19 : decode cX2_noBody 19 = .ok (.goto 4, 3) := by decide +kernel
theorem dX2_noBody_22 : decode cX2_noBody 22 = .ok (.iconst 0, 1) := by decide +kernel
theorem dX2_noBody_23 : decode cX2_noBody 23 = .ok (.ireturn, 1) := by decide +kernel
set_option maxRecDepth 20000 in
theorem ggX2_term_X2_noBody : GoodIn wsX2_term wsX2_noBody := goodIn_r _ [15, 16, 24, 25, 26, 27, 28, 29, 30, 31, 32, 33, 34, 35, 36] (by decide +kernel) (by decide +kernel)
set_option maxRecDepth 20000 in
theorem gX2_term_X2_noBody : GoodIn wsX2_term (wsV RX2 166 RX2 yX2_noBody wsX2_noBody) := goodIn_app (goodIn_of _ (by decide +kernel)) ggX2_term_X2_noBody
set_option maxRecDepth 20000 in
theorem ggX2_term_X2_fail : GoodIn wsX2_term wsX2_fail := goodIn_r _ [20, 1, 24, 25, 26, 27, 28, 29, 30, 31, 32, 33, 34, 35, 36] (by decide +kernel) (by decide +kernel)
set_option maxRecDepth 20000 in
theorem gX2_term_X2_fail : GoodIn wsX2_term (wsV RX2 77 RX2 yX2_fail wsX2_fail) := goodIn_app (goodIn_of _ (by decide +kernel)) ggX2_term_X2_fail
set_option maxRecDepth 20000 in
theorem ggX2_term_X2_within : GoodIn wsX2_term wsX2_within := goodIn_r _ [23] (by decide +kernel) (by decide +kernel)
set_option maxRecDepth 20000 in
theorem gX2_term_X2_within : GoodIn wsX2_term (va_wsS RX2 156 yX2_within wsX2_within) := goodIn_app (goodIn_of _ (by decide +kernel)) ggX2_term_X2_within
theorem dX2_term_0 : decode cX2_term 0 = .ok (.aload_n 0, 1) := by decide +kernel
theorem dX2_term_1 : decode cX2_term 1 = .ok (.iconst 0, 1) := by decide +kernel
theorem dX2_term_2 : decode cX2_term 2 = .ok (.putfield 30, 3) := by decide +kernel
theorem dX2_term_5 : decode cX2_term 5 = .ok (.aload_n 0, 1) := by decide +kernel
theorem dX2_term_6 : decode cX2_term 6 = .ok (.iload_n 1, 1) := by decide +kernel
theorem dX2_term_7 : decode cX2_term 7 = .ok (.invokevirtual 166, 3) := by decide +kernel
theorem dX2_term_10 : decode cX2_term 10 = .ok (.ifCond .eq 9, 3) := by decide +kernel
theorem dX2_term_13 : decode cX2_term 13 = .ok (.aload_n 0, 1) := by decide +kernel
theorem dX2_term_14 : decode cX2_term 14 = .ok (.iconst 1, 1) := by decide +kernel
theorem dX2_term_15 : decode cX2_term 15 = .ok (.invokevirtual 77, 3) := by decide +kernel
theorem dX2_term_18 : decode cX2_term 18 = .ok (.ireturn, 1) := by decide +kernel
theorem dX2_term_19 : decode cX2_term 19 = .ok (.iload_n 2, 1) := by decide +kernel
theorem dX2_term_20 : decode cX2_term 20 = .ok (.ifCond .lt 49, 3) := by decide +kernel
theorem dX2_term_23 : decode cX2_term 23 = .ok (.iload_n 2, 1) := by decide +kernel
theorem dX2_term_24 : decode cX2_term 24 = .ok (.iconst 2, 1) := by decide +kernel
theorem dX2_term_25 : decode cX2_term 25 = .ok (.if_icmp .gt 44, 3) := by decide +kernel
theorem dX2_term_28 : decode cX2_term 28 = .ok (.dload_n 3, 1) := by decide +kernel
theorem dX2_term_29 : decode cX2_term 29 = .ok (.ldc2_w 170, 3) := by decide +kernel
theorem dX2_term_32 : decode cX2_term 32 = .ok (.ldc2_w 172, 3) := by decide +kernel
theorem dX2_term_35 : decode cX2_term 35 = .ok (.invokestatic 156, 3) := by decide +kernel
theorem dX2_term_38 : decode cX2_term 38 = .ok (.ifCond .eq 31, 3) := by decide +kernel
theorem dX2_term_41 : decode cX2_term 41 = .ok (.dload 5, 2) := by decide +kernel
theorem dX2_term_43 : decode cX2_term 43 = .ok (.ldc2_w 154, 3) := by decide +kernel
theorem dX2_term_46 : decode cX2_term 46 = .ok (.ldc2_w 114, 3) := by decide +kernel
theorem dX2_term_49 : decode cX2_term 49 = .ok (.invokestatic 156, 3) := by decide +kernel
theorem dX2_term_52 : decode cX2_term 52 = .ok (.ifCond .eq 17, 3) := by decide +kernel
theorem dX2_term_55 : decode cX2_term 55 = .ok (.dload 7, 2) := by decide +kernel
theorem dX2_term_57 : decode cX2_term 57 = .ok (.ldc2_w 160, 3) := by decide +kernel
theorem dX2_term_60 : decode cX2_term 60 = .ok (.ldc2_w 162, 3) := by decide +kernel
theorem dX2_term_63 : decode cX2_term 63 = .ok (.invokestatic 156, 3) := by decide +kernel
theorem dX2_term_66 : decode cX2_term 66 = .ok (.ifCond .ne 9, 3) := by decide +kernel
theorem dX2_term_69 : decode cX2_term 69 = .ok (.aload_n 0, 1) := by decide +kernel
theorem dX2_term_70 : decode cX2_term 70 = .ok (.iconst 2, 1) := by decide +kernel
theorem dX2_term_71 : decode cX2_term 71 = .ok (.invokevirtual 77, 3) := by decide +kernel
theorem dX2_term_74 : decode cX2_term 74 = .ok (.ireturn, 1) := by decide +kernel
theorem dX2_term_75 : decode cX2_term 75 = .ok (.aload_n 0, 1) := by decide +kernel
theorem dX2_term_76 : decode cX2_term 76 = .ok (.getfield 17, 3) := by decide +kernel
theorem dX2_term_79 : decode cX2_term 79 = .ok (.iload_n 1, 1) := by decide +kernel
theorem dX2_term_80 : decode cX2_term 80 = .ok (.iaload, 1) := by decide +kernel
theorem dX2_term_81 : decode cX2_term 81 = .ok (.bipush 12, 2) := by decide +kernel
theorem dX2_term_83 : decode cX2_term 83 = .ok (.if_icmp .ne 9, 3) := by decide +kernel
theorem dX2_term_86 : decode cX2_term 86 = .ok (.aload_n 0, 1) := by decide +kernel
theorem dX2_term_87 : decode cX2_term 87 = .ok (.iconst 3, 1) := by decide +kernel
theorem dX2_term_88 : decode cX2_term 88 = .ok (.invokevirtual 77, 3) := by decide +kernel
theorem dX2_term_91 : decode cX2_term 91 = .ok (.ireturn, 1) := by decide +kernel
theorem dX2_term_92 : decode cX2_term 92 = .ok (.bipush 12, 2) := by decide +kernel
theorem dX2_term_94 : decode cX2_term 94 = .ok (.iload_n 1, 1) := by decide +kernel
theorem dX2_term_95 : decode cX2_term 95 = .ok (.imul, 1) := by decide +kernel
theorem dX2_term_96 : decode cX2_term 96 = .ok (.aload_n 0, 1) := by decide +kernel
theorem dX2_term_97 : decode cX2_term 97 = .ok (.getfield 17, 3) := by decide +kernel
theorem dX2_term_100 : decode cX2_term 100 = .ok (.iload_n 1, 1) := by decide +kernel
theorem dX2_term_101 : decode cX2_term 101 = .ok (.iaload, 1) := by decide +kernel
theorem dX2_term_102 : decode cX2_term 102 = .ok (.iadd, 1) := by decide +kernel
theorem dX2_term_103 : decode cX2_term 103 = .ok (.istore 9, 2) := by decide +kernel
theorem dX2_term_105 : decode cX2_term 105 = .ok (.aload_n 0, 1) := by decide +kernel
theorem dX2_term_106 : decode cX2_term 106 = .ok (.getfield 21, 3) := by decide +kernel
theorem dX2_term_109 : decode cX2_term 109 = .ok (.iload 9, 2) := by decide +kernel
theorem dX2_term_111 : decode cX2_term 111 = .ok (.iload_n 2, 1) := by decide +kernel
theorem dX2_term_112 : decode cX2_term 112 = .ok (.iastore, 1) := by decide +kernel
theorem dX2_term_113 : decode cX2_term 113 = .ok (.aload_n 0, 1) := by decide +kernel
theorem dX2_term_114 : decode cX2_term 114 = .ok (.getfield 24, 3) := by decide +kernel
theorem dX2_term_117 : decode cX2_term 117 = .ok (.iconst 3, 1) := by decide +kernel
theorem dX2_term_118 : decode cX2_term 118 = .ok (.iload 9, 2) := by decide +kernel
theorem dX2_term_120 : decode cX2_term 120 = .ok (.imul, 1) := by decide +kernel
theorem dX2_term_121 : decode cX2_term 121 = .ok (.dload_n 3, 1) := by decide +kernel
theorem dX2_term_122 : decode cX2_term 122 = .ok (.dastore, 1) := by decide +kernel
theorem dX2_term_123 : decode cX2_term 123 = .ok (.aload_n 0, 1) := by decide +kernel
theorem dX2_term_124 : decode cX2_term 124 = .ok (.getfield 24, 3) := by decide +kernel
theorem dX2_term_127 : decode cX2_term 127 = .ok (.iconst 3, 1) := by decide +kernel
theorem dX2_term_128 : decode cX2_term 128 = .ok (.iload 9, 2) := by decide +kernel
theorem dX2_term_130 : decode cX2_term 130 = .ok (.imul, 1) := by decide +kernel
theorem dX2_term_131 : decode cX2_term 131 = .ok (.iconst 1, 1) := by decide +kernel
theorem dX2_term_132 : decode cX2_term 132 = .ok (.iadd, 1) := by decide +kernel
theorem dX2_term_133 : decode cX2_term 133 = .ok (.dload 5, 2) := by decide +kernel
theorem dX2_term_135 : decode cX2_term 135 = .ok (.dastore, 1) := by decide +kernel
theorem dX2_term_136 : decode cX2_term 136 = .ok (.aload_n 0, 1) := by decide +kernel
theorem dX2_term_137 : decode cX2_term 137 = .ok (.getfield 24, 3) := by decide +kernel
theorem dX2_term_140 : decode cX2_term 140 = .ok (.iconst 3, 1) := by decide +kernel
theorem dX2_term_141 : decode cX2_term 141 = .ok (.iload 9, 2) := by decide +kernel
theorem dX2_term_143 : decode cX2_term 143 = .ok (.imul, 1) := by decide +kernel
theorem dX2_term_144 : decode cX2_term 144 = .ok (.iconst 2, 1) := by decide +kernel
theorem dX2_term_145 : decode cX2_term 145 = .ok (.iadd, 1) := by decide +kernel
theorem dX2_term_146 : decode cX2_term 146 = .ok (.dload 7, 2) := by decide +kernel
theorem dX2_term_148 : decode cX2_term 148 = .ok (.dastore, 1) := by decide +kernel
theorem dX2_term_149 : decode cX2_term 149 = .ok (.aload_n 0, 1) := by decide +kernel
theorem dX2_term_150 : decode cX2_term 150 = .ok (.getfield 17, 3) := by decide +kernel
theorem dX2_term_153 : decode cX2_term 153 = .ok (.iload_n 1, 1) := by decide +kernel
theorem dX2_term_154 : decode cX2_term 154 = .ok (.dup2, 1) := by decide +kernel
theorem dX2_term_155 : decode cX2_term 155 = .ok (.iaload, 1) := by decide +kernel
theorem dX2_term_156 : decode cX2_term 156 = .ok (.iconst 1, 1) := by decide +kernel
theorem dX2_term_157 : decode cX2_term 157 = .ok (.iadd, 1) := by decide +kernel
theorem dX2_term_158 : decode cX2_term 158 = .ok (.iastore, 1) := by decide +kernel
theorem dX2_term_159 : decode cX2_term 159 = .ok (.aload_n 0, 1) := by decide +kernel
theorem dX2_term_160 : decode cX2_term 160 = .ok (.getfield 17, 3) := by decide +kernel
theorem dX2_term_163 : decode cX2_term 163 = .ok (.iload_n 1, 1) := by decide +kernel
theorem dX2_term_164 : decode cX2_term 164 = .ok (.iaload, 1) := by decide +kernel
theorem dX2_term_165 : decode cX2_term 165 = .ok (.ireturn, 1) := by decide +kernel
set_option maxRecDepth 20000 in
theorem ggX2_observer_X2_within : GoodIn wsX2_observer wsX2_within := goodIn_r _ [11] (by decide +kernel) (by decide +kernel)
set_option maxRecDepth 20000 in
theorem gX2_observer_X2_within : GoodIn wsX2_observer (va_wsS RX2 156 yX2_within wsX2_within) := goodIn_app (goodIn_of _ (by decide +kernel)) ggX2_observer_X2_within
set_option maxRecDepth 20000 in
theorem ggX2_observer_X2_fail : GoodIn wsX2_observer wsX2_fail := goodIn_r _ [15, 1, 16, 17, 18, 19, 20, 21, 22, 23, 24, 25, 26, 27, 28] (by decide +kernel) (by decide +kernel)
set_option maxRecDepth 20000 in
theorem gX2_observer_X2_fail : GoodIn wsX2_observer (wsV RX2 77 RX2 yX2_fail wsX2_fail) := goodIn_app (goodIn_of _ (by decide +kernel)) ggX2_observer_X2_fail
theorem dX2_observer_0 : decode cX2_observer 0 = .ok (.aload_n 0, 1) := by decide +kernel
theorem dX2_observer_1 : decode cX2_observer 1 = .ok (.iconst 0, 1) := by decide +kernel
theorem dX2_observer_2 : decode cX2_observer 2 = .ok (.putfield 30, 3) := by decide +kernel
theorem dX2_observer_5 : decode cX2_observer 5 = .ok (.dload_n 1, 1) := by decide +kernel
theorem dX2_observer_6 : decode cX2_observer 6 = .ok (.ldc2_w 174, 3) := by decide +kernel
theorem dX2_observer_9 : decode cX2_observer 9 = .ok (.ldc2_w 120, 3) := by decide +kernel
theorem dX2_observer_12 : decode cX2_observer 12 = .ok (.invokestatic 156, 3) := by decide +kernel
theorem dX2_observer_15 : decode cX2_observer 15 = .ok (.ifCond .eq 16, 3) := by decide +kernel
theorem dX2_observer_18 : decode cX2_observer 18 = .ok (.dload_n 3, 1) := by decide +kernel
theorem dX2_observer_19 : decode cX2_observer 19 = .ok (.ldc2_w 176, 3) := by decide +kernel
theorem dX2_observer_22 : decode cX2_observer 22 = .ok (.ldc2_w 178, 3) := by decide +kernel
theorem dX2_observer_25 : decode cX2_observer 25 = .ok (.invokestatic 156, 3) := by decide +kernel
theorem dX2_observer_28 : decode cX2_observer 28 = .ok (.ifCond .ne 17, 3) := by decide +kernel
theorem dX2_observer_31 : decode cX2_observer 31 = .ok (.aload_n 0, 1) := by decide +kernel
theorem dX2_observer_32 : decode cX2_observer 32 = .ok (.iconst 1, 1) := by decide +kernel
theorem dX2_observer_33 : decode cX2_observer 33 = .ok (.invokevirtual 77, 3) := by decide +kernel
theorem dX2_observer_36 : decode cX2_observer 36 = .ok (.ifCond .le 7, 3) := by decide +kernel
theorem dX2_observer_39 : decode cX2_observer 39 = .ok (.iconst 1, 1) := by decide +kernel
theorem dX2_observer_40 : decode cX2_observer 40 = .ok (.goto 4, 3) := by decide +kernel
theorem dX2_observer_43 : decode cX2_observer 43 = .ok (.iconst 0, 1) := by decide +kernel
theorem dX2_observer_44 : decode cX2_observer 44 = .ok (.ireturn, 1) := by decide +kernel
theorem dX2_observer_45 : decode cX2_observer 45 = .ok (.dload_n 1, 1) := by decide +kernel
theorem dX2_observer_46 : decode cX2_observer 46 = .ok (.aload_n 0, 1) := by decide +kernel
theorem dX2_observer_47 : decode cX2_observer 47 = .ok (.getfield 180, 3) := by decide +kernel
theorem dX2_observer_50 : decode cX2_observer 50 = .ok (.dcmp .l, 1) := by decide +kernel
theorem dX2_observer_51 : decode cX2_observer 51 = .ok (.ifCond .ne 12, 3) := by decide +kernel
theorem dX2_observer_54 : decode cX2_observer 54 = .ok (.dload_n 3, 1) := by decide +kernel
theorem dX2_observer_55 : decode cX2_observer 55 = .ok (.aload_n 0, 1) := by decide +kernel
theorem dX2_observer_56 : decode cX2_observer 56 = .ok (.getfield 184, 3) := by decide +kernel
theorem dX2_observer_59 : decode cX2_observer 59 = .ok (.dcmp .l, 1) := by decide +kernel
theorem dX2_observer_60 : decode cX2_observer 60 = .ok (.ifCond .eq 7, 3) := by decide +kernel
theorem dX2_observer_63 : decode cX2_observer 63 = .ok (.iconst 1, 1) := by decide +kernel
theorem dX2_observer_64 : decode cX2_observer 64 = .ok (.goto 4, 3) := by decide +kernel
theorem dX2_observer_67 : decode cX2_observer 67 = .ok (.iconst 0, 1) := by decide +kernel
theorem dX2_observer_68 : decode cX2_observer 68 = .ok (.istore 5, 2) := by decide +kernel
theorem dX2_observer_70 : decode cX2_observer 70 = .ok (.aload_n 0, 1) := by decide +kernel
theorem dX2_observer_71 : decode cX2_observer 71 = .ok (.dload_n 1, 1) := by decide +kernel
theorem dX2_observer_72 : decode cX2_observer 72 = .ok (.putfield 180, 3) := by decide +kernel
theorem dX2_observer_75 : decode cX2_observer 75 = .ok (.aload_n 0, 1) := by decide +kernel
theorem dX2_observer_76 : decode cX2_observer 76 = .ok (.dload_n 3, 1) := by decide +kernel
theorem dX2_observer_77 : decode cX2_observer 77 = .ok (.putfield 184, 3) := by decide +kernel
theorem dX2_observer_80 : decode cX2_observer 80 = .ok (.iload 5, 2) := by decide +kernel
theorem dX2_observer_82 : decode cX2_observer 82 = .ok (.ireturn, 1) := by decide +kernel
set_option maxRecDepth 20000 in
theorem ggX2_sum_X2_cosine : GoodIn wsX2_sum wsX2_cosine := goodIn_r _ [7, 8, 9, 6, 10, 11, 12, 13, 14, 15, 16, 17, 18, 19, 20, 21, 22, 23, 24, 25, 26, 27, 28] (by decide +kernel) (by decide +kernel)
set_option maxRecDepth 20000 in
theorem gX2_sum_X2_cosine : GoodIn wsX2_sum (va_wsS RX2 187 yX2_cosine wsX2_cosine) := goodIn_app (goodIn_of _ (by decide +kernel)) ggX2_sum_X2_cosine
theorem dX2_sum_0 : decode cX2_sum 0 = .ok (.dconst 0, 1) := by decide +kernel
theorem dX2_sum_1 : decode cX2_sum 1 = .ok (.dstore 5, 2) := by decide +kernel
theorem dX2_sum_3 : decode cX2_sum 3 = .ok (.bipush 12, 2) := by decide +kernel
theorem dX2_sum_5 : decode cX2_sum 5 = .ok (.iload_n 1, 1) := by decide +kernel
theorem dX2_sum_6 : decode cX2_sum 6 = .ok (.imul, 1) := by decide +kernel
theorem dX2_sum_7 : decode cX2_sum 7 = .ok (.istore 7, 2) := by decide +kernel
theorem dX2_sum_9 : decode cX2_sum 9 = .ok (.iload 7, 2) := by decide +kernel
theorem dX2_sum_11 : decode cX2_sum 11 = .ok (.bipush 12, 2) := by decide +kernel
theorem dX2_sum_13 : decode cX2_sum 13 = .ok (.iload_n 1, 1) := by decide +kernel
theorem dX2_sum_14 : decode cX2_sum 14 = .ok (.imul, 1) := by decide +kernel
theorem dX2_sum_15 : decode cX2_sum 15 = .ok (.aload_n 0, 1) := by decide +kernel
theorem dX2_sum_16 : decode cX2_sum 16 = .ok (.getfield 17, 3) := by decide +kernel
theorem dX2_sum_19 : decode cX2_sum 19 = .ok (.iload_n 1, 1) := by decide +kernel
theorem dX2_sum_20 : decode cX2_sum 20 = .ok (.iaload, 1) := by decide +kernel
theorem dX2_sum_21 : decode cX2_sum 21 = .ok (.iadd, 1) := by decide +kernel
theorem dX2_sum_22 : decode cX2_sum 22 = .ok (.if_icmp .ge 63, 3) := by decide +kernel
theorem dX2_sum_25 : decode cX2_sum 25 = .ok (.aload_n 0, 1) := by decide +kernel
theorem dX2_sum_26 : decode cX2_sum 26 = .ok (.getfield 21, 3) := by decide +kernel
theorem dX2_sum_29 : decode cX2_sum 29 = .ok (.iload 7, 2) := by decide +kernel
theorem dX2_sum_31 : decode cX2_sum 31 = .ok (.iaload, 1) := by decide +kernel
theorem dX2_sum_32 : decode cX2_sum 32 = .ok (.iload_n 2, 1) := by decide +kernel
theorem dX2_sum_33 : decode cX2_sum 33 = .ok (.if_icmp .ne 46, 3) := by decide +kernel
theorem dX2_sum_36 : decode cX2_sum 36 = .ok (.dload 5, 2) := by decide +kernel
theorem dX2_sum_38 : decode cX2_sum 38 = .ok (.aload_n 0, 1) := by decide +kernel
theorem dX2_sum_39 : decode cX2_sum 39 = .ok (.getfield 24, 3) := by decide +kernel
theorem dX2_sum_42 : decode cX2_sum 42 = .ok (.iconst 3, 1) := by decide +kernel
theorem dX2_sum_43 : decode cX2_sum 43 = .ok (.iload 7, 2) := by decide +kernel
theorem dX2_sum_45 : decode cX2_sum 45 = .ok (.imul, 1) := by decide +kernel
theorem dX2_sum_46 : decode cX2_sum 46 = .ok (.daload, 1) := by decide +kernel
theorem dX2_sum_47 : decode cX2_sum 47 = .ok (.aload_n 0, 1) := by decide +kernel
theorem dX2_sum_48 : decode cX2_sum 48 = .ok (.getfield 24, 3) := by decide +kernel
theorem dX2_sum_51 : decode cX2_sum 51 = .ok (.iconst 3, 1) := by decide +kernel
theorem dX2_sum_52 : decode cX2_sum 52 = .ok (.iload 7, 2) := by decide +kernel
theorem dX2_sum_54 : decode cX2_sum 54 = .ok (.imul, 1) := by decide +kernel
theorem dX2_sum_55 : decode cX2_sum 55 = .ok (.iconst 1, 1) := by decide +kernel
theorem dX2_sum_56 : decode cX2_sum 56 = .ok (.iadd, 1) := by decide +kernel
theorem dX2_sum_57 : decode cX2_sum 57 = .ok (.daload, 1) := by decide +kernel
theorem dX2_sum_58 : decode cX2_sum 58 = .ok (.aload_n 0, 1) := by decide +kernel
theorem dX2_sum_59 : decode cX2_sum 59 = .ok (.getfield 24, 3) := by decide +kernel
theorem dX2_sum_62 : decode cX2_sum 62 = .ok (.iconst 3, 1) := by decide +kernel
theorem dX2_sum_63 : decode cX2_sum 63 = .ok (.iload 7, 2) := by decide +kernel
theorem dX2_sum_65 : decode cX2_sum 65 = .ok (.imul, 1) := by decide +kernel
theorem dX2_sum_66 : decode cX2_sum 66 = .ok (.iconst 2, 1) := by decide +kernel
theorem dX2_sum_67 : decode cX2_sum 67 = .ok (.iadd, 1) := by decide +kernel
theorem dX2_sum_68 : decode cX2_sum 68 = .ok (.daload, 1) := by decide +kernel
theorem dX2_sum_69 : decode cX2_sum 69 = .ok (.dload_n 3, 1) := by decide +kernel
theorem dX2_sum_70 : decode cX2_sum 70 = .ok (.dmul, 1) := by decide +kernel
theorem dX2_sum_71 : decode cX2_sum 71 = .ok (.dadd, 1) := by decide +kernel
theorem dX2_sum_72 : decode cX2_sum 72 = .ok (.invokestatic 187, 3) := by decide +kernel
theorem dX2_sum_75 : decode cX2_sum 75 = .ok (.dmul, 1) := by decide +kernel
theorem dX2_sum_76 : decode cX2_sum 76 = .ok (.dadd, 1) := by decide +kernel
theorem dX2_sum_77 : decode cX2_sum 77 = .ok (.dstore 5, 2) := by decide +kernel
theorem dX2_sum_79 : decode cX2_sum 79 = .ok (.iinc 7 1, 3) := by decide +kernel
theorem dX2_sum_82 : decode cX2_sum 82 = .ok (.goto (-73), 3) := by decide +kernel
theorem dX2_sum_85 : decode cX2_sum 85 = .ok (.dload 5, 2) := by decide +kernel
theorem dX2_sum_87 : decode cX2_sum 87 = .ok (.dreturn, 1) := by decide +kernel
set_option maxRecDepth 20000 in
theorem ggX2_along_X2_red : GoodIn wsX2_along wsX2_red := goodIn_r _ [14, 15] (by decide +kernel) (by decide +kernel)
set_option maxRecDepth 20000 in
theorem gX2_along_X2_red : GoodIn wsX2_along (va_wsS RX2 116 yX2_red wsX2_red) := goodIn_app (goodIn_of _ (by decide +kernel)) ggX2_along_X2_red
set_option maxRecDepth 20000 in
theorem ggX2_along_X2_sine : GoodIn wsX2_along wsX2_sine := goodIn_r _ [18, 19, 20, 13, 21, 22, 8, 23, 24, 25, 26, 27, 28, 29, 30, 31, 32, 33, 34, 11, 12, 14, 15] (by decide +kernel) (by decide +kernel)
set_option maxRecDepth 20000 in
theorem gX2_along_X2_sine : GoodIn wsX2_along (va_wsS RX2 192 yX2_sine wsX2_sine) := goodIn_app (goodIn_of _ (by decide +kernel)) ggX2_along_X2_sine
set_option maxRecDepth 20000 in
theorem ggX2_along_X2_cosine : GoodIn wsX2_along wsX2_cosine := goodIn_r _ [37, 19, 20, 13, 21, 22, 8, 23, 24, 25, 26, 27, 28, 29, 30, 31, 32, 33, 34, 11, 12, 14, 15] (by decide +kernel) (by decide +kernel)
set_option maxRecDepth 20000 in
theorem gX2_along_X2_cosine : GoodIn wsX2_along (va_wsS RX2 187 yX2_cosine wsX2_cosine) := goodIn_app (goodIn_of _ (by decide +kernel)) ggX2_along_X2_cosine
set_option maxRecDepth 20000 in
theorem ggX2_along_X2_sum : GoodIn wsX2_along wsX2_sum := goodIn_r _ [41, 42, 43, 44, 35, 36, 13, 37, 19, 20, 21, 22, 8, 23, 24, 25, 26, 27, 28, 29, 30, 31, 32, 33, 34, 11, 12, 14, 15, 45, 46, 47, 48, 49, 50, 51, 52, 53, 54, 55, 56, 57] (by decide +kernel) (by decide +kernel)
set_option maxRecDepth 20000 in
theorem gX2_along_X2_sum : GoodIn wsX2_along (wsV RX2 213 RX2 yX2_sum wsX2_sum) := goodIn_app (goodIn_of _ (by decide +kernel)) ggX2_along_X2_sum
theorem dX2_along_0 : decode cX2_along 0 = .ok (.aload_n 0, 1) := by decide +kernel
theorem dX2_along_1 : decode cX2_along 1 = .ok (.getfield 13, 3) := by decide +kernel
theorem dX2_along_4 : decode cX2_along 4 = .ok (.iconst 4, 1) := by decide +kernel
theorem dX2_along_5 : decode cX2_along 5 = .ok (.iload_n 1, 1) := by decide +kernel
theorem dX2_along_6 : decode cX2_along 6 = .ok (.imul, 1) := by decide +kernel
theorem dX2_along_7 : decode cX2_along 7 = .ok (.iconst 2, 1) := by decide +kernel
theorem dX2_along_8 : decode cX2_along 8 = .ok (.iadd, 1) := by decide +kernel
theorem dX2_along_9 : decode cX2_along 9 = .ok (.daload, 1) := by decide +kernel
theorem dX2_along_10 : decode cX2_along 10 = .ok (.dstore 4, 2) := by decide +kernel
theorem dX2_along_12 : decode cX2_along 12 = .ok (.aload_n 0, 1) := by decide +kernel
theorem dX2_along_13 : decode cX2_along 13 = .ok (.getfield 13, 3) := by decide +kernel
theorem dX2_along_16 : decode cX2_along 16 = .ok (.iconst 4, 1) := by decide +kernel
theorem dX2_along_17 : decode cX2_along 17 = .ok (.iload_n 1, 1) := by decide +kernel
theorem dX2_along_18 : decode cX2_along 18 = .ok (.imul, 1) := by decide +kernel
theorem dX2_along_19 : decode cX2_along 19 = .ok (.iconst 3, 1) := by decide +kernel
theorem dX2_along_20 : decode cX2_along 20 = .ok (.iadd, 1) := by decide +kernel
theorem dX2_along_21 : decode cX2_along 21 = .ok (.daload, 1) := by decide +kernel
theorem dX2_along_22 : decode cX2_along 22 = .ok (.dstore 6, 2) := by decide +kernel
theorem dX2_along_24 : decode cX2_along 24 = .ok (.aload_n 0, 1) := by decide +kernel
theorem dX2_along_25 : decode cX2_along 25 = .ok (.getfield 13, 3) := by decide +kernel
theorem dX2_along_28 : decode cX2_along 28 = .ok (.iconst 4, 1) := by decide +kernel
theorem dX2_along_29 : decode cX2_along 29 = .ok (.iload_n 1, 1) := by decide +kernel
theorem dX2_along_30 : decode cX2_along 30 = .ok (.imul, 1) := by decide +kernel
theorem dX2_along_31 : decode cX2_along 31 = .ok (.daload, 1) := by decide +kernel
theorem dX2_along_32 : decode cX2_along 32 = .ok (.aload_n 0, 1) := by decide +kernel
theorem dX2_along_33 : decode cX2_along 33 = .ok (.getfield 13, 3) := by decide +kernel
theorem dX2_along_36 : decode cX2_along 36 = .ok (.iconst 4, 1) := by decide +kernel
theorem dX2_along_37 : decode cX2_along 37 = .ok (.iload_n 1, 1) := by decide +kernel
theorem dX2_along_38 : decode cX2_along 38 = .ok (.imul, 1) := by decide +kernel
theorem dX2_along_39 : decode cX2_along 39 = .ok (.iconst 1, 1) := by decide +kernel
theorem dX2_along_40 : decode cX2_along 40 = .ok (.iadd, 1) := by decide +kernel
theorem dX2_along_41 : decode cX2_along 41 = .ok (.daload, 1) := by decide +kernel
theorem dX2_along_42 : decode cX2_along 42 = .ok (.dload_n 2, 1) := by decide +kernel
theorem dX2_along_43 : decode cX2_along 43 = .ok (.dmul, 1) := by decide +kernel
theorem dX2_along_44 : decode cX2_along 44 = .ok (.dadd, 1) := by decide +kernel
theorem dX2_along_45 : decode cX2_along 45 = .ok (.dload 6, 2) := by decide +kernel
theorem dX2_along_47 : decode cX2_along 47 = .ok (.dsub, 1) := by decide +kernel
theorem dX2_along_48 : decode cX2_along 48 = .ok (.invokestatic 116, 3) := by decide +kernel
theorem dX2_along_51 : decode cX2_along 51 = .ok (.dstore 8, 2) := by decide +kernel
theorem dX2_along_53 : decode cX2_along 53 = .ok (.dload 8, 2) := by decide +kernel
theorem dX2_along_55 : decode cX2_along 55 = .ok (.dstore 10, 2) := by decide +kernel
theorem dX2_along_57 : decode cX2_along 57 = .ok (.iconst 0, 1) := by decide +kernel
theorem dX2_along_58 : decode cX2_along 58 = .ok (.istore 12, 2) := by decide +kernel
theorem dX2_along_60 : decode cX2_along 60 = .ok (.iconst 0, 1) := by decide +kernel
theorem dX2_along_61 : decode cX2_along 61 = .ok (.istore 13, 2) := by decide +kernel
theorem dX2_along_63 : decode cX2_along 63 = .ok (.iload 13, 2) := by decide +kernel
theorem dX2_along_65 : decode cX2_along 65 = .ok (.iconst 4, 1) := by decide +kernel
theorem dX2_along_66 : decode cX2_along 66 = .ok (.if_icmp .ge 77, 3) := by decide +kernel
theorem dX2_along_69 : decode cX2_along 69 = .ok (.iload 12, 2) := by decide +kernel
theorem dX2_along_71 : decode cX2_along 71 = .ok (.ifCond .ne 72, 3) := by decide +kernel
theorem dX2_along_74 : decode cX2_along 74 = .ok (.dload 10, 2) := by decide +kernel
theorem dX2_along_76 : decode cX2_along 76 = .ok (.dload 4, 2) := by decide +kernel
theorem dX2_along_78 : decode cX2_along 78 = .ok (.ldc2_w 190, 3) := by decide +kernel
theorem dX2_along_81 : decode cX2_along 81 = .ok (.dmul, 1) := by decide +kernel
theorem dX2_along_82 : decode cX2_along 82 = .ok (.dload 10, 2) := by decide +kernel
theorem dX2_along_84 : decode cX2_along 84 = .ok (.invokestatic 192, 3) := by decide +kernel
theorem dX2_along_87 : decode cX2_along 87 = .ok (.dmul, 1) := by decide +kernel
theorem dX2_along_88 : decode cX2_along 88 = .ok (.dsub, 1) := by decide +kernel
theorem dX2_along_89 : decode cX2_along 89 = .ok (.dload 8, 2) := by decide +kernel
theorem dX2_along_91 : decode cX2_along 91 = .ok (.dsub, 1) := by decide +kernel
theorem dX2_along_92 : decode cX2_along 92 = .ok (.dconst 1, 1) := by decide +kernel
theorem dX2_along_93 : decode cX2_along 93 = .ok (.dload 4, 2) := by decide +kernel
theorem dX2_along_95 : decode cX2_along 95 = .ok (.dload 10, 2) := by decide +kernel
theorem dX2_along_97 : decode cX2_along 97 = .ok (.invokestatic 187, 3) := by decide +kernel
theorem dX2_along_100 : decode cX2_along 100 = .ok (.dmul, 1) := by decide +kernel
theorem dX2_along_101 : decode cX2_along 101 = .ok (.dsub, 1) := by decide +kernel
theorem dX2_along_102 : decode cX2_along 102 = .ok (.ddiv, 1) := by decide +kernel
theorem dX2_along_103 : decode cX2_along 103 = .ok (.dstore 14, 2) := by decide +kernel
theorem dX2_along_105 : decode cX2_along 105 = .ok (.dload 10, 2) := by decide +kernel
theorem dX2_along_107 : decode cX2_along 107 = .ok (.dload 14, 2) := by decide +kernel
theorem dX2_along_109 : decode cX2_along 109 = .ok (.dsub, 1) := by decide +kernel
theorem dX2_along_110 : decode cX2_along 110 = .ok (.dstore 10, 2) := by decide +kernel
theorem dX2_along_112 : decode cX2_along 112 = .ok (.dload 14, 2) := by decide +kernel
theorem dX2_along_114 : decode cX2_along 114 = .ok (.ldc2_w 195, 3) := by decide +kernel
theorem dX2_along_117 : decode cX2_along 117 = .ok (.dcmp .l, 1) := by decide +kernel
theorem dX2_along_118 : decode cX2_along 118 = .ok (.ifCond .le 16, 3) := by decide +kernel
theorem dX2_along_121 : decode cX2_along 121 = .ok (.dload 14, 2) := by decide +kernel
theorem dX2_along_123 : decode cX2_along 123 = .ok (.ldc2_w 197, 3) := by decide +kernel
theorem dX2_along_126 : decode cX2_along 126 = .ok (.dcmp .g, 1) := by decide +kernel
theorem dX2_along_127 : decode cX2_along 127 = .ok (.ifCond .ge 7, 3) := by decide +kernel
theorem dX2_along_130 : decode cX2_along 130 = .ok (.iconst 1, 1) := by decide +kernel
theorem dX2_along_131 : decode cX2_along 131 = .ok (.goto 4, 3) := by decide +kernel
theorem dX2_along_134 : decode cX2_along 134 = .ok (.iconst 0, 1) := by decide +kernel
theorem dX2_along_135 : decode cX2_along 135 = .ok (.istore 12, 2) := by decide +kernel
theorem dX2_along_137 : decode cX2_along 137 = .ok (.iinc 13 1, 3) := by decide +kernel
theorem dX2_along_140 : decode cX2_along 140 = .ok (.goto (-77), 3) := by decide +kernel
theorem dX2_along_143 : decode cX2_along 143 = .ok (.aload_n 0, 1) := by decide +kernel
theorem dX2_along_144 : decode cX2_along 144 = .ok (.dup, 1) := by decide +kernel
theorem dX2_along_145 : decode cX2_along 145 = .ok (.getfield 199, 3) := by decide +kernel
theorem dX2_along_148 : decode cX2_along 148 = .ok (.iconst 1, 1) := by decide +kernel
theorem dX2_along_149 : decode cX2_along 149 = .ok (.iadd, 1) := by decide +kernel
theorem dX2_along_150 : decode cX2_along 150 = .ok (.putfield 199, 3) := by decide +kernel
theorem dX2_along_153 : decode cX2_along 153 = .ok (.aload_n 0, 1) := by decide +kernel
theorem dX2_along_154 : decode cX2_along 154 = .ok (.iload 12, 2) := by decide +kernel
theorem dX2_along_156 : decode cX2_along 156 = .ok (.ifCond .ne 7, 3) := by decide +kernel
theorem dX2_along_159 : decode cX2_along 159 = .ok (.iconst 1, 1) := by decide +kernel
theorem dX2_along_160 : decode cX2_along 160 = .ok (.goto 4, 3) := by decide +kernel
theorem dX2_along_163 : decode cX2_along 163 = .ok (.iconst 0, 1) := by decide +kernel
theorem dX2_along_164 : decode cX2_along 164 = .ok (.putfield 202, 3) := by decide +kernel
theorem dX2_along_167 : decode cX2_along 167 = .ok (.aload_n 0, 1) := by decide +kernel
theorem dX2_along_168 : decode cX2_along 168 = .ok (.dup, 1) := by decide +kernel
theorem dX2_along_169 : decode cX2_along 169 = .ok (.getfield 206, 3) := by decide +kernel
theorem dX2_along_172 : decode cX2_along 172 = .ok (.iload 12, 2) := by decide +kernel
theorem dX2_along_174 : decode cX2_along 174 = .ok (.ifCond .eq 7, 3) := by decide +kernel
theorem dX2_along_177 : decode cX2_along 177 = .ok (.iconst 0, 1) := by decide +kernel
theorem dX2_along_178 : decode cX2_along 178 = .ok (.goto 4, 3) := by decide +kernel
theorem dX2_along_181 : decode cX2_along 181 = .ok (.iconst 1, 1) := by decide +kernel
theorem dX2_along_182 : decode cX2_along 182 = .ok (.iadd, 1) := by decide +kernel
theorem dX2_along_183 : decode cX2_along 183 = .ok (.putfield 206, 3) := by decide +kernel
theorem dX2_along_186 : decode cX2_along 186 = .ok (.dload 10, 2) := by decide +kernel
theorem dX2_along_188 : decode cX2_along 188 = .ok (.dload 4, 2) := by decide +kernel
theorem dX2_along_190 : decode cX2_along 190 = .ok (.ldc2_w 190, 3) := by decide +kernel
theorem dX2_along_193 : decode cX2_along 193 = .ok (.dmul, 1) := by decide +kernel
theorem dX2_along_194 : decode cX2_along 194 = .ok (.dload 10, 2) := by decide +kernel
theorem dX2_along_196 : decode cX2_along 196 = .ok (.invokestatic 192, 3) := by decide +kernel
theorem dX2_along_199 : decode cX2_along 199 = .ok (.dmul, 1) := by decide +kernel
theorem dX2_along_200 : decode cX2_along 200 = .ok (.dadd, 1) := by decide +kernel
theorem dX2_along_201 : decode cX2_along 201 = .ok (.ldc2_w 122, 3) := by decide +kernel
theorem dX2_along_204 : decode cX2_along 204 = .ok (.dload 4, 2) := by decide +kernel
theorem dX2_along_206 : decode cX2_along 206 = .ok (.dmul, 1) := by decide +kernel
theorem dX2_along_207 : decode cX2_along 207 = .ok (.dload 4, 2) := by decide +kernel
theorem dX2_along_209 : decode cX2_along 209 = .ok (.dmul, 1) := by decide +kernel
theorem dX2_along_210 : decode cX2_along 210 = .ok (.ldc2_w 190, 3) := by decide +kernel
theorem dX2_along_213 : decode cX2_along 213 = .ok (.dmul, 1) := by decide +kernel
theorem dX2_along_214 : decode cX2_along 214 = .ok (.ldc2_w 209, 3) := by decide +kernel
theorem dX2_along_217 : decode cX2_along 217 = .ok (.dload 10, 2) := by decide +kernel
theorem dX2_along_219 : decode cX2_along 219 = .ok (.dmul, 1) := by decide +kernel
theorem dX2_along_220 : decode cX2_along 220 = .ok (.invokestatic 192, 3) := by decide +kernel
theorem dX2_along_223 : decode cX2_along 223 = .ok (.dmul, 1) := by decide +kernel
theorem dX2_along_224 : decode cX2_along 224 = .ok (.dadd, 1) := by decide +kernel
theorem dX2_along_225 : decode cX2_along 225 = .ok (.dstore 13, 2) := by decide +kernel
theorem dX2_along_227 : decode cX2_along 227 = .ok (.dload_n 2, 1) := by decide +kernel
theorem dX2_along_228 : decode cX2_along 228 = .ok (.ldc2_w 211, 3) := by decide +kernel
theorem dX2_along_231 : decode cX2_along 231 = .ok (.ddiv, 1) := by decide +kernel
theorem dX2_along_232 : decode cX2_along 232 = .ok (.dstore 15, 2) := by decide +kernel
theorem dX2_along_234 : decode cX2_along 234 = .ok (.dload 13, 2) := by decide +kernel
theorem dX2_along_236 : decode cX2_along 236 = .ok (.dload 6, 2) := by decide +kernel
theorem dX2_along_238 : decode cX2_along 238 = .ok (.dadd, 1) := by decide +kernel
theorem dX2_along_239 : decode cX2_along 239 = .ok (.aload_n 0, 1) := by decide +kernel
theorem dX2_along_240 : decode cX2_along 240 = .ok (.iload_n 1, 1) := by decide +kernel
theorem dX2_along_241 : decode cX2_along 241 = .ok (.iconst 0, 1) := by decide +kernel
theorem dX2_along_242 : decode cX2_along 242 = .ok (.dload_n 2, 1) := by decide +kernel
theorem dX2_along_243 : decode cX2_along 243 = .ok (.invokevirtual 213, 3) := by decide +kernel
theorem dX2_along_246 : decode cX2_along 246 = .ok (.dload 15, 2) := by decide +kernel
theorem dX2_along_248 : decode cX2_along 248 = .ok (.aload_n 0, 1) := by decide +kernel
theorem dX2_along_249 : decode cX2_along 249 = .ok (.iload_n 1, 1) := by decide +kernel
theorem dX2_along_250 : decode cX2_along 250 = .ok (.iconst 1, 1) := by decide +kernel
theorem dX2_along_251 : decode cX2_along 251 = .ok (.dload_n 2, 1) := by decide +kernel
theorem dX2_along_252 : decode cX2_along 252 = .ok (.invokevirtual 213, 3) := by decide +kernel
theorem dX2_along_255 : decode cX2_along 255 = .ok (.dload 15, 2) := by decide +kernel
theorem dX2_along_257 : decode cX2_along 257 = .ok (.aload_n 0, 1) := by decide +kernel
theorem dX2_along_258 : decode cX2_along 258 = .ok (.iload_n 1, 1) := by decide +kernel
theorem dX2_along_259 : decode cX2_along 259 = .ok (.iconst 2, 1) := by decide +kernel
theorem dX2_along_260 : decode cX2_along 260 = .ok (.dload_n 2, 1) := by decide +kernel
theorem dX2_along_261 : decode cX2_along 261 = .ok (.invokevirtual 213, 3) := by decide +kernel
theorem dX2_along_264 : decode cX2_along 264 = .ok (.dmul, 1) := by decide +kernel
theorem dX2_along_265 : decode cX2_along 265 = .ok (.dadd, 1) := by decide +kernel
theorem dX2_along_266 : decode cX2_along 266 = .ok (.dmul, 1) := by decide +kernel
theorem dX2_along_267 : decode cX2_along 267 = .ok (.dadd, 1) := by decide +kernel
theorem dX2_along_268 : decode cX2_along 268 = .ok (.dadd, 1) := by decide +kernel
theorem dX2_along_269 : decode cX2_along 269 = .ok (.invokestatic 116, 3) := by decide +kernel
theorem dX2_along_272 : decode cX2_along 272 = .ok (.dreturn, 1) := by decide +kernel
set_option maxRecDepth 20000 in
theorem ggX2_above_X2_along : GoodIn wsX2_above wsX2_along := goodIn_r _ [9, 10, 11, 12, 13, 14, 15, 16, 17, 18, 19, 20, 21, 8, 22, 23, 24, 25, 26, 27, 28, 29, 30, 31, 32, 33, 34, 35, 36, 37, 38, 39, 40, 41, 42, 43, 44, 45, 46, 47, 48, 49, 50, 51, 52, 58, 59, 60, 61, 62, 63, 64, 65, 66, 67, 68, 69, 70] (by decide +kernel) (by decide +kernel)
set_option maxRecDepth 20000 in
theorem gX2_above_X2_along : GoodIn wsX2_above (wsV RX2 217 RX2 yX2_along wsX2_along) := goodIn_app (goodIn_of _ (by decide +kernel)) ggX2_above_X2_along
set_option maxRecDepth 20000 in
theorem ggX2_above_X2_cosine : GoodIn wsX2_above wsX2_cosine := goodIn_r _ [45, 27, 28, 8, 29, 30, 17, 31, 32, 33, 34, 35, 36, 37, 38, 39, 40, 41, 42, 20, 21, 22, 23] (by decide +kernel) (by decide +kernel)
set_option maxRecDepth 20000 in
theorem gX2_above_X2_cosine : GoodIn wsX2_above (va_wsS RX2 187 yX2_cosine wsX2_cosine) := goodIn_app (goodIn_of _ (by decide +kernel)) ggX2_above_X2_cosine
set_option maxRecDepth 20000 in
theorem ggX2_above_X2_sine : GoodIn wsX2_above wsX2_sine := goodIn_r _ [26, 27, 28, 8, 29, 30, 17, 31, 32, 33, 34, 35, 36, 37, 38, 39, 40, 41, 42, 20, 21, 22, 23] (by decide +kernel) (by decide +kernel)
set_option maxRecDepth 20000 in
theorem gX2_above_X2_sine : GoodIn wsX2_above (va_wsS RX2 192 yX2_sine wsX2_sine) := goodIn_app (goodIn_of _ (by decide +kernel)) ggX2_above_X2_sine
set_option maxRecDepth 20000 in
theorem ggX2_above_X2_turned : GoodIn wsX2_above wsX2_turned := goodIn_r _ [55, 56, 57, 23, 20, 21, 8, 22] (by decide +kernel) (by decide +kernel)
set_option maxRecDepth 20000 in
theorem gX2_above_X2_turned : GoodIn wsX2_above (va_wsS RX2 225 yX2_turned wsX2_turned) := goodIn_app (goodIn_of _ (by decide +kernel)) ggX2_above_X2_turned
theorem dX2_above_0 : decode cX2_above 0 = .ok (.aload_n 0, 1) := by decide +kernel
theorem dX2_above_1 : decode cX2_above 1 = .ok (.iload_n 1, 1) := by decide +kernel
theorem dX2_above_2 : decode cX2_above 2 = .ok (.dload_n 2, 1) := by decide +kernel
theorem dX2_above_3 : decode cX2_above 3 = .ok (.invokevirtual 217, 3) := by decide +kernel
theorem dX2_above_6 : decode cX2_above 6 = .ok (.dstore 4, 2) := by decide +kernel
theorem dX2_above_8 : decode cX2_above 8 = .ok (.dload 4, 2) := by decide +kernel
theorem dX2_above_10 : decode cX2_above 10 = .ok (.invokestatic 187, 3) := by decide +kernel
theorem dX2_above_13 : decode cX2_above 13 = .ok (.dstore 6, 2) := by decide +kernel
theorem dX2_above_15 : decode cX2_above 15 = .ok (.dload 4, 2) := by decide +kernel
theorem dX2_above_17 : decode cX2_above 17 = .ok (.invokestatic 192, 3) := by decide +kernel
theorem dX2_above_20 : decode cX2_above 20 = .ok (.ldc2_w 221, 3) := by decide +kernel
theorem dX2_above_23 : decode cX2_above 23 = .ok (.dmul, 1) := by decide +kernel
theorem dX2_above_24 : decode cX2_above 24 = .ok (.dstore 8, 2) := by decide +kernel
theorem dX2_above_26 : decode cX2_above 26 = .ok (.dload 4, 2) := by decide +kernel
theorem dX2_above_28 : decode cX2_above 28 = .ok (.invokestatic 192, 3) := by decide +kernel
theorem dX2_above_31 : decode cX2_above 31 = .ok (.ldc2_w 223, 3) := by decide +kernel
theorem dX2_above_34 : decode cX2_above 34 = .ok (.dmul, 1) := by decide +kernel
theorem dX2_above_35 : decode cX2_above 35 = .ok (.dstore 10, 2) := by decide +kernel
theorem dX2_above_37 : decode cX2_above 37 = .ok (.dload_n 2, 1) := by decide +kernel
theorem dX2_above_38 : decode cX2_above 38 = .ok (.invokestatic 225, 3) := by decide +kernel
theorem dX2_above_41 : decode cX2_above 41 = .ok (.aload_n 0, 1) := by decide +kernel
theorem dX2_above_42 : decode cX2_above 42 = .ok (.getfield 184, 3) := by decide +kernel
theorem dX2_above_45 : decode cX2_above 45 = .ok (.dadd, 1) := by decide +kernel
theorem dX2_above_46 : decode cX2_above 46 = .ok (.dstore 12, 2) := by decide +kernel
theorem dX2_above_48 : decode cX2_above 48 = .ok (.aload_n 0, 1) := by decide +kernel
theorem dX2_above_49 : decode cX2_above 49 = .ok (.getfield 180, 3) := by decide +kernel
theorem dX2_above_52 : decode cX2_above 52 = .ok (.invokestatic 187, 3) := by decide +kernel
theorem dX2_above_55 : decode cX2_above 55 = .ok (.dload 6, 2) := by decide +kernel
theorem dX2_above_57 : decode cX2_above 57 = .ok (.dload 12, 2) := by decide +kernel
theorem dX2_above_59 : decode cX2_above 59 = .ok (.invokestatic 187, 3) := by decide +kernel
theorem dX2_above_62 : decode cX2_above 62 = .ok (.dmul, 1) := by decide +kernel
theorem dX2_above_63 : decode cX2_above 63 = .ok (.dload 8, 2) := by decide +kernel
theorem dX2_above_65 : decode cX2_above 65 = .ok (.dload 12, 2) := by decide +kernel
theorem dX2_above_67 : decode cX2_above 67 = .ok (.invokestatic 192, 3) := by decide +kernel
theorem dX2_above_70 : decode cX2_above 70 = .ok (.dmul, 1) := by decide +kernel
theorem dX2_above_71 : decode cX2_above 71 = .ok (.dadd, 1) := by decide +kernel
theorem dX2_above_72 : decode cX2_above 72 = .ok (.dmul, 1) := by decide +kernel
theorem dX2_above_73 : decode cX2_above 73 = .ok (.aload_n 0, 1) := by decide +kernel
theorem dX2_above_74 : decode cX2_above 74 = .ok (.getfield 180, 3) := by decide +kernel
theorem dX2_above_77 : decode cX2_above 77 = .ok (.invokestatic 192, 3) := by decide +kernel
theorem dX2_above_80 : decode cX2_above 80 = .ok (.dload 10, 2) := by decide +kernel
theorem dX2_above_82 : decode cX2_above 82 = .ok (.dmul, 1) := by decide +kernel
theorem dX2_above_83 : decode cX2_above 83 = .ok (.dadd, 1) := by decide +kernel
theorem dX2_above_84 : decode cX2_above 84 = .ok (.dreturn, 1) := by decide +kernel
set_option maxRecDepth 20000 in
theorem ggX2_bar_X2_noBody : GoodIn wsX2_bar wsX2_noBody := goodIn_r _ [7, 8, 12, 13, 14, 15, 16, 17, 18, 19, 20, 21, 22, 23, 24] (by decide +kernel) (by decide +kernel)
set_option maxRecDepth 20000 in
theorem gX2_bar_X2_noBody : GoodIn wsX2_bar (wsV RX2 166 RX2 yX2_noBody wsX2_noBody) := goodIn_app (goodIn_of _ (by decide +kernel)) ggX2_bar_X2_noBody
set_option maxRecDepth 20000 in
theorem ggX2_bar_X2_within : GoodIn wsX2_bar wsX2_within := goodIn_r _ [11] (by decide +kernel) (by decide +kernel)
set_option maxRecDepth 20000 in
theorem gX2_bar_X2_within : GoodIn wsX2_bar (va_wsS RX2 156 yX2_within wsX2_within) := goodIn_app (goodIn_of _ (by decide +kernel)) ggX2_bar_X2_within
theorem dX2_bar_0 : decode cX2_bar 0 = .ok (.aload_n 0, 1) := by decide +kernel
theorem dX2_bar_1 : decode cX2_bar 1 = .ok (.iload_n 1, 1) := by decide +kernel
theorem dX2_bar_2 : decode cX2_bar 2 = .ok (.invokevirtual 166, 3) := by decide +kernel
theorem dX2_bar_5 : decode cX2_bar 5 = .ok (.ifCond .eq 7, 3) := by decide +kernel
theorem dX2_bar_8 : decode cX2_bar 8 = .ok (.iconst 1, 1) := by decide +kernel
theorem dX2_bar_9 : decode cX2_bar 9 = .ok (.goto 21, 3) := by decide +kernel
theorem dX2_bar_12 : decode cX2_bar 12 = .ok (.dload_n 2, 1) := by decide +kernel
theorem dX2_bar_13 : decode cX2_bar 13 = .ok (.ldc2_w 228, 3) := by decide +kernel
theorem dX2_bar_16 : decode cX2_bar 16 = .ok (.ldc2_w 230, 3) := by decide +kernel
theorem dX2_bar_19 : decode cX2_bar 19 = .ok (.invokestatic 156, 3) := by decide +kernel
theorem dX2_bar_22 : decode cX2_bar 22 = .ok (.ifCond .eq 7, 3) := by decide +kernel
theorem dX2_bar_25 : decode cX2_bar 25 = .ok (.iconst 0, 1) := by decide +kernel
theorem dX2_bar_26 : decode cX2_bar 26 = .ok (.goto 4, 3) := by decide +kernel
theorem dX2_bar_29 : decode cX2_bar 29 = .ok (.iconst 2, 1) := by decide +kernel
theorem dX2_bar_30 : decode cX2_bar 30 = .ok (.ireturn, 1) := by decide +kernel
set_option maxRecDepth 20000 in
theorem ggX2_longitude_X2_bar : GoodIn wsX2_longitude wsX2_bar := goodIn_r _ [7, 8, 9, 10, 11, 12, 6, 13, 14, 15, 16, 17, 64, 65, 66, 67, 68, 69, 70, 71, 72, 73, 74, 75, 76] (by decide +kernel) (by decide +kernel)
set_option maxRecDepth 20000 in
theorem gX2_longitude_X2_bar : GoodIn wsX2_longitude (wsV RX2 232 RX2 yX2_bar wsX2_bar) := goodIn_app (goodIn_of _ (by decide +kernel)) ggX2_longitude_X2_bar
set_option maxRecDepth 20000 in
theorem ggX2_longitude_X2_along : GoodIn wsX2_longitude wsX2_along := goodIn_r _ [21, 22, 23, 24, 25, 26, 2, 27, 28, 29, 30, 31, 32, 6, 33, 34, 35, 36, 37, 38, 39, 40, 41, 42, 43, 44, 45, 46, 47, 48, 49, 50, 51, 52, 53, 54, 55, 56, 57, 58, 59, 60, 61, 62, 63, 64, 65, 66, 67, 68, 69, 70, 71, 72, 73, 74, 75, 76] (by decide +kernel) (by decide +kernel)
set_option maxRecDepth 20000 in
theorem gX2_longitude_X2_along : GoodIn wsX2_longitude (wsV RX2 217 RX2 yX2_along wsX2_along) := goodIn_app (goodIn_of _ (by decide +kernel)) ggX2_longitude_X2_along
theorem dX2_longitude_0 : decode cX2_longitude 0 = .ok (.aload_n 0, 1) := by decide +kernel
theorem dX2_longitude_1 : decode cX2_longitude 1 = .ok (.aload_n 0, 1) := by decide +kernel
theorem dX2_longitude_2 : decode cX2_longitude 2 = .ok (.iload_n 1, 1) := by decide +kernel
theorem dX2_longitude_3 : decode cX2_longitude 3 = .ok (.dload_n 2, 1) := by decide +kernel
theorem dX2_longitude_4 : decode cX2_longitude 4 = .ok (.invokevirtual 232, 3) := by decide +kernel
theorem dX2_longitude_7 : decode cX2_longitude 7 = .ok (.putfield 30, 3) := by decide +kernel
theorem dX2_longitude_10 : decode cX2_longitude 10 = .ok (.aload_n 0, 1) := by decide +kernel
theorem dX2_longitude_11 : decode cX2_longitude 11 = .ok (.getfield 30, 3) := by decide +kernel
theorem dX2_longitude_14 : decode cX2_longitude 14 = .ok (.ifCond .le 5, 3) := by decide +kernel
theorem dX2_longitude_17 : decode cX2_longitude 17 = .ok (.dconst 0, 1) := by decide +kernel
theorem dX2_longitude_18 : decode cX2_longitude 18 = .ok (.dreturn, 1) := by decide +kernel
theorem dX2_longitude_19 : decode cX2_longitude 19 = .ok (.aload_n 0, 1) := by decide +kernel
theorem dX2_longitude_20 : decode cX2_longitude 20 = .ok (.iload_n 1, 1) := by decide +kernel
theorem dX2_longitude_21 : decode cX2_longitude 21 = .ok (.dload_n 2, 1) := by decide +kernel
theorem dX2_longitude_22 : decode cX2_longitude 22 = .ok (.invokevirtual 217, 3) := by decide +kernel
theorem dX2_longitude_25 : decode cX2_longitude 25 = .ok (.dstore 4, 2) := by decide +kernel
theorem dX2_longitude_27 : decode cX2_longitude 27 = .ok (.aload_n 0, 1) := by decide +kernel
theorem dX2_longitude_28 : decode cX2_longitude 28 = .ok (.aload_n 0, 1) := by decide +kernel
theorem dX2_longitude_29 : decode cX2_longitude 29 = .ok (.getfield 202, 3) := by decide +kernel
theorem dX2_longitude_32 : decode cX2_longitude 32 = .ok (.ifCond .eq 7, 3) := by decide +kernel
theorem dX2_longitude_35 : decode cX2_longitude 35 = .ok (.iconst 3, 1) := by decide +kernel
theorem dX2_longitude_36 : decode cX2_longitude 36 = .ok (.goto 4, 3) := by decide +kernel
theorem dX2_longitude_39 : decode cX2_longitude 39 = .ok (.iconst 0, 1) := by decide +kernel
theorem dX2_longitude_40 : decode cX2_longitude 40 = .ok (.putfield 30, 3) := by decide +kernel
theorem dX2_longitude_43 : decode cX2_longitude 43 = .ok (.dload 4, 2) := by decide +kernel
theorem dX2_longitude_45 : decode cX2_longitude 45 = .ok (.dreturn, 1) := by decide +kernel
set_option maxRecDepth 20000 in
theorem ggX2_height_X2_bar : GoodIn wsX2_height wsX2_bar := goodIn_r _ [7, 8, 9, 10, 11, 12, 6, 13, 14, 15, 16, 17, 77, 78, 79, 80, 81, 82, 83, 84, 85, 86, 87, 88, 89] (by decide +kernel) (by decide +kernel)
set_option maxRecDepth 20000 in
theorem gX2_height_X2_bar : GoodIn wsX2_height (wsV RX2 232 RX2 yX2_bar wsX2_bar) := goodIn_app (goodIn_of _ (by decide +kernel)) ggX2_height_X2_bar
set_option maxRecDepth 20000 in
theorem ggX2_height_X2_above : GoodIn wsX2_height wsX2_above := goodIn_r _ [21, 22, 23, 24, 25, 26, 27, 28, 6, 29, 30, 31, 32, 33, 34, 2, 35, 36, 37, 38, 39, 40, 41, 42, 43, 44, 45, 46, 47, 48, 49, 50, 51, 52, 53, 54, 55, 56, 57, 58, 59, 60, 61, 62, 63, 64, 65, 66, 67, 68, 69, 70, 71, 72, 73, 74, 75, 76, 77, 78, 79, 80, 81, 82, 83, 84, 85, 86, 87, 88, 89] (by decide +kernel) (by decide +kernel)
set_option maxRecDepth 20000 in
theorem gX2_height_X2_above : GoodIn wsX2_height (wsV RX2 236 RX2 yX2_above wsX2_above) := goodIn_app (goodIn_of _ (by decide +kernel)) ggX2_height_X2_above
theorem dX2_height_0 : decode cX2_height 0 = .ok (.aload_n 0, 1) := by decide +kernel
theorem dX2_height_1 : decode cX2_height 1 = .ok (.aload_n 0, 1) := by decide +kernel
theorem dX2_height_2 : decode cX2_height 2 = .ok (.iload_n 1, 1) := by decide +kernel
theorem dX2_height_3 : decode cX2_height 3 = .ok (.dload_n 2, 1) := by decide +kernel
theorem dX2_height_4 : decode cX2_height 4 = .ok (.invokevirtual 232, 3) := by decide +kernel
theorem dX2_height_7 : decode cX2_height 7 = .ok (.putfield 30, 3) := by decide +kernel
theorem dX2_height_10 : decode cX2_height 10 = .ok (.aload_n 0, 1) := by decide +kernel
theorem dX2_height_11 : decode cX2_height 11 = .ok (.getfield 30, 3) := by decide +kernel
theorem dX2_height_14 : decode cX2_height 14 = .ok (.ifCond .le 5, 3) := by decide +kernel
theorem dX2_height_17 : decode cX2_height 17 = .ok (.dconst 0, 1) := by decide +kernel
theorem dX2_height_18 : decode cX2_height 18 = .ok (.dreturn, 1) := by decide +kernel
theorem dX2_height_19 : decode cX2_height 19 = .ok (.aload_n 0, 1) := by decide +kernel
theorem dX2_height_20 : decode cX2_height 20 = .ok (.iload_n 1, 1) := by decide +kernel
theorem dX2_height_21 : decode cX2_height 21 = .ok (.dload_n 2, 1) := by decide +kernel
theorem dX2_height_22 : decode cX2_height 22 = .ok (.invokevirtual 236, 3) := by decide +kernel
theorem dX2_height_25 : decode cX2_height 25 = .ok (.dstore 4, 2) := by decide +kernel
theorem dX2_height_27 : decode cX2_height 27 = .ok (.aload_n 0, 1) := by decide +kernel
theorem dX2_height_28 : decode cX2_height 28 = .ok (.aload_n 0, 1) := by decide +kernel
theorem dX2_height_29 : decode cX2_height 29 = .ok (.getfield 202, 3) := by decide +kernel
theorem dX2_height_32 : decode cX2_height 32 = .ok (.ifCond .eq 7, 3) := by decide +kernel
theorem dX2_height_35 : decode cX2_height 35 = .ok (.iconst 3, 1) := by decide +kernel
theorem dX2_height_36 : decode cX2_height 36 = .ok (.goto 4, 3) := by decide +kernel
theorem dX2_height_39 : decode cX2_height 39 = .ok (.iconst 0, 1) := by decide +kernel
theorem dX2_height_40 : decode cX2_height 40 = .ok (.putfield 30, 3) := by decide +kernel
theorem dX2_height_43 : decode cX2_height 43 = .ok (.dload 4, 2) := by decide +kernel
theorem dX2_height_45 : decode cX2_height 45 = .ok (.dreturn, 1) := by decide +kernel
set_option maxRecDepth 20000 in
theorem ggX2_crossing_X2_above : GoodIn wsX2_crossing wsX2_above := goodIn_r _ [7, 8, 9, 10, 11, 12, 13, 14, 6, 15, 16, 17, 18, 19, 20, 2, 21, 22, 1, 23, 24, 25, 26, 27, 28, 29, 30, 31, 32, 33, 34, 35, 36, 37, 38, 39, 40, 41, 42, 43, 44, 45, 46, 47, 48, 49, 50, 51, 52, 53, 54, 55, 56, 57, 58, 59, 60, 61, 62, 63, 64, 65, 66, 67, 68, 69, 70, 71, 72, 73, 74] (by decide +kernel) (by decide +kernel)
set_option maxRecDepth 20000 in
theorem gX2_crossing_X2_above : GoodIn wsX2_crossing (wsV RX2 236 RX2 yX2_above wsX2_above) := goodIn_app (goodIn_of _ (by decide +kernel)) ggX2_crossing_X2_above
theorem dX2_crossing_0 : decode cX2_crossing 0 = .ok (.dload_n 2, 1) := by decide +kernel
theorem dX2_crossing_1 : decode cX2_crossing 1 = .ok (.dstore 7, 2) := by decide +kernel
theorem dX2_crossing_3 : decode cX2_crossing 3 = .ok (.dload 4, 2) := by decide +kernel
theorem dX2_crossing_5 : decode cX2_crossing 5 = .ok (.dstore 9, 2) := by decide +kernel
theorem dX2_crossing_7 : decode cX2_crossing 7 = .ok (.iconst 0, 1) := by decide +kernel
theorem dX2_crossing_8 : decode cX2_crossing 8 = .ok (.istore 11, 2) := by decide +kernel
theorem dX2_crossing_10 : decode cX2_crossing 10 = .ok (.iload 11, 2) := by decide +kernel
theorem dX2_crossing_12 : decode cX2_crossing 12 = .ok (.bipush 20, 2) := by decide +kernel
theorem dX2_crossing_14 : decode cX2_crossing 14 = .ok (.if_icmp .ge 90, 3) := by decide +kernel
theorem dX2_crossing_17 : decode cX2_crossing 17 = .ok (.dload 7, 2) := by decide +kernel
theorem dX2_crossing_19 : decode cX2_crossing 19 = .ok (.dload 9, 2) := by decide +kernel
theorem dX2_crossing_21 : decode cX2_crossing 21 = .ok (.dadd, 1) := by decide +kernel
theorem dX2_crossing_22 : decode cX2_crossing 22 = .ok (.ldc2_w 209, 3) := by decide +kernel
theorem dX2_crossing_25 : decode cX2_crossing 25 = .ok (.ddiv, 1) := by decide +kernel
theorem dX2_crossing_26 : decode cX2_crossing 26 = .ok (.dstore 12, 2) := by decide +kernel
theorem dX2_crossing_28 : decode cX2_crossing 28 = .ok (.aload_n 0, 1) := by decide +kernel
theorem dX2_crossing_29 : decode cX2_crossing 29 = .ok (.iload_n 1, 1) := by decide +kernel
theorem dX2_crossing_30 : decode cX2_crossing 30 = .ok (.dload 12, 2) := by decide +kernel
theorem dX2_crossing_32 : decode cX2_crossing 32 = .ok (.invokevirtual 236, 3) := by decide +kernel
theorem dX2_crossing_35 : decode cX2_crossing 35 = .ok (.dstore 14, 2) := by decide +kernel
theorem dX2_crossing_37 : decode cX2_crossing 37 = .ok (.aload_n 0, 1) := by decide +kernel
theorem dX2_crossing_38 : decode cX2_crossing 38 = .ok (.getfield 202, 3) := by decide +kernel
theorem dX2_crossing_41 : decode cX2_crossing 41 = .ok (.ifCond .eq 5, 3) := by decide +kernel
theorem dX2_crossing_44 : decode cX2_crossing 44 = .ok (.dconst 0, 1) := by decide +kernel
theorem dX2_crossing_45 : decode cX2_crossing 45 = .ok (.dreturn, 1) := by decide +kernel
theorem dX2_crossing_46 : decode cX2_crossing 46 = .ok (.dload 14, 2) := by decide +kernel
theorem dX2_crossing_48 : decode cX2_crossing 48 = .ok (.dconst 0, 1) := by decide +kernel
theorem dX2_crossing_49 : decode cX2_crossing 49 = .ok (.dcmp .l, 1) := by decide +kernel
theorem dX2_crossing_50 : decode cX2_crossing 50 = .ok (.ifCond .lt 7, 3) := by decide +kernel
theorem dX2_crossing_53 : decode cX2_crossing 53 = .ok (.iconst 1, 1) := by decide +kernel
theorem dX2_crossing_54 : decode cX2_crossing 54 = .ok (.goto 4, 3) := by decide +kernel
theorem dX2_crossing_57 : decode cX2_crossing 57 = .ok (.iconst 0, 1) := by decide +kernel
theorem dX2_crossing_58 : decode cX2_crossing 58 = .ok (.iload 6, 2) := by decide +kernel
theorem dX2_crossing_60 : decode cX2_crossing 60 = .ok (.if_icmp .ne 7, 3) := by decide +kernel
theorem dX2_crossing_63 : decode cX2_crossing 63 = .ok (.iconst 1, 1) := by decide +kernel
theorem dX2_crossing_64 : decode cX2_crossing 64 = .ok (.goto 4, 3) := by decide +kernel
theorem dX2_crossing_67 : decode cX2_crossing 67 = .ok (.iconst 0, 1) := by decide +kernel
theorem dX2_crossing_68 : decode cX2_crossing 68 = .ok (.istore 16, 2) := by decide +kernel
theorem dX2_crossing_70 : decode cX2_crossing 70 = .ok (.iload 16, 2) := by decide +kernel
theorem dX2_crossing_72 : decode cX2_crossing 72 = .ok (.ifCond .eq 8, 3) := by decide +kernel
theorem dX2_crossing_75 : decode cX2_crossing 75 = .ok (.dload 12, 2) := by decide +kernel
theorem dX2_crossing_77 : decode cX2_crossing 77 = .ok (.goto 5, 3) := by decide +kernel
theorem dX2_crossing_80 : decode cX2_crossing 80 = .ok (.dload 9, 2) := by decide +kernel
theorem dX2_crossing_82 : decode cX2_crossing 82 = .ok (.dstore 9, 2) := by decide +kernel
theorem dX2_crossing_84 : decode cX2_crossing 84 = .ok (.iload 16, 2) := by decide +kernel
theorem dX2_crossing_86 : decode cX2_crossing 86 = .ok (.ifCond .eq 8, 3) := by decide +kernel
theorem dX2_crossing_89 : decode cX2_crossing 89 = .ok (.dload 7, 2) := by decide +kernel
theorem dX2_crossing_91 : decode cX2_crossing 91 = .ok (.goto 5, 3) := by decide +kernel
theorem dX2_crossing_94 : decode cX2_crossing 94 = .ok (.dload 12, 2) := by decide +kernel
theorem dX2_crossing_96 : decode cX2_crossing 96 = .ok (.dstore 7, 2) := by decide +kernel
theorem dX2_crossing_98 : decode cX2_crossing 98 = .ok (.iinc 11 1, 3) := by decide +kernel
theorem dX2_crossing_101 : decode cX2_crossing 101 = .ok (.goto (-91), 3) := by decide +kernel
theorem dX2_crossing_104 : decode cX2_crossing 104 = .ok (.dload 9, 2) := by decide +kernel
theorem dX2_crossing_106 : decode cX2_crossing 106 = .ok (.dreturn, 1) := by decide +kernel
set_option maxRecDepth 20000 in
theorem ggX2_passes_X2_above : GoodIn wsX2_passes wsX2_above := goodIn_r _ [8, 9, 10, 11, 12, 13, 14, 15, 7, 16, 17, 18, 19, 20, 21, 1, 22, 23, 24, 25, 26, 27, 28, 29, 30, 31, 32, 33, 34, 35, 36, 37, 38, 39, 40, 41, 42, 43, 44, 45, 46, 47, 48, 49, 50, 51, 52, 53, 54, 55, 56, 57, 58, 59, 60, 61, 62, 63, 72, 73, 74, 75, 76, 77, 78, 79, 80, 81, 82, 83, 84] (by decide +kernel) (by decide +kernel)
set_option maxRecDepth 20000 in
theorem gX2_passes_X2_above : GoodIn wsX2_passes (wsV RX2 236 RX2 yX2_above wsX2_above) := goodIn_app (goodIn_of _ (by decide +kernel)) ggX2_passes_X2_above
set_option maxRecDepth 20000 in
theorem ggX2_passes_X2_crossing : GoodIn wsX2_passes wsX2_crossing := goodIn_r _ [67, 24, 1, 4, 5, 6, 7, 8, 9, 10, 11, 12, 13, 14, 15, 16, 17, 18, 19, 20, 21, 22, 23, 25, 26, 27, 28, 29, 30, 31, 32, 33, 34, 35, 36, 37, 38, 39, 40, 41, 42, 43, 44, 45, 46, 47, 48, 49, 50, 51, 52, 53, 54, 55, 56, 57, 58, 59, 60, 61, 62, 63, 72, 73, 74, 75, 76, 77, 78, 79, 80, 81, 82, 83, 84] (by decide +kernel) (by decide +kernel)
set_option maxRecDepth 20000 in
theorem gX2_passes_X2_crossing : GoodIn wsX2_passes (wsV RX2 241 RX2 yX2_crossing wsX2_crossing) := goodIn_app (goodIn_of _ (by decide +kernel)) ggX2_passes_X2_crossing
set_option maxRecDepth 20000 in
theorem ggX2_passes_X2_fail : GoodIn wsX2_passes wsX2_fail := goodIn_r _ [71, 3, 72, 73, 74, 75, 76, 77, 78, 79, 80, 81, 82, 83, 84] (by decide +kernel) (by decide +kernel)
set_option maxRecDepth 20000 in
theorem gX2_passes_X2_fail : GoodIn wsX2_passes (wsV RX2 77 RX2 yX2_fail wsX2_fail) := goodIn_app (goodIn_of _ (by decide +kernel)) ggX2_passes_X2_fail
theorem dX2_passes_0 : decode cX2_passes 0 = .ok (.aload_n 0, 1) := by decide +kernel
theorem dX2_passes_1 : decode cX2_passes 1 = .ok (.iload_n 1, 1) := by decide +kernel
theorem dX2_passes_2 : decode cX2_passes 2 = .ok (.dload_n 2, 1) := by decide +kernel
theorem dX2_passes_3 : decode cX2_passes 3 = .ok (.dconst 0, 1) := by decide +kernel
theorem dX2_passes_4 : decode cX2_passes 4 = .ok (.dadd, 1) := by decide +kernel
theorem dX2_passes_5 : decode cX2_passes 5 = .ok (.invokevirtual 236, 3) := by decide +kernel
theorem dX2_passes_8 : decode cX2_passes 8 = .ok (.dstore 5, 2) := by decide +kernel
theorem dX2_passes_10 : decode cX2_passes 10 = .ok (.iconst 1, 1) := by decide +kernel
theorem dX2_passes_11 : decode cX2_passes 11 = .ok (.istore 7, 2) := by decide +kernel
theorem dX2_passes_13 : decode cX2_passes 13 = .ok (.iload 7, 2) := by decide +kernel
theorem dX2_passes_15 : decode cX2_passes 15 = .ok (.bipush 16, 2) := by decide +kernel
theorem dX2_passes_17 : decode cX2_passes 17 = .ok (.if_icmp .gt 125, 3) := by decide +kernel
theorem dX2_passes_20 : decode cX2_passes 20 = .ok (.aload_n 0, 1) := by decide +kernel
theorem dX2_passes_21 : decode cX2_passes 21 = .ok (.getfield 202, 3) := by decide +kernel
theorem dX2_passes_24 : decode cX2_passes 24 = .ok (.ifCond .ne 118, 3) := by decide +kernel
theorem dX2_passes_27 : decode cX2_passes 27 = .ok (.aload_n 0, 1) := by decide +kernel
theorem dX2_passes_28 : decode cX2_passes 28 = .ok (.iload_n 1, 1) := by decide +kernel
theorem dX2_passes_29 : decode cX2_passes 29 = .ok (.dload_n 2, 1) := by decide +kernel
theorem dX2_passes_30 : decode cX2_passes 30 = .ok (.iload 7, 2) := by decide +kernel
theorem dX2_passes_32 : decode cX2_passes 32 = .ok (.i2d, 1) := by decide +kernel
theorem dX2_passes_33 : decode cX2_passes 33 = .ok (.ldc2_w 239, 3) := by decide +kernel
theorem dX2_passes_36 : decode cX2_passes 36 = .ok (.ddiv, 1) := by decide +kernel
theorem dX2_passes_37 : decode cX2_passes 37 = .ok (.dadd, 1) := by decide +kernel
theorem dX2_passes_38 : decode cX2_passes 38 = .ok (.invokevirtual 236, 3) := by decide +kernel
theorem dX2_passes_41 : decode cX2_passes 41 = .ok (.dstore 8, 2) := by decide +kernel
theorem dX2_passes_43 : decode cX2_passes 43 = .ok (.aload_n 0, 1) := by decide +kernel
theorem dX2_passes_44 : decode cX2_passes 44 = .ok (.getfield 202, 3) := by decide +kernel
theorem dX2_passes_47 : decode cX2_passes 47 = .ok (.ifCond .ne 85, 3) := by decide +kernel
theorem dX2_passes_50 : decode cX2_passes 50 = .ok (.dload 8, 2) := by decide +kernel
theorem dX2_passes_52 : decode cX2_passes 52 = .ok (.dconst 0, 1) := by decide +kernel
theorem dX2_passes_53 : decode cX2_passes 53 = .ok (.dcmp .l, 1) := by decide +kernel
theorem dX2_passes_54 : decode cX2_passes 54 = .ok (.ifCond .lt 7, 3) := by decide +kernel
theorem dX2_passes_57 : decode cX2_passes 57 = .ok (.iconst 1, 1) := by decide +kernel
theorem dX2_passes_58 : decode cX2_passes 58 = .ok (.goto 4, 3) := by decide +kernel
theorem dX2_passes_61 : decode cX2_passes 61 = .ok (.iconst 0, 1) := by decide +kernel
theorem dX2_passes_62 : decode cX2_passes 62 = .ok (.iload 4, 2) := by decide +kernel
theorem dX2_passes_64 : decode cX2_passes 64 = .ok (.if_icmp .ne 68, 3) := by decide +kernel
theorem dX2_passes_67 : decode cX2_passes 67 = .ok (.dload 5, 2) := by decide +kernel
theorem dX2_passes_69 : decode cX2_passes 69 = .ok (.dconst 0, 1) := by decide +kernel
theorem dX2_passes_70 : decode cX2_passes 70 = .ok (.dcmp .l, 1) := by decide +kernel
theorem dX2_passes_71 : decode cX2_passes 71 = .ok (.ifCond .lt 7, 3) := by decide +kernel
theorem dX2_passes_74 : decode cX2_passes 74 = .ok (.iconst 1, 1) := by decide +kernel
theorem dX2_passes_75 : decode cX2_passes 75 = .ok (.goto 4, 3) := by decide +kernel
theorem dX2_passes_78 : decode cX2_passes 78 = .ok (.iconst 0, 1) := by decide +kernel
theorem dX2_passes_79 : decode cX2_passes 79 = .ok (.iload 4, 2) := by decide +kernel
theorem dX2_passes_81 : decode cX2_passes 81 = .ok (.if_icmp .eq 51, 3) := by decide +kernel
theorem dX2_passes_84 : decode cX2_passes 84 = .ok (.aload_n 0, 1) := by decide +kernel
theorem dX2_passes_85 : decode cX2_passes 85 = .ok (.iload_n 1, 1) := by decide +kernel
theorem dX2_passes_86 : decode cX2_passes 86 = .ok (.dload_n 2, 1) := by decide +kernel
theorem dX2_passes_87 : decode cX2_passes 87 = .ok (.iload 7, 2) := by decide +kernel
theorem dX2_passes_89 : decode cX2_passes 89 = .ok (.iconst 1, 1) := by decide +kernel
theorem dX2_passes_90 : decode cX2_passes 90 = .ok (.isub, 1) := by decide +kernel
theorem dX2_passes_91 : decode cX2_passes 91 = .ok (.i2d, 1) := by decide +kernel
theorem dX2_passes_92 : decode cX2_passes 92 = .ok (.ldc2_w 239, 3) := by decide +kernel
theorem dX2_passes_95 : decode cX2_passes 95 = .ok (.ddiv, 1) := by decide +kernel
theorem dX2_passes_96 : decode cX2_passes 96 = .ok (.dadd, 1) := by decide +kernel
theorem dX2_passes_97 : decode cX2_passes 97 = .ok (.dload_n 2, 1) := by decide +kernel
theorem dX2_passes_98 : decode cX2_passes 98 = .ok (.iload 7, 2) := by decide +kernel
theorem dX2_passes_100 : decode cX2_passes 100 = .ok (.i2d, 1) := by decide +kernel
theorem dX2_passes_101 : decode cX2_passes 101 = .ok (.ldc2_w 239, 3) := by decide +kernel
theorem dX2_passes_104 : decode cX2_passes 104 = .ok (.ddiv, 1) := by decide +kernel
theorem dX2_passes_105 : decode cX2_passes 105 = .ok (.dadd, 1) := by decide +kernel
theorem dX2_passes_106 : decode cX2_passes 106 = .ok (.iload 4, 2) := by decide +kernel
theorem dX2_passes_108 : decode cX2_passes 108 = .ok (.invokevirtual 241, 3) := by decide +kernel
theorem dX2_passes_111 : decode cX2_passes 111 = .ok (.dstore 10, 2) := by decide +kernel
theorem dX2_passes_113 : decode cX2_passes 113 = .ok (.aload_n 0, 1) := by decide +kernel
theorem dX2_passes_114 : decode cX2_passes 114 = .ok (.aload_n 0, 1) := by decide +kernel
theorem dX2_passes_115 : decode cX2_passes 115 = .ok (.getfield 202, 3) := by decide +kernel
theorem dX2_passes_118 : decode cX2_passes 118 = .ok (.ifCond .eq 7, 3) := by decide +kernel
theorem dX2_passes_121 : decode cX2_passes 121 = .ok (.iconst 3, 1) := by decide +kernel
theorem dX2_passes_122 : decode cX2_passes 122 = .ok (.goto 4, 3) := by decide +kernel
theorem dX2_passes_125 : decode cX2_passes 125 = .ok (.iconst 0, 1) := by decide +kernel
theorem dX2_passes_126 : decode cX2_passes 126 = .ok (.putfield 30, 3) := by decide +kernel
theorem dX2_passes_129 : decode cX2_passes 129 = .ok (.dload 10, 2) := by decide +kernel
theorem dX2_passes_131 : decode cX2_passes 131 = .ok (.dreturn, 1) := by decide +kernel
theorem dX2_passes_132 : decode cX2_passes 132 = .ok (.dload 8, 2) := by decide +kernel
theorem dX2_passes_134 : decode cX2_passes 134 = .ok (.dstore 5, 2) := by decide +kernel
theorem dX2_passes_136 : decode cX2_passes 136 = .ok (.iinc 7 1, 3) := by decide +kernel
theorem dX2_passes_139 : decode cX2_passes 139 = .ok (.goto (-126), 3) := by decide +kernel
theorem dX2_passes_142 : decode cX2_passes 142 = .ok (.aload_n 0, 1) := by decide +kernel
theorem dX2_passes_143 : decode cX2_passes 143 = .ok (.aload_n 0, 1) := by decide +kernel
theorem dX2_passes_144 : decode cX2_passes 144 = .ok (.getfield 202, 3) := by decide +kernel
theorem dX2_passes_147 : decode cX2_passes 147 = .ok (.ifCond .eq 7, 3) := by decide +kernel
theorem dX2_passes_150 : decode cX2_passes 150 = .ok (.iconst 3, 1) := by decide +kernel
theorem dX2_passes_151 : decode cX2_passes 151 = .ok (.goto 4, 3) := by decide +kernel
theorem dX2_passes_154 : decode cX2_passes 154 = .ok (.iconst 2, 1) := by decide +kernel
theorem dX2_passes_155 : decode cX2_passes 155 = .ok (.invokevirtual 77, 3) := by decide +kernel
theorem dX2_passes_158 : decode cX2_passes 158 = .ok (.i2d, 1) := by decide +kernel
theorem dX2_passes_159 : decode cX2_passes 159 = .ok (.dreturn, 1) := by decide +kernel
set_option maxRecDepth 20000 in
theorem ggX2_highest_X2_above : GoodIn wsX2_highest wsX2_above := goodIn_r _ [9, 10, 11, 12, 13, 14, 15, 16, 8, 17, 18, 19, 20, 21, 22, 1, 23, 24, 4, 25, 26, 27, 28, 29, 30, 31, 32, 33, 34, 35, 36, 37, 38, 39, 40, 41, 42, 43, 44, 45, 46, 47, 48, 49, 50, 51, 52, 53, 54, 55, 56, 57, 58, 59, 60, 61, 62, 63, 69, 70, 71, 72, 73, 74, 75, 76, 77, 78, 79, 80, 81] (by decide +kernel) (by decide +kernel)
set_option maxRecDepth 20000 in
theorem gX2_highest_X2_above : GoodIn wsX2_highest (wsV RX2 236 RX2 yX2_above wsX2_above) := goodIn_app (goodIn_of _ (by decide +kernel)) ggX2_highest_X2_above
set_option maxRecDepth 20000 in
theorem ggX2_highest_X2_fail : GoodIn wsX2_highest wsX2_fail := goodIn_r _ [67, 68, 69, 70, 71, 72, 73, 74, 75, 76, 77, 78, 79, 80, 81] (by decide +kernel) (by decide +kernel)
set_option maxRecDepth 20000 in
theorem gX2_highest_X2_fail : GoodIn wsX2_highest (wsV RX2 77 RX2 yX2_fail wsX2_fail) := goodIn_app (goodIn_of _ (by decide +kernel)) ggX2_highest_X2_fail
theorem dX2_highest_0 : decode cX2_highest 0 = .ok (.iconst 0, 1) := by decide +kernel
theorem dX2_highest_1 : decode cX2_highest 1 = .ok (.istore 4, 2) := by decide +kernel
theorem dX2_highest_3 : decode cX2_highest 3 = .ok (.dconst 0, 1) := by decide +kernel
theorem dX2_highest_4 : decode cX2_highest 4 = .ok (.dstore 5, 2) := by decide +kernel
theorem dX2_highest_6 : decode cX2_highest 6 = .ok (.aload_n 0, 1) := by decide +kernel
theorem dX2_highest_7 : decode cX2_highest 7 = .ok (.iconst 0, 1) := by decide +kernel
theorem dX2_highest_8 : decode cX2_highest 8 = .ok (.putfield 202, 3) := by decide +kernel
theorem dX2_highest_11 : decode cX2_highest 11 = .ok (.iconst 1, 1) := by decide +kernel
theorem dX2_highest_12 : decode cX2_highest 12 = .ok (.istore 7, 2) := by decide +kernel
theorem dX2_highest_14 : decode cX2_highest 14 = .ok (.iload 7, 2) := by decide +kernel
theorem dX2_highest_16 : decode cX2_highest 16 = .ok (.bipush 15, 2) := by decide +kernel
theorem dX2_highest_18 : decode cX2_highest 18 = .ok (.if_icmp .gt 80, 3) := by decide +kernel
theorem dX2_highest_21 : decode cX2_highest 21 = .ok (.aload_n 0, 1) := by decide +kernel
theorem dX2_highest_22 : decode cX2_highest 22 = .ok (.getfield 202, 3) := by decide +kernel
theorem dX2_highest_25 : decode cX2_highest 25 = .ok (.ifCond .ne 73, 3) := by decide +kernel
theorem dX2_highest_28 : decode cX2_highest 28 = .ok (.aload_n 0, 1) := by decide +kernel
theorem dX2_highest_29 : decode cX2_highest 29 = .ok (.iload_n 1, 1) := by decide +kernel
theorem dX2_highest_30 : decode cX2_highest 30 = .ok (.dload_n 2, 1) := by decide +kernel
theorem dX2_highest_31 : decode cX2_highest 31 = .ok (.iload 7, 2) := by decide +kernel
theorem dX2_highest_33 : decode cX2_highest 33 = .ok (.i2d, 1) := by decide +kernel
theorem dX2_highest_34 : decode cX2_highest 34 = .ok (.ldc2_w 239, 3) := by decide +kernel
theorem dX2_highest_37 : decode cX2_highest 37 = .ok (.ddiv, 1) := by decide +kernel
theorem dX2_highest_38 : decode cX2_highest 38 = .ok (.dadd, 1) := by decide +kernel
theorem dX2_highest_39 : decode cX2_highest 39 = .ok (.invokevirtual 236, 3) := by decide +kernel
theorem dX2_highest_42 : decode cX2_highest 42 = .ok (.dstore 8, 2) := by decide +kernel
theorem dX2_highest_44 : decode cX2_highest 44 = .ok (.iload 4, 2) := by decide +kernel
theorem dX2_highest_46 : decode cX2_highest 46 = .ok (.ifCond .eq 11, 3) := by decide +kernel
theorem dX2_highest_49 : decode cX2_highest 49 = .ok (.dload 8, 2) := by decide +kernel
theorem dX2_highest_51 : decode cX2_highest 51 = .ok (.dload 5, 2) := by decide +kernel
theorem dX2_highest_53 : decode cX2_highest 53 = .ok (.dcmp .l, 1) := by decide +kernel
theorem dX2_highest_54 : decode cX2_highest 54 = .ok (.ifCond .le 7, 3) := by decide +kernel
theorem dX2_highest_57 : decode cX2_highest 57 = .ok (.iconst 1, 1) := by decide +kernel
theorem dX2_highest_58 : decode cX2_highest 58 = .ok (.goto 4, 3) := by decide +kernel
theorem dX2_highest_61 : decode cX2_highest 61 = .ok (.iconst 0, 1) := by decide +kernel
theorem dX2_highest_62 : decode cX2_highest 62 = .ok (.istore 10, 2) := by decide +kernel
theorem dX2_highest_64 : decode cX2_highest 64 = .ok (.iload 10, 2) := by decide +kernel
theorem dX2_highest_66 : decode cX2_highest 66 = .ok (.ifCond .eq 8, 3) := by decide +kernel
theorem dX2_highest_69 : decode cX2_highest 69 = .ok (.iload 7, 2) := by decide +kernel
theorem dX2_highest_71 : decode cX2_highest 71 = .ok (.goto 5, 3) := by decide +kernel
theorem dX2_highest_74 : decode cX2_highest 74 = .ok (.iload 4, 2) := by decide +kernel
theorem dX2_highest_76 : decode cX2_highest 76 = .ok (.istore 4, 2) := by decide +kernel
theorem dX2_highest_78 : decode cX2_highest 78 = .ok (.iload 10, 2) := by decide +kernel
theorem dX2_highest_80 : decode cX2_highest 80 = .ok (.ifCond .eq 8, 3) := by decide +kernel
theorem dX2_highest_83 : decode cX2_highest 83 = .ok (.dload 8, 2) := by decide +kernel
theorem dX2_highest_85 : decode cX2_highest 85 = .ok (.goto 5, 3) := by decide +kernel
theorem dX2_highest_88 : decode cX2_highest 88 = .ok (.dload 5, 2) := by decide +kernel
theorem dX2_highest_90 : decode cX2_highest 90 = .ok (.dstore 5, 2) := by decide +kernel
theorem dX2_highest_92 : decode cX2_highest 92 = .ok (.iinc 7 1, 3) := by decide +kernel
theorem dX2_highest_95 : decode cX2_highest 95 = .ok (.goto (-81), 3) := by decide +kernel
theorem dX2_highest_98 : decode cX2_highest 98 = .ok (.dload_n 2, 1) := by decide +kernel
theorem dX2_highest_99 : decode cX2_highest 99 = .ok (.iload 4, 2) := by decide +kernel
theorem dX2_highest_101 : decode cX2_highest 101 = .ok (.iconst 1, 1) := by decide +kernel
theorem dX2_highest_102 : decode cX2_highest 102 = .ok (.isub, 1) := by decide +kernel
theorem dX2_highest_103 : decode cX2_highest 103 = .ok (.i2d, 1) := by decide +kernel
theorem dX2_highest_104 : decode cX2_highest 104 = .ok (.ldc2_w 239, 3) := by decide +kernel
theorem dX2_highest_107 : decode cX2_highest 107 = .ok (.ddiv, 1) := by decide +kernel
theorem dX2_highest_108 : decode cX2_highest 108 = .ok (.dadd, 1) := by decide +kernel
theorem dX2_highest_109 : decode cX2_highest 109 = .ok (.dstore 7, 2) := by decide +kernel
theorem dX2_highest_111 : decode cX2_highest 111 = .ok (.dload_n 2, 1) := by decide +kernel
theorem dX2_highest_112 : decode cX2_highest 112 = .ok (.iload 4, 2) := by decide +kernel
theorem dX2_highest_114 : decode cX2_highest 114 = .ok (.iconst 1, 1) := by decide +kernel
theorem dX2_highest_115 : decode cX2_highest 115 = .ok (.iadd, 1) := by decide +kernel
theorem dX2_highest_116 : decode cX2_highest 116 = .ok (.i2d, 1) := by decide +kernel
theorem dX2_highest_117 : decode cX2_highest 117 = .ok (.ldc2_w 239, 3) := by decide +kernel
theorem dX2_highest_120 : decode cX2_highest 120 = .ok (.ddiv, 1) := by decide +kernel
theorem dX2_highest_121 : decode cX2_highest 121 = .ok (.dadd, 1) := by decide +kernel
theorem dX2_highest_122 : decode cX2_highest 122 = .ok (.dstore 9, 2) := by decide +kernel
theorem dX2_highest_124 : decode cX2_highest 124 = .ok (.iconst 0, 1) := by decide +kernel
theorem dX2_highest_125 : decode cX2_highest 125 = .ok (.istore 11, 2) := by decide +kernel
theorem dX2_highest_127 : decode cX2_highest 127 = .ok (.iload 11, 2) := by decide +kernel
theorem dX2_highest_129 : decode cX2_highest 129 = .ok (.bipush 24, 2) := by decide +kernel
theorem dX2_highest_131 : decode cX2_highest 131 = .ok (.if_icmp .ge 116, 3) := by decide +kernel
theorem dX2_highest_134 : decode cX2_highest 134 = .ok (.aload_n 0, 1) := by decide +kernel
theorem dX2_highest_135 : decode cX2_highest 135 = .ok (.getfield 202, 3) := by decide +kernel
theorem dX2_highest_138 : decode cX2_highest 138 = .ok (.ifCond .ne 109, 3) := by decide +kernel
theorem dX2_highest_141 : decode cX2_highest 141 = .ok (.dload 7, 2) := by decide +kernel
theorem dX2_highest_143 : decode cX2_highest 143 = .ok (.dload 9, 2) := by decide +kernel
theorem dX2_highest_145 : decode cX2_highest 145 = .ok (.dload 7, 2) := by decide +kernel
theorem dX2_highest_147 : decode cX2_highest 147 = .ok (.dsub, 1) := by decide +kernel
theorem dX2_highest_148 : decode cX2_highest 148 = .ok (.ldc2_w 245, 3) := by decide +kernel
theorem dX2_highest_151 : decode cX2_highest 151 = .ok (.ddiv, 1) := by decide +kernel
theorem dX2_highest_152 : decode cX2_highest 152 = .ok (.dadd, 1) := by decide +kernel
theorem dX2_highest_153 : decode cX2_highest 153 = .ok (.dstore 12, 2) := by decide +kernel
theorem dX2_highest_155 : decode cX2_highest 155 = .ok (.dload 9, 2) := by decide +kernel
theorem dX2_highest_157 : decode cX2_highest 157 = .ok (.dload 9, 2) := by decide +kernel
theorem dX2_highest_159 : decode cX2_highest 159 = .ok (.dload 7, 2) := by decide +kernel
theorem dX2_highest_161 : decode cX2_highest 161 = .ok (.dsub, 1) := by decide +kernel
theorem dX2_highest_162 : decode cX2_highest 162 = .ok (.ldc2_w 245, 3) := by decide +kernel
theorem dX2_highest_165 : decode cX2_highest 165 = .ok (.ddiv, 1) := by decide +kernel
theorem dX2_highest_166 : decode cX2_highest 166 = .ok (.dsub, 1) := by decide +kernel
theorem dX2_highest_167 : decode cX2_highest 167 = .ok (.dstore 14, 2) := by decide +kernel
theorem dX2_highest_169 : decode cX2_highest 169 = .ok (.aload_n 0, 1) := by decide +kernel
theorem dX2_highest_170 : decode cX2_highest 170 = .ok (.iload_n 1, 1) := by decide +kernel
theorem dX2_highest_171 : decode cX2_highest 171 = .ok (.dload 12, 2) := by decide +kernel
theorem dX2_highest_173 : decode cX2_highest 173 = .ok (.invokevirtual 236, 3) := by decide +kernel
theorem dX2_highest_176 : decode cX2_highest 176 = .ok (.dstore 16, 2) := by decide +kernel
theorem dX2_highest_178 : decode cX2_highest 178 = .ok (.aload_n 0, 1) := by decide +kernel
theorem dX2_highest_179 : decode cX2_highest 179 = .ok (.getfield 202, 3) := by decide +kernel
theorem dX2_highest_182 : decode cX2_highest 182 = .ok (.ifCond .eq 7, 3) := by decide +kernel
theorem dX2_highest_185 : decode cX2_highest 185 = .ok (.dconst 0, 1) := by decide +kernel
theorem dX2_highest_186 : decode cX2_highest 186 = .ok (.goto 10, 3) := by decide +kernel
theorem dX2_highest_189 : decode cX2_highest 189 = .ok (.aload_n 0, 1) := by decide +kernel
theorem dX2_highest_190 : decode cX2_highest 190 = .ok (.iload_n 1, 1) := by decide +kernel
theorem dX2_highest_191 : decode cX2_highest 191 = .ok (.dload 14, 2) := by decide +kernel
theorem dX2_highest_193 : decode cX2_highest 193 = .ok (.invokevirtual 236, 3) := by decide +kernel
theorem dX2_highest_196 : decode cX2_highest 196 = .ok (.dstore 18, 2) := by decide +kernel
theorem dX2_highest_198 : decode cX2_highest 198 = .ok (.dload 16, 2) := by decide +kernel
theorem dX2_highest_200 : decode cX2_highest 200 = .ok (.dload 18, 2) := by decide +kernel
theorem dX2_highest_202 : decode cX2_highest 202 = .ok (.dcmp .g, 1) := by decide +kernel
theorem dX2_highest_203 : decode cX2_highest 203 = .ok (.ifCond .ge 7, 3) := by decide +kernel
theorem dX2_highest_206 : decode cX2_highest 206 = .ok (.iconst 1, 1) := by decide +kernel
theorem dX2_highest_207 : decode cX2_highest 207 = .ok (.goto 4, 3) := by decide +kernel
theorem dX2_highest_210 : decode cX2_highest 210 = .ok (.iconst 0, 1) := by decide +kernel
theorem dX2_highest_211 : decode cX2_highest 211 = .ok (.istore 20, 2) := by decide +kernel
theorem dX2_highest_213 : decode cX2_highest 213 = .ok (.iload 20, 2) := by decide +kernel
theorem dX2_highest_215 : decode cX2_highest 215 = .ok (.ifCond .eq 8, 3) := by decide +kernel
theorem dX2_highest_218 : decode cX2_highest 218 = .ok (.dload 12, 2) := by decide +kernel
theorem dX2_highest_220 : decode cX2_highest 220 = .ok (.goto 5, 3) := by decide +kernel
theorem dX2_highest_223 : decode cX2_highest 223 = .ok (.dload 7, 2) := by decide +kernel
theorem dX2_highest_225 : decode cX2_highest 225 = .ok (.dstore 7, 2) := by decide +kernel
theorem dX2_highest_227 : decode cX2_highest 227 = .ok (.iload 20, 2) := by decide +kernel
theorem dX2_highest_229 : decode cX2_highest 229 = .ok (.ifCond .eq 8, 3) := by decide +kernel
theorem dX2_highest_232 : decode cX2_highest 232 = .ok (.dload 9, 2) := by decide +kernel
theorem dX2_highest_234 : decode cX2_highest 234 = .ok (.goto 5, 3) := by decide +kernel
theorem dX2_highest_237 : decode cX2_highest 237 = .ok (.dload 14, 2) := by decide +kernel
theorem dX2_highest_239 : decode cX2_highest 239 = .ok (.dstore 9, 2) := by decide +kernel
theorem dX2_highest_241 : decode cX2_highest 241 = .ok (.iinc 11 1, 3) := by decide +kernel
theorem dX2_highest_244 : decode cX2_highest 244 = .ok (.goto (-117), 3) := by decide +kernel
theorem dX2_highest_247 : decode cX2_highest 247 = .ok (.aload_n 0, 1) := by decide +kernel
theorem dX2_highest_248 : decode cX2_highest 248 = .ok (.getfield 202, 3) := by decide +kernel
theorem dX2_highest_251 : decode cX2_highest 251 = .ok (.ifCond .eq 10, 3) := by decide +kernel
theorem dX2_highest_254 : decode cX2_highest 254 = .ok (.aload_n 0, 1) := by decide +kernel
theorem dX2_highest_255 : decode cX2_highest 255 = .ok (.iconst 3, 1) := by decide +kernel
theorem dX2_highest_256 : decode cX2_highest 256 = .ok (.invokevirtual 77, 3) := by decide +kernel
theorem dX2_highest_259 : decode cX2_highest 259 = .ok (.i2d, 1) := by decide +kernel
theorem dX2_highest_260 : decode cX2_highest 260 = .ok (.dreturn, 1) := by decide +kernel
theorem dX2_highest_261 : decode cX2_highest 261 = .ok (.dload 7, 2) := by decide +kernel
theorem dX2_highest_263 : decode cX2_highest 263 = .ok (.dload 9, 2) := by decide +kernel
theorem dX2_highest_265 : decode cX2_highest 265 = .ok (.dadd, 1) := by decide +kernel
theorem dX2_highest_266 : decode cX2_highest 266 = .ok (.ldc2_w 209, 3) := by decide +kernel
theorem dX2_highest_269 : decode cX2_highest 269 = .ok (.ddiv, 1) := by decide +kernel
theorem dX2_highest_270 : decode cX2_highest 270 = .ok (.dreturn, 1) := by decide +kernel
set_option maxRecDepth 20000 in
theorem ggX2_event_X2_fail : GoodIn wsX2_event wsX2_fail := goodIn_r _ [8, 1, 88, 89, 90, 91, 92, 93, 94, 95, 96, 97, 98, 99, 100] (by decide +kernel) (by decide +kernel)
set_option maxRecDepth 20000 in
theorem gX2_event_X2_fail : GoodIn wsX2_event (wsV RX2 77 RX2 yX2_fail wsX2_fail) := goodIn_app (goodIn_of _ (by decide +kernel)) ggX2_event_X2_fail
set_option maxRecDepth 20000 in
theorem ggX2_event_X2_noBody : GoodIn wsX2_event wsX2_noBody := goodIn_r _ [12, 13, 88, 89, 90, 91, 92, 93, 94, 95, 96, 97, 98, 99, 100] (by decide +kernel) (by decide +kernel)
set_option maxRecDepth 20000 in
theorem gX2_event_X2_noBody : GoodIn wsX2_event (wsV RX2 166 RX2 yX2_noBody wsX2_noBody) := goodIn_app (goodIn_of _ (by decide +kernel)) ggX2_event_X2_noBody
set_option maxRecDepth 20000 in
theorem ggX2_event_X2_highest : GoodIn wsX2_event wsX2_highest := goodIn_r _ [17, 18, 19, 20, 21, 22, 23, 24, 7, 25, 26, 27, 28, 29, 30, 31, 32, 33, 34, 35, 36, 37, 38, 39, 40, 41, 42, 43, 44, 45, 46, 47, 48, 49, 50, 51, 52, 53, 54, 55, 56, 57, 58, 59, 60, 61, 62, 63, 64, 65, 66, 67, 68, 69, 70, 71, 72, 73, 74, 75, 76, 77, 78, 79, 4, 5, 6, 8, 1, 88, 89, 90, 91, 92, 93, 94, 95, 96, 97, 98, 99, 100] (by decide +kernel) (by decide +kernel)
set_option maxRecDepth 20000 in
theorem gX2_event_X2_highest : GoodIn wsX2_event (wsV RX2 249 RX2 yX2_highest wsX2_highest) := goodIn_app (goodIn_of _ (by decide +kernel)) ggX2_event_X2_highest
set_option maxRecDepth 20000 in
theorem ggX2_event_X2_passes : GoodIn wsX2_event wsX2_passes := goodIn_r _ [83, 18, 19, 1, 22, 23, 24, 7, 25, 26, 27, 28, 29, 30, 31, 32, 33, 34, 35, 36, 37, 38, 39, 40, 21, 41, 42, 43, 44, 45, 46, 47, 48, 49, 50, 51, 52, 53, 54, 55, 56, 57, 58, 59, 60, 61, 62, 63, 64, 65, 66, 67, 68, 69, 70, 71, 72, 73, 74, 75, 76, 77, 78, 79, 84, 85, 86, 87, 4, 5, 6, 8, 88, 89, 90, 91, 92, 93, 94, 95, 96, 97, 98, 99, 100] (by decide +kernel) (by decide +kernel)
set_option maxRecDepth 20000 in
theorem gX2_event_X2_passes : GoodIn wsX2_event (wsV RX2 252 RX2 yX2_passes wsX2_passes) := goodIn_app (goodIn_of _ (by decide +kernel)) ggX2_event_X2_passes
theorem dX2_event_0 : decode cX2_event 0 = .ok (.aload_n 0, 1) := by decide +kernel
theorem dX2_event_1 : decode cX2_event 1 = .ok (.iconst 0, 1) := by decide +kernel
theorem dX2_event_2 : decode cX2_event 2 = .ok (.putfield 30, 3) := by decide +kernel
theorem dX2_event_5 : decode cX2_event 5 = .ok (.iload_n 2, 1) := by decide +kernel
theorem dX2_event_6 : decode cX2_event 6 = .ok (.ifCond .lt 20, 3) := by decide +kernel
theorem dX2_event_9 : decode cX2_event 9 = .ok (.iload_n 2, 1) := by decide +kernel
theorem dX2_event_10 : decode cX2_event 10 = .ok (.iconst 2, 1) := by decide +kernel
theorem dX2_event_11 : decode cX2_event 11 = .ok (.if_icmp .gt 15, 3) := by decide +kernel
theorem dX2_event_14 : decode cX2_event 14 = .ok (.iload_n 3, 1) := by decide +kernel
theorem dX2_event_15 : decode cX2_event 15 = .ok (.ldc 247, 2) := by decide +kernel
theorem dX2_event_17 : decode cX2_event 17 = .ok (.if_icmp .lt 9, 3) := by decide +kernel
theorem dX2_event_20 : decode cX2_event 20 = .ok (.iload_n 3, 1) := by decide +kernel
theorem dX2_event_21 : decode cX2_event 21 = .ok (.ldc 248, 2) := by decide +kernel
theorem dX2_event_23 : decode cX2_event 23 = .ok (.if_icmp .le 10, 3) := by decide +kernel
theorem dX2_event_26 : decode cX2_event 26 = .ok (.aload_n 0, 1) := by decide +kernel
theorem dX2_event_27 : decode cX2_event 27 = .ok (.iconst 1, 1) := by decide +kernel
theorem dX2_event_28 : decode cX2_event 28 = .ok (.invokevirtual 77, 3) := by decide +kernel
theorem dX2_event_31 : decode cX2_event 31 = .ok (.i2d, 1) := by decide +kernel
theorem dX2_event_32 : decode cX2_event 32 = .ok (.dreturn, 1) := by decide +kernel
theorem dX2_event_33 : decode cX2_event 33 = .ok (.aload_n 0, 1) := by decide +kernel
theorem dX2_event_34 : decode cX2_event 34 = .ok (.iload_n 1, 1) := by decide +kernel
theorem dX2_event_35 : decode cX2_event 35 = .ok (.invokevirtual 166, 3) := by decide +kernel
theorem dX2_event_38 : decode cX2_event 38 = .ok (.ifCond .eq 10, 3) := by decide +kernel
theorem dX2_event_41 : decode cX2_event 41 = .ok (.aload_n 0, 1) := by decide +kernel
theorem dX2_event_42 : decode cX2_event 42 = .ok (.iconst 2, 1) := by decide +kernel
theorem dX2_event_43 : decode cX2_event 43 = .ok (.invokevirtual 77, 3) := by decide +kernel
theorem dX2_event_46 : decode cX2_event 46 = .ok (.i2d, 1) := by decide +kernel
theorem dX2_event_47 : decode cX2_event 47 = .ok (.dreturn, 1) := by decide +kernel
theorem dX2_event_48 : decode cX2_event 48 = .ok (.iload_n 2, 1) := by decide +kernel
theorem dX2_event_49 : decode cX2_event 49 = .ok (.iconst 2, 1) := by decide +kernel
theorem dX2_event_50 : decode cX2_event 50 = .ok (.if_icmp .ne 13, 3) := by decide +kernel
theorem dX2_event_53 : decode cX2_event 53 = .ok (.aload_n 0, 1) := by decide +kernel
theorem dX2_event_54 : decode cX2_event 54 = .ok (.iload_n 1, 1) := by decide +kernel
theorem dX2_event_55 : decode cX2_event 55 = .ok (.iload_n 3, 1) := by decide +kernel
theorem dX2_event_56 : decode cX2_event 56 = .ok (.i2d, 1) := by decide +kernel
theorem dX2_event_57 : decode cX2_event 57 = .ok (.invokevirtual 249, 3) := by decide +kernel
theorem dX2_event_60 : decode cX2_event 60 = .ok (.goto 19, 3) := by decide +kernel
theorem dX2_event_63 : decode cX2_event 63 = .ok (.aload_n 0, 1) := by decide +kernel
theorem dX2_event_64 : decode cX2_event 64 = .ok (.iload_n 1, 1) := by decide +kernel
theorem dX2_event_65 : decode cX2_event 65 = .ok (.iload_n 3, 1) := by decide +kernel
theorem dX2_event_66 : decode cX2_event 66 = .ok (.i2d, 1) := by decide +kernel
theorem dX2_event_67 : decode cX2_event 67 = .ok (.iload_n 2, 1) := by decide +kernel
theorem dX2_event_68 : decode cX2_event 68 = .ok (.ifCond .ne 7, 3) := by decide +kernel
theorem dX2_event_71 : decode cX2_event 71 = .ok (.iconst 1, 1) := by decide +kernel
theorem dX2_event_72 : decode cX2_event 72 = .ok (.goto 4, 3) := by decide +kernel
theorem dX2_event_75 : decode cX2_event 75 = .ok (.iconst 0, 1) := by decide +kernel
theorem dX2_event_76 : decode cX2_event 76 = .ok (.invokevirtual 252, 3) := by decide +kernel
theorem dX2_event_79 : decode cX2_event 79 = .ok (.dreturn, 1) := by decide +kernel
set_option maxRecDepth 20000 in
theorem ggX2_sidereal_X2_within : GoodIn wsX2_sidereal wsX2_within := goodIn_r _ [7] (by decide +kernel) (by decide +kernel)
set_option maxRecDepth 20000 in
theorem gX2_sidereal_X2_within : GoodIn wsX2_sidereal (va_wsS RX2 156 yX2_within wsX2_within) := goodIn_app (goodIn_of _ (by decide +kernel)) ggX2_sidereal_X2_within
set_option maxRecDepth 20000 in
theorem ggX2_sidereal_X2_fail : GoodIn wsX2_sidereal wsX2_fail := goodIn_r _ [11, 1, 21, 22, 23, 24, 25, 26, 27, 28, 29, 30, 31, 32, 33] (by decide +kernel) (by decide +kernel)
set_option maxRecDepth 20000 in
theorem gX2_sidereal_X2_fail : GoodIn wsX2_sidereal (wsV RX2 77 RX2 yX2_fail wsX2_fail) := goodIn_app (goodIn_of _ (by decide +kernel)) ggX2_sidereal_X2_fail
set_option maxRecDepth 20000 in
theorem ggX2_sidereal_X2_turned : GoodIn wsX2_sidereal wsX2_turned := goodIn_r _ [14, 15, 16, 17, 18, 19, 6, 20] (by decide +kernel) (by decide +kernel)
set_option maxRecDepth 20000 in
theorem gX2_sidereal_X2_turned : GoodIn wsX2_sidereal (va_wsS RX2 225 yX2_turned wsX2_turned) := goodIn_app (goodIn_of _ (by decide +kernel)) ggX2_sidereal_X2_turned
theorem dX2_sidereal_0 : decode cX2_sidereal 0 = .ok (.aload_n 0, 1) := by decide +kernel
theorem dX2_sidereal_1 : decode cX2_sidereal 1 = .ok (.iconst 0, 1) := by decide +kernel
theorem dX2_sidereal_2 : decode cX2_sidereal 2 = .ok (.putfield 30, 3) := by decide +kernel
theorem dX2_sidereal_5 : decode cX2_sidereal 5 = .ok (.dload_n 1, 1) := by decide +kernel
theorem dX2_sidereal_6 : decode cX2_sidereal 6 = .ok (.ldc2_w 228, 3) := by decide +kernel
theorem dX2_sidereal_9 : decode cX2_sidereal 9 = .ok (.ldc2_w 230, 3) := by decide +kernel
theorem dX2_sidereal_12 : decode cX2_sidereal 12 = .ok (.invokestatic 156, 3) := by decide +kernel
theorem dX2_sidereal_15 : decode cX2_sidereal 15 = .ok (.ifCond .ne 10, 3) := by decide +kernel
theorem dX2_sidereal_18 : decode cX2_sidereal 18 = .ok (.aload_n 0, 1) := by decide +kernel
theorem dX2_sidereal_19 : decode cX2_sidereal 19 = .ok (.iconst 1, 1) := by decide +kernel
theorem dX2_sidereal_20 : decode cX2_sidereal 20 = .ok (.invokevirtual 77, 3) := by decide +kernel
theorem dX2_sidereal_23 : decode cX2_sidereal 23 = .ok (.i2d, 1) := by decide +kernel
theorem dX2_sidereal_24 : decode cX2_sidereal 24 = .ok (.dreturn, 1) := by decide +kernel
theorem dX2_sidereal_25 : decode cX2_sidereal 25 = .ok (.dload_n 1, 1) := by decide +kernel
theorem dX2_sidereal_26 : decode cX2_sidereal 26 = .ok (.invokestatic 225, 3) := by decide +kernel
theorem dX2_sidereal_29 : decode cX2_sidereal 29 = .ok (.dreturn, 1) := by decide +kernel
theorem dX2_put_0 : decode cX2_put 0 = .ok (.aload_n 0, 1) := by decide +kernel
theorem dX2_put_1 : decode cX2_put 1 = .ok (.getfield 27, 3) := by decide +kernel
theorem dX2_put_4 : decode cX2_put 4 = .ok (.aload_n 0, 1) := by decide +kernel
theorem dX2_put_5 : decode cX2_put 5 = .ok (.getfield 256, 3) := by decide +kernel
theorem dX2_put_8 : decode cX2_put 8 = .ok (.iload_n 1, 1) := by decide +kernel
theorem dX2_put_9 : decode cX2_put 9 = .ok (.iastore, 1) := by decide +kernel
theorem dX2_put_10 : decode cX2_put 10 = .ok (.aload_n 0, 1) := by decide +kernel
theorem dX2_put_11 : decode cX2_put 11 = .ok (.dup, 1) := by decide +kernel
theorem dX2_put_12 : decode cX2_put 12 = .ok (.getfield 256, 3) := by decide +kernel
theorem dX2_put_15 : decode cX2_put 15 = .ok (.iconst 1, 1) := by decide +kernel
theorem dX2_put_16 : decode cX2_put 16 = .ok (.iadd, 1) := by decide +kernel
theorem dX2_put_17 : decode cX2_put 17 = .ok (.putfield 256, 3) := by decide +kernel
theorem dX2_put_20 : decode cX2_put 20 = .ok (.return_, 1) := by decide +kernel
set_option maxRecDepth 20000 in
theorem ggX2_digits_X2_put : GoodIn wsX2_digits wsX2_put := goodIn_r _ [6, 7, 8, 9, 10, 11, 12, 13, 14, 15, 16, 17, 18, 19, 20, 21] (by decide +kernel) (by decide +kernel)
set_option maxRecDepth 20000 in
theorem gX2_digits_X2_put : GoodIn wsX2_digits (wsV RX2 261 RX2 yX2_put wsX2_put) := goodIn_app (goodIn_of _ (by decide +kernel)) ggX2_digits_X2_put
theorem dX2_digits_0 : decode cX2_digits 0 = .ok (.lconst 1, 1) := by decide +kernel
theorem dX2_digits_1 : decode cX2_digits 1 = .ok (.lstore 4, 2) := by decide +kernel
theorem dX2_digits_3 : decode cX2_digits 3 = .ok (.iconst 1, 1) := by decide +kernel
theorem dX2_digits_4 : decode cX2_digits 4 = .ok (.istore 6, 2) := by decide +kernel
theorem dX2_digits_6 : decode cX2_digits 6 = .ok (.iload 6, 2) := by decide +kernel
theorem dX2_digits_8 : decode cX2_digits 8 = .ok (.iload_n 3, 1) := by decide +kernel
theorem dX2_digits_9 : decode cX2_digits 9 = .ok (.if_icmp .lt 14, 3) := by decide +kernel
theorem dX2_digits_12 : decode cX2_digits 12 = .ok (.lload_n 1, 1) := by decide +kernel
theorem dX2_digits_13 : decode cX2_digits 13 = .ok (.lload 4, 2) := by decide +kernel
theorem dX2_digits_15 : decode cX2_digits 15 = .ok (.ldiv, 1) := by decide +kernel
theorem dX2_digits_16 : decode cX2_digits 16 = .ok (.ldc2_w 259, 3) := by decide +kernel
theorem dX2_digits_19 : decode cX2_digits 19 = .ok (.lcmp, 1) := by decide +kernel
theorem dX2_digits_20 : decode cX2_digits 20 = .ok (.ifCond .lt 17, 3) := by decide +kernel
theorem dX2_digits_23 : decode cX2_digits 23 = .ok (.lload 4, 2) := by decide +kernel
theorem dX2_digits_25 : decode cX2_digits 25 = .ok (.ldc2_w 259, 3) := by decide +kernel
theorem dX2_digits_28 : decode cX2_digits 28 = .ok (.lmul, 1) := by decide +kernel
theorem dX2_digits_29 : decode cX2_digits 29 = .ok (.lstore 4, 2) := by decide +kernel
theorem dX2_digits_31 : decode cX2_digits 31 = .ok (.iinc 6 1, 3) := by decide +kernel
theorem dX2_digits_34 : decode cX2_digits 34 = .ok (.goto (-28), 3) := by decide +kernel
theorem dX2_digits_37 : decode cX2_digits 37 = .ok (.lload 4, 2) := by decide +kernel
theorem dX2_digits_39 : decode cX2_digits 39 = .ok (.lstore 7, 2) := by decide +kernel
theorem dX2_digits_41 : decode cX2_digits 41 = .ok (.lload 7, 2) := by decide +kernel
theorem dX2_digits_43 : decode cX2_digits 43 = .ok (.lconst 0, 1) := by decide +kernel
theorem dX2_digits_44 : decode cX2_digits 44 = .ok (.lcmp, 1) := by decide +kernel
theorem dX2_digits_45 : decode cX2_digits 45 = .ok (.ifCond .le 30, 3) := by decide +kernel
theorem dX2_digits_48 : decode cX2_digits 48 = .ok (.aload_n 0, 1) := by decide +kernel
theorem dX2_digits_49 : decode cX2_digits 49 = .ok (.bipush 48, 2) := by decide +kernel
theorem dX2_digits_51 : decode cX2_digits 51 = .ok (.lload_n 1, 1) := by decide +kernel
theorem dX2_digits_52 : decode cX2_digits 52 = .ok (.lload 7, 2) := by decide +kernel
theorem dX2_digits_54 : decode cX2_digits 54 = .ok (.ldiv, 1) := by decide +kernel
theorem dX2_digits_55 : decode cX2_digits 55 = .ok (.ldc2_w 259, 3) := by decide +kernel
theorem dX2_digits_58 : decode cX2_digits 58 = .ok (.lrem, 1) := by decide +kernel
theorem dX2_digits_59 : decode cX2_digits 59 = .ok (.l2i, 1) := by decide +kernel
theorem dX2_digits_60 : decode cX2_digits 60 = .ok (.iadd, 1) := by decide +kernel
theorem dX2_digits_61 : decode cX2_digits 61 = .ok (.invokevirtual 261, 3) := by decide +kernel
theorem dX2_digits_64 : decode cX2_digits 64 = .ok (.lload 7, 2) := by decide +kernel
theorem dX2_digits_66 : decode cX2_digits 66 = .ok (.ldc2_w 259, 3) := by decide +kernel
theorem dX2_digits_69 : decode cX2_digits 69 = .ok (.ldiv, 1) := by decide +kernel
theorem dX2_digits_70 : decode cX2_digits 70 = .ok (.lstore 7, 2) := by decide +kernel
theorem dX2_digits_72 : decode cX2_digits 72 = .ok (.goto (-31), 3) := by decide +kernel
theorem dX2_digits_75 : decode cX2_digits 75 = .ok (.return_, 1) := by decide +kernel
set_option maxRecDepth 20000 in
theorem ggX2_write_X2_within : GoodIn wsX2_write wsX2_within := goodIn_r _ [14] (by decide +kernel) (by decide +kernel)
set_option maxRecDepth 20000 in
theorem gX2_write_X2_within : GoodIn wsX2_write (va_wsS RX2 156 yX2_within wsX2_within) := goodIn_app (goodIn_of _ (by decide +kernel)) ggX2_write_X2_within
set_option maxRecDepth 20000 in
theorem ggX2_write_X2_fail : GoodIn wsX2_write wsX2_fail := goodIn_r _ [18, 1, 28, 29, 30, 31, 32, 33, 34, 35, 36, 37, 38, 39, 40] (by decide +kernel) (by decide +kernel)
set_option maxRecDepth 20000 in
theorem gX2_write_X2_fail : GoodIn wsX2_write (wsV RX2 77 RX2 yX2_fail wsX2_fail) := goodIn_app (goodIn_of _ (by decide +kernel)) ggX2_write_X2_fail
set_option maxRecDepth 20000 in
theorem ggX2_write_X2_put : GoodIn wsX2_write wsX2_put := goodIn_r _ [22, 23, 8, 28, 29, 30, 31, 32, 33, 34, 35, 36, 37, 38, 39, 40] (by decide +kernel) (by decide +kernel)
set_option maxRecDepth 20000 in
theorem gX2_write_X2_put : GoodIn wsX2_write (wsV RX2 261 RX2 yX2_put wsX2_put) := goodIn_app (goodIn_of _ (by decide +kernel)) ggX2_write_X2_put
set_option maxRecDepth 20000 in
theorem ggX2_write_X2_digits : GoodIn wsX2_write wsX2_digits := goodIn_r _ [27, 5, 19, 20, 21, 13, 22, 23, 8, 28, 29, 30, 31, 32, 33, 34, 35, 36, 37, 38, 39, 40] (by decide +kernel) (by decide +kernel)
set_option maxRecDepth 20000 in
theorem gX2_write_X2_digits : GoodIn wsX2_write (wsV RX2 273 RX2 yX2_digits wsX2_digits) := goodIn_app (goodIn_of _ (by decide +kernel)) ggX2_write_X2_digits
theorem dX2_write_0 : decode cX2_write 0 = .ok (.aload_n 0, 1) := by decide +kernel
theorem dX2_write_1 : decode cX2_write 1 = .ok (.iconst 0, 1) := by decide +kernel
theorem dX2_write_2 : decode cX2_write 2 = .ok (.putfield 30, 3) := by decide +kernel
theorem dX2_write_5 : decode cX2_write 5 = .ok (.dload_n 1, 1) := by decide +kernel
theorem dX2_write_6 : decode cX2_write 6 = .ok (.ldc2_w 265, 3) := by decide +kernel
theorem dX2_write_9 : decode cX2_write 9 = .ok (.ldc2_w 267, 3) := by decide +kernel
theorem dX2_write_12 : decode cX2_write 12 = .ok (.invokestatic 156, 3) := by decide +kernel
theorem dX2_write_15 : decode cX2_write 15 = .ok (.ifCond .eq 12, 3) := by decide +kernel
theorem dX2_write_18 : decode cX2_write 18 = .ok (.iload_n 3, 1) := by decide +kernel
theorem dX2_write_19 : decode cX2_write 19 = .ok (.ifCond .lt 8, 3) := by decide +kernel
theorem dX2_write_22 : decode cX2_write 22 = .ok (.iload_n 3, 1) := by decide +kernel
theorem dX2_write_23 : decode cX2_write 23 = .ok (.iconst 4, 1) := by decide +kernel
theorem dX2_write_24 : decode cX2_write 24 = .ok (.if_icmp .le 9, 3) := by decide +kernel
theorem dX2_write_27 : decode cX2_write 27 = .ok (.aload_n 0, 1) := by decide +kernel
theorem dX2_write_28 : decode cX2_write 28 = .ok (.iconst 1, 1) := by decide +kernel
theorem dX2_write_29 : decode cX2_write 29 = .ok (.invokevirtual 77, 3) := by decide +kernel
theorem dX2_write_32 : decode cX2_write 32 = .ok (.ireturn, 1) := by decide +kernel
theorem dX2_write_33 : decode cX2_write 33 = .ok (.dconst 1, 1) := by decide +kernel
theorem dX2_write_34 : decode cX2_write 34 = .ok (.dstore 4, 2) := by decide +kernel
theorem dX2_write_36 : decode cX2_write 36 = .ok (.lconst 1, 1) := by decide +kernel
theorem dX2_write_37 : decode cX2_write 37 = .ok (.lstore 6, 2) := by decide +kernel
theorem dX2_write_39 : decode cX2_write 39 = .ok (.iconst 0, 1) := by decide +kernel
theorem dX2_write_40 : decode cX2_write 40 = .ok (.istore 8, 2) := by decide +kernel
theorem dX2_write_42 : decode cX2_write 42 = .ok (.iload 8, 2) := by decide +kernel
theorem dX2_write_44 : decode cX2_write 44 = .ok (.iload_n 3, 1) := by decide +kernel
theorem dX2_write_45 : decode cX2_write 45 = .ok (.if_icmp .ge 25, 3) := by decide +kernel
theorem dX2_write_48 : decode cX2_write 48 = .ok (.dload 4, 2) := by decide +kernel
theorem dX2_write_50 : decode cX2_write 50 = .ok (.ldc2_w 172, 3) := by decide +kernel
theorem dX2_write_53 : decode cX2_write 53 = .ok (.dmul, 1) := by decide +kernel
theorem dX2_write_54 : decode cX2_write 54 = .ok (.dstore 4, 2) := by decide +kernel
theorem dX2_write_56 : decode cX2_write 56 = .ok (.lload 6, 2) := by decide +kernel
theorem dX2_write_58 : decode cX2_write 58 = .ok (.ldc2_w 259, 3) := by decide +kernel
theorem dX2_write_61 : decode cX2_write 61 = .ok (.lmul, 1) := by decide +kernel
theorem dX2_write_62 : decode cX2_write 62 = .ok (.lstore 6, 2) := by decide +kernel
theorem dX2_write_64 : decode cX2_write 64 = .ok (.iinc 8 1, 3) := by decide +kernel
theorem dX2_write_67 : decode cX2_write 67 = .ok (.goto (-25), 3) := by decide +kernel
theorem dX2_write_70 : decode cX2_write 70 = .ok (.dload_n 1, 1) := by decide +kernel
theorem dX2_write_71 : decode cX2_write 71 = .ok (.dconst 0, 1) := by decide +kernel
theorem dX2_write_72 : decode cX2_write 72 = .ok (.dcmp .g, 1) := by decide +kernel
theorem dX2_write_73 : decode cX2_write 73 = .ok (.ifCond .ge 9, 3) := by decide +kernel
theorem dX2_write_76 : decode cX2_write 76 = .ok (.dconst 0, 1) := by decide +kernel
theorem dX2_write_77 : decode cX2_write 77 = .ok (.dload_n 1, 1) := by decide +kernel
theorem dX2_write_78 : decode cX2_write 78 = .ok (.dsub, 1) := by decide +kernel
theorem dX2_write_79 : decode cX2_write 79 = .ok (.goto 4, 3) := by decide +kernel
theorem dX2_write_82 : decode cX2_write 82 = .ok (.dload_n 1, 1) := by decide +kernel
theorem dX2_write_83 : decode cX2_write 83 = .ok (.dstore 8, 2) := by decide +kernel
theorem dX2_write_85 : decode cX2_write 85 = .ok (.dload 8, 2) := by decide +kernel
theorem dX2_write_87 : decode cX2_write 87 = .ok (.ldc2_w 269, 3) := by decide +kernel
theorem dX2_write_90 : decode cX2_write 90 = .ok (.dmul, 1) := by decide +kernel
theorem dX2_write_91 : decode cX2_write 91 = .ok (.dload 4, 2) := by decide +kernel
theorem dX2_write_93 : decode cX2_write 93 = .ok (.dmul, 1) := by decide +kernel
theorem dX2_write_94 : decode cX2_write 94 = .ok (.ldc2_w 122, 3) := by decide +kernel
theorem dX2_write_97 : decode cX2_write 97 = .ok (.dadd, 1) := by decide +kernel
theorem dX2_write_98 : decode cX2_write 98 = .ok (.d2l, 1) := by decide +kernel
theorem dX2_write_99 : decode cX2_write 99 = .ok (.lstore 10, 2) := by decide +kernel
theorem dX2_write_101 : decode cX2_write 101 = .ok (.aload_n 0, 1) := by decide +kernel
theorem dX2_write_102 : decode cX2_write 102 = .ok (.iconst 0, 1) := by decide +kernel
theorem dX2_write_103 : decode cX2_write 103 = .ok (.putfield 256, 3) := by decide +kernel
theorem dX2_write_106 : decode cX2_write 106 = .ok (.dload_n 1, 1) := by decide +kernel
theorem dX2_write_107 : decode cX2_write 107 = .ok (.dconst 0, 1) := by decide +kernel
theorem dX2_write_108 : decode cX2_write 108 = .ok (.dcmp .g, 1) := by decide +kernel
theorem dX2_write_109 : decode cX2_write 109 = .ok (.ifCond .ge 16, 3) := by decide +kernel
theorem dX2_write_112 : decode cX2_write 112 = .ok (.lload 10, 2) := by decide +kernel
theorem dX2_write_114 : decode cX2_write 114 = .ok (.lconst 0, 1) := by decide +kernel
theorem dX2_write_115 : decode cX2_write 115 = .ok (.lcmp, 1) := by decide +kernel
theorem dX2_write_116 : decode cX2_write 116 = .ok (.ifCond .le 9, 3) := by decide +kernel
theorem dX2_write_119 : decode cX2_write 119 = .ok (.aload_n 0, 1) := by decide +kernel
theorem dX2_write_120 : decode cX2_write 120 = .ok (.bipush 45, 2) := by decide +kernel
theorem dX2_write_122 : decode cX2_write 122 = .ok (.invokevirtual 261, 3) := by decide +kernel
theorem dX2_write_125 : decode cX2_write 125 = .ok (.lload 10, 2) := by decide +kernel
theorem dX2_write_127 : decode cX2_write 127 = .ok (.lload 6, 2) := by decide +kernel
theorem dX2_write_129 : decode cX2_write 129 = .ok (.ldiv, 1) := by decide +kernel
theorem dX2_write_130 : decode cX2_write 130 = .ok (.lstore 12, 2) := by decide +kernel
theorem dX2_write_132 : decode cX2_write 132 = .ok (.aload_n 0, 1) := by decide +kernel
theorem dX2_write_133 : decode cX2_write 133 = .ok (.lload 12, 2) := by decide +kernel
theorem dX2_write_135 : decode cX2_write 135 = .ok (.ldc2_w 271, 3) := by decide +kernel
theorem dX2_write_138 : decode cX2_write 138 = .ok (.ldiv, 1) := by decide +kernel
theorem dX2_write_139 : decode cX2_write 139 = .ok (.iconst 1, 1) := by decide +kernel
theorem dX2_write_140 : decode cX2_write 140 = .ok (.invokevirtual 273, 3) := by decide +kernel
theorem dX2_write_143 : decode cX2_write 143 = .ok (.aload_n 0, 1) := by decide +kernel
theorem dX2_write_144 : decode cX2_write 144 = .ok (.bipush 100, 2) := by decide +kernel
theorem dX2_write_146 : decode cX2_write 146 = .ok (.invokevirtual 261, 3) := by decide +kernel
theorem dX2_write_149 : decode cX2_write 149 = .ok (.aload_n 0, 1) := by decide +kernel
theorem dX2_write_150 : decode cX2_write 150 = .ok (.lload 12, 2) := by decide +kernel
theorem dX2_write_152 : decode cX2_write 152 = .ok (.ldc2_w 277, 3) := by decide +kernel
theorem dX2_write_155 : decode cX2_write 155 = .ok (.ldiv, 1) := by decide +kernel
theorem dX2_write_156 : decode cX2_write 156 = .ok (.ldc2_w 277, 3) := by decide +kernel
theorem dX2_write_159 : decode cX2_write 159 = .ok (.lrem, 1) := by decide +kernel
theorem dX2_write_160 : decode cX2_write 160 = .ok (.iconst 2, 1) := by decide +kernel
theorem dX2_write_161 : decode cX2_write 161 = .ok (.invokevirtual 273, 3) := by decide +kernel
theorem dX2_write_164 : decode cX2_write 164 = .ok (.aload_n 0, 1) := by decide +kernel
theorem dX2_write_165 : decode cX2_write 165 = .ok (.bipush 109, 2) := by decide +kernel
theorem dX2_write_167 : decode cX2_write 167 = .ok (.invokevirtual 261, 3) := by decide +kernel
theorem dX2_write_170 : decode cX2_write 170 = .ok (.aload_n 0, 1) := by decide +kernel
theorem dX2_write_171 : decode cX2_write 171 = .ok (.lload 12, 2) := by decide +kernel
theorem dX2_write_173 : decode cX2_write 173 = .ok (.ldc2_w 277, 3) := by decide +kernel
theorem dX2_write_176 : decode cX2_write 176 = .ok (.lrem, 1) := by decide +kernel
theorem dX2_write_177 : decode cX2_write 177 = .ok (.iconst 2, 1) := by decide +kernel
theorem dX2_write_178 : decode cX2_write 178 = .ok (.invokevirtual 273, 3) := by decide +kernel
theorem dX2_write_181 : decode cX2_write 181 = .ok (.iload_n 3, 1) := by decide +kernel
theorem dX2_write_182 : decode cX2_write 182 = .ok (.ifCond .le 19, 3) := by decide +kernel
theorem dX2_write_185 : decode cX2_write 185 = .ok (.aload_n 0, 1) := by decide +kernel
theorem dX2_write_186 : decode cX2_write 186 = .ok (.bipush 46, 2) := by decide +kernel
theorem dX2_write_188 : decode cX2_write 188 = .ok (.invokevirtual 261, 3) := by decide +kernel
theorem dX2_write_191 : decode cX2_write 191 = .ok (.aload_n 0, 1) := by decide +kernel
theorem dX2_write_192 : decode cX2_write 192 = .ok (.lload 10, 2) := by decide +kernel
theorem dX2_write_194 : decode cX2_write 194 = .ok (.lload 6, 2) := by decide +kernel
theorem dX2_write_196 : decode cX2_write 196 = .ok (.lrem, 1) := by decide +kernel
theorem dX2_write_197 : decode cX2_write 197 = .ok (.iload_n 3, 1) := by decide +kernel
theorem dX2_write_198 : decode cX2_write 198 = .ok (.invokevirtual 273, 3) := by decide +kernel
theorem dX2_write_201 : decode cX2_write 201 = .ok (.aload_n 0, 1) := by decide +kernel
theorem dX2_write_202 : decode cX2_write 202 = .ok (.bipush 115, 2) := by decide +kernel
theorem dX2_write_204 : decode cX2_write 204 = .ok (.invokevirtual 261, 3) := by decide +kernel
theorem dX2_write_207 : decode cX2_write 207 = .ok (.aload_n 0, 1) := by decide +kernel
theorem dX2_write_208 : decode cX2_write 208 = .ok (.getfield 256, 3) := by decide +kernel
theorem dX2_write_211 : decode cX2_write 211 = .ok (.ireturn, 1) := by decide +kernel
set_option maxRecDepth 20000 in
theorem ggX2_letter_X2_fail : GoodIn wsX2_letter wsX2_fail := goodIn_r _ [8, 1, 9, 10, 11, 12, 13, 14, 15, 16, 17, 18, 19, 20, 21] (by decide +kernel) (by decide +kernel)
set_option maxRecDepth 20000 in
theorem gX2_letter_X2_fail : GoodIn wsX2_letter (wsV RX2 77 RX2 yX2_fail wsX2_fail) := goodIn_app (goodIn_of _ (by decide +kernel)) ggX2_letter_X2_fail
theorem dX2_letter_0 : decode cX2_letter 0 = .ok (.aload_n 0, 1) := by decide +kernel
theorem dX2_letter_1 : decode cX2_letter 1 = .ok (.iconst 0, 1) := by decide +kernel
theorem dX2_letter_2 : decode cX2_letter 2 = .ok (.putfield 30, 3) := by decide +kernel
theorem dX2_letter_5 : decode cX2_letter 5 = .ok (.iload_n 1, 1) := by decide +kernel
theorem dX2_letter_6 : decode cX2_letter 6 = .ok (.ifCond .lt 11, 3) := by decide +kernel
theorem dX2_letter_9 : decode cX2_letter 9 = .ok (.iload_n 1, 1) := by decide +kernel
theorem dX2_letter_10 : decode cX2_letter 10 = .ok (.aload_n 0, 1) := by decide +kernel
theorem dX2_letter_11 : decode cX2_letter 11 = .ok (.getfield 256, 3) := by decide +kernel
theorem dX2_letter_14 : decode cX2_letter 14 = .ok (.if_icmp .lt 11, 3) := by decide +kernel
theorem dX2_letter_17 : decode cX2_letter 17 = .ok (.aload_n 0, 1) := by decide +kernel
theorem dX2_letter_18 : decode cX2_letter 18 = .ok (.iconst 1, 1) := by decide +kernel
theorem dX2_letter_19 : decode cX2_letter 19 = .ok (.invokevirtual 77, 3) := by decide +kernel
theorem dX2_letter_22 : decode cX2_letter 22 = .ok (.goto 9, 3) := by decide +kernel
theorem dX2_letter_25 : decode cX2_letter 25 = .ok (.aload_n 0, 1) := by decide +kernel
theorem dX2_letter_26 : decode cX2_letter 26 = .ok (.getfield 27, 3) := by decide +kernel
theorem dX2_letter_29 : decode cX2_letter 29 = .ok (.iload_n 1, 1) := by decide +kernel
theorem dX2_letter_30 : decode cX2_letter 30 = .ok (.iaload, 1) := by decide +kernel
theorem dX2_letter_31 : decode cX2_letter 31 = .ok (.ireturn, 1) := by decide +kernel
set_option maxRecDepth 20000 in
theorem ggX2_angle_X2_fail : GoodIn wsX2_angle wsX2_fail := goodIn_r _ [8, 1, 9, 10, 11, 12, 13, 14, 15, 16, 17, 18, 19, 20, 21] (by decide +kernel) (by decide +kernel)
set_option maxRecDepth 20000 in
theorem gX2_angle_X2_fail : GoodIn wsX2_angle (wsV RX2 77 RX2 yX2_fail wsX2_fail) := goodIn_app (goodIn_of _ (by decide +kernel)) ggX2_angle_X2_fail
theorem dX2_angle_0 : decode cX2_angle 0 = .ok (.aload_n 0, 1) := by decide +kernel
theorem dX2_angle_1 : decode cX2_angle 1 = .ok (.iconst 0, 1) := by decide +kernel
theorem dX2_angle_2 : decode cX2_angle 2 = .ok (.putfield 30, 3) := by decide +kernel
theorem dX2_angle_5 : decode cX2_angle 5 = .ok (.iload_n 1, 1) := by decide +kernel
theorem dX2_angle_6 : decode cX2_angle 6 = .ok (.iconst 1, 1) := by decide +kernel
theorem dX2_angle_7 : decode cX2_angle 7 = .ok (.if_icmp .eq 8, 3) := by decide +kernel
theorem dX2_angle_10 : decode cX2_angle 10 = .ok (.iload_n 1, 1) := by decide +kernel
theorem dX2_angle_11 : decode cX2_angle 11 = .ok (.iconst (-1), 1) := by decide +kernel
theorem dX2_angle_12 : decode cX2_angle 12 = .ok (.if_icmp .ne 40, 3) := by decide +kernel
theorem dX2_angle_15 : decode cX2_angle 15 = .ok (.iload_n 2, 1) := by decide +kernel
theorem dX2_angle_16 : decode cX2_angle 16 = .ok (.ifCond .lt 36, 3) := by decide +kernel
theorem dX2_angle_19 : decode cX2_angle 19 = .ok (.iload_n 2, 1) := by decide +kernel
theorem dX2_angle_20 : decode cX2_angle 20 = .ok (.sipush 360, 3) := by decide +kernel
theorem dX2_angle_23 : decode cX2_angle 23 = .ok (.if_icmp .gt 29, 3) := by decide +kernel
theorem dX2_angle_26 : decode cX2_angle 26 = .ok (.iload_n 3, 1) := by decide +kernel
theorem dX2_angle_27 : decode cX2_angle 27 = .ok (.ifCond .lt 25, 3) := by decide +kernel
theorem dX2_angle_30 : decode cX2_angle 30 = .ok (.iload_n 3, 1) := by decide +kernel
theorem dX2_angle_31 : decode cX2_angle 31 = .ok (.bipush 59, 2) := by decide +kernel
theorem dX2_angle_33 : decode cX2_angle 33 = .ok (.if_icmp .gt 19, 3) := by decide +kernel
theorem dX2_angle_36 : decode cX2_angle 36 = .ok (.dload 4, 2) := by decide +kernel
theorem dX2_angle_38 : decode cX2_angle 38 = .ok (.dconst 0, 1) := by decide +kernel
theorem dX2_angle_39 : decode cX2_angle 39 = .ok (.dcmp .l, 1) := by decide +kernel
theorem dX2_angle_40 : decode cX2_angle 40 = .ok (.ifCond .lt 12, 3) := by decide +kernel
theorem dX2_angle_43 : decode cX2_angle 43 = .ok (.dload 4, 2) := by decide +kernel
theorem dX2_angle_45 : decode cX2_angle 45 = .ok (.ldc2_w 279, 3) := by decide +kernel
theorem dX2_angle_48 : decode cX2_angle 48 = .ok (.dcmp .g, 1) := by decide +kernel
theorem dX2_angle_49 : decode cX2_angle 49 = .ok (.ifCond .lt 10, 3) := by decide +kernel
theorem dX2_angle_52 : decode cX2_angle 52 = .ok (.aload_n 0, 1) := by decide +kernel
theorem dX2_angle_53 : decode cX2_angle 53 = .ok (.iconst 1, 1) := by decide +kernel
theorem dX2_angle_54 : decode cX2_angle 54 = .ok (.invokevirtual 77, 3) := by decide +kernel
theorem dX2_angle_57 : decode cX2_angle 57 = .ok (.i2d, 1) := by decide +kernel
theorem dX2_angle_58 : decode cX2_angle 58 = .ok (.dreturn, 1) := by decide +kernel
theorem dX2_angle_59 : decode cX2_angle 59 = .ok (.iload_n 1, 1) := by decide +kernel
theorem dX2_angle_60 : decode cX2_angle 60 = .ok (.i2d, 1) := by decide +kernel
theorem dX2_angle_61 : decode cX2_angle 61 = .ok (.iload_n 2, 1) := by decide +kernel
theorem dX2_angle_62 : decode cX2_angle 62 = .ok (.i2d, 1) := by decide +kernel
theorem dX2_angle_63 : decode cX2_angle 63 = .ok (.iload_n 3, 1) := by decide +kernel
theorem dX2_angle_64 : decode cX2_angle 64 = .ok (.i2d, 1) := by decide +kernel
theorem dX2_angle_65 : decode cX2_angle 65 = .ok (.ldc2_w 279, 3) := by decide +kernel
theorem dX2_angle_68 : decode cX2_angle 68 = .ok (.ddiv, 1) := by decide +kernel
theorem dX2_angle_69 : decode cX2_angle 69 = .ok (.dadd, 1) := by decide +kernel
theorem dX2_angle_70 : decode cX2_angle 70 = .ok (.dload 4, 2) := by decide +kernel
theorem dX2_angle_72 : decode cX2_angle 72 = .ok (.ldc2_w 269, 3) := by decide +kernel
theorem dX2_angle_75 : decode cX2_angle 75 = .ok (.ddiv, 1) := by decide +kernel
theorem dX2_angle_76 : decode cX2_angle 76 = .ok (.dadd, 1) := by decide +kernel
theorem dX2_angle_77 : decode cX2_angle 77 = .ok (.dmul, 1) := by decide +kernel
theorem dX2_angle_78 : decode cX2_angle 78 = .ok (.dreturn, 1) := by decide +kernel
theorem dX2_count_0 : decode cX2_count 0 = .ok (.aload_n 0, 1) := by decide +kernel
theorem dX2_count_1 : decode cX2_count 1 = .ok (.iconst 0, 1) := by decide +kernel
theorem dX2_count_2 : decode cX2_count 2 = .ok (.putfield 30, 3) := by decide +kernel
theorem dX2_count_5 : decode cX2_count 5 = .ok (.iload_n 1, 1) := by decide +kernel
theorem dX2_count_6 : decode cX2_count 6 = .ok (.ifCond .eq 10, 3) := by decide +kernel
theorem dX2_count_9 : decode cX2_count 9 = .ok (.aload_n 0, 1) := by decide +kernel
theorem dX2_count_10 : decode cX2_count 10 = .ok (.getfield 206, 3) := by decide +kernel
theorem dX2_count_13 : decode cX2_count 13 = .ok (.goto 7, 3) := by decide +kernel
theorem dX2_count_16 : decode cX2_count 16 = .ok (.aload_n 0, 1) := by decide +kernel
theorem dX2_count_17 : decode cX2_count 17 = .ok (.getfield 199, 3) := by decide +kernel
theorem dX2_count_20 : decode cX2_count 20 = .ok (.ireturn, 1) := by decide +kernel
