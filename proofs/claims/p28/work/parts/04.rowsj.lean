theorem dX10_split_315 : decode cX10_split 315 = .ok (.ireturn, 1) := by decide +kernel
theorem dX10_gcd_0 : decode cX10_gcd 0 = .ok (.lload_n 0, 1) := by decide +kernel
theorem dX10_gcd_1 : decode cX10_gcd 1 = .ok (.lstore 4, 2) := by decide +kernel
theorem dX10_gcd_3 : decode cX10_gcd 3 = .ok (.lload_n 2, 1) := by decide +kernel
theorem dX10_gcd_4 : decode cX10_gcd 4 = .ok (.lstore 6, 2) := by decide +kernel
theorem dX10_gcd_6 : decode cX10_gcd 6 = .ok (.lload 6, 2) := by decide +kernel
theorem dX10_gcd_8 : decode cX10_gcd 8 = .ok (.lconst 0, 1) := by decide +kernel
theorem dX10_gcd_9 : decode cX10_gcd 9 = .ok (.lcmp, 1) := by decide +kernel
theorem dX10_gcd_10 : decode cX10_gcd 10 = .ok (.ifCond .eq 21, 3) := by decide +kernel
theorem dX10_gcd_13 : decode cX10_gcd 13 = .ok (.lload 4, 2) := by decide +kernel
theorem dX10_gcd_15 : decode cX10_gcd 15 = .ok (.lload 6, 2) := by decide +kernel
theorem dX10_gcd_17 : decode cX10_gcd 17 = .ok (.lrem, 1) := by decide +kernel
theorem dX10_gcd_18 : decode cX10_gcd 18 = .ok (.lstore 8, 2) := by decide +kernel
theorem dX10_gcd_20 : decode cX10_gcd 20 = .ok (.lload 6, 2) := by decide +kernel
theorem dX10_gcd_22 : decode cX10_gcd 22 = .ok (.lstore 4, 2) := by decide +kernel
theorem dX10_gcd_24 : decode cX10_gcd 24 = .ok (.lload 8, 2) := by decide +kernel
theorem dX10_gcd_26 : decode cX10_gcd 26 = .ok (.lstore 6, 2) := by decide +kernel
theorem dX10_gcd_28 : decode cX10_gcd 28 = .ok (.goto (-22), 3) := by decide +kernel
theorem dX10_gcd_31 : decode cX10_gcd 31 = .ok (.lload 4, 2) := by decide +kernel
theorem dX10_gcd_33 : decode cX10_gcd 33 = .ok (.lreturn, 1) := by decide +kernel
set_option maxRecDepth 20000 in
theorem ggX10_periodFor_X10_get : GoodIn wsX10_periodFor wsX10_get := goodIn_r _ [9, 10, 14, 15, 16, 17, 18, 19, 20, 21, 22, 23, 24, 25, 26, 27, 28, 29, 30, 31, 32, 33, 34, 35, 36, 37, 38, 39] (by decide +kernel) (by decide +kernel)
set_option maxRecDepth 20000 in
theorem gX10_periodFor_X10_get : GoodIn wsX10_periodFor (wsV RX10 229 RX10 yX10_get wsX10_get) := goodIn_app (goodIn_of _ (by decide +kernel)) ggX10_periodFor_X10_get
set_option maxRecDepth 20000 in
theorem ggX10_periodFor_X10_gcd : GoodIn wsX10_periodFor wsX10_gcd := goodIn_r _ [13] (by decide +kernel) (by decide +kernel)
set_option maxRecDepth 20000 in
theorem gX10_periodFor_X10_gcd : GoodIn wsX10_periodFor (va_wsS RX10 294 yX10_gcd wsX10_gcd) := goodIn_app (goodIn_of _ (by decide +kernel)) ggX10_periodFor_X10_gcd
theorem dX10_periodFor_0 : decode cX10_periodFor 0 = .ok (.aload_n 0, 1) := by decide +kernel
theorem dX10_periodFor_1 : decode cX10_periodFor 1 = .ok (.iload_n 1, 1) := by decide +kernel
theorem dX10_periodFor_2 : decode cX10_periodFor 2 = .ok (.iconst 4, 1) := by decide +kernel
theorem dX10_periodFor_3 : decode cX10_periodFor 3 = .ok (.invokevirtual 229, 3) := by decide +kernel
theorem dX10_periodFor_6 : decode cX10_periodFor 6 = .ok (.i2l, 1) := by decide +kernel
theorem dX10_periodFor_7 : decode cX10_periodFor 7 = .ok (.lstore_n 2, 1) := by decide +kernel
theorem dX10_periodFor_8 : decode cX10_periodFor 8 = .ok (.aload_n 0, 1) := by decide +kernel
theorem dX10_periodFor_9 : decode cX10_periodFor 9 = .ok (.iload_n 1, 1) := by decide +kernel
theorem dX10_periodFor_10 : decode cX10_periodFor 10 = .ok (.iconst 3, 1) := by decide +kernel
theorem dX10_periodFor_11 : decode cX10_periodFor 11 = .ok (.invokevirtual 229, 3) := by decide +kernel
theorem dX10_periodFor_14 : decode cX10_periodFor 14 = .ok (.tableswitch 78 0 7 #[46, 48, 50, 78, 78, 78, 78, 56], 46) := by decide +kernel
theorem dX10_periodFor_60 : decode cX10_periodFor 60 = .ok (.lconst 0, 1) := by decide +kernel
theorem dX10_periodFor_61 : decode cX10_periodFor 61 = .ok (.lreturn, 1) := by decide +kernel
theorem dX10_periodFor_62 : decode cX10_periodFor 62 = .ok (.lload_n 2, 1) := by decide +kernel
theorem dX10_periodFor_63 : decode cX10_periodFor 63 = .ok (.lreturn, 1) := by decide +kernel
theorem dX10_periodFor_64 : decode cX10_periodFor 64 = .ok (.ldc2_w 286, 3) := by decide +kernel
theorem dX10_periodFor_67 : decode cX10_periodFor 67 = .ok (.lload_n 2, 1) := by decide +kernel
theorem dX10_periodFor_68 : decode cX10_periodFor 68 = .ok (.lmul, 1) := by decide +kernel
theorem dX10_periodFor_69 : decode cX10_periodFor 69 = .ok (.lreturn, 1) := by decide +kernel
theorem dX10_periodFor_70 : decode cX10_periodFor 70 = .ok (.ldc2_w 288, 3) := by decide +kernel
theorem dX10_periodFor_73 : decode cX10_periodFor 73 = .ok (.ldc2_w 290, 3) := by decide +kernel
theorem dX10_periodFor_76 : decode cX10_periodFor 76 = .ok (.lload_n 2, 1) := by decide +kernel
theorem dX10_periodFor_77 : decode cX10_periodFor 77 = .ok (.lmul, 1) := by decide +kernel
theorem dX10_periodFor_78 : decode cX10_periodFor 78 = .ok (.ldc2_w 290, 3) := by decide +kernel
theorem dX10_periodFor_81 : decode cX10_periodFor 81 = .ok (.lload_n 2, 1) := by decide +kernel
theorem dX10_periodFor_82 : decode cX10_periodFor 82 = .ok (.lmul, 1) := by decide +kernel
theorem dX10_periodFor_83 : decode cX10_periodFor 83 = .ok (.ldc2_w 292, 3) := by decide +kernel
theorem dX10_periodFor_86 : decode cX10_periodFor 86 = .ok (.invokestatic 294, 3) := by decide +kernel
theorem dX10_periodFor_89 : decode cX10_periodFor 89 = .ok (.ldiv, 1) := by decide +kernel
theorem dX10_periodFor_90 : decode cX10_periodFor 90 = .ok (.lmul, 1) := by decide +kernel
theorem dX10_periodFor_91 : decode cX10_periodFor 91 = .ok (.lreturn, 1) := by decide +kernel
theorem dX10_periodFor_92 : decode cX10_periodFor 92 = .ok (.ldc2_w 288, 3) := by decide +kernel
theorem dX10_periodFor_95 : decode cX10_periodFor 95 = .ok (.lload_n 2, 1) := by decide +kernel
theorem dX10_periodFor_96 : decode cX10_periodFor 96 = .ok (.lload_n 2, 1) := by decide +kernel
theorem dX10_periodFor_97 : decode cX10_periodFor 97 = .ok (.ldc2_w 292, 3) := by decide +kernel
theorem dX10_periodFor_100 : decode cX10_periodFor 100 = .ok (.invokestatic 294, 3) := by decide +kernel
theorem dX10_periodFor_103 : decode cX10_periodFor 103 = .ok (.ldiv, 1) := by decide +kernel
theorem dX10_periodFor_104 : decode cX10_periodFor 104 = .ok (.lmul, 1) := by decide +kernel
theorem dX10_periodFor_105 : decode cX10_periodFor 105 = .ok (.lreturn, 1) := by decide +kernel
theorem dX10_asInt_0 : decode cX10_asInt 0 = .ok (.lload_n 0, 1) := by decide +kernel
theorem dX10_asInt_1 : decode cX10_asInt 1 = .ok (.ldc2_w 300, 3) := by decide +kernel
theorem dX10_asInt_4 : decode cX10_asInt 4 = .ok (.lcmp, 1) := by decide +kernel
theorem dX10_asInt_5 : decode cX10_asInt 5 = .ok (.ifCond .le 8, 3) := by decide +kernel
theorem dX10_asInt_8 : decode cX10_asInt 8 = .ok (.bipush (-2), 2) := by decide +kernel
theorem dX10_asInt_10 : decode cX10_asInt 10 = .ok (.goto 5, 3) := by decide +kernel
theorem dX10_asInt_13 : decode cX10_asInt 13 = .ok (.lload_n 0, 1) := by decide +kernel
theorem dX10_asInt_14 : decode cX10_asInt 14 = .ok (.l2i, 1) := by decide +kernel
theorem dX10_asInt_15 : decode cX10_asInt 15 = .ok (.ireturn, 1) := by decide +kernel
set_option maxRecDepth 20000 in
theorem ggX10_period_X10_isBooking : GoodIn wsX10_period wsX10_isBooking := goodIn_r _ [6, 7, 8, 9, 5, 10, 31, 32, 33, 34, 35, 36, 37, 38, 39, 40, 41, 42, 43, 44, 45, 46, 47, 48, 49, 50, 51, 52, 53, 54, 55, 56] (by decide +kernel) (by decide +kernel)
set_option maxRecDepth 20000 in
theorem gX10_period_X10_isBooking : GoodIn wsX10_period (wsV RX10 220 RX10 yX10_isBooking wsX10_isBooking) := goodIn_app (goodIn_of _ (by decide +kernel)) ggX10_period_X10_isBooking
set_option maxRecDepth 20000 in
theorem ggX10_period_X10_periodFor : GoodIn wsX10_period wsX10_periodFor := goodIn_r _ [14, 15, 16, 17, 18, 19, 20, 21, 5, 22, 23, 24, 25, 26, 31, 32, 33, 34, 35, 36, 37, 38, 39, 40, 41, 42, 43, 44, 45, 46, 47, 48, 49, 50, 51, 52, 53, 54, 55, 56] (by decide +kernel) (by decide +kernel)
set_option maxRecDepth 20000 in
theorem gX10_period_X10_periodFor : GoodIn wsX10_period (wsV RX10 302 RX10 yX10_periodFor wsX10_periodFor) := goodIn_app (goodIn_of _ (by decide +kernel)) ggX10_period_X10_periodFor
set_option maxRecDepth 20000 in
theorem ggX10_period_X10_asInt : GoodIn wsX10_period wsX10_asInt := goodIn_r _ [29, 30] (by decide +kernel) (by decide +kernel)
set_option maxRecDepth 20000 in
theorem gX10_period_X10_asInt : GoodIn wsX10_period (va_wsS RX10 306 yX10_asInt wsX10_asInt) := goodIn_app (goodIn_of _ (by decide +kernel)) ggX10_period_X10_asInt
theorem dX10_period_0 : decode cX10_period 0 = .ok (.aload_n 0, 1) := by decide +kernel
theorem dX10_period_1 : decode cX10_period 1 = .ok (.iconst 0, 1) := by decide +kernel
theorem dX10_period_2 : decode cX10_period 2 = .ok (.putfield 60, 3) := by decide +kernel
theorem dX10_period_5 : decode cX10_period 5 = .ok (.aload_n 0, 1) := by decide +kernel
theorem dX10_period_6 : decode cX10_period 6 = .ok (.iload_n 1, 1) := by decide +kernel
theorem dX10_period_7 : decode cX10_period 7 = .ok (.invokevirtual 220, 3) := by decide +kernel
theorem dX10_period_10 : decode cX10_period 10 = .ok (.ifCond .eq 14, 3) := by decide +kernel
theorem dX10_period_13 : decode cX10_period 13 = .ok (.aload_n 0, 1) := by decide +kernel
theorem dX10_period_14 : decode cX10_period 14 = .ok (.iload_n 1, 1) := by decide +kernel
theorem dX10_period_15 : decode cX10_period 15 = .ok (.invokevirtual 302, 3) := by decide +kernel
theorem dX10_period_18 : decode cX10_period 18 = .ok (.invokestatic 306, 3) := by decide +kernel
theorem dX10_period_21 : decode cX10_period 21 = .ok (.goto 4, 3) := by decide +kernel
theorem dX10_period_24 : decode cX10_period 24 = .ok (.iconst (-1), 1) := by decide +kernel
theorem dX10_period_25 : decode cX10_period 25 = .ok (.ireturn, 1) := by decide +kernel
set_option maxRecDepth 20000 in
theorem ggX10_periodOf_X10_isBooking : GoodIn wsX10_periodOf wsX10_isBooking := goodIn_r _ [6, 7, 8, 9, 5, 10, 31, 32, 33, 34, 35, 36, 37, 38, 39, 40, 41, 42, 43, 44, 45, 46, 47, 48, 49, 50, 51, 52, 53, 54, 55, 56] (by decide +kernel) (by decide +kernel)
set_option maxRecDepth 20000 in
theorem gX10_periodOf_X10_isBooking : GoodIn wsX10_periodOf (wsV RX10 220 RX10 yX10_isBooking wsX10_isBooking) := goodIn_app (goodIn_of _ (by decide +kernel)) ggX10_periodOf_X10_isBooking
set_option maxRecDepth 20000 in
theorem ggX10_periodOf_X10_periodFor : GoodIn wsX10_periodOf wsX10_periodFor := goodIn_r _ [14, 15, 16, 17, 18, 19, 20, 21, 5, 22, 23, 24, 25, 26, 31, 32, 33, 34, 35, 36, 37, 38, 39, 40, 41, 42, 43, 44, 45, 46, 47, 48, 49, 50, 51, 52, 53, 54, 55, 56] (by decide +kernel) (by decide +kernel)
set_option maxRecDepth 20000 in
theorem gX10_periodOf_X10_periodFor : GoodIn wsX10_periodOf (wsV RX10 302 RX10 yX10_periodFor wsX10_periodFor) := goodIn_app (goodIn_of _ (by decide +kernel)) ggX10_periodOf_X10_periodFor
set_option maxRecDepth 20000 in
theorem ggX10_periodOf_X10_gcd : GoodIn wsX10_periodOf wsX10_gcd := goodIn_r _ [26] (by decide +kernel) (by decide +kernel)
set_option maxRecDepth 20000 in
theorem gX10_periodOf_X10_gcd : GoodIn wsX10_periodOf (va_wsS RX10 294 yX10_gcd wsX10_gcd) := goodIn_app (goodIn_of _ (by decide +kernel)) ggX10_periodOf_X10_gcd
set_option maxRecDepth 20000 in
theorem ggX10_periodOf_X10_asInt : GoodIn wsX10_periodOf wsX10_asInt := goodIn_r _ [29, 30] (by decide +kernel) (by decide +kernel)
set_option maxRecDepth 20000 in
theorem gX10_periodOf_X10_asInt : GoodIn wsX10_periodOf (va_wsS RX10 306 yX10_asInt wsX10_asInt) := goodIn_app (goodIn_of _ (by decide +kernel)) ggX10_periodOf_X10_asInt
theorem dX10_periodOf_0 : decode cX10_periodOf 0 = .ok (.aload_n 0, 1) := by decide +kernel
theorem dX10_periodOf_1 : decode cX10_periodOf 1 = .ok (.iconst 0, 1) := by decide +kernel
theorem dX10_periodOf_2 : decode cX10_periodOf 2 = .ok (.putfield 60, 3) := by decide +kernel
theorem dX10_periodOf_5 : decode cX10_periodOf 5 = .ok (.aload_n 0, 1) := by decide +kernel
theorem dX10_periodOf_6 : decode cX10_periodOf 6 = .ok (.iload_n 1, 1) := by decide +kernel
theorem dX10_periodOf_7 : decode cX10_periodOf 7 = .ok (.invokevirtual 220, 3) := by decide +kernel
theorem dX10_periodOf_10 : decode cX10_periodOf 10 = .ok (.ifCond .eq 11, 3) := by decide +kernel
theorem dX10_periodOf_13 : decode cX10_periodOf 13 = .ok (.aload_n 0, 1) := by decide +kernel
theorem dX10_periodOf_14 : decode cX10_periodOf 14 = .ok (.iload_n 2, 1) := by decide +kernel
theorem dX10_periodOf_15 : decode cX10_periodOf 15 = .ok (.invokevirtual 220, 3) := by decide +kernel
theorem dX10_periodOf_18 : decode cX10_periodOf 18 = .ok (.ifCond .ne 5, 3) := by decide +kernel
theorem dX10_periodOf_21 : decode cX10_periodOf 21 = .ok (.iconst (-1), 1) := by decide +kernel
theorem dX10_periodOf_22 : decode cX10_periodOf 22 = .ok (.ireturn, 1) := by decide +kernel
theorem dX10_periodOf_23 : decode cX10_periodOf 23 = .ok (.aload_n 0, 1) := by decide +kernel
theorem dX10_periodOf_24 : decode cX10_periodOf 24 = .ok (.iload_n 1, 1) := by decide +kernel
theorem dX10_periodOf_25 : decode cX10_periodOf 25 = .ok (.invokevirtual 302, 3) := by decide +kernel
theorem dX10_periodOf_28 : decode cX10_periodOf 28 = .ok (.lstore_n 3, 1) := by decide +kernel
theorem dX10_periodOf_29 : decode cX10_periodOf 29 = .ok (.aload_n 0, 1) := by decide +kernel
theorem dX10_periodOf_30 : decode cX10_periodOf 30 = .ok (.iload_n 2, 1) := by decide +kernel
theorem dX10_periodOf_31 : decode cX10_periodOf 31 = .ok (.invokevirtual 302, 3) := by decide +kernel
theorem dX10_periodOf_34 : decode cX10_periodOf 34 = .ok (.lstore 5, 2) := by decide +kernel
theorem dX10_periodOf_36 : decode cX10_periodOf 36 = .ok (.lload_n 3, 1) := by decide +kernel
theorem dX10_periodOf_37 : decode cX10_periodOf 37 = .ok (.lconst 0, 1) := by decide +kernel
theorem dX10_periodOf_38 : decode cX10_periodOf 38 = .ok (.lcmp, 1) := by decide +kernel
theorem dX10_periodOf_39 : decode cX10_periodOf 39 = .ok (.ifCond .eq 10, 3) := by decide +kernel
theorem dX10_periodOf_42 : decode cX10_periodOf 42 = .ok (.lload 5, 2) := by decide +kernel
theorem dX10_periodOf_44 : decode cX10_periodOf 44 = .ok (.lconst 0, 1) := by decide +kernel
theorem dX10_periodOf_45 : decode cX10_periodOf 45 = .ok (.lcmp, 1) := by decide +kernel
theorem dX10_periodOf_46 : decode cX10_periodOf 46 = .ok (.ifCond .ne 7, 3) := by decide +kernel
theorem dX10_periodOf_49 : decode cX10_periodOf 49 = .ok (.iconst 0, 1) := by decide +kernel
theorem dX10_periodOf_50 : decode cX10_periodOf 50 = .ok (.goto 17, 3) := by decide +kernel
theorem dX10_periodOf_53 : decode cX10_periodOf 53 = .ok (.lload_n 3, 1) := by decide +kernel
theorem dX10_periodOf_54 : decode cX10_periodOf 54 = .ok (.lload_n 3, 1) := by decide +kernel
theorem dX10_periodOf_55 : decode cX10_periodOf 55 = .ok (.lload 5, 2) := by decide +kernel
theorem dX10_periodOf_57 : decode cX10_periodOf 57 = .ok (.invokestatic 294, 3) := by decide +kernel
theorem dX10_periodOf_60 : decode cX10_periodOf 60 = .ok (.ldiv, 1) := by decide +kernel
theorem dX10_periodOf_61 : decode cX10_periodOf 61 = .ok (.lload 5, 2) := by decide +kernel
theorem dX10_periodOf_63 : decode cX10_periodOf 63 = .ok (.lmul, 1) := by decide +kernel
theorem dX10_periodOf_64 : decode cX10_periodOf 64 = .ok (.invokestatic 306, 3) := by decide +kernel
theorem dX10_periodOf_67 : decode cX10_periodOf 67 = .ok (.ireturn, 1) := by decide +kernel
set_option maxRecDepth 20000 in
theorem ggX10_oddMany_X10_get : GoodIn wsX10_oddMany wsX10_get := goodIn_r _ [5, 6, 7, 8, 9, 10, 11, 12, 13, 14, 15, 16, 17, 18, 19, 20, 21, 22, 23, 24, 25, 26, 27, 28, 29, 30, 31, 32] (by decide +kernel) (by decide +kernel)
set_option maxRecDepth 20000 in
theorem gX10_oddMany_X10_get : GoodIn wsX10_oddMany (wsV RX10 229 RX10 yX10_get wsX10_get) := goodIn_app (goodIn_of _ (by decide +kernel)) ggX10_oddMany_X10_get
theorem dX10_oddMany_0 : decode cX10_oddMany 0 = .ok (.iconst 0, 1) := by decide +kernel
theorem dX10_oddMany_1 : decode cX10_oddMany 1 = .ok (.istore_n 3, 1) := by decide +kernel
theorem dX10_oddMany_2 : decode cX10_oddMany 2 = .ok (.iconst 0, 1) := by decide +kernel
theorem dX10_oddMany_3 : decode cX10_oddMany 3 = .ok (.istore 4, 2) := by decide +kernel
theorem dX10_oddMany_5 : decode cX10_oddMany 5 = .ok (.iload 4, 2) := by decide +kernel
theorem dX10_oddMany_7 : decode cX10_oddMany 7 = .ok (.aload_n 0, 1) := by decide +kernel
theorem dX10_oddMany_8 : decode cX10_oddMany 8 = .ok (.iload_n 1, 1) := by decide +kernel
theorem dX10_oddMany_9 : decode cX10_oddMany 9 = .ok (.bipush 11, 2) := by decide +kernel
theorem dX10_oddMany_11 : decode cX10_oddMany 11 = .ok (.invokevirtual 229, 3) := by decide +kernel
theorem dX10_oddMany_14 : decode cX10_oddMany 14 = .ok (.if_icmp .ge 38, 3) := by decide +kernel
theorem dX10_oddMany_17 : decode cX10_oddMany 17 = .ok (.aload_n 0, 1) := by decide +kernel
theorem dX10_oddMany_18 : decode cX10_oddMany 18 = .ok (.iload_n 1, 1) := by decide +kernel
theorem dX10_oddMany_19 : decode cX10_oddMany 19 = .ok (.bipush 12, 2) := by decide +kernel
theorem dX10_oddMany_21 : decode cX10_oddMany 21 = .ok (.iconst 2, 1) := by decide +kernel
theorem dX10_oddMany_22 : decode cX10_oddMany 22 = .ok (.iload 4, 2) := by decide +kernel
theorem dX10_oddMany_24 : decode cX10_oddMany 24 = .ok (.imul, 1) := by decide +kernel
theorem dX10_oddMany_25 : decode cX10_oddMany 25 = .ok (.iadd, 1) := by decide +kernel
theorem dX10_oddMany_26 : decode cX10_oddMany 26 = .ok (.iconst 1, 1) := by decide +kernel
theorem dX10_oddMany_27 : decode cX10_oddMany 27 = .ok (.iadd, 1) := by decide +kernel
theorem dX10_oddMany_28 : decode cX10_oddMany 28 = .ok (.invokevirtual 229, 3) := by decide +kernel
theorem dX10_oddMany_31 : decode cX10_oddMany 31 = .ok (.ifCond .ge 7, 3) := by decide +kernel
theorem dX10_oddMany_34 : decode cX10_oddMany 34 = .ok (.iconst 1, 1) := by decide +kernel
theorem dX10_oddMany_35 : decode cX10_oddMany 35 = .ok (.goto 4, 3) := by decide +kernel
theorem dX10_oddMany_38 : decode cX10_oddMany 38 = .ok (.iconst 0, 1) := by decide +kernel
theorem dX10_oddMany_39 : decode cX10_oddMany 39 = .ok (.iload_n 2, 1) := by decide +kernel
theorem dX10_oddMany_40 : decode cX10_oddMany 40 = .ok (.if_icmp .ne 6, 3) := by decide +kernel
theorem dX10_oddMany_43 : decode cX10_oddMany 43 = .ok (.iinc 3 1, 3) := by decide +kernel
theorem dX10_oddMany_46 : decode cX10_oddMany 46 = .ok (.iinc 4 1, 3) := by decide +kernel
theorem dX10_oddMany_49 : decode cX10_oddMany 49 = .ok (.goto (-44), 3) := by decide +kernel
theorem dX10_oddMany_52 : decode cX10_oddMany 52 = .ok (.iload_n 3, 1) := by decide +kernel
theorem dX10_oddMany_53 : decode cX10_oddMany 53 = .ok (.ireturn, 1) := by decide +kernel
set_option maxRecDepth 20000 in
theorem ggX10_of_X10_isBooking : GoodIn wsX10_of wsX10_isBooking := goodIn_r _ [7, 8, 9, 10, 6, 11, 39, 40, 41, 42, 43, 44, 45, 46, 47, 48, 49, 50, 51, 52, 53, 54, 55, 56, 57, 58, 59, 60, 61, 62, 63, 64] (by decide +kernel) (by decide +kernel)
set_option maxRecDepth 20000 in
theorem gX10_of_X10_isBooking : GoodIn wsX10_of (wsV RX10 220 RX10 yX10_isBooking wsX10_isBooking) := goodIn_app (goodIn_of _ (by decide +kernel)) ggX10_of_X10_isBooking
set_option maxRecDepth 20000 in
theorem ggX10_of_X10_within : GoodIn wsX10_of wsX10_within := goodIn_r _ [11] (by decide +kernel) (by decide +kernel)
set_option maxRecDepth 20000 in
theorem gX10_of_X10_within : GoodIn wsX10_of (va_wsS RX10 65 yX10_within wsX10_within) := goodIn_app (goodIn_of _ (by decide +kernel)) ggX10_of_X10_within
set_option maxRecDepth 20000 in
theorem ggX10_of_X10_get : GoodIn wsX10_of wsX10_get := goodIn_r _ [15, 16, 39, 40, 41, 42, 43, 44, 45, 46, 47, 48, 49, 50, 51, 52, 53, 54, 55, 56, 57, 58, 59, 60, 61, 62, 63, 64] (by decide +kernel) (by decide +kernel)
set_option maxRecDepth 20000 in
theorem gX10_of_X10_get : GoodIn wsX10_of (wsV RX10 229 RX10 yX10_get wsX10_get) := goodIn_app (goodIn_of _ (by decide +kernel)) ggX10_of_X10_get
set_option maxRecDepth 20000 in
theorem ggX10_of_X10_oddMany : GoodIn wsX10_of wsX10_oddMany := goodIn_r _ [20, 12, 13, 14, 6, 15, 16, 39, 40, 41, 42, 43, 44, 45, 46, 47, 48, 49, 50, 51, 52, 53, 54, 55, 56, 57, 58, 59, 60, 61, 62, 63, 64] (by decide +kernel) (by decide +kernel)
set_option maxRecDepth 20000 in
theorem gX10_of_X10_oddMany : GoodIn wsX10_of (wsV RX10 310 RX10 yX10_oddMany wsX10_oddMany) := goodIn_app (goodIn_of _ (by decide +kernel)) ggX10_of_X10_oddMany
set_option maxRecDepth 20000 in
theorem ggX10_of_X10_laysKeys : GoodIn wsX10_of wsX10_laysKeys := goodIn_r _ [24, 25, 2, 26, 27, 12, 13, 14, 6, 15, 16, 28, 29, 30, 31, 32, 33, 34, 35, 36, 37, 38, 39, 40, 41, 42, 43, 44, 45, 46, 47, 48, 49, 50, 51, 52, 53, 54, 55, 56, 57, 58, 59, 60, 61, 62, 63, 64] (by decide +kernel) (by decide +kernel)
set_option maxRecDepth 20000 in
theorem gX10_of_X10_laysKeys : GoodIn wsX10_of (wsV RX10 236 RX10 yX10_laysKeys wsX10_laysKeys) := goodIn_app (goodIn_of _ (by decide +kernel)) ggX10_of_X10_laysKeys
theorem dX10_of_0 : decode cX10_of 0 = .ok (.aload_n 0, 1) := by decide +kernel
theorem dX10_of_1 : decode cX10_of 1 = .ok (.iconst 0, 1) := by decide +kernel
theorem dX10_of_2 : decode cX10_of 2 = .ok (.putfield 60, 3) := by decide +kernel
theorem dX10_of_5 : decode cX10_of 5 = .ok (.aload_n 0, 1) := by decide +kernel
theorem dX10_of_6 : decode cX10_of 6 = .ok (.iload_n 1, 1) := by decide +kernel
theorem dX10_of_7 : decode cX10_of 7 = .ok (.invokevirtual 220, 3) := by decide +kernel
theorem dX10_of_10 : decode cX10_of 10 = .ok (.ifCond .eq 13, 3) := by decide +kernel
theorem dX10_of_13 : decode cX10_of 13 = .ok (.iload_n 2, 1) := by decide +kernel
theorem dX10_of_14 : decode cX10_of 14 = .ok (.iconst 0, 1) := by decide +kernel
theorem dX10_of_15 : decode cX10_of 15 = .ok (.bipush 13, 2) := by decide +kernel
theorem dX10_of_17 : decode cX10_of 17 = .ok (.invokestatic 65, 3) := by decide +kernel
theorem dX10_of_20 : decode cX10_of 20 = .ok (.ifCond .ne 6, 3) := by decide +kernel
theorem dX10_of_23 : decode cX10_of 23 = .ok (.bipush (-2), 2) := by decide +kernel
theorem dX10_of_25 : decode cX10_of 25 = .ok (.ireturn, 1) := by decide +kernel
theorem dX10_of_26 : decode cX10_of 26 = .ok (.iload_n 2, 1) := by decide +kernel
theorem dX10_of_27 : decode cX10_of 27 = .ok (.bipush 10, 2) := by decide +kernel
theorem dX10_of_29 : decode cX10_of 29 = .ok (.if_icmp .ge 10, 3) := by decide +kernel
theorem dX10_of_32 : decode cX10_of 32 = .ok (.aload_n 0, 1) := by decide +kernel
theorem dX10_of_33 : decode cX10_of 33 = .ok (.iload_n 1, 1) := by decide +kernel
theorem dX10_of_34 : decode cX10_of 34 = .ok (.iload_n 2, 1) := by decide +kernel
theorem dX10_of_35 : decode cX10_of 35 = .ok (.invokevirtual 229, 3) := by decide +kernel
theorem dX10_of_38 : decode cX10_of 38 = .ok (.ireturn, 1) := by decide +kernel
theorem dX10_of_39 : decode cX10_of 39 = .ok (.iload_n 2, 1) := by decide +kernel
theorem dX10_of_40 : decode cX10_of 40 = .ok (.bipush 12, 2) := by decide +kernel
theorem dX10_of_42 : decode cX10_of 42 = .ok (.if_icmp .ge 20, 3) := by decide +kernel
theorem dX10_of_45 : decode cX10_of 45 = .ok (.aload_n 0, 1) := by decide +kernel
theorem dX10_of_46 : decode cX10_of 46 = .ok (.iload_n 1, 1) := by decide +kernel
theorem dX10_of_47 : decode cX10_of 47 = .ok (.iload_n 2, 1) := by decide +kernel
theorem dX10_of_48 : decode cX10_of 48 = .ok (.bipush 10, 2) := by decide +kernel
theorem dX10_of_50 : decode cX10_of 50 = .ok (.if_icmp .ne 7, 3) := by decide +kernel
theorem dX10_of_53 : decode cX10_of 53 = .ok (.iconst 1, 1) := by decide +kernel
theorem dX10_of_54 : decode cX10_of 54 = .ok (.goto 4, 3) := by decide +kernel
theorem dX10_of_57 : decode cX10_of 57 = .ok (.iconst 0, 1) := by decide +kernel
theorem dX10_of_58 : decode cX10_of 58 = .ok (.invokevirtual 310, 3) := by decide +kernel
theorem dX10_of_61 : decode cX10_of 61 = .ok (.ireturn, 1) := by decide +kernel
theorem dX10_of_62 : decode cX10_of 62 = .ok (.aload_n 0, 1) := by decide +kernel
theorem dX10_of_63 : decode cX10_of 63 = .ok (.iload_n 1, 1) := by decide +kernel
theorem dX10_of_64 : decode cX10_of 64 = .ok (.iconst 0, 1) := by decide +kernel
theorem dX10_of_65 : decode cX10_of 65 = .ok (.invokevirtual 236, 3) := by decide +kernel
theorem dX10_of_68 : decode cX10_of 68 = .ok (.istore_n 3, 1) := by decide +kernel
theorem dX10_of_69 : decode cX10_of 69 = .ok (.iload_n 3, 1) := by decide +kernel
theorem dX10_of_70 : decode cX10_of 70 = .ok (.ifCond .ne 7, 3) := by decide +kernel
theorem dX10_of_73 : decode cX10_of 73 = .ok (.iconst (-1), 1) := by decide +kernel
theorem dX10_of_74 : decode cX10_of 74 = .ok (.goto 26, 3) := by decide +kernel
theorem dX10_of_77 : decode cX10_of 77 = .ok (.iload_n 2, 1) := by decide +kernel
theorem dX10_of_78 : decode cX10_of 78 = .ok (.bipush 12, 2) := by decide +kernel
theorem dX10_of_80 : decode cX10_of 80 = .ok (.if_icmp .ne 12, 3) := by decide +kernel
theorem dX10_of_83 : decode cX10_of 83 = .ok (.aload_n 0, 1) := by decide +kernel
theorem dX10_of_84 : decode cX10_of 84 = .ok (.getfield 39, 3) := by decide +kernel
theorem dX10_of_87 : decode cX10_of 87 = .ok (.iconst 0, 1) := by decide +kernel
theorem dX10_of_88 : decode cX10_of 88 = .ok (.iaload, 1) := by decide +kernel
theorem dX10_of_89 : decode cX10_of 89 = .ok (.goto 11, 3) := by decide +kernel
theorem dX10_of_92 : decode cX10_of 92 = .ok (.aload_n 0, 1) := by decide +kernel
theorem dX10_of_93 : decode cX10_of 93 = .ok (.getfield 39, 3) := by decide +kernel
theorem dX10_of_96 : decode cX10_of 96 = .ok (.iload_n 3, 1) := by decide +kernel
theorem dX10_of_97 : decode cX10_of 97 = .ok (.iconst 1, 1) := by decide +kernel
theorem dX10_of_98 : decode cX10_of 98 = .ok (.isub, 1) := by decide +kernel
theorem dX10_of_99 : decode cX10_of 99 = .ok (.iaload, 1) := by decide +kernel
theorem dX10_of_100 : decode cX10_of 100 = .ok (.ireturn, 1) := by decide +kernel
set_option maxRecDepth 20000 in
theorem ggX10_image_X10_within : GoodIn wsX10_image wsX10_within := goodIn_r _ [9] (by decide +kernel) (by decide +kernel)
set_option maxRecDepth 20000 in
theorem gX10_image_X10_within : GoodIn wsX10_image (va_wsS RX10 65 yX10_within wsX10_within) := goodIn_app (goodIn_of _ (by decide +kernel)) ggX10_image_X10_within
theorem dX10_image_0 : decode cX10_image 0 = .ok (.aload_n 0, 1) := by decide +kernel
theorem dX10_image_1 : decode cX10_image 1 = .ok (.iconst 0, 1) := by decide +kernel
theorem dX10_image_2 : decode cX10_image 2 = .ok (.putfield 60, 3) := by decide +kernel
theorem dX10_image_5 : decode cX10_image 5 = .ok (.iload_n 1, 1) := by decide +kernel
theorem dX10_image_6 : decode cX10_image 6 = .ok (.iconst 0, 1) := by decide +kernel
theorem dX10_image_7 : decode cX10_image 7 = .ok (.iconst 1, 1) := by decide +kernel
theorem dX10_image_8 : decode cX10_image 8 = .ok (.invokestatic 65, 3) := by decide +kernel
theorem dX10_image_11 : decode cX10_image 11 = .ok (.ifCond .ne 5, 3) := by decide +kernel
theorem dX10_image_14 : decode cX10_image 14 = .ok (.iconst 0, 1) := by decide +kernel
theorem dX10_image_15 : decode cX10_image 15 = .ok (.ireturn, 1) := by decide +kernel
theorem dX10_image_16 : decode cX10_image 16 = .ok (.iconst 0, 1) := by decide +kernel
theorem dX10_image_17 : decode cX10_image 17 = .ok (.istore_n 2, 1) := by decide +kernel
theorem dX10_image_18 : decode cX10_image 18 = .ok (.iload_n 2, 1) := by decide +kernel
theorem dX10_image_19 : decode cX10_image 19 = .ok (.sipush 528, 3) := by decide +kernel
theorem dX10_image_22 : decode cX10_image 22 = .ok (.if_icmp .ge 27, 3) := by decide +kernel
theorem dX10_image_25 : decode cX10_image 25 = .ok (.aload_n 0, 1) := by decide +kernel
theorem dX10_image_26 : decode cX10_image 26 = .ok (.getfield 26, 3) := by decide +kernel
theorem dX10_image_29 : decode cX10_image 29 = .ok (.sipush 528, 3) := by decide +kernel
theorem dX10_image_32 : decode cX10_image 32 = .ok (.iload_n 1, 1) := by decide +kernel
theorem dX10_image_33 : decode cX10_image 33 = .ok (.imul, 1) := by decide +kernel
theorem dX10_image_34 : decode cX10_image 34 = .ok (.iload_n 2, 1) := by decide +kernel
theorem dX10_image_35 : decode cX10_image 35 = .ok (.iadd, 1) := by decide +kernel
theorem dX10_image_36 : decode cX10_image 36 = .ok (.aload_n 0, 1) := by decide +kernel
theorem dX10_image_37 : decode cX10_image 37 = .ok (.getfield 23, 3) := by decide +kernel
theorem dX10_image_40 : decode cX10_image 40 = .ok (.iload_n 2, 1) := by decide +kernel
theorem dX10_image_41 : decode cX10_image 41 = .ok (.iaload, 1) := by decide +kernel
theorem dX10_image_42 : decode cX10_image 42 = .ok (.iastore, 1) := by decide +kernel
theorem dX10_image_43 : decode cX10_image 43 = .ok (.iinc 2 1, 3) := by decide +kernel
theorem dX10_image_46 : decode cX10_image 46 = .ok (.goto (-28), 3) := by decide +kernel
theorem dX10_image_49 : decode cX10_image 49 = .ok (.aload_n 0, 1) := by decide +kernel
theorem dX10_image_50 : decode cX10_image 50 = .ok (.getfield 29, 3) := by decide +kernel
theorem dX10_image_53 : decode cX10_image 53 = .ok (.iload_n 1, 1) := by decide +kernel
theorem dX10_image_54 : decode cX10_image 54 = .ok (.aload_n 0, 1) := by decide +kernel
theorem dX10_image_55 : decode cX10_image 55 = .ok (.getfield 70, 3) := by decide +kernel
theorem dX10_image_58 : decode cX10_image 58 = .ok (.iastore, 1) := by decide +kernel
theorem dX10_image_59 : decode cX10_image 59 = .ok (.iconst 1, 1) := by decide +kernel
theorem dX10_image_60 : decode cX10_image 60 = .ok (.ireturn, 1) := by decide +kernel
set_option maxRecDepth 20000 in
theorem ggX10_back_X10_within : GoodIn wsX10_back wsX10_within := goodIn_r _ [9] (by decide +kernel) (by decide +kernel)
set_option maxRecDepth 20000 in
theorem gX10_back_X10_within : GoodIn wsX10_back (va_wsS RX10 65 yX10_within wsX10_within) := goodIn_app (goodIn_of _ (by decide +kernel)) ggX10_back_X10_within
theorem dX10_back_0 : decode cX10_back 0 = .ok (.aload_n 0, 1) := by decide +kernel
theorem dX10_back_1 : decode cX10_back 1 = .ok (.iconst 0, 1) := by decide +kernel
theorem dX10_back_2 : decode cX10_back 2 = .ok (.putfield 60, 3) := by decide +kernel
theorem dX10_back_5 : decode cX10_back 5 = .ok (.iload_n 1, 1) := by decide +kernel
theorem dX10_back_6 : decode cX10_back 6 = .ok (.iconst 0, 1) := by decide +kernel
theorem dX10_back_7 : decode cX10_back 7 = .ok (.iconst 1, 1) := by decide +kernel
theorem dX10_back_8 : decode cX10_back 8 = .ok (.invokestatic 65, 3) := by decide +kernel
theorem dX10_back_11 : decode cX10_back 11 = .ok (.ifCond .eq 12, 3) := by decide +kernel
theorem dX10_back_14 : decode cX10_back 14 = .ok (.aload_n 0, 1) := by decide +kernel
theorem dX10_back_15 : decode cX10_back 15 = .ok (.getfield 29, 3) := by decide +kernel
theorem dX10_back_18 : decode cX10_back 18 = .ok (.iload_n 1, 1) := by decide +kernel
theorem dX10_back_19 : decode cX10_back 19 = .ok (.iaload, 1) := by decide +kernel
theorem dX10_back_20 : decode cX10_back 20 = .ok (.ifCond .ge 5, 3) := by decide +kernel
theorem dX10_back_23 : decode cX10_back 23 = .ok (.iconst 0, 1) := by decide +kernel
theorem dX10_back_24 : decode cX10_back 24 = .ok (.ireturn, 1) := by decide +kernel
theorem dX10_back_25 : decode cX10_back 25 = .ok (.iconst 0, 1) := by decide +kernel
theorem dX10_back_26 : decode cX10_back 26 = .ok (.istore_n 2, 1) := by decide +kernel
theorem dX10_back_27 : decode cX10_back 27 = .ok (.iload_n 2, 1) := by decide +kernel
theorem dX10_back_28 : decode cX10_back 28 = .ok (.sipush 528, 3) := by decide +kernel
theorem dX10_back_31 : decode cX10_back 31 = .ok (.if_icmp .ge 27, 3) := by decide +kernel
theorem dX10_back_34 : decode cX10_back 34 = .ok (.aload_n 0, 1) := by decide +kernel
theorem dX10_back_35 : decode cX10_back 35 = .ok (.getfield 23, 3) := by decide +kernel
theorem dX10_back_38 : decode cX10_back 38 = .ok (.iload_n 2, 1) := by decide +kernel
theorem dX10_back_39 : decode cX10_back 39 = .ok (.aload_n 0, 1) := by decide +kernel
theorem dX10_back_40 : decode cX10_back 40 = .ok (.getfield 26, 3) := by decide +kernel
theorem dX10_back_43 : decode cX10_back 43 = .ok (.sipush 528, 3) := by decide +kernel
theorem dX10_back_46 : decode cX10_back 46 = .ok (.iload_n 1, 1) := by decide +kernel
theorem dX10_back_47 : decode cX10_back 47 = .ok (.imul, 1) := by decide +kernel
theorem dX10_back_48 : decode cX10_back 48 = .ok (.iload_n 2, 1) := by decide +kernel
theorem dX10_back_49 : decode cX10_back 49 = .ok (.iadd, 1) := by decide +kernel
theorem dX10_back_50 : decode cX10_back 50 = .ok (.iaload, 1) := by decide +kernel
theorem dX10_back_51 : decode cX10_back 51 = .ok (.iastore, 1) := by decide +kernel
theorem dX10_back_52 : decode cX10_back 52 = .ok (.iinc 2 1, 3) := by decide +kernel
theorem dX10_back_55 : decode cX10_back 55 = .ok (.goto (-28), 3) := by decide +kernel
theorem dX10_back_58 : decode cX10_back 58 = .ok (.aload_n 0, 1) := by decide +kernel
theorem dX10_back_59 : decode cX10_back 59 = .ok (.aload_n 0, 1) := by decide +kernel
theorem dX10_back_60 : decode cX10_back 60 = .ok (.getfield 29, 3) := by decide +kernel
theorem dX10_back_63 : decode cX10_back 63 = .ok (.iload_n 1, 1) := by decide +kernel
theorem dX10_back_64 : decode cX10_back 64 = .ok (.iaload, 1) := by decide +kernel
theorem dX10_back_65 : decode cX10_back 65 = .ok (.putfield 70, 3) := by decide +kernel
theorem dX10_back_68 : decode cX10_back 68 = .ok (.iconst 1, 1) := by decide +kernel
theorem dX10_back_69 : decode cX10_back 69 = .ok (.ireturn, 1) := by decide +kernel
set_option maxRecDepth 20000 in
theorem ggX10_told_X10_get : GoodIn wsX10_told wsX10_get := goodIn_r _ [9, 10, 11, 12, 13, 14, 15, 16, 17, 18, 19, 20, 21, 22, 23, 24, 25, 26, 27, 28, 29, 30, 31, 32, 33, 34, 35, 36] (by decide +kernel) (by decide +kernel)
set_option maxRecDepth 20000 in
theorem gX10_told_X10_get : GoodIn wsX10_told (wsV RX10 229 RX10 yX10_get wsX10_get) := goodIn_app (goodIn_of _ (by decide +kernel)) ggX10_told_X10_get
theorem dX10_told_0 : decode cX10_told 0 = .ok (.aload_n 0, 1) := by decide +kernel
theorem dX10_told_1 : decode cX10_told 1 = .ok (.iconst 0, 1) := by decide +kernel
theorem dX10_told_2 : decode cX10_told 2 = .ok (.putfield 60, 3) := by decide +kernel
theorem dX10_told_5 : decode cX10_told 5 = .ok (.iload_n 1, 1) := by decide +kernel
theorem dX10_told_6 : decode cX10_told 6 = .ok (.tableswitch 101 0 3 #[30, 35, 40, 71], 30) := by decide +kernel
theorem dX10_told_36 : decode cX10_told 36 = .ok (.aload_n 0, 1) := by decide +kernel
theorem dX10_told_37 : decode cX10_told 37 = .ok (.getfield 70, 3) := by decide +kernel
theorem dX10_told_40 : decode cX10_told 40 = .ok (.ireturn, 1) := by decide +kernel
theorem dX10_told_41 : decode cX10_told 41 = .ok (.aload_n 0, 1) := by decide +kernel
theorem dX10_told_42 : decode cX10_told 42 = .ok (.getfield 73, 3) := by decide +kernel
theorem dX10_told_45 : decode cX10_told 45 = .ok (.ireturn, 1) := by decide +kernel
theorem dX10_told_46 : decode cX10_told 46 = .ok (.iconst 0, 1) := by decide +kernel
theorem dX10_told_47 : decode cX10_told 47 = .ok (.istore_n 2, 1) := by decide +kernel
theorem dX10_told_48 : decode cX10_told 48 = .ok (.iconst 0, 1) := by decide +kernel
theorem dX10_told_49 : decode cX10_told 49 = .ok (.istore_n 3, 1) := by decide +kernel
theorem dX10_told_50 : decode cX10_told 50 = .ok (.iload_n 3, 1) := by decide +kernel
theorem dX10_told_51 : decode cX10_told 51 = .ok (.aload_n 0, 1) := by decide +kernel
theorem dX10_told_52 : decode cX10_told 52 = .ok (.getfield 70, 3) := by decide +kernel
theorem dX10_told_55 : decode cX10_told 55 = .ok (.if_icmp .ge 20, 3) := by decide +kernel
theorem dX10_told_58 : decode cX10_told 58 = .ok (.iload_n 2, 1) := by decide +kernel
theorem dX10_told_59 : decode cX10_told 59 = .ok (.iconst 1, 1) := by decide +kernel
theorem dX10_told_60 : decode cX10_told 60 = .ok (.aload_n 0, 1) := by decide +kernel
theorem dX10_told_61 : decode cX10_told 61 = .ok (.iload_n 3, 1) := by decide +kernel
theorem dX10_told_62 : decode cX10_told 62 = .ok (.iconst 0, 1) := by decide +kernel
theorem dX10_told_63 : decode cX10_told 63 = .ok (.invokevirtual 229, 3) := by decide +kernel
theorem dX10_told_66 : decode cX10_told 66 = .ok (.ishl, 1) := by decide +kernel
theorem dX10_told_67 : decode cX10_told 67 = .ok (.ior, 1) := by decide +kernel
theorem dX10_told_68 : decode cX10_told 68 = .ok (.istore_n 2, 1) := by decide +kernel
theorem dX10_told_69 : decode cX10_told 69 = .ok (.iinc 3 1, 3) := by decide +kernel
theorem dX10_told_72 : decode cX10_told 72 = .ok (.goto (-22), 3) := by decide +kernel
theorem dX10_told_75 : decode cX10_told 75 = .ok (.iload_n 2, 1) := by decide +kernel
theorem dX10_told_76 : decode cX10_told 76 = .ok (.ireturn, 1) := by decide +kernel
theorem dX10_told_77 : decode cX10_told 77 = .ok (.aload_n 0, 1) := by decide +kernel
theorem dX10_told_78 : decode cX10_told 78 = .ok (.getfield 29, 3) := by decide +kernel
theorem dX10_told_81 : decode cX10_told 81 = .ok (.iconst 0, 1) := by decide +kernel
theorem dX10_told_82 : decode cX10_told 82 = .ok (.iaload, 1) := by decide +kernel
theorem dX10_told_83 : decode cX10_told 83 = .ok (.ifCond .ge 7, 3) := by decide +kernel
theorem dX10_told_86 : decode cX10_told 86 = .ok (.iconst 0, 1) := by decide +kernel
theorem dX10_told_87 : decode cX10_told 87 = .ok (.goto 4, 3) := by decide +kernel
theorem dX10_told_90 : decode cX10_told 90 = .ok (.iconst 1, 1) := by decide +kernel
theorem dX10_told_91 : decode cX10_told 91 = .ok (.aload_n 0, 1) := by decide +kernel
theorem dX10_told_92 : decode cX10_told 92 = .ok (.getfield 29, 3) := by decide +kernel
theorem dX10_told_95 : decode cX10_told 95 = .ok (.iconst 1, 1) := by decide +kernel
theorem dX10_told_96 : decode cX10_told 96 = .ok (.iaload, 1) := by decide +kernel
theorem dX10_told_97 : decode cX10_told 97 = .ok (.ifCond .ge 7, 3) := by decide +kernel
theorem dX10_told_100 : decode cX10_told 100 = .ok (.iconst 0, 1) := by decide +kernel
theorem dX10_told_101 : decode cX10_told 101 = .ok (.goto 4, 3) := by decide +kernel
theorem dX10_told_104 : decode cX10_told 104 = .ok (.iconst 2, 1) := by decide +kernel
theorem dX10_told_105 : decode cX10_told 105 = .ok (.iadd, 1) := by decide +kernel
theorem dX10_told_106 : decode cX10_told 106 = .ok (.ireturn, 1) := by decide +kernel
theorem dX10_told_107 : decode cX10_told 107 = .ok (.iconst (-1), 1) := by decide +kernel
theorem dX10_told_108 : decode cX10_told 108 = .ok (.ireturn, 1) := by decide +kernel
theorem dJ6_bitCount_0f7a4_0 : decode cJ6_bitCount_0f7a4 0 = .ok (.iload_n 0, 1) := by decide +kernel
theorem dJ6_bitCount_0f7a4_1 : decode cJ6_bitCount_0f7a4 1 = .ok (.iload_n 0, 1) := by decide +kernel
theorem dJ6_bitCount_0f7a4_2 : decode cJ6_bitCount_0f7a4 2 = .ok (.iconst 1, 1) := by decide +kernel
theorem dJ6_bitCount_0f7a4_3 : decode cJ6_bitCount_0f7a4 3 = .ok (.iushr, 1) := by decide +kernel
theorem dJ6_bitCount_0f7a4_4 : decode cJ6_bitCount_0f7a4 4 = .ok (.ldc_w 265, 3) := by decide +kernel
theorem dJ6_bitCount_0f7a4_7 : decode cJ6_bitCount_0f7a4 7 = .ok (.iand, 1) := by decide +kernel
theorem dJ6_bitCount_0f7a4_8 : decode cJ6_bitCount_0f7a4 8 = .ok (.isub, 1) := by decide +kernel
theorem dJ6_bitCount_0f7a4_9 : decode cJ6_bitCount_0f7a4 9 = .ok (.istore_n 0, 1) := by decide +kernel
theorem dJ6_bitCount_0f7a4_10 : decode cJ6_bitCount_0f7a4 10 = .ok (.iload_n 0, 1) := by decide +kernel
theorem dJ6_bitCount_0f7a4_11 : decode cJ6_bitCount_0f7a4 11 = .ok (.ldc_w 266, 3) := by decide +kernel
theorem dJ6_bitCount_0f7a4_14 : decode cJ6_bitCount_0f7a4 14 = .ok (.iand, 1) := by decide +kernel
theorem dJ6_bitCount_0f7a4_15 : decode cJ6_bitCount_0f7a4 15 = .ok (.iload_n 0, 1) := by decide +kernel
theorem dJ6_bitCount_0f7a4_16 : decode cJ6_bitCount_0f7a4 16 = .ok (.iconst 2, 1) := by decide +kernel
theorem dJ6_bitCount_0f7a4_17 : decode cJ6_bitCount_0f7a4 17 = .ok (.iushr, 1) := by decide +kernel
theorem dJ6_bitCount_0f7a4_18 : decode cJ6_bitCount_0f7a4 18 = .ok (.ldc_w 266, 3) := by decide +kernel
theorem dJ6_bitCount_0f7a4_21 : decode cJ6_bitCount_0f7a4 21 = .ok (.iand, 1) := by decide +kernel
theorem dJ6_bitCount_0f7a4_22 : decode cJ6_bitCount_0f7a4 22 = .ok (.iadd, 1) := by decide +kernel
theorem dJ6_bitCount_0f7a4_23 : decode cJ6_bitCount_0f7a4 23 = .ok (.istore_n 0, 1) := by decide +kernel
theorem dJ6_bitCount_0f7a4_24 : decode cJ6_bitCount_0f7a4 24 = .ok (.iload_n 0, 1) := by decide +kernel
theorem dJ6_bitCount_0f7a4_25 : decode cJ6_bitCount_0f7a4 25 = .ok (.iload_n 0, 1) := by decide +kernel
theorem dJ6_bitCount_0f7a4_26 : decode cJ6_bitCount_0f7a4 26 = .ok (.iconst 4, 1) := by decide +kernel
theorem dJ6_bitCount_0f7a4_27 : decode cJ6_bitCount_0f7a4 27 = .ok (.iushr, 1) := by decide +kernel
theorem dJ6_bitCount_0f7a4_28 : decode cJ6_bitCount_0f7a4 28 = .ok (.iadd, 1) := by decide +kernel
theorem dJ6_bitCount_0f7a4_29 : decode cJ6_bitCount_0f7a4 29 = .ok (.ldc_w 267, 3) := by decide +kernel
theorem dJ6_bitCount_0f7a4_32 : decode cJ6_bitCount_0f7a4 32 = .ok (.iand, 1) := by decide +kernel
theorem dJ6_bitCount_0f7a4_33 : decode cJ6_bitCount_0f7a4 33 = .ok (.istore_n 0, 1) := by decide +kernel
theorem dJ6_bitCount_0f7a4_34 : decode cJ6_bitCount_0f7a4 34 = .ok (.iload_n 0, 1) := by decide +kernel
theorem dJ6_bitCount_0f7a4_35 : decode cJ6_bitCount_0f7a4 35 = .ok (.iload_n 0, 1) := by decide +kernel
theorem dJ6_bitCount_0f7a4_36 : decode cJ6_bitCount_0f7a4 36 = .ok (.bipush 8, 2) := by decide +kernel
theorem dJ6_bitCount_0f7a4_38 : decode cJ6_bitCount_0f7a4 38 = .ok (.iushr, 1) := by decide +kernel
theorem dJ6_bitCount_0f7a4_39 : decode cJ6_bitCount_0f7a4 39 = .ok (.iadd, 1) := by decide +kernel
theorem dJ6_bitCount_0f7a4_40 : decode cJ6_bitCount_0f7a4 40 = .ok (.istore_n 0, 1) := by decide +kernel
theorem dJ6_bitCount_0f7a4_41 : decode cJ6_bitCount_0f7a4 41 = .ok (.iload_n 0, 1) := by decide +kernel
theorem dJ6_bitCount_0f7a4_42 : decode cJ6_bitCount_0f7a4 42 = .ok (.iload_n 0, 1) := by decide +kernel
theorem dJ6_bitCount_0f7a4_43 : decode cJ6_bitCount_0f7a4 43 = .ok (.bipush 16, 2) := by decide +kernel
theorem dJ6_bitCount_0f7a4_45 : decode cJ6_bitCount_0f7a4 45 = .ok (.iushr, 1) := by decide +kernel
theorem dJ6_bitCount_0f7a4_46 : decode cJ6_bitCount_0f7a4 46 = .ok (.iadd, 1) := by decide +kernel
theorem dJ6_bitCount_0f7a4_47 : decode cJ6_bitCount_0f7a4 47 = .ok (.istore_n 0, 1) := by decide +kernel
theorem dJ6_bitCount_0f7a4_48 : decode cJ6_bitCount_0f7a4 48 = .ok (.iload_n 0, 1) := by decide +kernel
theorem dJ6_bitCount_0f7a4_49 : decode cJ6_bitCount_0f7a4 49 = .ok (.bipush 63, 2) := by decide +kernel
theorem dJ6_bitCount_0f7a4_51 : decode cJ6_bitCount_0f7a4 51 = .ok (.iand, 1) := by decide +kernel
theorem dJ6_bitCount_0f7a4_52 : decode cJ6_bitCount_0f7a4 52 = .ok (.ireturn, 1) := by decide +kernel
theorem dJ9_floorDiv_7cf53_0 : decode cJ9_floorDiv_7cf53 0 = .ok (.iload_n 0, 1) := by decide +kernel
theorem dJ9_floorDiv_7cf53_1 : decode cJ9_floorDiv_7cf53 1 = .ok (.iload_n 1, 1) := by decide +kernel
theorem dJ9_floorDiv_7cf53_2 : decode cJ9_floorDiv_7cf53 2 = .ok (.idiv, 1) := by decide +kernel
theorem dJ9_floorDiv_7cf53_3 : decode cJ9_floorDiv_7cf53 3 = .ok (.istore_n 2, 1) := by decide +kernel
theorem dJ9_floorDiv_7cf53_4 : decode cJ9_floorDiv_7cf53 4 = .ok (.iload_n 0, 1) := by decide +kernel
theorem dJ9_floorDiv_7cf53_5 : decode cJ9_floorDiv_7cf53 5 = .ok (.iload_n 1, 1) := by decide +kernel
theorem dJ9_floorDiv_7cf53_6 : decode cJ9_floorDiv_7cf53 6 = .ok (.ixor, 1) := by decide +kernel
theorem dJ9_floorDiv_7cf53_7 : decode cJ9_floorDiv_7cf53 7 = .ok (.ifCond .ge 14, 3) := by decide +kernel
theorem dJ9_floorDiv_7cf53_10 : decode cJ9_floorDiv_7cf53 10 = .ok (.iload_n 2, 1) := by decide +kernel
theorem dJ9_floorDiv_7cf53_11 : decode cJ9_floorDiv_7cf53 11 = .ok (.iload_n 1, 1) := by decide +kernel
theorem dJ9_floorDiv_7cf53_12 : decode cJ9_floorDiv_7cf53 12 = .ok (.imul, 1) := by decide +kernel
theorem dJ9_floorDiv_7cf53_13 : decode cJ9_floorDiv_7cf53 13 = .ok (.iload_n 0, 1) := by decide +kernel
theorem dJ9_floorDiv_7cf53_14 : decode cJ9_floorDiv_7cf53 14 = .ok (.if_icmp .eq 7, 3) := by decide +kernel
theorem dJ9_floorDiv_7cf53_17 : decode cJ9_floorDiv_7cf53 17 = .ok (.iload_n 2, 1) := by decide +kernel
theorem dJ9_floorDiv_7cf53_18 : decode cJ9_floorDiv_7cf53 18 = .ok (.iconst 1, 1) := by decide +kernel
theorem dJ9_floorDiv_7cf53_19 : decode cJ9_floorDiv_7cf53 19 = .ok (.isub, 1) := by decide +kernel
theorem dJ9_floorDiv_7cf53_20 : decode cJ9_floorDiv_7cf53 20 = .ok (.ireturn, 1) := by decide +kernel
theorem dJ9_floorDiv_7cf53_21 : decode cJ9_floorDiv_7cf53 21 = .ok (.iload_n 2, 1) := by decide +kernel
theorem dJ9_floorDiv_7cf53_22 : decode cJ9_floorDiv_7cf53 22 = .ok (.ireturn, 1) := by decide +kernel
theorem dJ9_max_7cf53_0 : decode cJ9_max_7cf53 0 = .ok (.iload_n 0, 1) := by decide +kernel
theorem dJ9_max_7cf53_1 : decode cJ9_max_7cf53 1 = .ok (.iload_n 1, 1) := by decide +kernel
theorem dJ9_max_7cf53_2 : decode cJ9_max_7cf53 2 = .ok (.if_icmp .lt 7, 3) := by decide +kernel
theorem dJ9_max_7cf53_5 : decode cJ9_max_7cf53 5 = .ok (.iload_n 0, 1) := by decide +kernel
theorem dJ9_max_7cf53_6 : decode cJ9_max_7cf53 6 = .ok (.goto 4, 3) := by decide +kernel
theorem dJ9_max_7cf53_9 : decode cJ9_max_7cf53 9 = .ok (.iload_n 1, 1) := by decide +kernel
theorem dJ9_max_7cf53_10 : decode cJ9_max_7cf53 10 = .ok (.ireturn, 1) := by decide +kernel
theorem dJ9_min_7cf53_0 : decode cJ9_min_7cf53 0 = .ok (.iload_n 0, 1) := by decide +kernel
theorem dJ9_min_7cf53_1 : decode cJ9_min_7cf53 1 = .ok (.iload_n 1, 1) := by decide +kernel
theorem dJ9_min_7cf53_2 : decode cJ9_min_7cf53 2 = .ok (.if_icmp .gt 7, 3) := by decide +kernel
theorem dJ9_min_7cf53_5 : decode cJ9_min_7cf53 5 = .ok (.iload_n 0, 1) := by decide +kernel
theorem dJ9_min_7cf53_6 : decode cJ9_min_7cf53 6 = .ok (.goto 4, 3) := by decide +kernel
theorem dJ9_min_7cf53_9 : decode cJ9_min_7cf53 9 = .ok (.iload_n 1, 1) := by decide +kernel
theorem dJ9_min_7cf53_10 : decode cJ9_min_7cf53 10 = .ok (.ireturn, 1) := by decide +kernel
theorem dJ9_min_f86c9_0 : decode cJ9_min_f86c9 0 = .ok (.lload_n 0, 1) := by decide +kernel
theorem dJ9_min_f86c9_1 : decode cJ9_min_f86c9 1 = .ok (.lload_n 2, 1) := by decide +kernel
theorem dJ9_min_f86c9_2 : decode cJ9_min_f86c9 2 = .ok (.lcmp, 1) := by decide +kernel
theorem dJ9_min_f86c9_3 : decode cJ9_min_f86c9 3 = .ok (.ifCond .gt 7, 3) := by decide +kernel
theorem dJ9_min_f86c9_6 : decode cJ9_min_f86c9 6 = .ok (.lload_n 0, 1) := by decide +kernel
theorem dJ9_min_f86c9_7 : decode cJ9_min_f86c9 7 = .ok (.goto 4, 3) := by decide +kernel
theorem dJ9_min_f86c9_10 : decode cJ9_min_f86c9 10 = .ok (.lload_n 2, 1) := by decide +kernel
theorem dJ9_min_f86c9_11 : decode cJ9_min_f86c9 11 = .ok (.lreturn, 1) := by decide +kernel
set_option maxRecDepth 20000 in
theorem ggJ0_length_8abf5_J0_coder_7d493 : GoodIn wsJ0_length_8abf5 wsJ0_coder_7d493 := goodIn_r _ [6, 7, 8] (by decide +kernel) (by decide +kernel)
set_option maxRecDepth 20000 in
theorem gJ0_length_8abf5_J0_coder_7d493 : GoodIn wsJ0_length_8abf5 (wsV RJ0 335 RJ0 yJ0_coder_7d493 wsJ0_coder_7d493) := goodIn_app (goodIn_of _ (by decide +kernel)) ggJ0_length_8abf5_J0_coder_7d493
theorem dJ0_length_8abf5_0 : decode cJ0_length_8abf5 0 = .ok (.aload_n 0, 1) := by decide +kernel
theorem dJ0_length_8abf5_1 : decode cJ0_length_8abf5 1 = .ok (.getfield 9, 3) := by decide +kernel
theorem dJ0_length_8abf5_4 : decode cJ0_length_8abf5 4 = .ok (.arraylength, 1) := by decide +kernel
theorem dJ0_length_8abf5_5 : decode cJ0_length_8abf5 5 = .ok (.aload_n 0, 1) := by decide +kernel
theorem dJ0_length_8abf5_6 : decode cJ0_length_8abf5 6 = .ok (.invokevirtual 335, 3) := by decide +kernel
theorem dJ0_length_8abf5_9 : decode cJ0_length_8abf5 9 = .ok (.ishr, 1) := by decide +kernel
theorem dJ0_length_8abf5_10 : decode cJ0_length_8abf5 10 = .ok (.ireturn, 1) := by decide +kernel
set_option maxRecDepth 20000 in
theorem ggJ0_charAt_5068e_J0_isLatin1_aae02 : GoodIn wsJ0_charAt_5068e wsJ0_isLatin1_aae02 := goodIn_r _ [6, 7, 8] (by decide +kernel) (by decide +kernel)
set_option maxRecDepth 20000 in
theorem gJ0_charAt_5068e_J0_isLatin1_aae02 : GoodIn wsJ0_charAt_5068e (wsV RJ0 492 RJ0 yJ0_isLatin1_aae02 wsJ0_isLatin1_aae02) := goodIn_app (goodIn_of _ (by decide +kernel)) ggJ0_charAt_5068e_J0_isLatin1_aae02
set_option maxRecDepth 20000 in
theorem ggJ0_charAt_5068e_J1_charAt_3b067 : GoodIn wsJ0_charAt_5068e wsJ1_charAt_3b067 := goodIn_r _ [12, 13, 14, 5, 15, 16, 17, 18, 19, 20] (by decide +kernel) (by decide +kernel)
set_option maxRecDepth 20000 in
theorem gJ0_charAt_5068e_J1_charAt_3b067 : GoodIn wsJ0_charAt_5068e (va_wsS RJ0 495 yJ1_charAt_3b067 wsJ1_charAt_3b067) := goodIn_app (goodIn_of _ (by decide +kernel)) ggJ0_charAt_5068e_J1_charAt_3b067
set_option maxRecDepth 20000 in
theorem ggJ0_charAt_5068e_J2_charAt_3b067 : GoodIn wsJ0_charAt_5068e wsJ2_charAt_3b067 := goodIn_r _ [24, 25, 26, 23, 27, 28, 29, 30, 31, 14, 5, 15, 16, 17, 18, 19, 20, 32, 33, 34, 35, 36, 37] (by decide +kernel) (by decide +kernel)
set_option maxRecDepth 20000 in
theorem gJ0_charAt_5068e_J2_charAt_3b067 : GoodIn wsJ0_charAt_5068e (va_wsS RJ0 498 yJ2_charAt_3b067 wsJ2_charAt_3b067) := goodIn_app (goodIn_of _ (by decide +kernel)) ggJ0_charAt_5068e_J2_charAt_3b067
theorem dJ0_charAt_5068e_0 : decode cJ0_charAt_5068e 0 = .ok (.aload_n 0, 1) := by decide +kernel
theorem dJ0_charAt_5068e_1 : decode cJ0_charAt_5068e 1 = .ok (.invokevirtual 492, 3) := by decide +kernel
theorem dJ0_charAt_5068e_4 : decode cJ0_charAt_5068e 4 = .ok (.ifCond .eq 12, 3) := by decide +kernel
theorem dJ0_charAt_5068e_7 : decode cJ0_charAt_5068e 7 = .ok (.aload_n 0, 1) := by decide +kernel
theorem dJ0_charAt_5068e_8 : decode cJ0_charAt_5068e 8 = .ok (.getfield 9, 3) := by decide +kernel
theorem dJ0_charAt_5068e_11 : decode cJ0_charAt_5068e 11 = .ok (.iload_n 1, 1) := by decide +kernel
theorem dJ0_charAt_5068e_12 : decode cJ0_charAt_5068e 12 = .ok (.invokestatic 495, 3) := by decide +kernel
theorem dJ0_charAt_5068e_15 : decode cJ0_charAt_5068e 15 = .ok (.ireturn, 1) := by decide +kernel
theorem dJ0_charAt_5068e_16 : decode cJ0_charAt_5068e 16 = .ok (.aload_n 0, 1) := by decide +kernel
theorem dJ0_charAt_5068e_17 : decode cJ0_charAt_5068e 17 = .ok (.getfield 9, 3) := by decide +kernel
theorem dJ0_charAt_5068e_20 : decode cJ0_charAt_5068e 20 = .ok (.iload_n 1, 1) := by decide +kernel
theorem dJ0_charAt_5068e_21 : decode cJ0_charAt_5068e 21 = .ok (.invokestatic 498, 3) := by decide +kernel
theorem dJ0_charAt_5068e_24 : decode cJ0_charAt_5068e 24 = .ok (.ireturn, 1) := by decide +kernel
theorem dJ0_coder_7d493_0 : decode cJ0_coder_7d493 0 = .ok (.getstatic 38, 3) := by decide +kernel
theorem dJ0_coder_7d493_3 : decode cJ0_coder_7d493 3 = .ok (.ifCond .eq 10, 3) := by decide +kernel
theorem dJ0_coder_7d493_6 : decode cJ0_coder_7d493 6 = .ok (.aload_n 0, 1) := by decide +kernel
theorem dJ0_coder_7d493_7 : decode cJ0_coder_7d493 7 = .ok (.getfield 15, 3) := by decide +kernel
theorem dJ0_coder_7d493_10 : decode cJ0_coder_7d493 10 = .ok (.goto 4, 3) := by decide +kernel
theorem dJ0_coder_7d493_13 : decode cJ0_coder_7d493 13 = .ok (.iconst 1, 1) := by decide +kernel
theorem dJ0_coder_7d493_14 : decode cJ0_coder_7d493 14 = .ok (.ireturn, 1) := by decide +kernel
theorem dJ0_isLatin1_aae02_0 : decode cJ0_isLatin1_aae02 0 = .ok (.getstatic 38, 3) := by decide +kernel
theorem dJ0_isLatin1_aae02_3 : decode cJ0_isLatin1_aae02 3 = .ok (.ifCond .eq 14, 3) := by decide +kernel
theorem dJ0_isLatin1_aae02_6 : decode cJ0_isLatin1_aae02 6 = .ok (.aload_n 0, 1) := by decide +kernel
theorem dJ0_isLatin1_aae02_7 : decode cJ0_isLatin1_aae02 7 = .ok (.getfield 15, 3) := by decide +kernel
theorem dJ0_isLatin1_aae02_10 : decode cJ0_isLatin1_aae02 10 = .ok (.ifCond .ne 7, 3) := by decide +kernel
theorem dJ0_isLatin1_aae02_13 : decode cJ0_isLatin1_aae02 13 = .ok (.iconst 1, 1) := by decide +kernel
theorem dJ0_isLatin1_aae02_14 : decode cJ0_isLatin1_aae02 14 = .ok (.goto 4, 3) := by decide +kernel
theorem dJ0_isLatin1_aae02_17 : decode cJ0_isLatin1_aae02 17 = .ok (.iconst 0, 1) := by decide +kernel
theorem dJ0_isLatin1_aae02_18 : decode cJ0_isLatin1_aae02 18 = .ok (.ireturn, 1) := by decide +kernel
set_option maxRecDepth 20000 in
theorem ggJ0_checkIndex_df160_J3_checkIndex_8e157 : GoodIn wsJ0_checkIndex_df160 wsJ3_checkIndex_8e157 := goodIn_r _ [5] (by decide +kernel) (by decide +kernel)
set_option maxRecDepth 20000 in
theorem gJ0_checkIndex_df160_J3_checkIndex_8e157 : GoodIn wsJ0_checkIndex_df160 (va_wsS RJ0 1059 yJ3_checkIndex_8e157 wsJ3_checkIndex_8e157) := goodIn_app (goodIn_of _ (by decide +kernel)) ggJ0_checkIndex_df160_J3_checkIndex_8e157
theorem dJ0_checkIndex_df160_0 : decode cJ0_checkIndex_df160 0 = .ok (.iload_n 0, 1) := by decide +kernel
theorem dJ0_checkIndex_df160_1 : decode cJ0_checkIndex_df160 1 = .ok (.iload_n 1, 1) := by decide +kernel
theorem dJ0_checkIndex_df160_2 : decode cJ0_checkIndex_df160 2 = .ok (.getstatic 1053, 3) := by decide +kernel
theorem dJ0_checkIndex_df160_5 : decode cJ0_checkIndex_df160 5 = .ok (.invokestatic 1059, 3) := by decide +kernel
theorem dJ0_checkIndex_df160_8 : decode cJ0_checkIndex_df160 8 = .ok (.pop, 1) := by decide +kernel
theorem dJ0_checkIndex_df160_9 : decode cJ0_checkIndex_df160 9 = .ok (.return_, 1) := by decide +kernel
set_option maxRecDepth 20000 in
theorem ggJ1_charAt_3b067_J0_checkIndex_df160 : GoodIn wsJ1_charAt_3b067 wsJ0_checkIndex_df160 := goodIn_r _ [4, 5, 6, 7, 8, 9] (by decide +kernel) (by decide +kernel)
set_option maxRecDepth 20000 in
theorem gJ1_charAt_3b067_J0_checkIndex_df160 : GoodIn wsJ1_charAt_3b067 (va_wsS RJ1 9 yJ0_checkIndex_df160 wsJ0_checkIndex_df160) := goodIn_app (goodIn_of _ (by decide +kernel)) ggJ1_charAt_3b067_J0_checkIndex_df160
theorem dJ1_charAt_3b067_0 : decode cJ1_charAt_3b067 0 = .ok (.iload_n 1, 1) := by decide +kernel
theorem dJ1_charAt_3b067_1 : decode cJ1_charAt_3b067 1 = .ok (.aload_n 0, 1) := by decide +kernel
theorem dJ1_charAt_3b067_2 : decode cJ1_charAt_3b067 2 = .ok (.arraylength, 1) := by decide +kernel
theorem dJ1_charAt_3b067_3 : decode cJ1_charAt_3b067 3 = .ok (.invokestatic 9, 3) := by decide +kernel
theorem dJ1_charAt_3b067_6 : decode cJ1_charAt_3b067 6 = .ok (.aload_n 0, 1) := by decide +kernel
theorem dJ1_charAt_3b067_7 : decode cJ1_charAt_3b067 7 = .ok (.iload_n 1, 1) := by decide +kernel
theorem dJ1_charAt_3b067_8 : decode cJ1_charAt_3b067 8 = .ok (.baload, 1) := by decide +kernel
theorem dJ1_charAt_3b067_9 : decode cJ1_charAt_3b067 9 = .ok (.sipush 255, 3) := by decide +kernel
theorem dJ1_charAt_3b067_12 : decode cJ1_charAt_3b067 12 = .ok (.iand, 1) := by decide +kernel
theorem dJ1_charAt_3b067_13 : decode cJ1_charAt_3b067 13 = .ok (.i2c, 1) := by decide +kernel
theorem dJ1_charAt_3b067_14 : decode cJ1_charAt_3b067 14 = .ok (.ireturn, 1) := by decide +kernel
set_option maxRecDepth 20000 in
theorem ggJ2_getChar_3b067_J2_length_9d52b : GoodIn wsJ2_getChar_3b067 wsJ2_length_9d52b := goodIn_r _ [7] (by decide +kernel) (by decide +kernel)
set_option maxRecDepth 20000 in
theorem gJ2_getChar_3b067_J2_length_9d52b : GoodIn wsJ2_getChar_3b067 (va_wsS RJ2 48 yJ2_length_9d52b wsJ2_length_9d52b) := goodIn_app (goodIn_of _ (by decide +kernel)) ggJ2_getChar_3b067_J2_length_9d52b
theorem dJ2_getChar_3b067_0 : decode cJ2_getChar_3b067 0 = .ok (.getstatic 44, 3) := by decide +kernel
theorem dJ2_getChar_3b067_3 : decode cJ2_getChar_3b067 3 = .ok (.ifCond .ne 25, 3) := by decide +kernel
theorem dJ2_getChar_3b067_6 : decode cJ2_getChar_3b067 6 = .ok (.iload_n 1, 1) := by decide +kernel
theorem dJ2_getChar_3b067_7 : decode cJ2_getChar_3b067 7 = .ok (.ifCond .lt 11, 3) := by decide +kernel
theorem dJ2_getChar_3b067_10 : decode cJ2_getChar_3b067 10 = .ok (.iload_n 1, 1) := by decide +kernel
theorem dJ2_getChar_3b067_11 : decode cJ2_getChar_3b067 11 = .ok (.aload_n 0, 1) := by decide +kernel
theorem dJ2_getChar_3b067_12 : decode cJ2_getChar_3b067 12 = .ok (.invokestatic 48, 3) := by decide +kernel
theorem dJ2_getChar_3b067_15 : decode cJ2_getChar_3b067 15 = .ok (.if_icmp .lt 13, 3) := by decide +kernel
theorem dJ2_getChar_3b067_18 : decode cJ2_getChar_3b067 18 = .ok (.new 52, 3) := by decide +kernel
theorem dJ2_getChar_3b067_21 : decode cJ2_getChar_3b067 21 = .ok (.dup, 1) := by decide +kernel
theorem dJ2_getChar_3b067_22 : decode cJ2_getChar_3b067 22 = .ok (.ldc 54, 2) := by decide +kernel
theorem dJ2_getChar_3b067_24 : decode cJ2_getChar_3b067 24 = .ok (.invokespecial 56, 3) := by decide +kernel
theorem dJ2_getChar_3b067_27 : decode cJ2_getChar_3b067 27 = .ok (.athrow, 1) := by decide +kernel
theorem dJ2_getChar_3b067_28 : decode cJ2_getChar_3b067 28 = .ok (.iload_n 1, 1) := by decide +kernel
theorem dJ2_getChar_3b067_29 : decode cJ2_getChar_3b067 29 = .ok (.iconst 1, 1) := by decide +kernel
theorem dJ2_getChar_3b067_30 : decode cJ2_getChar_3b067 30 = .ok (.ishl, 1) := by decide +kernel
theorem dJ2_getChar_3b067_31 : decode cJ2_getChar_3b067 31 = .ok (.istore_n 1, 1) := by decide +kernel
theorem dJ2_getChar_3b067_32 : decode cJ2_getChar_3b067 32 = .ok (.aload_n 0, 1) := by decide +kernel
theorem dJ2_getChar_3b067_33 : decode cJ2_getChar_3b067 33 = .ok (.iload_n 1, 1) := by decide +kernel
theorem dJ2_getChar_3b067_34 : decode cJ2_getChar_3b067 34 = .ok (.iinc 1 1, 3) := by decide +kernel
theorem dJ2_getChar_3b067_37 : decode cJ2_getChar_3b067 37 = .ok (.baload, 1) := by decide +kernel
theorem dJ2_getChar_3b067_38 : decode cJ2_getChar_3b067 38 = .ok (.sipush 255, 3) := by decide +kernel
theorem dJ2_getChar_3b067_41 : decode cJ2_getChar_3b067 41 = .ok (.iand, 1) := by decide +kernel
theorem dJ2_getChar_3b067_42 : decode cJ2_getChar_3b067 42 = .ok (.getstatic 59, 3) := by decide +kernel
theorem dJ2_getChar_3b067_45 : decode cJ2_getChar_3b067 45 = .ok (.ishl, 1) := by decide +kernel
theorem dJ2_getChar_3b067_46 : decode cJ2_getChar_3b067 46 = .ok (.aload_n 0, 1) := by decide +kernel
theorem dJ2_getChar_3b067_47 : decode cJ2_getChar_3b067 47 = .ok (.iload_n 1, 1) := by decide +kernel
theorem dJ2_getChar_3b067_48 : decode cJ2_getChar_3b067 48 = .ok (.baload, 1) := by decide +kernel
theorem dJ2_getChar_3b067_49 : decode cJ2_getChar_3b067 49 = .ok (.sipush 255, 3) := by decide +kernel
theorem dJ2_getChar_3b067_52 : decode cJ2_getChar_3b067 52 = .ok (.iand, 1) := by decide +kernel
theorem dJ2_getChar_3b067_53 : decode cJ2_getChar_3b067 53 = .ok (.getstatic 63, 3) := by decide +kernel
theorem dJ2_getChar_3b067_56 : decode cJ2_getChar_3b067 56 = .ok (.ishl, 1) := by decide +kernel
theorem dJ2_getChar_3b067_57 : decode cJ2_getChar_3b067 57 = .ok (.ior, 1) := by decide +kernel
theorem dJ2_getChar_3b067_58 : decode cJ2_getChar_3b067 58 = .ok (.i2c, 1) := by decide +kernel
theorem dJ2_getChar_3b067_59 : decode cJ2_getChar_3b067 59 = .ok (.ireturn, 1) := by decide +kernel
theorem dJ2_length_9d52b_0 : decode cJ2_length_9d52b 0 = .ok (.aload_n 0, 1) := by decide +kernel
theorem dJ2_length_9d52b_1 : decode cJ2_length_9d52b 1 = .ok (.arraylength, 1) := by decide +kernel
theorem dJ2_length_9d52b_2 : decode cJ2_length_9d52b 2 = .ok (.iconst 1, 1) := by decide +kernel
theorem dJ2_length_9d52b_3 : decode cJ2_length_9d52b 3 = .ok (.ishr, 1) := by decide +kernel
theorem dJ2_length_9d52b_4 : decode cJ2_length_9d52b 4 = .ok (.ireturn, 1) := by decide +kernel
set_option maxRecDepth 20000 in
theorem ggJ2_charAt_3b067_J2_checkIndex_2214a : GoodIn wsJ2_charAt_3b067 wsJ2_checkIndex_2214a := goodIn_r _ [4, 5, 6, 3, 7, 8, 9, 10, 11, 12, 13, 14, 15, 16] (by decide +kernel) (by decide +kernel)
set_option maxRecDepth 20000 in
theorem gJ2_charAt_3b067_J2_checkIndex_2214a : GoodIn wsJ2_charAt_3b067 (va_wsS RJ2 67 yJ2_checkIndex_2214a wsJ2_checkIndex_2214a) := goodIn_app (goodIn_of _ (by decide +kernel)) ggJ2_charAt_3b067_J2_checkIndex_2214a
set_option maxRecDepth 20000 in
theorem ggJ2_charAt_3b067_J2_getChar_3b067 : GoodIn wsJ2_charAt_3b067 wsJ2_getChar_3b067 := goodIn_r _ [19, 20, 21, 22, 5, 6, 3, 7] (by decide +kernel) (by decide +kernel)
set_option maxRecDepth 20000 in
theorem gJ2_charAt_3b067_J2_getChar_3b067 : GoodIn wsJ2_charAt_3b067 (va_wsS RJ2 71 yJ2_getChar_3b067 wsJ2_getChar_3b067) := goodIn_app (goodIn_of _ (by decide +kernel)) ggJ2_charAt_3b067_J2_getChar_3b067
theorem dJ2_charAt_3b067_0 : decode cJ2_charAt_3b067 0 = .ok (.iload_n 1, 1) := by decide +kernel
theorem dJ2_charAt_3b067_1 : decode cJ2_charAt_3b067 1 = .ok (.aload_n 0, 1) := by decide +kernel
theorem dJ2_charAt_3b067_2 : decode cJ2_charAt_3b067 2 = .ok (.invokestatic 67, 3) := by decide +kernel
theorem dJ2_charAt_3b067_5 : decode cJ2_charAt_3b067 5 = .ok (.aload_n 0, 1) := by decide +kernel
theorem dJ2_charAt_3b067_6 : decode cJ2_charAt_3b067 6 = .ok (.iload_n 1, 1) := by decide +kernel
theorem dJ2_charAt_3b067_7 : decode cJ2_charAt_3b067 7 = .ok (.invokestatic 71, 3) := by decide +kernel
theorem dJ2_charAt_3b067_10 : decode cJ2_charAt_3b067 10 = .ok (.ireturn, 1) := by decide +kernel
set_option maxRecDepth 20000 in
theorem ggJ2_checkIndex_2214a_J2_length_9d52b : GoodIn wsJ2_checkIndex_2214a wsJ2_length_9d52b := goodIn_r _ [4] (by decide +kernel) (by decide +kernel)
set_option maxRecDepth 20000 in
theorem gJ2_checkIndex_2214a_J2_length_9d52b : GoodIn wsJ2_checkIndex_2214a (va_wsS RJ2 48 yJ2_length_9d52b wsJ2_length_9d52b) := goodIn_app (goodIn_of _ (by decide +kernel)) ggJ2_checkIndex_2214a_J2_length_9d52b
set_option maxRecDepth 20000 in
theorem ggJ2_checkIndex_2214a_J0_checkIndex_df160 : GoodIn wsJ2_checkIndex_2214a wsJ0_checkIndex_df160 := goodIn_r _ [8, 9, 10, 11, 12, 13] (by decide +kernel) (by decide +kernel)
set_option maxRecDepth 20000 in
theorem gJ2_checkIndex_2214a_J0_checkIndex_df160 : GoodIn wsJ2_checkIndex_2214a (va_wsS RJ2 414 yJ0_checkIndex_df160 wsJ0_checkIndex_df160) := goodIn_app (goodIn_of _ (by decide +kernel)) ggJ2_checkIndex_2214a_J0_checkIndex_df160
theorem dJ2_checkIndex_2214a_0 : decode cJ2_checkIndex_2214a 0 = .ok (.iload_n 0, 1) := by decide +kernel
theorem dJ2_checkIndex_2214a_1 : decode cJ2_checkIndex_2214a 1 = .ok (.aload_n 1, 1) := by decide +kernel
theorem dJ2_checkIndex_2214a_2 : decode cJ2_checkIndex_2214a 2 = .ok (.invokestatic 48, 3) := by decide +kernel
theorem dJ2_checkIndex_2214a_5 : decode cJ2_checkIndex_2214a 5 = .ok (.invokestatic 414, 3) := by decide +kernel
theorem dJ2_checkIndex_2214a_8 : decode cJ2_checkIndex_2214a 8 = .ok (.return_, 1) := by decide +kernel
theorem dJ3_checkIndex_8e157_0 : decode cJ3_checkIndex_8e157 0 = .ok (.iload_n 0, 1) := by decide +kernel
theorem dJ3_checkIndex_8e157_1 : decode cJ3_checkIndex_8e157 1 = .ok (.ifCond .lt 8, 3) := by decide +kernel
theorem dJ3_checkIndex_8e157_4 : decode cJ3_checkIndex_8e157 4 = .ok (.iload_n 0, 1) := by decide +kernel
theorem dJ3_checkIndex_8e157_5 : decode cJ3_checkIndex_8e157 5 = .ok (.iload_n 1, 1) := by decide +kernel
theorem dJ3_checkIndex_8e157_6 : decode cJ3_checkIndex_8e157 6 = .ok (.if_icmp .lt 10, 3) := by decide +kernel
theorem dJ3_checkIndex_8e157_9 : decode cJ3_checkIndex_8e157 9 = .ok (.aload_n 2, 1) := by decide +kernel
theorem dJ3_checkIndex_8e157_10 : decode cJ3_checkIndex_8e157 10 = .ok (.iload_n 0, 1) := by decide +kernel
theorem dJ3_checkIndex_8e157_11 : decode cJ3_checkIndex_8e157 11 = .ok (.iload_n 1, 1) := by decide +kernel
theorem dJ3_checkIndex_8e157_12 : decode cJ3_checkIndex_8e157 12 = .ok (.invokestatic 95, 3) := by decide +kernel
theorem dJ3_checkIndex_8e157_15 : decode cJ3_checkIndex_8e157 15 = .ok (.athrow, 1) := by decide +kernel
theorem dJ3_checkIndex_8e157_16 : decode cJ3_checkIndex_8e157 16 = .ok (.iload_n 0, 1) := by decide +kernel
theorem dJ3_checkIndex_8e157_17 : decode cJ3_checkIndex_8e157 17 = .ok (.ireturn, 1) := by decide +kernel
set_option maxRecDepth 20000 in
theorem ggL_onAt_X9_onAt : GoodIn wsL_onAt wsX9_onAt := goodIn_ca (goodIn_r _ [6, 7, 8, 9, 10, 11, 12, 13, 14, 5, 15, 16, 17, 18, 19, 20, 21, 22, 23, 24, 25, 26, 27, 28, 29, 30, 31, 32, 33, 34, 35, 36, 37, 38, 39, 40, 41, 42, 43, 44, 45, 46, 47, 48, 49, 50, 51, 52, 53, 54, 55, 56, 57, 58, 59, 60, 61, 62, 63, 64, 65, 66, 67, 68, 69, 70, 71, 72, 73, 74, 75, 76, 77, 78, 79, 80, 81, 82, 83, 84, 85, 86, 87, 88, 89, 90, 91, 92, 93, 94, 95, 96, 97, 98, 99, 100, 101, 102, 103, 104, 105, 106, 107, 108, 109, 110, 111, 112, 113, 114, 115, 116, 117, 118, 119, 120, 121, 122, 123, 124, 125, 126, 127, 128, 129, 130, 131, 132, 133, 134, 135, 136, 137, 138, 139, 140, 141, 142, 143, 144, 145, 146, 147, 148, 149, 150, 151, 152, 153, 154, 155, 156, 157, 158, 159, 160, 161, 162, 163, 164, 165, 166, 167, 168, 169, 170, 171, 172, 173, 174, 175, 176, 177, 178, 179, 180, 181, 182, 183, 184, 185, 186, 187, 188, 189, 190, 191, 192, 193, 194, 195, 196, 197, 198, 199, 200, 201, 202, 203, 204, 205, 206, 207, 208, 209, 210, 211, 212, 213, 214, 215, 216, 217, 218, 219, 220, 221, 222, 223, 224, 225, 226, 227, 228, 229, 230, 231, 232, 233] (by decide +kernel) (by decide +kernel)) (goodIn_sub (fun _ h => List.mem_cons_of_mem _ (List.mem_append_right _ h)) (by decide +kernel))
set_option maxRecDepth 20000 in
theorem gL_onAt_X9_onAt : GoodIn wsL_onAt (wsV RL 7 RX9 yX9_onAt wsX9_onAt) := goodIn_app (goodIn_of _ (by decide +kernel)) ggL_onAt_X9_onAt
theorem dL_onAt_0 : decode cL_onAt 0 = .ok (.aload 6, 2) := by decide +kernel
theorem dL_onAt_2 : decode cL_onAt 2 = .ok (.iconst 0, 1) := by decide +kernel
theorem dL_onAt_3 : decode cL_onAt 3 = .ok (.aload_n 0, 1) := by decide +kernel
theorem dL_onAt_4 : decode cL_onAt 4 = .ok (.iload_n 1, 1) := by decide +kernel
theorem dL_onAt_5 : decode cL_onAt 5 = .ok (.iload_n 2, 1) := by decide +kernel
theorem dL_onAt_6 : decode cL_onAt 6 = .ok (.iload_n 3, 1) := by decide +kernel
theorem dL_onAt_7 : decode cL_onAt 7 = .ok (.iload 4, 2) := by decide +kernel
theorem dL_onAt_9 : decode cL_onAt 9 = .ok (.iload 5, 2) := by decide +kernel
theorem dL_onAt_11 : decode cL_onAt 11 = .ok (.invokevirtual 7, 3) := by decide +kernel
theorem dL_onAt_14 : decode cL_onAt 14 = .ok (.i2l, 1) := by decide +kernel
theorem dL_onAt_15 : decode cL_onAt 15 = .ok (.lastore, 1) := by decide +kernel
theorem dL_onAt_16 : decode cL_onAt 16 = .ok (.goto 7, 3) := by decide +kernel
theorem dL_onAt_19 : decode cL_onAt 19 = .ok (.astore 7, 2) := by decide +kernel
theorem dL_onAt_21 : decode cL_onAt 21 = .ok (.iconst 1, 1) := by decide +kernel
theorem dL_onAt_22 : decode cL_onAt 22 = .ok (.ireturn, 1) := by decide +kernel
theorem dL_onAt_23 : decode cL_onAt 23 = .ok (.iconst 0, 1) := by decide +kernel
theorem dL_onAt_24 : decode cL_onAt 24 = .ok (.ireturn, 1) := by decide +kernel
set_option maxRecDepth 20000 in
theorem ggL_law_X9_init : GoodIn wsL_law wsX9_init := goodIn_r _ [10, 11, 12, 13, 14, 15, 16, 17, 18, 19, 20, 21, 22, 23, 24, 25, 26, 27, 28, 29, 30, 31, 32, 33, 34, 35, 36, 37, 38, 39, 40, 41, 42, 43, 44, 45, 46, 47, 48, 49, 50, 51, 52, 1083, 1084, 1085, 1086, 1113, 1114, 1115, 1116, 1117, 1118, 1119, 1120, 1121, 1122, 1123, 1124, 1125, 1126, 1127, 1128, 1129, 1130, 1131, 1132, 1133, 1134, 1135, 1136, 1137, 1138, 1139, 1140, 1141, 1142, 1143, 1144, 1145, 1146, 1147, 1148, 1149] (by decide +kernel) (by decide +kernel)
set_option maxRecDepth 20000 in
theorem gL_law_X9_init : GoodIn wsL_law (wsX9_init) := ggL_law_X9_init
set_option maxRecDepth 20000 in
theorem ggL_law_X10_init : GoodIn wsL_law wsX10_init := goodIn_r _ [55, 56, 12, 13, 57, 49, 58, 59, 60, 61, 62, 63, 64, 65, 66, 67, 68, 69, 70, 71, 72, 73, 74, 75, 76, 5, 77, 1087, 1088, 1089, 1090, 1091, 1092, 1093, 1094, 1095, 1096, 1097, 1098, 1099, 1100, 1101, 1102, 1103, 1104, 1105, 1106, 1107, 1108, 1109, 1110, 1111, 1112] (by decide +kernel) (by decide +kernel)
set_option maxRecDepth 20000 in
theorem gL_law_X10_init : GoodIn wsL_law (wsX10_init) := ggL_law_X10_init
set_option maxRecDepth 20000 in
theorem ggL_law_X9_feed : GoodIn wsL_law wsX9_feed := goodIn_r _ [81, 16, 82, 83, 84, 2, 85, 15, 86, 1083, 1084, 1085, 1086] (by decide +kernel) (by decide +kernel)
set_option maxRecDepth 20000 in
theorem gL_law_X9_feed : GoodIn wsL_law (wsV RL 21 RX9 yX9_feed wsX9_feed) := goodIn_app (goodIn_of _ (by decide +kernel)) ggL_law_X9_feed
set_option maxRecDepth 20000 in
theorem ggL_law_X10_feed : GoodIn wsL_law wsX10_feed := goodIn_r _ [90, 91, 92, 93, 94, 95, 5, 96, 65, 1087, 1088, 1089, 1090, 1091, 1092, 1093, 1094, 1095, 1096, 1097, 1098, 1099, 1100, 1101, 1102, 1103, 1104, 1105, 1106, 1107, 1108, 1109, 1110, 1111, 1112] (by decide +kernel) (by decide +kernel)
set_option maxRecDepth 20000 in
theorem gL_law_X10_feed : GoodIn wsL_law (wsV RL 25 RX10 yX10_feed wsX10_feed) := goodIn_app (goodIn_of _ (by decide +kernel)) ggL_law_X10_feed
set_option maxRecDepth 20000 in
theorem ggL_law_X9_end : GoodIn wsL_law wsX9_end := goodIn_r _ [100, 16, 1083, 1084, 1085, 1086] (by decide +kernel) (by decide +kernel)
set_option maxRecDepth 20000 in
theorem gL_law_X9_end : GoodIn wsL_law (wsV RL 26 RX9 yX9_end wsX9_end) := goodIn_app (goodIn_of _ (by decide +kernel)) ggL_law_X9_end
set_option maxRecDepth 20000 in
theorem ggL_law_X10_end : GoodIn wsL_law wsX10_end := goodIn_r _ [104, 91, 92, 105, 106, 5, 107, 1087, 1088, 1089, 1090, 1091, 1092, 1093, 1094, 1095, 1096, 1097, 1098, 1099, 1100, 1101, 1102, 1103, 1104, 1105, 1106, 1107, 1108, 1109, 1110, 1111, 1112] (by decide +kernel) (by decide +kernel)
set_option maxRecDepth 20000 in
theorem gL_law_X10_end : GoodIn wsL_law (wsV RL 30 RX10 yX10_end wsX10_end) := goodIn_app (goodIn_of _ (by decide +kernel)) ggL_law_X10_end
set_option maxRecDepth 20000 in
theorem ggL_law_X9_book : GoodIn wsL_law wsX9_book := goodIn_r _ [111, 16, 20, 112, 113, 114, 15, 115, 116, 117, 19, 118, 28, 27, 119, 120, 121, 122, 12, 13, 123, 124, 125, 126, 127, 128, 129, 130, 131, 132, 133, 134, 135, 136, 137, 138, 139, 140, 141, 142, 143, 144, 145, 146, 147, 148, 149, 150, 151, 152, 153, 154, 155, 156, 157, 158, 159, 160, 161, 162, 163, 164, 165, 166, 167, 168, 169, 170, 171, 172, 173, 174, 175, 176, 177, 178, 179, 180, 181, 182, 183, 184, 185, 186, 187, 188, 189, 190, 191, 192, 193, 194, 195, 196, 197, 198, 199, 200, 201, 202, 203, 204, 205, 206, 207, 208, 209, 210, 211, 212, 213, 214, 215, 216, 217, 218, 219, 220, 221, 222, 223, 224, 225, 226, 227, 228, 229, 230, 231, 232, 233, 234, 235, 236, 237, 238, 239, 240, 241, 242, 243, 244, 245, 246, 247, 248, 249, 250, 251, 252, 253, 254, 255, 256, 257, 258, 259, 260, 261, 262, 263, 264, 265, 266, 267, 268, 269, 270, 271, 272, 273, 30, 31, 274, 275, 276, 277, 278, 279, 280, 281, 282, 283, 35, 36, 37, 38, 39, 40, 41, 42, 43, 44, 284, 285, 286, 287, 288, 289, 290, 291, 292, 293, 294, 295, 296, 297, 298, 299, 300, 301, 302, 303, 304, 305, 306, 307, 308, 309, 310, 311, 312, 313, 314, 315, 33, 316, 52, 317, 318, 319, 320, 321, 322, 323, 324, 325, 326, 327, 328, 329, 330, 331, 332, 333, 334, 335, 336, 337, 338, 339, 340, 341, 342, 343, 344, 345, 346, 347, 348, 349, 350, 351, 352, 353, 354, 355, 356, 357, 358, 359, 360, 361, 362, 363, 364, 365, 366, 367, 368, 369, 370, 371, 372, 373, 374, 375, 376, 377, 378, 379, 380, 381, 382, 383, 384, 385, 386, 387, 388, 389, 390, 391, 392, 393, 394, 395, 396, 397, 398, 399, 400, 401, 402, 403, 404, 405, 406, 407, 408, 409, 410, 411, 412, 413, 414, 415, 416, 417, 418, 419, 420, 421, 422, 423, 424, 425, 426, 427, 1083, 1084, 1085, 1086, 1150, 1151, 1152, 1153, 1154, 1155, 1156, 1157, 1158, 1159, 1113, 1114, 1118, 1119, 1120, 1121, 1122, 1123, 1124, 1125, 1126, 1127, 1128, 1129, 1130, 1131, 1132, 1115, 1116, 1117, 1133, 1134, 1135, 1136, 1144, 1145, 1146, 1147, 1148, 1149, 1137, 1138, 1139, 1140, 1141, 1142, 1143] (by decide +kernel) (by decide +kernel)
set_option maxRecDepth 20000 in
theorem gL_law_X9_book : GoodIn wsL_law (wsV RL 31 RX9 yX9_book wsX9_book) := goodIn_app (goodIn_of _ (by decide +kernel)) ggL_law_X9_book
set_option maxRecDepth 20000 in
theorem ggL_law_X10_book : GoodIn wsL_law wsX10_book := goodIn_r _ [431, 91, 92, 432, 433, 434, 435, 70, 62, 436, 437, 438, 5, 439, 440, 441, 442, 443, 444, 445, 446, 447, 448, 65, 449, 450, 451, 452, 453, 454, 455, 456, 457, 458, 459, 460, 461, 462, 463, 464, 465, 466, 170, 171, 172, 173, 174, 175, 176, 177, 178, 179, 180, 467, 186, 187, 188, 189, 190, 191, 192, 193, 194, 195, 196, 197, 198, 199, 200, 201, 202, 203, 204, 205, 206, 207, 208, 209, 210, 211, 212, 213, 214, 215, 216, 217, 218, 219, 220, 221, 468, 469, 470, 471, 472, 473, 474, 475, 105, 106, 107, 476, 477, 478, 479, 480, 481, 482, 483, 484, 485, 486, 487, 488, 489, 490, 491, 492, 493, 494, 495, 496, 497, 498, 499, 500, 75, 76, 77, 501, 502, 503, 504, 57, 58, 59, 60, 505, 506, 507, 508, 1087, 1088, 1089, 1090, 1091, 1092, 1093, 1094, 1095, 1096, 1097, 1098, 1099, 1100, 1101, 1102, 1103, 1104, 1105, 1106, 1107, 1108, 1109, 1110, 1111, 1112] (by decide +kernel) (by decide +kernel)
set_option maxRecDepth 20000 in
theorem gL_law_X10_book : GoodIn wsL_law (wsV RL 35 RX10 yX10_book wsX10_book) := goodIn_app (goodIn_of _ (by decide +kernel)) ggL_law_X10_book
set_option maxRecDepth 20000 in
theorem ggL_law_X9_cancel : GoodIn wsL_law wsX9_cancel := goodIn_r _ [512, 20, 513, 514, 515, 19, 516, 28, 517, 518, 519, 520, 27, 1083, 1084, 1085, 1086, 1113, 1114] (by decide +kernel) (by decide +kernel)
set_option maxRecDepth 20000 in
theorem gL_law_X9_cancel : GoodIn wsL_law (wsV RL 36 RX9 yX9_cancel wsX9_cancel) := goodIn_app (goodIn_of _ (by decide +kernel)) ggL_law_X9_cancel
set_option maxRecDepth 20000 in
theorem ggL_law_X10_cancel : GoodIn wsL_law wsX10_cancel := goodIn_r _ [524, 91, 433, 62, 525, 526, 527, 5, 528, 105, 106, 107, 1087, 1088, 1089, 1090, 1091, 1092, 1093, 1094, 1095, 1096, 1097, 1098, 1099, 1100, 1101, 1102, 1103, 1104, 1105, 1106, 1107, 1108, 1109, 1110, 1111, 1112] (by decide +kernel) (by decide +kernel)
set_option maxRecDepth 20000 in
theorem gL_law_X10_cancel : GoodIn wsL_law (wsV RL 40 RX10 yX10_cancel wsX10_cancel) := goodIn_app (goodIn_of _ (by decide +kernel)) ggL_law_X10_cancel
set_option maxRecDepth 20000 in
theorem ggL_law_X9_day : GoodIn wsL_law wsX9_day := goodIn_r _ [532, 259, 260, 261, 262, 263, 264, 265, 266, 267, 268] (by decide +kernel) (by decide +kernel)
set_option maxRecDepth 20000 in
theorem gL_law_X9_day : GoodIn wsL_law (wsV RL 41 RX9 yX9_day wsX9_day) := goodIn_app (goodIn_of _ (by decide +kernel)) ggL_law_X9_day
set_option maxRecDepth 20000 in
theorem ggL_law_X10_day : GoodIn wsL_law wsX10_day := goodIn_r _ [536, 91, 105, 106, 5, 107, 75, 76, 77, 501, 502, 503, 504, 57, 58, 59, 60, 1087, 1088, 1089, 1090, 1091, 1092, 1093, 1094, 1095, 1096, 1097, 1098, 1099, 1100, 1101, 1102, 1103, 1104, 1105, 1106, 1107, 1108, 1109, 1110, 1111, 1112] (by decide +kernel) (by decide +kernel)
set_option maxRecDepth 20000 in
theorem gL_law_X10_day : GoodIn wsL_law (wsV RL 45 RX10 yX10_day wsX10_day) := goodIn_app (goodIn_of _ (by decide +kernel)) ggL_law_X10_day
set_option maxRecDepth 20000 in
theorem ggL_law_X9_date : GoodIn wsL_law wsX9_date := goodIn_r _ [540, 541, 542, 2, 543, 544, 311, 260, 312, 268, 266, 267, 300, 301] (by decide +kernel) (by decide +kernel)
set_option maxRecDepth 20000 in
theorem gL_law_X9_date : GoodIn wsL_law (wsV RL 46 RX9 yX9_date wsX9_date) := goodIn_app (goodIn_of _ (by decide +kernel)) ggL_law_X9_date
set_option maxRecDepth 20000 in
theorem ggL_law_X10_date : GoodIn wsL_law wsX10_date := goodIn_r _ [548, 91, 58, 59, 60, 61, 549, 550, 5, 551, 552, 105, 106, 107, 553, 554, 555, 1087, 1088, 1089, 1090, 1091, 1092, 1093, 1094, 1095, 1096, 1097, 1098, 1099, 1100, 1101, 1102, 1103, 1104, 1105, 1106, 1107, 1108, 1109, 1110, 1111, 1112] (by decide +kernel) (by decide +kernel)
set_option maxRecDepth 20000 in
theorem gL_law_X10_date : GoodIn wsL_law (wsV RL 50 RX10 yX10_date wsX10_date) := goodIn_app (goodIn_of _ (by decide +kernel)) ggL_law_X10_date
set_option maxRecDepth 20000 in
theorem ggL_law_X9_key : GoodIn wsL_law wsX9_key := goodIn_r _ [559, 20, 513, 514, 515, 19, 516, 28, 541, 542, 2, 543, 544, 560, 561, 562, 563, 27, 564, 565, 566, 33, 567, 332, 333, 52, 335, 336, 337, 338, 276, 339, 340, 341, 290, 342, 343, 344, 282, 345, 346, 347, 305, 288, 134, 289, 306, 348, 349, 350, 351, 307, 311, 260, 312, 268, 352, 353, 354, 355, 356, 357, 308, 309, 266, 267, 300, 301, 358, 359, 31, 360, 361, 362, 363, 364, 279, 365, 366, 367, 295, 298, 296, 368, 369, 370, 371, 372, 297, 1083, 1084, 1085, 1086, 1113, 1114, 1118, 1119, 1120, 1121, 1122, 1123, 1124, 1125, 1126, 1127, 1128, 1129, 1130, 1131, 1132, 1133, 1134, 1135, 1136, 1137, 1138, 1139, 1140, 1141, 1142, 1143, 1115, 1116, 1117, 1144, 1145, 1146, 1147, 1148, 1149] (by decide +kernel) (by decide +kernel)
set_option maxRecDepth 20000 in
theorem gL_law_X9_key : GoodIn wsL_law (wsV RL 51 RX9 yX9_key wsX9_key) := goodIn_app (goodIn_of _ (by decide +kernel)) ggL_law_X9_key
set_option maxRecDepth 20000 in
theorem ggL_law_X10_key : GoodIn wsL_law wsX10_key := goodIn_r _ [571, 91, 68, 525, 526, 527, 5, 528, 433, 105, 106, 107, 549, 550, 551, 552, 572, 573, 574, 575, 57, 69, 576, 577, 578, 579, 62, 580, 581, 582, 583, 58, 59, 60, 61, 553, 554, 555, 1087, 1088, 1089, 1090, 1091, 1092, 1093, 1094, 1095, 1096, 1097, 1098, 1099, 1100, 1101, 1102, 1103, 1104, 1105, 1106, 1107, 1108, 1109, 1110, 1111, 1112] (by decide +kernel) (by decide +kernel)
set_option maxRecDepth 20000 in
theorem gL_law_X10_key : GoodIn wsL_law (wsV RL 54 RX10 yX10_key wsX10_key) := goodIn_app (goodIn_of _ (by decide +kernel)) ggL_law_X10_key
set_option maxRecDepth 20000 in
theorem ggL_law_X9_keys : GoodIn wsL_law wsX9_keys := goodIn_r _ [587, 20, 588, 513, 514, 515, 19, 516, 28, 589, 590, 2, 591, 541, 542, 543, 544, 560, 561, 562, 563, 27, 592, 593, 594, 33, 595, 332, 596, 288, 134, 289, 333, 597, 133, 135, 52, 395, 396, 397, 398, 276, 399, 400, 401, 402, 403, 340, 341, 290, 404, 405, 282, 406, 346, 347, 305, 306, 311, 260, 312, 268, 348, 349, 350, 351, 307, 352, 353, 354, 355, 356, 357, 308, 309, 266, 267, 300, 301, 407, 408, 31, 409, 361, 362, 410, 411, 279, 412, 366, 367, 295, 413, 414, 415, 416, 298, 296, 297, 417, 418, 419, 420, 421, 422, 423, 1083, 1084, 1085, 1086, 1113, 1114, 1118, 1119, 1120, 1121, 1122, 1123, 1124, 1125, 1126, 1127, 1128, 1129, 1130, 1131, 1132, 1133, 1134, 1135, 1136, 1137, 1138, 1139, 1140, 1141, 1142, 1143, 1115, 1116, 1117, 1144, 1145, 1146, 1147, 1148, 1149] (by decide +kernel) (by decide +kernel)
set_option maxRecDepth 20000 in
theorem gL_law_X9_keys : GoodIn wsL_law (wsV RL 55 RX9 yX9_keys wsX9_keys) := goodIn_app (goodIn_of _ (by decide +kernel)) ggL_law_X9_keys
set_option maxRecDepth 20000 in
theorem ggL_law_X10_keys : GoodIn wsL_law wsX10_keys := goodIn_r _ [601, 91, 68, 525, 526, 527, 5, 528, 433, 105, 106, 107, 549, 550, 551, 552, 572, 573, 574, 575, 57, 69, 576, 577, 578, 579, 62, 580, 581, 582, 583, 58, 59, 60, 61, 553, 554, 555, 1087, 1088, 1089, 1090, 1091, 1092, 1093, 1094, 1095, 1096, 1097, 1098, 1099, 1100, 1101, 1102, 1103, 1104, 1105, 1106, 1107, 1108, 1109, 1110, 1111, 1112] (by decide +kernel) (by decide +kernel)
set_option maxRecDepth 20000 in
theorem gL_law_X10_keys : GoodIn wsL_law (wsV RL 58 RX10 yX10_keys wsX10_keys) := goodIn_app (goodIn_of _ (by decide +kernel)) ggL_law_X10_keys
set_option maxRecDepth 20000 in
theorem ggL_law_X9_drop : GoodIn wsL_law wsX9_drop := goodIn_r _ [605, 20, 513, 514, 515, 19, 516, 28, 560, 561, 562, 563, 27, 606, 607, 608, 33, 609, 542, 2, 543, 544, 610, 565, 566, 567, 332, 333, 52, 335, 336, 337, 338, 276, 339, 340, 341, 290, 342, 343, 344, 282, 345, 346, 347, 305, 288, 134, 289, 306, 348, 349, 350, 351, 307, 311, 260, 312, 268, 352, 353, 354, 355, 356, 357, 308, 309, 266, 267, 300, 301, 358, 359, 31, 360, 361, 362, 363, 364, 279, 365, 366, 367, 295, 298, 296, 368, 369, 370, 371, 372, 297, 611, 612, 613, 614, 51, 615, 616, 617, 618, 321, 50, 619, 620, 621, 622, 1083, 1084, 1085, 1086, 1113, 1114, 1118, 1119, 1120, 1121, 1122, 1123, 1124, 1125, 1126, 1127, 1128, 1129, 1130, 1131, 1132, 1133, 1134, 1135, 1136, 1137, 1138, 1139, 1140, 1141, 1142, 1143, 1115, 1116, 1117, 1144, 1145, 1146, 1147, 1148, 1149] (by decide +kernel) (by decide +kernel)
set_option maxRecDepth 20000 in
theorem gL_law_X9_drop : GoodIn wsL_law (wsV RL 59 RX9 yX9_drop wsX9_drop) := goodIn_app (goodIn_of _ (by decide +kernel)) ggL_law_X9_drop
set_option maxRecDepth 20000 in
theorem ggL_law_X10_drop : GoodIn wsL_law wsX10_drop := goodIn_r _ [626, 91, 627, 628, 629, 5, 630, 68, 525, 526, 527, 528, 433, 105, 106, 107, 549, 550, 551, 552, 572, 573, 574, 575, 57, 69, 576, 577, 578, 579, 62, 580, 581, 582, 583, 58, 59, 60, 61, 553, 554, 555, 631, 632, 633, 634, 635, 636, 637, 638, 1087, 1088, 1089, 1090, 1091, 1092, 1093, 1094, 1095, 1096, 1097, 1098, 1099, 1100, 1101, 1102, 1103, 1104, 1105, 1106, 1107, 1108, 1109, 1110, 1111, 1112] (by decide +kernel) (by decide +kernel)
set_option maxRecDepth 20000 in
theorem gL_law_X10_drop : GoodIn wsL_law (wsV RL 63 RX10 yX10_drop wsX10_drop) := goodIn_app (goodIn_of _ (by decide +kernel)) ggL_law_X10_drop
set_option maxRecDepth 20000 in
theorem ggL_law_X9_move : GoodIn wsL_law wsX9_move := goodIn_r _ [642, 20, 513, 514, 515, 19, 516, 28, 560, 561, 562, 563, 27, 606, 607, 608, 33, 609, 542, 2, 543, 544, 610, 565, 566, 567, 332, 333, 52, 335, 336, 337, 338, 276, 339, 340, 341, 290, 342, 343, 344, 282, 345, 346, 347, 305, 288, 134, 289, 306, 348, 349, 350, 351, 307, 311, 260, 312, 268, 352, 353, 354, 355, 356, 357, 308, 309, 266, 267, 300, 301, 358, 359, 31, 360, 361, 362, 363, 364, 279, 365, 366, 367, 295, 298, 296, 368, 369, 370, 371, 372, 297, 643, 644, 645, 646, 619, 620, 621, 622, 321, 50, 51, 615, 616, 617, 618, 1083, 1084, 1085, 1086, 1113, 1114, 1118, 1119, 1120, 1121, 1122, 1123, 1124, 1125, 1126, 1127, 1128, 1129, 1130, 1131, 1132, 1133, 1134, 1135, 1136, 1137, 1138, 1139, 1140, 1141, 1142, 1143, 1115, 1116, 1117, 1144, 1145, 1146, 1147, 1148, 1149] (by decide +kernel) (by decide +kernel)
set_option maxRecDepth 20000 in
theorem gL_law_X9_move : GoodIn wsL_law (wsV RL 64 RX9 yX9_move wsX9_move) := goodIn_app (goodIn_of _ (by decide +kernel)) ggL_law_X9_move
set_option maxRecDepth 20000 in
theorem ggL_law_X10_move : GoodIn wsL_law wsX10_move := goodIn_r _ [650, 91, 651, 652, 5, 653, 654, 105, 106, 107, 627, 628, 629, 630, 68, 525, 526, 527, 528, 433, 549, 550, 551, 552, 572, 573, 574, 575, 57, 69, 576, 577, 578, 579, 62, 580, 581, 582, 583, 58, 59, 60, 61, 553, 554, 555, 635, 636, 637, 638, 631, 632, 633, 634, 1087, 1088, 1089, 1090, 1091, 1092, 1093, 1094, 1095, 1096, 1097, 1098, 1099, 1100, 1101, 1102, 1103, 1104, 1105, 1106, 1107, 1108, 1109, 1110, 1111, 1112] (by decide +kernel) (by decide +kernel)
set_option maxRecDepth 20000 in
theorem gL_law_X10_move : GoodIn wsL_law (wsV RL 68 RX10 yX10_move wsX10_move) := goodIn_app (goodIn_of _ (by decide +kernel)) ggL_law_X10_move
set_option maxRecDepth 20000 in
theorem ggL_law_X9_restore : GoodIn wsL_law wsX9_restore := goodIn_r _ [658, 20, 513, 514, 515, 19, 516, 28, 560, 561, 562, 563, 27, 606, 607, 608, 33, 609, 542, 2, 543, 544, 610, 565, 566, 567, 332, 333, 52, 335, 336, 337, 338, 276, 339, 340, 341, 290, 342, 343, 344, 282, 345, 346, 347, 305, 288, 134, 289, 306, 348, 349, 350, 351, 307, 311, 260, 312, 268, 352, 353, 354, 355, 356, 357, 308, 309, 266, 267, 300, 301, 358, 359, 31, 360, 361, 362, 363, 364, 279, 365, 366, 367, 295, 298, 296, 368, 369, 370, 371, 372, 297, 659, 660, 661, 662, 51, 615, 616, 617, 618, 321, 50, 663, 664, 665, 666, 1083, 1084, 1085, 1086, 1113, 1114, 1118, 1119, 1120, 1121, 1122, 1123, 1124, 1125, 1126, 1127, 1128, 1129, 1130, 1131, 1132, 1133, 1134, 1135, 1136, 1137, 1138, 1139, 1140, 1141, 1142, 1143, 1115, 1116, 1117, 1144, 1145, 1146, 1147, 1148, 1149] (by decide +kernel) (by decide +kernel)
set_option maxRecDepth 20000 in
theorem gL_law_X9_restore : GoodIn wsL_law (wsV RL 69 RX9 yX9_restore wsX9_restore) := goodIn_app (goodIn_of _ (by decide +kernel)) ggL_law_X9_restore
set_option maxRecDepth 20000 in
theorem ggL_law_X10_restore : GoodIn wsL_law wsX10_restore := goodIn_r _ [670, 91, 627, 628, 629, 5, 630, 68, 525, 526, 527, 528, 433, 105, 106, 107, 549, 550, 551, 552, 572, 573, 574, 575, 57, 69, 576, 577, 578, 579, 62, 580, 581, 582, 583, 58, 59, 60, 61, 553, 554, 555, 631, 632, 633, 634, 671, 672, 673, 674, 1087, 1088, 1089, 1090, 1091, 1092, 1093, 1094, 1095, 1096, 1097, 1098, 1099, 1100, 1101, 1102, 1103, 1104, 1105, 1106, 1107, 1108, 1109, 1110, 1111, 1112] (by decide +kernel) (by decide +kernel)
set_option maxRecDepth 20000 in
theorem gL_law_X10_restore : GoodIn wsL_law (wsV RL 72 RX10 yX10_restore wsX10_restore) := goodIn_app (goodIn_of _ (by decide +kernel)) ggL_law_X10_restore
set_option maxRecDepth 20000 in
theorem ggL_law_X9_next : GoodIn wsL_law wsX9_next := goodIn_r _ [678, 20, 513, 514, 515, 19, 516, 28, 643, 644, 2, 645, 646, 560, 561, 562, 563, 27, 679, 680, 681, 33, 682, 321, 683, 684, 685, 51, 50, 686, 687, 688, 689, 690, 691, 692, 693, 694, 610, 565, 566, 567, 332, 333, 52, 335, 336, 337, 338, 276, 339, 340, 341, 290, 342, 343, 344, 282, 345, 346, 347, 305, 288, 134, 289, 306, 348, 349, 350, 351, 307, 311, 260, 312, 268, 352, 353, 354, 355, 356, 357, 308, 309, 266, 267, 300, 301, 358, 359, 31, 360, 361, 362, 363, 364, 279, 365, 366, 367, 295, 298, 296, 368, 369, 370, 371, 372, 297, 695, 696, 697, 698, 615, 616, 617, 618, 699, 700, 701, 702, 1083, 1084, 1085, 1086, 1113, 1114, 1118, 1119, 1120, 1121, 1122, 1123, 1124, 1125, 1126, 1127, 1128, 1129, 1130, 1131, 1132, 1133, 1134, 1135, 1136, 1137, 1138, 1139, 1140, 1141, 1142, 1143, 1115, 1116, 1117, 1144, 1145, 1146, 1147, 1148, 1149] (by decide +kernel) (by decide +kernel)
set_option maxRecDepth 20000 in
theorem gL_law_X9_next : GoodIn wsL_law (wsV RL 73 RX9 yX9_next wsX9_next) := goodIn_app (goodIn_of _ (by decide +kernel)) ggL_law_X9_next
set_option maxRecDepth 20000 in
theorem ggL_law_X10_next_ : GoodIn wsL_law wsX10_next_ := goodIn_r _ [706, 91, 69, 67, 68, 525, 526, 527, 5, 528, 433, 105, 106, 107, 651, 652, 653, 654, 707, 708, 709, 710, 57, 572, 573, 574, 575, 552, 576, 577, 578, 579, 62, 580, 581, 582, 583, 58, 59, 60, 61, 553, 554, 555, 631, 632, 633, 634, 1087, 1088, 1089, 1090, 1091, 1092, 1093, 1094, 1095, 1096, 1097, 1098, 1099, 1100, 1101, 1102, 1103, 1104, 1105, 1106, 1107, 1108, 1109, 1110, 1111, 1112] (by decide +kernel) (by decide +kernel)
set_option maxRecDepth 20000 in
theorem gL_law_X10_next_ : GoodIn wsL_law (wsV RL 76 RX10 yX10_next_ wsX10_next_) := goodIn_app (goodIn_of _ (by decide +kernel)) ggL_law_X10_next_
set_option maxRecDepth 20000 in
theorem ggL_law_X9_ahead : GoodIn wsL_law wsX9_ahead := goodIn_r _ [714, 20, 513, 514, 515, 19, 516, 28, 643, 644, 2, 645, 646, 560, 561, 562, 563, 27, 715, 716, 717, 33, 718, 321, 683, 685, 51, 50, 719, 720, 721, 722, 690, 691, 692, 693, 694, 723, 724, 725, 726, 332, 333, 52, 373, 374, 375, 376, 276, 377, 340, 341, 290, 378, 379, 282, 380, 307, 306, 346, 347, 311, 260, 312, 268, 352, 353, 354, 355, 356, 357, 308, 309, 266, 267, 300, 301, 381, 382, 31, 383, 361, 362, 384, 385, 279, 386, 366, 367, 298, 296, 387, 388, 389, 390, 297, 615, 616, 617, 618, 695, 696, 697, 698, 699, 700, 701, 702, 1083, 1084, 1085, 1086, 1113, 1114, 1118, 1119, 1120, 1121, 1122, 1123, 1124, 1125, 1126, 1127, 1128, 1129, 1130, 1131, 1132, 1133, 1134, 1135, 1136, 1137, 1138, 1139, 1140, 1141, 1142, 1143, 1115, 1116, 1117, 1144, 1145, 1146, 1147, 1148, 1149] (by decide +kernel) (by decide +kernel)
set_option maxRecDepth 20000 in
theorem gL_law_X9_ahead : GoodIn wsL_law (wsV RL 77 RX9 yX9_ahead wsX9_ahead) := goodIn_app (goodIn_of _ (by decide +kernel)) ggL_law_X9_ahead
set_option maxRecDepth 20000 in
theorem ggL_law_X10_ahead : GoodIn wsL_law wsX10_ahead := goodIn_r _ [730, 91, 69, 67, 68, 525, 526, 527, 5, 528, 433, 105, 106, 107, 651, 652, 653, 654, 707, 708, 709, 710, 57, 572, 573, 574, 575, 552, 576, 577, 578, 579, 62, 580, 581, 582, 583, 58, 59, 60, 61, 553, 554, 555, 631, 632, 633, 634, 1087, 1088, 1089, 1090, 1091, 1092, 1093, 1094, 1095, 1096, 1097, 1098, 1099, 1100, 1101, 1102, 1103, 1104, 1105, 1106, 1107, 1108, 1109, 1110, 1111, 1112] (by decide +kernel) (by decide +kernel)
set_option maxRecDepth 20000 in
theorem gL_law_X10_ahead : GoodIn wsL_law (wsV RL 80 RX10 yX10_ahead wsX10_ahead) := goodIn_app (goodIn_of _ (by decide +kernel)) ggL_law_X10_ahead
set_option maxRecDepth 20000 in
theorem ggL_law_X9_count : GoodIn wsL_law wsX9_count := goodIn_r _ [734, 20, 588, 513, 514, 515, 19, 516, 28, 589, 590, 2, 591, 541, 542, 543, 544, 560, 561, 562, 563, 27, 735, 736, 737, 33, 738, 321, 50, 51, 686, 687, 688, 689, 690, 691, 692, 693, 694, 719, 720, 721, 722, 739, 593, 594, 595, 332, 596, 288, 134, 289, 333, 597, 133, 135, 52, 395, 396, 397, 398, 276, 399, 400, 401, 402, 403, 340, 341, 290, 404, 405, 282, 406, 346, 347, 305, 306, 311, 260, 312, 268, 348, 349, 350, 351, 307, 352, 353, 354, 355, 356, 357, 308, 309, 266, 267, 300, 301, 407, 408, 31, 409, 361, 362, 410, 411, 279, 412, 366, 367, 295, 413, 414, 415, 416, 298, 296, 297, 417, 418, 419, 420, 421, 422, 423, 1083, 1084, 1085, 1086, 1113, 1114, 1118, 1119, 1120, 1121, 1122, 1123, 1124, 1125, 1126, 1127, 1128, 1129, 1130, 1131, 1132, 1133, 1134, 1135, 1136, 1137, 1138, 1139, 1140, 1141, 1142, 1143, 1115, 1116, 1117, 1144, 1145, 1146, 1147, 1148, 1149] (by decide +kernel) (by decide +kernel)
set_option maxRecDepth 20000 in
theorem gL_law_X9_count : GoodIn wsL_law (wsV RL 81 RX9 yX9_count wsX9_count) := goodIn_app (goodIn_of _ (by decide +kernel)) ggL_law_X9_count
set_option maxRecDepth 20000 in
theorem ggL_law_X10_count : GoodIn wsL_law wsX10_count := goodIn_r _ [743, 91, 69, 67, 525, 526, 527, 5, 528, 433, 105, 106, 107, 549, 550, 551, 552, 707, 708, 709, 710, 57, 68, 572, 573, 574, 575, 576, 577, 578, 579, 62, 580, 581, 582, 583, 58, 59, 60, 61, 553, 554, 555, 631, 632, 633, 634, 1087, 1088, 1089, 1090, 1091, 1092, 1093, 1094, 1095, 1096, 1097, 1098, 1099, 1100, 1101, 1102, 1103, 1104, 1105, 1106, 1107, 1108, 1109, 1110, 1111, 1112] (by decide +kernel) (by decide +kernel)
set_option maxRecDepth 20000 in
theorem gL_law_X10_count : GoodIn wsL_law (wsV RL 84 RX10 yX10_count wsX10_count) := goodIn_app (goodIn_of _ (by decide +kernel)) ggL_law_X10_count
set_option maxRecDepth 20000 in
theorem ggL_law_X9_on : GoodIn wsL_law wsX9_on := goodIn_r _ [747, 748, 749, 750, 2, 751, 752, 20, 753, 754, 755, 756, 643, 644, 645, 646, 757, 758, 759, 19, 760, 27, 761, 560, 561, 562, 563, 735, 736, 737, 33, 738, 321, 50, 51, 686, 687, 688, 689, 690, 691, 692, 693, 694, 719, 720, 721, 722, 739, 593, 594, 595, 332, 596, 288, 134, 289, 333, 597, 133, 135, 52, 395, 396, 397, 398, 276, 399, 400, 401, 402, 403, 340, 341, 290, 404, 405, 282, 406, 346, 347, 305, 306, 311, 260, 312, 268, 348, 349, 350, 351, 307, 352, 353, 354, 355, 356, 357, 308, 309, 266, 267, 300, 301, 407, 408, 31, 409, 361, 362, 410, 411, 279, 412, 366, 367, 295, 413, 414, 415, 416, 298, 296, 297, 417, 418, 419, 420, 421, 422, 423, 1083, 1084, 1085, 1086, 1113, 1114, 1118, 1119, 1120, 1121, 1122, 1123, 1124, 1125, 1126, 1127, 1128, 1129, 1130, 1131, 1132, 1133, 1134, 1135, 1136, 1137, 1138, 1139, 1140, 1141, 1142, 1143, 1115, 1116, 1117, 1144, 1145, 1146, 1147, 1148, 1149] (by decide +kernel) (by decide +kernel)
set_option maxRecDepth 20000 in
theorem gL_law_X9_on : GoodIn wsL_law (wsV RL 85 RX9 yX9_on wsX9_on) := goodIn_app (goodIn_of _ (by decide +kernel)) ggL_law_X9_on
set_option maxRecDepth 20000 in
theorem ggL_law_X10_on : GoodIn wsL_law wsX10_on := goodIn_r _ [765, 91, 766, 767, 768, 5, 769, 770, 771, 105, 106, 107, 651, 652, 653, 654, 772, 773, 774, 775, 433, 69, 67, 68, 776, 777, 778, 779, 576, 577, 578, 579, 62, 707, 708, 709, 710, 57, 572, 573, 574, 575, 552, 580, 581, 582, 583, 58, 59, 60, 61, 553, 554, 555, 631, 632, 633, 634, 780, 781, 782, 783, 71, 1087, 1088, 1089, 1090, 1091, 1092, 1093, 1094, 1095, 1096, 1097, 1098, 1099, 1100, 1101, 1102, 1103, 1104, 1105, 1106, 1107, 1108, 1109, 1110, 1111, 1112] (by decide +kernel) (by decide +kernel)
set_option maxRecDepth 20000 in
theorem gL_law_X10_on : GoodIn wsL_law (wsV RL 88 RX10 yX10_on wsX10_on) := goodIn_app (goodIn_of _ (by decide +kernel)) ggL_law_X10_on
set_option maxRecDepth 20000 in
theorem ggL_law_L_onAt : GoodIn wsL_law wsL_onAt := goodIn_ca (goodIn_r _ [787, 788, 789, 790, 791, 2, 792, 793, 794, 20, 795, 796, 748, 749, 750, 751, 752, 753, 754, 755, 756, 643, 644, 645, 646, 757, 758, 759, 19, 760, 27, 761, 560, 561, 562, 563, 735, 736, 737, 33, 738, 321, 50, 51, 686, 687, 688, 689, 690, 691, 692, 693, 694, 719, 720, 721, 722, 739, 593, 594, 595, 332, 596, 288, 134, 289, 333, 597, 133, 135, 52, 395, 396, 397, 398, 276, 399, 400, 401, 402, 403, 340, 341, 290, 404, 405, 282, 406, 346, 347, 305, 306, 311, 260, 312, 268, 348, 349, 350, 351, 307, 352, 353, 354, 355, 356, 357, 308, 309, 266, 267, 300, 301, 407, 408, 31, 409, 361, 362, 410, 411, 279, 412, 366, 367, 295, 413, 414, 415, 416, 298, 296, 297, 417, 418, 419, 420, 421, 422, 423, 797, 798, 799, 800, 679, 680, 681, 682, 683, 684, 685, 610, 565, 566, 567, 335, 336, 337, 338, 339, 342, 343, 344, 345, 358, 359, 360, 363, 364, 365, 368, 369, 370, 371, 372, 695, 696, 697, 698, 615, 616, 617, 618, 801, 802, 803, 804, 805, 513, 514, 515, 516, 28, 1083, 1084, 1085, 1086, 1118, 1119, 1120, 1121, 1122, 1123, 1124, 1125, 1126, 1127, 1128, 1129, 1130, 1131, 1132, 1113, 1114, 1133, 1134, 1135, 1136, 1137, 1138, 1139, 1140, 1141, 1142, 1143, 1115, 1116, 1117, 1144, 1145, 1146, 1147, 1148, 1149] (by decide +kernel) (by decide +kernel)) (goodIn_sub (fun _ h => List.mem_append_right _ h) (by decide +kernel))
set_option maxRecDepth 20000 in
theorem gL_law_L_onAt : GoodIn wsL_law (va_wsS RL 89 yL_onAt wsL_onAt) := goodIn_app (goodIn_of _ (by decide +kernel)) ggL_law_L_onAt
set_option maxRecDepth 20000 in
theorem ggL_law_X10_onAt : GoodIn wsL_law wsX10_onAt := goodIn_r _ [809, 91, 766, 71, 767, 768, 5, 769, 770, 771, 105, 106, 107, 651, 652, 653, 654, 772, 773, 774, 775, 433, 69, 67, 68, 776, 777, 778, 779, 576, 577, 578, 579, 62, 707, 708, 709, 710, 57, 572, 573, 574, 575, 552, 580, 581, 582, 583, 58, 59, 60, 61, 553, 554, 555, 631, 632, 633, 634, 780, 781, 782, 783, 1087, 1088, 1089, 1090, 1091, 1092, 1093, 1094, 1095, 1096, 1097, 1098, 1099, 1100, 1101, 1102, 1103, 1104, 1105, 1106, 1107, 1108, 1109, 1110, 1111, 1112] (by decide +kernel) (by decide +kernel)
set_option maxRecDepth 20000 in
theorem gL_law_X10_onAt : GoodIn wsL_law (wsV RL 94 RX10 yX10_onAt wsX10_onAt) := goodIn_app (goodIn_of _ (by decide +kernel)) ggL_law_X10_onAt
set_option maxRecDepth 20000 in
theorem ggL_law_X9_clash : GoodIn wsL_law wsX9_clash := goodIn_r _ [813, 20, 805, 814, 815, 816, 2, 817, 513, 514, 515, 19, 516, 28, 643, 644, 645, 646, 560, 561, 562, 563, 27, 818, 819, 820, 821, 822, 753, 823, 133, 134, 135, 824, 825, 826, 33, 827, 685, 828, 596, 288, 289, 684, 829, 716, 717, 718, 321, 683, 51, 50, 719, 720, 721, 722, 690, 691, 692, 693, 694, 723, 724, 725, 726, 332, 333, 52, 373, 374, 375, 376, 276, 377, 340, 341, 290, 378, 379, 282, 380, 307, 306, 346, 347, 311, 260, 312, 268, 352, 353, 354, 355, 356, 357, 308, 309, 266, 267, 300, 301, 381, 382, 31, 383, 361, 362, 384, 385, 279, 386, 366, 367, 298, 296, 387, 388, 389, 390, 297, 615, 616, 617, 618, 695, 696, 697, 698, 830, 680, 681, 682, 686, 687, 688, 689, 610, 565, 566, 567, 335, 336, 337, 338, 339, 342, 343, 344, 345, 305, 348, 349, 350, 351, 358, 359, 360, 363, 364, 365, 295, 368, 369, 370, 371, 372, 831, 832, 833, 834, 835, 836, 544, 837, 838, 839, 840, 841, 842, 843, 844, 845, 846, 847, 848, 849, 850, 851, 852, 853, 854, 855, 856, 857, 858, 859, 860, 861, 862, 863, 864, 865, 866, 867, 564, 868, 869, 870, 1083, 1084, 1085, 1086, 1113, 1114, 1118, 1119, 1120, 1121, 1122, 1123, 1124, 1125, 1126, 1127, 1128, 1129, 1130, 1131, 1132, 1133, 1134, 1135, 1136, 1137, 1138, 1139, 1140, 1141, 1142, 1143, 1115, 1116, 1117, 1144, 1145, 1146, 1147, 1148, 1149] (by decide +kernel) (by decide +kernel)
set_option maxRecDepth 20000 in
theorem gL_law_X9_clash : GoodIn wsL_law (wsV RL 95 RX9 yX9_clash wsX9_clash) := goodIn_app (goodIn_of _ (by decide +kernel)) ggL_law_X9_clash
set_option maxRecDepth 20000 in
theorem ggL_law_X10_clash : GoodIn wsL_law wsX10_clash := goodIn_r _ [874, 91, 525, 526, 527, 5, 528, 433, 105, 106, 107, 651, 652, 653, 654, 707, 708, 709, 710, 57, 68, 67, 69, 572, 573, 574, 575, 552, 576, 577, 578, 579, 62, 580, 581, 582, 583, 58, 59, 60, 61, 553, 554, 555, 631, 632, 633, 634, 875, 876, 877, 878, 1087, 1088, 1089, 1090, 1091, 1092, 1093, 1094, 1095, 1096, 1097, 1098, 1099, 1100, 1101, 1102, 1103, 1104, 1105, 1106, 1107, 1108, 1109, 1110, 1111, 1112] (by decide +kernel) (by decide +kernel)
set_option maxRecDepth 20000 in
theorem gL_law_X10_clash : GoodIn wsL_law (wsV RL 98 RX10 yX10_clash wsX10_clash) := goodIn_app (goodIn_of _ (by decide +kernel)) ggL_law_X10_clash
set_option maxRecDepth 20000 in
theorem ggL_law_X9_clashes : GoodIn wsL_law wsX9_clashes := goodIn_r _ [882, 20, 814, 815, 816, 2, 817, 513, 514, 515, 19, 516, 28, 589, 590, 591, 541, 542, 543, 544, 560, 561, 562, 563, 27, 883, 884, 885, 796, 753, 795, 679, 680, 681, 33, 682, 321, 683, 684, 685, 51, 50, 686, 687, 688, 689, 690, 691, 692, 693, 694, 610, 565, 566, 567, 332, 333, 52, 335, 336, 337, 338, 276, 339, 340, 341, 290, 342, 343, 344, 282, 345, 346, 347, 305, 288, 134, 289, 306, 348, 349, 350, 351, 307, 311, 260, 312, 268, 352, 353, 354, 355, 356, 357, 308, 309, 266, 267, 300, 301, 358, 359, 31, 360, 361, 362, 363, 364, 279, 365, 366, 367, 295, 298, 296, 368, 369, 370, 371, 372, 297, 695, 696, 697, 698, 615, 616, 617, 618, 735, 736, 737, 738, 719, 720, 721, 722, 739, 593, 594, 595, 596, 597, 133, 135, 395, 396, 397, 398, 399, 400, 401, 402, 403, 404, 405, 406, 407, 408, 409, 410, 411, 412, 413, 414, 415, 416, 417, 418, 419, 420, 421, 422, 423, 1083, 1084, 1085, 1086, 1113, 1114, 1118, 1119, 1120, 1121, 1122, 1123, 1124, 1125, 1126, 1127, 1128, 1129, 1130, 1131, 1132, 1133, 1134, 1135, 1136, 1137, 1138, 1139, 1140, 1141, 1142, 1143, 1115, 1116, 1117, 1144, 1145, 1146, 1147, 1148, 1149] (by decide +kernel) (by decide +kernel)
set_option maxRecDepth 20000 in
theorem gL_law_X9_clashes : GoodIn wsL_law (wsV RL 99 RX9 yX9_clashes wsX9_clashes) := goodIn_app (goodIn_of _ (by decide +kernel)) ggL_law_X9_clashes
set_option maxRecDepth 20000 in
theorem ggL_law_X10_clashes : GoodIn wsL_law wsX10_clashes := goodIn_r _ [889, 91, 69, 67, 57, 525, 526, 527, 5, 528, 433, 105, 106, 107, 549, 550, 551, 552, 707, 708, 709, 710, 68, 572, 573, 574, 575, 576, 577, 578, 579, 62, 580, 581, 582, 583, 58, 59, 60, 61, 553, 554, 555, 631, 632, 633, 634, 1087, 1088, 1089, 1090, 1091, 1092, 1093, 1094, 1095, 1096, 1097, 1098, 1099, 1100, 1101, 1102, 1103, 1104, 1105, 1106, 1107, 1108, 1109, 1110, 1111, 1112] (by decide +kernel) (by decide +kernel)
set_option maxRecDepth 20000 in
theorem gL_law_X10_clashes : GoodIn wsL_law (wsV RL 103 RX10 yX10_clashes wsX10_clashes) := goodIn_app (goodIn_of _ (by decide +kernel)) ggL_law_X10_clashes
set_option maxRecDepth 20000 in
theorem ggL_law_X9_roomClash : GoodIn wsL_law wsX9_roomClash := goodIn_r _ [893, 805, 20, 754, 755, 2, 756, 643, 644, 645, 646, 757, 758, 759, 19, 760, 27, 761, 560, 561, 562, 563, 818, 819, 820, 821, 822, 753, 823, 133, 134, 135, 824, 825, 826, 33, 827, 685, 828, 596, 288, 289, 684, 829, 716, 717, 718, 321, 683, 51, 50, 719, 720, 721, 722, 690, 691, 692, 693, 694, 723, 724, 725, 726, 332, 333, 52, 373, 374, 375, 376, 276, 377, 340, 341, 290, 378, 379, 282, 380, 307, 306, 346, 347, 311, 260, 312, 268, 352, 353, 354, 355, 356, 357, 308, 309, 266, 267, 300, 301, 381, 382, 31, 383, 361, 362, 384, 385, 279, 386, 366, 367, 298, 296, 387, 388, 389, 390, 297, 615, 616, 617, 618, 695, 696, 697, 698, 830, 680, 681, 682, 686, 687, 688, 689, 610, 565, 566, 567, 335, 336, 337, 338, 339, 342, 343, 344, 345, 305, 348, 349, 350, 351, 358, 359, 360, 363, 364, 365, 295, 368, 369, 370, 371, 372, 831, 832, 833, 834, 835, 836, 544, 837, 838, 839, 840, 841, 842, 843, 844, 845, 846, 847, 848, 849, 850, 851, 852, 853, 854, 855, 856, 857, 858, 859, 860, 861, 862, 863, 864, 865, 866, 867, 564, 868, 869, 870, 1083, 1084, 1085, 1086, 1113, 1114, 1118, 1119, 1120, 1121, 1122, 1123, 1124, 1125, 1126, 1127, 1128, 1129, 1130, 1131, 1132, 1133, 1134, 1135, 1136, 1137, 1138, 1139, 1140, 1141, 1142, 1143, 1115, 1116, 1117, 1144, 1145, 1146, 1147, 1148, 1149] (by decide +kernel) (by decide +kernel)
set_option maxRecDepth 20000 in
theorem gL_law_X9_roomClash : GoodIn wsL_law (wsV RL 104 RX9 yX9_roomClash wsX9_roomClash) := goodIn_app (goodIn_of _ (by decide +kernel)) ggL_law_X9_roomClash
set_option maxRecDepth 20000 in
theorem ggL_law_X10_roomClash : GoodIn wsL_law wsX10_roomClash := goodIn_r _ [897, 91, 433, 105, 106, 5, 107, 651, 652, 653, 654, 576, 577, 578, 579, 62, 707, 708, 709, 710, 57, 68, 67, 69, 572, 573, 574, 575, 552, 580, 581, 582, 583, 58, 59, 60, 61, 553, 554, 555, 631, 632, 633, 634, 875, 876, 877, 878, 1087, 1088, 1089, 1090, 1091, 1092, 1093, 1094, 1095, 1096, 1097, 1098, 1099, 1100, 1101, 1102, 1103, 1104, 1105, 1106, 1107, 1108, 1109, 1110, 1111, 1112] (by decide +kernel) (by decide +kernel)
set_option maxRecDepth 20000 in
theorem gL_law_X10_roomClash : GoodIn wsL_law (wsV RL 107 RX10 yX10_roomClash wsX10_roomClash) := goodIn_app (goodIn_of _ (by decide +kernel)) ggL_law_X10_roomClash
set_option maxRecDepth 20000 in
theorem ggL_law_X9_free : GoodIn wsL_law wsX9_free := goodIn_r _ [901, 752, 646, 823, 133, 134, 135, 754, 755, 2, 756, 643, 644, 645, 902, 903, 904, 905, 20, 796, 753, 836, 288, 289, 560, 561, 562, 19, 563, 27, 757, 758, 759, 760, 761, 715, 716, 717, 33, 718, 321, 683, 685, 51, 50, 719, 720, 721, 722, 690, 691, 692, 693, 694, 723, 724, 725, 726, 332, 333, 52, 373, 374, 375, 376, 276, 377, 340, 341, 290, 378, 379, 282, 380, 307, 306, 346, 347, 311, 260, 312, 268, 352, 353, 354, 355, 356, 357, 308, 309, 266, 267, 300, 301, 381, 382, 31, 383, 361, 362, 384, 385, 279, 386, 366, 367, 298, 296, 387, 388, 389, 390, 297, 615, 616, 617, 618, 695, 696, 697, 698, 1083, 1084, 1085, 1086, 1113, 1114, 1118, 1119, 1120, 1121, 1122, 1123, 1124, 1125, 1126, 1127, 1128, 1129, 1130, 1131, 1132, 1133, 1134, 1135, 1136, 1137, 1138, 1139, 1140, 1141, 1142, 1143, 1115, 1116, 1117, 1144, 1145, 1146, 1147, 1148, 1149] (by decide +kernel) (by decide +kernel)
set_option maxRecDepth 20000 in
theorem gL_law_X9_free : GoodIn wsL_law (wsV RL 108 RX9 yX9_free wsX9_free) := goodIn_app (goodIn_of _ (by decide +kernel)) ggL_law_X9_free
set_option maxRecDepth 20000 in
theorem ggL_law_X10_free : GoodIn wsL_law wsX10_free := goodIn_r _ [909, 91, 910, 771, 74, 105, 106, 5, 107, 651, 652, 653, 654, 911, 912, 913, 914, 433, 69, 67, 576, 577, 578, 579, 62, 707, 708, 709, 710, 57, 68, 572, 573, 574, 575, 552, 580, 581, 582, 583, 58, 59, 60, 61, 553, 554, 555, 631, 632, 633, 634, 1087, 1088, 1089, 1090, 1091, 1092, 1093, 1094, 1095, 1096, 1097, 1098, 1099, 1100, 1101, 1102, 1103, 1104, 1105, 1106, 1107, 1108, 1109, 1110, 1111, 1112] (by decide +kernel) (by decide +kernel)
set_option maxRecDepth 20000 in
theorem gL_law_X10_free : GoodIn wsL_law (wsV RL 111 RX10 yX10_free wsX10_free) := goodIn_app (goodIn_of _ (by decide +kernel)) ggL_law_X10_free
set_option maxRecDepth 20000 in
theorem ggL_law_X9_busy : GoodIn wsL_law wsX9_busy := goodIn_r _ [918, 754, 755, 2, 756, 541, 542, 543, 544, 919, 920, 921, 922, 823, 133, 134, 135, 902, 903, 904, 905, 20, 796, 753, 836, 288, 289, 560, 561, 562, 19, 563, 27, 757, 758, 759, 760, 761, 715, 716, 717, 33, 718, 321, 683, 685, 51, 50, 719, 720, 721, 722, 690, 691, 692, 693, 694, 723, 724, 725, 726, 332, 333, 52, 373, 374, 375, 376, 276, 377, 340, 341, 290, 378, 379, 282, 380, 307, 306, 346, 347, 311, 260, 312, 268, 352, 353, 354, 355, 356, 357, 308, 309, 266, 267, 300, 301, 381, 382, 31, 383, 361, 362, 384, 385, 279, 386, 366, 367, 298, 296, 387, 388, 389, 390, 297, 615, 616, 617, 618, 695, 696, 697, 698, 923, 924, 925, 926, 805, 679, 680, 681, 682, 684, 686, 687, 688, 689, 610, 565, 566, 567, 335, 336, 337, 338, 339, 342, 343, 344, 345, 305, 348, 349, 350, 351, 358, 359, 360, 363, 364, 365, 295, 368, 369, 370, 371, 372, 1083, 1084, 1085, 1086, 1113, 1114, 1118, 1119, 1120, 1121, 1122, 1123, 1124, 1125, 1126, 1127, 1128, 1129, 1130, 1131, 1132, 1133, 1134, 1135, 1136, 1137, 1138, 1139, 1140, 1141, 1142, 1143, 1115, 1116, 1117, 1144, 1145, 1146, 1147, 1148, 1149] (by decide +kernel) (by decide +kernel)
set_option maxRecDepth 20000 in
theorem gL_law_X9_busy : GoodIn wsL_law (wsV RL 112 RX9 yX9_busy wsX9_busy) := goodIn_app (goodIn_of _ (by decide +kernel)) ggL_law_X9_busy
set_option maxRecDepth 20000 in
theorem ggL_law_X10_busy : GoodIn wsL_law wsX10_busy := goodIn_r _ [930, 91, 105, 106, 5, 107, 549, 550, 551, 552, 931, 932, 933, 934, 74, 911, 912, 913, 914, 433, 69, 67, 576, 577, 578, 579, 62, 707, 708, 709, 710, 57, 68, 572, 573, 574, 575, 580, 581, 582, 583, 58, 59, 60, 61, 553, 554, 555, 631, 632, 633, 634, 1087, 1088, 1089, 1090, 1091, 1092, 1093, 1094, 1095, 1096, 1097, 1098, 1099, 1100, 1101, 1102, 1103, 1104, 1105, 1106, 1107, 1108, 1109, 1110, 1111, 1112] (by decide +kernel) (by decide +kernel)
set_option maxRecDepth 20000 in
theorem gL_law_X10_busy : GoodIn wsL_law (wsV RL 115 RX10 yX10_busy wsX10_busy) := goodIn_app (goodIn_of _ (by decide +kernel)) ggL_law_X10_busy
set_option maxRecDepth 20000 in
theorem ggL_law_X9_busiest : GoodIn wsL_law wsX9_busiest := goodIn_r _ [938, 754, 755, 2, 756, 589, 590, 591, 541, 542, 543, 544, 919, 920, 921, 922, 823, 133, 134, 135, 902, 903, 904, 905, 20, 796, 753, 836, 288, 289, 560, 561, 562, 19, 563, 27, 757, 758, 759, 760, 761, 715, 716, 717, 33, 718, 321, 683, 685, 51, 50, 719, 720, 721, 722, 690, 691, 692, 693, 694, 723, 724, 725, 726, 332, 333, 52, 373, 374, 375, 376, 276, 377, 340, 341, 290, 378, 379, 282, 380, 307, 306, 346, 347, 311, 260, 312, 268, 352, 353, 354, 355, 356, 357, 308, 309, 266, 267, 300, 301, 381, 382, 31, 383, 361, 362, 384, 385, 279, 386, 366, 367, 298, 296, 387, 388, 389, 390, 297, 615, 616, 617, 618, 695, 696, 697, 698, 923, 924, 925, 926, 805, 679, 680, 681, 682, 684, 686, 687, 688, 689, 610, 565, 566, 567, 335, 336, 337, 338, 339, 342, 343, 344, 345, 305, 348, 349, 350, 351, 358, 359, 360, 363, 364, 365, 295, 368, 369, 370, 371, 372, 1083, 1084, 1085, 1086, 1113, 1114, 1118, 1119, 1120, 1121, 1122, 1123, 1124, 1125, 1126, 1127, 1128, 1129, 1130, 1131, 1132, 1133, 1134, 1135, 1136, 1137, 1138, 1139, 1140, 1141, 1142, 1143, 1115, 1116, 1117, 1144, 1145, 1146, 1147, 1148, 1149] (by decide +kernel) (by decide +kernel)
set_option maxRecDepth 20000 in
theorem gL_law_X9_busiest : GoodIn wsL_law (wsV RL 116 RX9 yX9_busiest wsX9_busiest) := goodIn_app (goodIn_of _ (by decide +kernel)) ggL_law_X9_busiest
set_option maxRecDepth 20000 in
theorem ggL_law_X10_busiest : GoodIn wsL_law wsX10_busiest := goodIn_r _ [942, 91, 74, 105, 106, 5, 107, 549, 550, 551, 552, 911, 912, 913, 914, 433, 69, 67, 576, 577, 578, 579, 62, 707, 708, 709, 710, 57, 68, 572, 573, 574, 575, 580, 581, 582, 583, 58, 59, 60, 61, 553, 554, 555, 631, 632, 633, 634, 1087, 1088, 1089, 1090, 1091, 1092, 1093, 1094, 1095, 1096, 1097, 1098, 1099, 1100, 1101, 1102, 1103, 1104, 1105, 1106, 1107, 1108, 1109, 1110, 1111, 1112] (by decide +kernel) (by decide +kernel)
set_option maxRecDepth 20000 in
theorem gL_law_X10_busiest : GoodIn wsL_law (wsV RL 119 RX10 yX10_busiest wsX10_busiest) := goodIn_app (goodIn_of _ (by decide +kernel)) ggL_law_X10_busiest
set_option maxRecDepth 20000 in
theorem ggL_law_X9_split : GoodIn wsL_law wsX9_split := goodIn_r _ [946, 20, 544, 513, 514, 515, 19, 516, 28, 541, 542, 2, 543, 115, 116, 117, 118, 27, 560, 561, 562, 563, 592, 593, 594, 33, 595, 332, 596, 288, 134, 289, 333, 597, 133, 135, 52, 395, 396, 397, 398, 276, 399, 400, 401, 402, 403, 340, 341, 290, 404, 405, 282, 406, 346, 347, 305, 306, 311, 260, 312, 268, 348, 349, 350, 351, 307, 352, 353, 354, 355, 356, 357, 308, 309, 266, 267, 300, 301, 407, 408, 31, 409, 361, 362, 410, 411, 279, 412, 366, 367, 295, 413, 414, 415, 416, 298, 296, 297, 417, 418, 419, 420, 421, 422, 423, 137, 138, 139, 140, 141, 947, 948, 949, 950, 318, 320, 319, 334, 321, 50, 951, 952, 953, 954, 955, 690, 828, 956, 957, 958, 959, 51, 739, 663, 664, 665, 666, 960, 328, 329, 330, 331, 335, 336, 337, 338, 339, 342, 343, 344, 345, 358, 359, 360, 363, 364, 365, 368, 369, 370, 371, 372, 373, 374, 375, 376, 377, 378, 379, 380, 381, 382, 383, 384, 385, 386, 387, 388, 389, 390, 391, 392, 393, 394, 424, 425, 426, 427, 1083, 1084, 1085, 1086, 1113, 1114, 1118, 1119, 1120, 1121, 1122, 1123, 1124, 1125, 1126, 1127, 1128, 1129, 1130, 1131, 1132, 1133, 1134, 1135, 1136, 1137, 1138, 1139, 1140, 1141, 1142, 1143, 1115, 1116, 1117, 1144, 1145, 1146, 1147, 1148, 1149] (by decide +kernel) (by decide +kernel)
set_option maxRecDepth 20000 in
theorem gL_law_X9_split : GoodIn wsL_law (wsV RL 120 RX9 yX9_split wsX9_split) := goodIn_app (goodIn_of _ (by decide +kernel)) ggL_law_X9_split
set_option maxRecDepth 20000 in
theorem ggL_law_X10_split : GoodIn wsL_law wsX10_split := goodIn_r _ [964, 91, 433, 68, 62, 525, 526, 527, 5, 528, 105, 106, 107, 549, 550, 551, 552, 572, 573, 574, 575, 57, 69, 576, 577, 578, 579, 580, 581, 582, 583, 58, 59, 60, 61, 553, 554, 555, 671, 672, 673, 674, 1087, 1088, 1089, 1090, 1091, 1092, 1093, 1094, 1095, 1096, 1097, 1098, 1099, 1100, 1101, 1102, 1103, 1104, 1105, 1106, 1107, 1108, 1109, 1110, 1111, 1112] (by decide +kernel) (by decide +kernel)
set_option maxRecDepth 20000 in
theorem gL_law_X10_split : GoodIn wsL_law (wsV RL 123 RX10 yX10_split wsX10_split) := goodIn_app (goodIn_of _ (by decide +kernel)) ggL_law_X10_split
set_option maxRecDepth 20000 in
theorem ggL_law_X9_period : GoodIn wsL_law wsX9_period := goodIn_r _ [968, 20, 840, 513, 514, 515, 19, 516, 28, 560, 561, 562, 563, 27, 845, 846, 847, 848, 276, 849, 290, 850, 851, 282, 852, 853, 306, 854, 855, 2, 856, 857, 858, 859, 860, 861, 31, 862, 863, 864, 279, 865, 866, 296, 969, 970, 971, 972, 1083, 1084, 1085, 1086, 1118, 1119, 1120, 1121, 1122, 1123, 1124, 1125, 1126, 1127, 1128, 1129, 1130, 1131, 1132, 1113, 1114, 1133, 1134, 1135, 1136, 1137, 1138, 1139, 1140, 1141, 1142, 1143, 1144, 1145, 1146, 1147, 1148, 1149] (by decide +kernel) (by decide +kernel)
set_option maxRecDepth 20000 in
theorem gL_law_X9_period : GoodIn wsL_law (wsV RL 124 RX9 yX9_period wsX9_period) := goodIn_app (goodIn_of _ (by decide +kernel)) ggL_law_X9_period
set_option maxRecDepth 20000 in
theorem ggL_law_X10_period : GoodIn wsL_law wsX10_period := goodIn_r _ [976, 91, 525, 526, 527, 5, 528, 433, 105, 106, 107, 977, 978, 979, 980, 981, 982, 983, 984, 576, 577, 578, 579, 62, 985, 986, 987, 988, 989, 990, 991, 1087, 1088, 1089, 1090, 1091, 1092, 1093, 1094, 1095, 1096, 1097, 1098, 1099, 1100, 1101, 1102, 1103, 1104, 1105, 1106, 1107, 1108, 1109, 1110, 1111, 1112] (by decide +kernel) (by decide +kernel)
set_option maxRecDepth 20000 in
theorem gL_law_X10_period : GoodIn wsL_law (wsV RL 127 RX10 yX10_period wsX10_period) := goodIn_app (goodIn_of _ (by decide +kernel)) ggL_law_X10_period
set_option maxRecDepth 20000 in
theorem ggL_law_X9_periodOf : GoodIn wsL_law wsX9_periodOf := goodIn_r _ [995, 20, 840, 513, 514, 515, 19, 516, 28, 560, 561, 562, 563, 27, 845, 846, 847, 848, 276, 849, 290, 850, 851, 282, 852, 853, 306, 854, 855, 2, 856, 857, 858, 859, 860, 861, 31, 862, 863, 864, 279, 865, 866, 296, 867, 969, 970, 971, 972, 1083, 1084, 1085, 1086, 1118, 1119, 1120, 1121, 1122, 1123, 1124, 1125, 1126, 1127, 1128, 1129, 1130, 1131, 1132, 1113, 1114, 1133, 1134, 1135, 1136, 1137, 1138, 1139, 1140, 1141, 1142, 1143, 1144, 1145, 1146, 1147, 1148, 1149] (by decide +kernel) (by decide +kernel)
set_option maxRecDepth 20000 in
theorem gL_law_X9_periodOf : GoodIn wsL_law (wsV RL 128 RX9 yX9_periodOf wsX9_periodOf) := goodIn_app (goodIn_of _ (by decide +kernel)) ggL_law_X9_periodOf
set_option maxRecDepth 20000 in
theorem ggL_law_X10_periodOf : GoodIn wsL_law wsX10_periodOf := goodIn_r _ [999, 91, 525, 526, 527, 5, 528, 433, 105, 106, 107, 977, 978, 979, 980, 981, 982, 983, 984, 576, 577, 578, 579, 62, 985, 986, 987, 988, 989, 990, 991, 1087, 1088, 1089, 1090, 1091, 1092, 1093, 1094, 1095, 1096, 1097, 1098, 1099, 1100, 1101, 1102, 1103, 1104, 1105, 1106, 1107, 1108, 1109, 1110, 1111, 1112] (by decide +kernel) (by decide +kernel)
set_option maxRecDepth 20000 in
theorem gL_law_X10_periodOf : GoodIn wsL_law (wsV RL 131 RX10 yX10_periodOf wsX10_periodOf) := goodIn_app (goodIn_of _ (by decide +kernel)) ggL_law_X10_periodOf
set_option maxRecDepth 20000 in
theorem ggL_law_X9_of : GoodIn wsL_law wsX9_of := goodIn_r _ [1003, 20, 513, 514, 515, 19, 516, 28, 560, 561, 562, 563, 27, 1004, 1005, 1006, 33, 1007, 955, 690, 828, 52, 1008, 1009, 317, 319, 320, 321, 332, 333, 1010, 1011, 1012, 1013, 39, 1014, 1015, 1016, 1017, 282, 1018, 356, 357, 309, 308, 1019, 1020, 1021, 279, 1022, 297, 1023, 1024, 1025, 1026, 1027, 1028, 1029, 1030, 1031, 1032, 1033, 1034, 1035, 1036, 1037, 51, 1083, 1084, 1085, 1086, 1113, 1114, 1118, 1119, 1120, 1121, 1122, 1123, 1124, 1125, 1126, 1127, 1128, 1129, 1130, 1131, 1132, 1133, 1134, 1135, 1136, 1137, 1138, 1139, 1140, 1141, 1142, 1143, 1115, 1116, 1117, 1144, 1145, 1146, 1147, 1148, 1149] (by decide +kernel) (by decide +kernel)
set_option maxRecDepth 20000 in
theorem gL_law_X9_of : GoodIn wsL_law (wsV RL 132 RX9 yX9_of wsX9_of) := goodIn_app (goodIn_of _ (by decide +kernel)) ggL_law_X9_of
set_option maxRecDepth 20000 in
theorem ggL_law_X10_of : GoodIn wsL_law wsX10_of := goodIn_r _ [1041, 91, 68, 525, 526, 527, 5, 528, 433, 105, 106, 107, 576, 577, 578, 579, 62, 1042, 1043, 1044, 1045, 572, 573, 574, 575, 552, 57, 69, 580, 581, 582, 583, 58, 59, 60, 61, 553, 554, 555, 1087, 1088, 1089, 1090, 1091, 1092, 1093, 1094, 1095, 1096, 1097, 1098, 1099, 1100, 1101, 1102, 1103, 1104, 1105, 1106, 1107, 1108, 1109, 1110, 1111, 1112] (by decide +kernel) (by decide +kernel)
set_option maxRecDepth 20000 in
theorem gL_law_X10_of : GoodIn wsL_law (wsV RL 135 RX10 yX10_of wsX10_of) := goodIn_app (goodIn_of _ (by decide +kernel)) ggL_law_X10_of
set_option maxRecDepth 20000 in
theorem ggL_law_X9_image : GoodIn wsL_law wsX9_image := goodIn_r _ [1049, 21, 17, 18, 19, 20, 22, 23, 24, 25, 12, 13, 26, 27, 28, 29, 30, 31, 32, 33, 34, 35, 36, 37, 38, 39, 40, 41, 42, 43, 44, 45, 46, 47, 48, 49, 50, 51, 52, 1050, 1051, 1052, 1053, 1054, 952, 953, 954, 955, 690, 828, 319, 320, 318, 332, 333, 334, 321, 956, 957, 958, 959, 1083, 1084, 1085, 1086, 1113, 1114, 1115, 1116, 1117, 1118, 1119, 1120, 1121, 1122, 1123, 1124, 1125, 1126, 1127, 1128, 1129, 1130, 1131, 1132, 1133, 1134, 1135, 1136, 1137, 1138, 1139, 1140, 1141, 1142, 1143, 1144, 1145, 1146, 1147, 1148, 1149] (by decide +kernel) (by decide +kernel)
set_option maxRecDepth 20000 in
theorem gL_law_X9_image : GoodIn wsL_law (wsV RL 136 RX9 yX9_image wsX9_image) := goodIn_app (goodIn_of _ (by decide +kernel)) ggL_law_X9_image
set_option maxRecDepth 20000 in
theorem ggL_law_X10_image : GoodIn wsL_law wsX10_image := goodIn_r _ [1058, 91, 63, 62, 64, 433, 105, 106, 5, 107, 1087, 1088, 1089, 1090, 1091, 1092, 1093, 1094, 1095, 1096, 1097, 1098, 1099, 1100, 1101, 1102, 1103, 1104, 1105, 1106, 1107, 1108, 1109, 1110, 1111, 1112] (by decide +kernel) (by decide +kernel)
set_option maxRecDepth 20000 in
theorem gL_law_X10_image : GoodIn wsL_law (wsV RL 139 RX10 yX10_image wsX10_image) := goodIn_app (goodIn_of _ (by decide +kernel)) ggL_law_X10_image
set_option maxRecDepth 20000 in
theorem ggL_law_X9_back : GoodIn wsL_law wsX9_back := goodIn_r _ [1062, 21, 20, 1050, 1051, 1052, 19, 1053, 28, 27, 1054, 952, 953, 33, 954, 955, 690, 828, 52, 319, 320, 318, 332, 333, 334, 321, 50, 956, 957, 958, 959, 51, 1083, 1084, 1085, 1086, 1113, 1114, 1118, 1119, 1120, 1121, 1122, 1123, 1124, 1125, 1126, 1127, 1128, 1129, 1130, 1131, 1132] (by decide +kernel) (by decide +kernel)
set_option maxRecDepth 20000 in
theorem gL_law_X9_back : GoodIn wsL_law (wsV RL 140 RX9 yX9_back wsX9_back) := goodIn_app (goodIn_of _ (by decide +kernel)) ggL_law_X9_back
set_option maxRecDepth 20000 in
theorem ggL_law_X10_back : GoodIn wsL_law wsX10_back := goodIn_r _ [1066, 91, 64, 62, 63, 433, 105, 106, 5, 107, 1087, 1088, 1089, 1090, 1091, 1092, 1093, 1094, 1095, 1096, 1097, 1098, 1099, 1100, 1101, 1102, 1103, 1104, 1105, 1106, 1107, 1108, 1109, 1110, 1111, 1112] (by decide +kernel) (by decide +kernel)
set_option maxRecDepth 20000 in
theorem gL_law_X10_back : GoodIn wsL_law (wsV RL 143 RX10 yX10_back wsX10_back) := goodIn_app (goodIn_of _ (by decide +kernel)) ggL_law_X10_back
set_option maxRecDepth 20000 in
theorem ggL_law_X9_told : GoodIn wsL_law wsX9_told := goodIn_r _ [1070, 20, 16, 1071, 1072, 1073, 19, 1074, 28, 27, 761, 1075, 1076, 1077, 2, 1078, 21, 1083, 1084, 1085, 1086, 1113, 1114, 1118, 1119, 1120, 1121, 1122, 1123, 1124, 1125, 1126, 1127, 1128, 1129, 1130, 1131, 1132] (by decide +kernel) (by decide +kernel)
set_option maxRecDepth 20000 in
theorem gL_law_X9_told : GoodIn wsL_law (wsV RL 144 RX9 yX9_told wsX9_told) := goodIn_app (goodIn_of _ (by decide +kernel)) ggL_law_X9_told
set_option maxRecDepth 20000 in
theorem ggL_law_X10_told : GoodIn wsL_law wsX10_told := goodIn_r _ [1082, 91, 433, 92, 64, 576, 577, 578, 5, 579, 62, 1087, 1088, 1089, 1090, 1091, 1092, 1093, 1094, 1095, 1096, 1097, 1098, 1099, 1100, 1101, 1102, 1103, 1104, 1105, 1106, 1107, 1108, 1109, 1110, 1111, 1112] (by decide +kernel) (by decide +kernel)
set_option maxRecDepth 20000 in
theorem gL_law_X10_told : GoodIn wsL_law (wsV RL 147 RX10 yX10_told wsX10_told) := goodIn_app (goodIn_of _ (by decide +kernel)) ggL_law_X10_told
theorem dL_law_0 : decode cL_law 0 = .ok (.new 8, 3) := by decide +kernel
theorem dL_law_3 : decode cL_law 3 = .ok (.dup, 1) := by decide +kernel
theorem dL_law_4 : decode cL_law 4 = .ok (.invokespecial 15, 3) := by decide +kernel
theorem dL_law_7 : decode cL_law 7 = .ok (.astore_n 1, 1) := by decide +kernel
theorem dL_law_8 : decode cL_law 8 = .ok (.new 16, 3) := by decide +kernel
theorem dL_law_11 : decode cL_law 11 = .ok (.dup, 1) := by decide +kernel
theorem dL_law_12 : decode cL_law 12 = .ok (.invokespecial 18, 3) := by decide +kernel
theorem dL_law_15 : decode cL_law 15 = .ok (.astore_n 2, 1) := by decide +kernel
theorem dL_law_16 : decode cL_law 16 = .ok (.iconst 1, 1) := by decide +kernel
theorem dL_law_17 : decode cL_law 17 = .ok (.newarray .long, 2) := by decide +kernel
theorem dL_law_19 : decode cL_law 19 = .ok (.astore_n 3, 1) := by decide +kernel
theorem dL_law_20 : decode cL_law 20 = .ok (.iconst 0, 1) := by decide +kernel
theorem dL_law_21 : decode cL_law 21 = .ok (.istore 4, 2) := by decide +kernel
theorem dL_law_23 : decode cL_law 23 = .ok (.iload 4, 2) := by decide +kernel
theorem dL_law_25 : decode cL_law 25 = .ok (.aload_n 0, 1) := by decide +kernel
theorem dL_law_26 : decode cL_law 26 = .ok (.arraylength, 1) := by decide +kernel
theorem dL_law_27 : decode cL_law 27 = .ok (.bipush 7, 2) := by decide +kernel
theorem dL_law_29 : decode cL_law 29 = .ok (.isub, 1) := by decide +kernel
theorem dL_law_30 : decode cL_law 30 = .ok (.if_icmp .gt 1430, 3) := by decide +kernel
theorem dL_law_33 : decode cL_law 33 = .ok (.aload_n 0, 1) := by decide +kernel
theorem dL_law_34 : decode cL_law 34 = .ok (.iload 4, 2) := by decide +kernel
theorem dL_law_36 : decode cL_law 36 = .ok (.iaload, 1) := by decide +kernel
theorem dL_law_37 : decode cL_law 37 = .ok (.bipush 31, 2) := by decide +kernel
theorem dL_law_39 : decode cL_law 39 = .ok (.iand, 1) := by decide +kernel
theorem dL_law_40 : decode cL_law 40 = .ok (.tableswitch 1414 0 28 #[132, 279, 304, 317, 342, 391, 428, 465, 514, 551, 600, 637, 686, 735, 784, 833, 909, 958, 1019, 1068, 1117, 1154, 1203, 1240, 1265, 1302, 1339, 1364, 1389], 132) := by decide +kernel
theorem dL_law_172 : decode cL_law 172 = .ok (.aload_n 1, 1) := by decide +kernel
theorem dL_law_173 : decode cL_law 173 = .ok (.aload_n 0, 1) := by decide +kernel
theorem dL_law_174 : decode cL_law 174 = .ok (.iload 4, 2) := by decide +kernel
theorem dL_law_176 : decode cL_law 176 = .ok (.iconst 1, 1) := by decide +kernel
theorem dL_law_177 : decode cL_law 177 = .ok (.iadd, 1) := by decide +kernel
theorem dL_law_178 : decode cL_law 178 = .ok (.iaload, 1) := by decide +kernel
theorem dL_law_179 : decode cL_law 179 = .ok (.i2l, 1) := by decide +kernel
theorem dL_law_180 : decode cL_law 180 = .ok (.bipush 32, 2) := by decide +kernel
theorem dL_law_182 : decode cL_law 182 = .ok (.lshl, 1) := by decide +kernel
theorem dL_law_183 : decode cL_law 183 = .ok (.aload_n 0, 1) := by decide +kernel
theorem dL_law_184 : decode cL_law 184 = .ok (.iload 4, 2) := by decide +kernel
theorem dL_law_186 : decode cL_law 186 = .ok (.iconst 2, 1) := by decide +kernel
theorem dL_law_187 : decode cL_law 187 = .ok (.iadd, 1) := by decide +kernel
theorem dL_law_188 : decode cL_law 188 = .ok (.iaload, 1) := by decide +kernel
theorem dL_law_189 : decode cL_law 189 = .ok (.i2l, 1) := by decide +kernel
theorem dL_law_190 : decode cL_law 190 = .ok (.ldc2_w 19, 3) := by decide +kernel
theorem dL_law_193 : decode cL_law 193 = .ok (.land, 1) := by decide +kernel
theorem dL_law_194 : decode cL_law 194 = .ok (.lor, 1) := by decide +kernel
theorem dL_law_195 : decode cL_law 195 = .ok (.aload_n 0, 1) := by decide +kernel
theorem dL_law_196 : decode cL_law 196 = .ok (.iload 4, 2) := by decide +kernel
theorem dL_law_198 : decode cL_law 198 = .ok (.iconst 3, 1) := by decide +kernel
theorem dL_law_199 : decode cL_law 199 = .ok (.iadd, 1) := by decide +kernel
theorem dL_law_200 : decode cL_law 200 = .ok (.iaload, 1) := by decide +kernel
theorem dL_law_201 : decode cL_law 201 = .ok (.i2l, 1) := by decide +kernel
theorem dL_law_202 : decode cL_law 202 = .ok (.bipush 32, 2) := by decide +kernel
theorem dL_law_204 : decode cL_law 204 = .ok (.lshl, 1) := by decide +kernel
theorem dL_law_205 : decode cL_law 205 = .ok (.aload_n 0, 1) := by decide +kernel
theorem dL_law_206 : decode cL_law 206 = .ok (.iload 4, 2) := by decide +kernel
theorem dL_law_208 : decode cL_law 208 = .ok (.iconst 4, 1) := by decide +kernel
theorem dL_law_209 : decode cL_law 209 = .ok (.iadd, 1) := by decide +kernel
theorem dL_law_210 : decode cL_law 210 = .ok (.iaload, 1) := by decide +kernel
theorem dL_law_211 : decode cL_law 211 = .ok (.i2l, 1) := by decide +kernel
theorem dL_law_212 : decode cL_law 212 = .ok (.ldc2_w 19, 3) := by decide +kernel
theorem dL_law_215 : decode cL_law 215 = .ok (.land, 1) := by decide +kernel
theorem dL_law_216 : decode cL_law 216 = .ok (.lor, 1) := by decide +kernel
theorem dL_law_217 : decode cL_law 217 = .ok (.aload_n 0, 1) := by decide +kernel
theorem dL_law_218 : decode cL_law 218 = .ok (.iload 4, 2) := by decide +kernel
theorem dL_law_220 : decode cL_law 220 = .ok (.iconst 5, 1) := by decide +kernel
theorem dL_law_221 : decode cL_law 221 = .ok (.iadd, 1) := by decide +kernel
theorem dL_law_222 : decode cL_law 222 = .ok (.iaload, 1) := by decide +kernel
theorem dL_law_223 : decode cL_law 223 = .ok (.i2l, 1) := by decide +kernel
theorem dL_law_224 : decode cL_law 224 = .ok (.bipush 32, 2) := by decide +kernel
theorem dL_law_226 : decode cL_law 226 = .ok (.lshl, 1) := by decide +kernel
theorem dL_law_227 : decode cL_law 227 = .ok (.aload_n 0, 1) := by decide +kernel
theorem dL_law_228 : decode cL_law 228 = .ok (.iload 4, 2) := by decide +kernel
theorem dL_law_230 : decode cL_law 230 = .ok (.bipush 6, 2) := by decide +kernel
theorem dL_law_232 : decode cL_law 232 = .ok (.iadd, 1) := by decide +kernel
theorem dL_law_233 : decode cL_law 233 = .ok (.iaload, 1) := by decide +kernel
theorem dL_law_234 : decode cL_law 234 = .ok (.i2l, 1) := by decide +kernel
theorem dL_law_235 : decode cL_law 235 = .ok (.ldc2_w 19, 3) := by decide +kernel
theorem dL_law_238 : decode cL_law 238 = .ok (.land, 1) := by decide +kernel
theorem dL_law_239 : decode cL_law 239 = .ok (.lor, 1) := by decide +kernel
theorem dL_law_240 : decode cL_law 240 = .ok (.invokevirtual 21, 3) := by decide +kernel
theorem dL_law_243 : decode cL_law 243 = .ok (.pop, 1) := by decide +kernel
theorem dL_law_244 : decode cL_law 244 = .ok (.aload_n 2, 1) := by decide +kernel
