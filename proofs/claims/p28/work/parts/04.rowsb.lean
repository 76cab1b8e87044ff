theorem dX0_meet_6 : decode cX0_meet 6 = .ok (.iload_n 1, 1) := by decide +kernel
theorem dX0_meet_7 : decode cX0_meet 7 = .ok (.iconst 1, 1) := by decide +kernel
theorem dX0_meet_8 : decode cX0_meet 8 = .ok (.iadd, 1) := by decide +kernel
theorem dX0_meet_9 : decode cX0_meet 9 = .ok (.invokevirtual 134, 3) := by decide +kernel
theorem dX0_meet_12 : decode cX0_meet 12 = .ok (.ifCond .eq 18, 3) := by decide +kernel
theorem dX0_meet_15 : decode cX0_meet 15 = .ok (.aload_n 0, 1) := by decide +kernel
theorem dX0_meet_16 : decode cX0_meet 16 = .ok (.getfield 125, 3) := by decide +kernel
theorem dX0_meet_19 : decode cX0_meet 19 = .ok (.aload_n 0, 1) := by decide +kernel
theorem dX0_meet_20 : decode cX0_meet 20 = .ok (.getfield 71, 3) := by decide +kernel
theorem dX0_meet_23 : decode cX0_meet 23 = .ok (.iadd, 1) := by decide +kernel
theorem dX0_meet_24 : decode cX0_meet 24 = .ok (.iload_n 1, 1) := by decide +kernel
theorem dX0_meet_25 : decode cX0_meet 25 = .ok (.if_icmp .le 5, 3) := by decide +kernel
theorem dX0_meet_28 : decode cX0_meet 28 = .ok (.iload_n 1, 1) := by decide +kernel
theorem dX0_meet_29 : decode cX0_meet 29 = .ok (.ireturn, 1) := by decide +kernel
theorem dX0_meet_30 : decode cX0_meet 30 = .ok (.aload_n 0, 1) := by decide +kernel
theorem dX0_meet_31 : decode cX0_meet 31 = .ok (.iload_n 1, 1) := by decide +kernel
theorem dX0_meet_32 : decode cX0_meet 32 = .ok (.iconst 1, 1) := by decide +kernel
theorem dX0_meet_33 : decode cX0_meet 33 = .ok (.iadd, 1) := by decide +kernel
theorem dX0_meet_34 : decode cX0_meet 34 = .ok (.iload_n 3, 1) := by decide +kernel
theorem dX0_meet_35 : decode cX0_meet 35 = .ok (.invokestatic 101, 3) := by decide +kernel
theorem dX0_meet_38 : decode cX0_meet 38 = .ok (.iconst 0, 1) := by decide +kernel
theorem dX0_meet_39 : decode cX0_meet 39 = .ok (.invokevirtual 137, 3) := by decide +kernel
theorem dX0_meet_42 : decode cX0_meet 42 = .ok (.ifCond .eq 18, 3) := by decide +kernel
theorem dX0_meet_45 : decode cX0_meet 45 = .ok (.aload_n 0, 1) := by decide +kernel
theorem dX0_meet_46 : decode cX0_meet 46 = .ok (.getfield 125, 3) := by decide +kernel
theorem dX0_meet_49 : decode cX0_meet 49 = .ok (.iload_n 1, 1) := by decide +kernel
theorem dX0_meet_50 : decode cX0_meet 50 = .ok (.iload_n 2, 1) := by decide +kernel
theorem dX0_meet_51 : decode cX0_meet 51 = .ok (.iadd, 1) := by decide +kernel
theorem dX0_meet_52 : decode cX0_meet 52 = .ok (.if_icmp .ge 8, 3) := by decide +kernel
theorem dX0_meet_55 : decode cX0_meet 55 = .ok (.aload_n 0, 1) := by decide +kernel
theorem dX0_meet_56 : decode cX0_meet 56 = .ok (.getfield 125, 3) := by decide +kernel
theorem dX0_meet_59 : decode cX0_meet 59 = .ok (.ireturn, 1) := by decide +kernel
theorem dX0_meet_60 : decode cX0_meet 60 = .ok (.ldc 124, 2) := by decide +kernel
theorem dX0_meet_62 : decode cX0_meet 62 = .ok (.ireturn, 1) := by decide +kernel
set_option maxRecDepth 20000 in
theorem ggX0_tell_X6_detail : GoodIn wsX0_tell wsX6_detail := goodIn_r _ [18] (by decide +kernel) (by decide +kernel)
set_option maxRecDepth 20000 in
theorem gX0_tell_X6_detail_u147X2 : GoodIn wsX0_tell (va_wsU RX0 147 RX2 "BookIndex$Rule" ⟨"BookIndex$Rule", "detail", "()I"⟩ yX6_detail wsX6_detail) := goodIn_app (goodIn_of _ (by decide +kernel)) ggX0_tell_X6_detail
set_option maxRecDepth 20000 in
theorem ggX0_tell_X3_detail : GoodIn wsX0_tell wsX3_detail := goodIn_r _ [23, 24, 25, 26, 27, 66, 67, 68, 69, 70, 71, 72, 73, 74, 75, 76, 77, 78, 79, 80, 81, 82, 83, 84, 85] (by decide +kernel) (by decide +kernel)
set_option maxRecDepth 20000 in
theorem gX0_tell_X3_detail_u147X3 : GoodIn wsX0_tell (va_wsO RX0 147 RX3 "BookIndex$Rule" ⟨"BookIndex$Rule", "detail", "()I"⟩ yX3_detail wsX3_detail) := goodIn_app (goodIn_of _ (by decide +kernel)) ggX0_tell_X3_detail
set_option maxRecDepth 20000 in
theorem gX0_tell_X6_detail_u147X4 : GoodIn wsX0_tell (va_wsU RX0 147 RX4 "BookIndex$Rule" ⟨"BookIndex$Rule", "detail", "()I"⟩ yX6_detail wsX6_detail) := goodIn_app (goodIn_of _ (by decide +kernel)) ggX0_tell_X6_detail
set_option maxRecDepth 20000 in
theorem ggX0_tell_X8_detail : GoodIn wsX0_tell wsX8_detail := goodIn_r _ [32, 33, 80, 81, 82, 83, 84, 85] (by decide +kernel) (by decide +kernel)
set_option maxRecDepth 20000 in
theorem gX0_tell_X8_detail_u147X8 : GoodIn wsX0_tell (va_wsO RX0 147 RX8 "BookIndex$Rule" ⟨"BookIndex$Rule", "detail", "()I"⟩ yX8_detail wsX8_detail) := goodIn_app (goodIn_of _ (by decide +kernel)) ggX0_tell_X8_detail
set_option maxRecDepth 20000 in
theorem ggX0_tell_X6_nthWeekday : GoodIn wsX0_tell wsX6_nthWeekday := goodIn_r _ [38] (by decide +kernel) (by decide +kernel)
set_option maxRecDepth 20000 in
theorem gX0_tell_X6_nthWeekday_u150X2 : GoodIn wsX0_tell (va_wsU RX0 150 RX2 "BookIndex$Rule" ⟨"BookIndex$Rule", "nthWeekday", "()I"⟩ yX6_nthWeekday wsX6_nthWeekday) := goodIn_app (goodIn_of _ (by decide +kernel)) ggX0_tell_X6_nthWeekday
set_option maxRecDepth 20000 in
theorem ggX0_tell_X3_nthWeekday : GoodIn wsX0_tell wsX3_nthWeekday := goodIn_r _ [42, 24, 25, 26, 66, 67, 68, 69, 70, 71, 72, 73, 74, 75, 76, 77, 78, 79, 80, 81, 82, 83, 84, 85] (by decide +kernel) (by decide +kernel)
set_option maxRecDepth 20000 in
theorem gX0_tell_X3_nthWeekday_u150X3 : GoodIn wsX0_tell (va_wsO RX0 150 RX3 "BookIndex$Rule" ⟨"BookIndex$Rule", "nthWeekday", "()I"⟩ yX3_nthWeekday wsX3_nthWeekday) := goodIn_app (goodIn_of _ (by decide +kernel)) ggX0_tell_X3_nthWeekday
set_option maxRecDepth 20000 in
theorem gX0_tell_X6_nthWeekday_u150X4 : GoodIn wsX0_tell (va_wsU RX0 150 RX4 "BookIndex$Rule" ⟨"BookIndex$Rule", "nthWeekday", "()I"⟩ yX6_nthWeekday wsX6_nthWeekday) := goodIn_app (goodIn_of _ (by decide +kernel)) ggX0_tell_X6_nthWeekday
set_option maxRecDepth 20000 in
theorem gX0_tell_X6_nthWeekday_u150X8 : GoodIn wsX0_tell (va_wsU RX0 150 RX8 "BookIndex$Rule" ⟨"BookIndex$Rule", "nthWeekday", "()I"⟩ yX6_nthWeekday wsX6_nthWeekday) := goodIn_app (goodIn_of _ (by decide +kernel)) ggX0_tell_X6_nthWeekday
set_option maxRecDepth 20000 in
theorem ggX0_tell_X0_droppedOnes : GoodIn wsX0_tell wsX0_droppedOnes := goodIn_r _ [49, 10, 50, 51, 52, 53, 54, 55, 56, 57, 58, 59, 60, 61, 62, 63, 64, 65] (by decide +kernel) (by decide +kernel)
set_option maxRecDepth 20000 in
theorem gX0_tell_X0_droppedOnes : GoodIn wsX0_tell (wsV RX0 153 RX0 yX0_droppedOnes wsX0_droppedOnes) := goodIn_app (goodIn_of _ (by decide +kernel)) ggX0_tell_X0_droppedOnes
theorem dX0_tell_0 : decode cX0_tell 0 = .ok (.iload_n 1, 1) := by decide +kernel
theorem dX0_tell_1 : decode cX0_tell 1 = .ok (.tableswitch 161 0 13 #[71, 76, 81, 86, 94, 102, 110, 118, 126, 131, 136, 141, 151, 156], 71) := by decide +kernel
theorem dX0_tell_72 : decode cX0_tell 72 = .ok (.aload_n 0, 1) := by decide +kernel
theorem dX0_tell_73 : decode cX0_tell 73 = .ok (.getfield 65, 3) := by decide +kernel
theorem dX0_tell_76 : decode cX0_tell 76 = .ok (.ireturn, 1) := by decide +kernel
theorem dX0_tell_77 : decode cX0_tell 77 = .ok (.aload_n 0, 1) := by decide +kernel
theorem dX0_tell_78 : decode cX0_tell 78 = .ok (.getfield 68, 3) := by decide +kernel
theorem dX0_tell_81 : decode cX0_tell 81 = .ok (.ireturn, 1) := by decide +kernel
theorem dX0_tell_82 : decode cX0_tell 82 = .ok (.aload_n 0, 1) := by decide +kernel
theorem dX0_tell_83 : decode cX0_tell 83 = .ok (.getfield 71, 3) := by decide +kernel
theorem dX0_tell_86 : decode cX0_tell 86 = .ok (.ireturn, 1) := by decide +kernel
theorem dX0_tell_87 : decode cX0_tell 87 = .ok (.aload_n 0, 1) := by decide +kernel
theorem dX0_tell_88 : decode cX0_tell 88 = .ok (.getfield 18, 3) := by decide +kernel
theorem dX0_tell_91 : decode cX0_tell 91 = .ok (.getfield 141, 3) := by decide +kernel
theorem dX0_tell_94 : decode cX0_tell 94 = .ok (.ireturn, 1) := by decide +kernel
theorem dX0_tell_95 : decode cX0_tell 95 = .ok (.aload_n 0, 1) := by decide +kernel
theorem dX0_tell_96 : decode cX0_tell 96 = .ok (.getfield 18, 3) := by decide +kernel
theorem dX0_tell_99 : decode cX0_tell 99 = .ok (.getfield 144, 3) := by decide +kernel
theorem dX0_tell_102 : decode cX0_tell 102 = .ok (.ireturn, 1) := by decide +kernel
theorem dX0_tell_103 : decode cX0_tell 103 = .ok (.aload_n 0, 1) := by decide +kernel
theorem dX0_tell_104 : decode cX0_tell 104 = .ok (.getfield 18, 3) := by decide +kernel
theorem dX0_tell_107 : decode cX0_tell 107 = .ok (.getfield 22, 3) := by decide +kernel
theorem dX0_tell_110 : decode cX0_tell 110 = .ok (.ireturn, 1) := by decide +kernel
theorem dX0_tell_111 : decode cX0_tell 111 = .ok (.aload_n 0, 1) := by decide +kernel
theorem dX0_tell_112 : decode cX0_tell 112 = .ok (.getfield 18, 3) := by decide +kernel
theorem dX0_tell_115 : decode cX0_tell 115 = .ok (.invokevirtual 147, 3) := by decide +kernel
theorem dX0_tell_118 : decode cX0_tell 118 = .ok (.ireturn, 1) := by decide +kernel
theorem dX0_tell_119 : decode cX0_tell 119 = .ok (.aload_n 0, 1) := by decide +kernel
theorem dX0_tell_120 : decode cX0_tell 120 = .ok (.getfield 18, 3) := by decide +kernel
theorem dX0_tell_123 : decode cX0_tell 123 = .ok (.invokevirtual 150, 3) := by decide +kernel
theorem dX0_tell_126 : decode cX0_tell 126 = .ok (.ireturn, 1) := by decide +kernel
theorem dX0_tell_127 : decode cX0_tell 127 = .ok (.aload_n 0, 1) := by decide +kernel
theorem dX0_tell_128 : decode cX0_tell 128 = .ok (.getfield 31, 3) := by decide +kernel
theorem dX0_tell_131 : decode cX0_tell 131 = .ok (.ireturn, 1) := by decide +kernel
theorem dX0_tell_132 : decode cX0_tell 132 = .ok (.aload_n 0, 1) := by decide +kernel
theorem dX0_tell_133 : decode cX0_tell 133 = .ok (.getfield 34, 3) := by decide +kernel
theorem dX0_tell_136 : decode cX0_tell 136 = .ok (.ireturn, 1) := by decide +kernel
theorem dX0_tell_137 : decode cX0_tell 137 = .ok (.aload_n 0, 1) := by decide +kernel
theorem dX0_tell_138 : decode cX0_tell 138 = .ok (.invokevirtual 153, 3) := by decide +kernel
theorem dX0_tell_141 : decode cX0_tell 141 = .ok (.ireturn, 1) := by decide +kernel
theorem dX0_tell_142 : decode cX0_tell 142 = .ok (.aload_n 0, 1) := by decide +kernel
theorem dX0_tell_143 : decode cX0_tell 143 = .ok (.getfield 37, 3) := by decide +kernel
theorem dX0_tell_146 : decode cX0_tell 146 = .ok (.aload_n 0, 1) := by decide +kernel
theorem dX0_tell_147 : decode cX0_tell 147 = .ok (.invokevirtual 153, 3) := by decide +kernel
theorem dX0_tell_150 : decode cX0_tell 150 = .ok (.isub, 1) := by decide +kernel
theorem dX0_tell_151 : decode cX0_tell 151 = .ok (.ireturn, 1) := by decide +kernel
theorem dX0_tell_152 : decode cX0_tell 152 = .ok (.aload_n 0, 1) := by decide +kernel
theorem dX0_tell_153 : decode cX0_tell 153 = .ok (.getfield 45, 3) := by decide +kernel
theorem dX0_tell_156 : decode cX0_tell 156 = .ok (.ireturn, 1) := by decide +kernel
theorem dX0_tell_157 : decode cX0_tell 157 = .ok (.aload_n 0, 1) := by decide +kernel
theorem dX0_tell_158 : decode cX0_tell 158 = .ok (.getfield 55, 3) := by decide +kernel
theorem dX0_tell_161 : decode cX0_tell 161 = .ok (.ireturn, 1) := by decide +kernel
theorem dX0_tell_162 : decode cX0_tell 162 = .ok (.bipush (-2), 2) := by decide +kernel
theorem dX0_tell_164 : decode cX0_tell 164 = .ok (.ireturn, 1) := by decide +kernel
theorem dX1_monthNumber_0 : decode cX1_monthNumber 0 = .ok (.iload_n 0, 1) := by decide +kernel
theorem dX1_monthNumber_1 : decode cX1_monthNumber 1 = .ok (.sipush 2000, 3) := by decide +kernel
theorem dX1_monthNumber_4 : decode cX1_monthNumber 4 = .ok (.isub, 1) := by decide +kernel
theorem dX1_monthNumber_5 : decode cX1_monthNumber 5 = .ok (.bipush 12, 2) := by decide +kernel
theorem dX1_monthNumber_7 : decode cX1_monthNumber 7 = .ok (.imul, 1) := by decide +kernel
theorem dX1_monthNumber_8 : decode cX1_monthNumber 8 = .ok (.iload_n 1, 1) := by decide +kernel
theorem dX1_monthNumber_9 : decode cX1_monthNumber 9 = .ok (.iadd, 1) := by decide +kernel
theorem dX1_monthNumber_10 : decode cX1_monthNumber 10 = .ok (.iconst 1, 1) := by decide +kernel
theorem dX1_monthNumber_11 : decode cX1_monthNumber 11 = .ok (.isub, 1) := by decide +kernel
theorem dX1_monthNumber_12 : decode cX1_monthNumber 12 = .ok (.ireturn, 1) := by decide +kernel
theorem dX1_monthStart_0 : decode cX1_monthStart 0 = .ok (.iload_n 0, 1) := by decide +kernel
theorem dX1_monthStart_1 : decode cX1_monthStart 1 = .ok (.ifCond .ge 5, 3) := by decide +kernel
theorem dX1_monthStart_4 : decode cX1_monthStart 4 = .ok (.iconst 0, 1) := by decide +kernel
theorem dX1_monthStart_5 : decode cX1_monthStart 5 = .ok (.ireturn, 1) := by decide +kernel
theorem dX1_monthStart_6 : decode cX1_monthStart 6 = .ok (.iload_n 0, 1) := by decide +kernel
theorem dX1_monthStart_7 : decode cX1_monthStart 7 = .ok (.bipush 48, 2) := by decide +kernel
theorem dX1_monthStart_9 : decode cX1_monthStart 9 = .ok (.idiv, 1) := by decide +kernel
theorem dX1_monthStart_10 : decode cX1_monthStart 10 = .ok (.sipush 1461, 3) := by decide +kernel
theorem dX1_monthStart_13 : decode cX1_monthStart 13 = .ok (.imul, 1) := by decide +kernel
theorem dX1_monthStart_14 : decode cX1_monthStart 14 = .ok (.getstatic 9, 3) := by decide +kernel
theorem dX1_monthStart_17 : decode cX1_monthStart 17 = .ok (.iload_n 0, 1) := by decide +kernel
theorem dX1_monthStart_18 : decode cX1_monthStart 18 = .ok (.bipush 48, 2) := by decide +kernel
theorem dX1_monthStart_20 : decode cX1_monthStart 20 = .ok (.irem, 1) := by decide +kernel
theorem dX1_monthStart_21 : decode cX1_monthStart 21 = .ok (.iaload, 1) := by decide +kernel
theorem dX1_monthStart_22 : decode cX1_monthStart 22 = .ok (.iadd, 1) := by decide +kernel
theorem dX1_monthStart_23 : decode cX1_monthStart 23 = .ok (.ireturn, 1) := by decide +kernel
theorem dX1_monthOf_0 : decode cX1_monthOf 0 = .ok (.iload_n 0, 1) := by decide +kernel
theorem dX1_monthOf_1 : decode cX1_monthOf 1 = .ok (.ifCond .ge 5, 3) := by decide +kernel
theorem dX1_monthOf_4 : decode cX1_monthOf 4 = .ok (.iconst 0, 1) := by decide +kernel
theorem dX1_monthOf_5 : decode cX1_monthOf 5 = .ok (.ireturn, 1) := by decide +kernel
theorem dX1_monthOf_6 : decode cX1_monthOf 6 = .ok (.iload_n 0, 1) := by decide +kernel
theorem dX1_monthOf_7 : decode cX1_monthOf 7 = .ok (.sipush 1461, 3) := by decide +kernel
theorem dX1_monthOf_10 : decode cX1_monthOf 10 = .ok (.irem, 1) := by decide +kernel
theorem dX1_monthOf_11 : decode cX1_monthOf 11 = .ok (.istore_n 1, 1) := by decide +kernel
theorem dX1_monthOf_12 : decode cX1_monthOf 12 = .ok (.iload_n 1, 1) := by decide +kernel
theorem dX1_monthOf_13 : decode cX1_monthOf 13 = .ok (.bipush 31, 2) := by decide +kernel
theorem dX1_monthOf_15 : decode cX1_monthOf 15 = .ok (.idiv, 1) := by decide +kernel
theorem dX1_monthOf_16 : decode cX1_monthOf 16 = .ok (.istore_n 2, 1) := by decide +kernel
theorem dX1_monthOf_17 : decode cX1_monthOf 17 = .ok (.iload_n 2, 1) := by decide +kernel
theorem dX1_monthOf_18 : decode cX1_monthOf 18 = .ok (.iconst 1, 1) := by decide +kernel
theorem dX1_monthOf_19 : decode cX1_monthOf 19 = .ok (.iadd, 1) := by decide +kernel
theorem dX1_monthOf_20 : decode cX1_monthOf 20 = .ok (.bipush 48, 2) := by decide +kernel
theorem dX1_monthOf_22 : decode cX1_monthOf 22 = .ok (.if_icmp .ge 20, 3) := by decide +kernel
theorem dX1_monthOf_25 : decode cX1_monthOf 25 = .ok (.getstatic 9, 3) := by decide +kernel
theorem dX1_monthOf_28 : decode cX1_monthOf 28 = .ok (.iload_n 2, 1) := by decide +kernel
theorem dX1_monthOf_29 : decode cX1_monthOf 29 = .ok (.iconst 1, 1) := by decide +kernel
theorem dX1_monthOf_30 : decode cX1_monthOf 30 = .ok (.iadd, 1) := by decide +kernel
theorem dX1_monthOf_31 : decode cX1_monthOf 31 = .ok (.iaload, 1) := by decide +kernel
theorem dX1_monthOf_32 : decode cX1_monthOf 32 = .ok (.iload_n 1, 1) := by decide +kernel
theorem dX1_monthOf_33 : decode cX1_monthOf 33 = .ok (.if_icmp .gt 9, 3) := by decide +kernel
theorem dX1_monthOf_36 : decode cX1_monthOf 36 = .ok (.iinc 2 1, 3) := by decide +kernel
theorem dX1_monthOf_39 : decode cX1_monthOf 39 = .ok (.goto (-22), 3) := by decide +kernel
theorem dX1_monthOf_42 : decode cX1_monthOf 42 = .ok (.iload_n 0, 1) := by decide +kernel
theorem dX1_monthOf_43 : decode cX1_monthOf 43 = .ok (.sipush 1461, 3) := by decide +kernel
theorem dX1_monthOf_46 : decode cX1_monthOf 46 = .ok (.idiv, 1) := by decide +kernel
theorem dX1_monthOf_47 : decode cX1_monthOf 47 = .ok (.bipush 48, 2) := by decide +kernel
theorem dX1_monthOf_49 : decode cX1_monthOf 49 = .ok (.imul, 1) := by decide +kernel
theorem dX1_monthOf_50 : decode cX1_monthOf 50 = .ok (.iload_n 2, 1) := by decide +kernel
theorem dX1_monthOf_51 : decode cX1_monthOf 51 = .ok (.iadd, 1) := by decide +kernel
theorem dX1_monthOf_52 : decode cX1_monthOf 52 = .ok (.ireturn, 1) := by decide +kernel
theorem dX1_weekdayOf_0 : decode cX1_weekdayOf 0 = .ok (.iload_n 0, 1) := by decide +kernel
theorem dX1_weekdayOf_1 : decode cX1_weekdayOf 1 = .ok (.iconst 5, 1) := by decide +kernel
theorem dX1_weekdayOf_2 : decode cX1_weekdayOf 2 = .ok (.iadd, 1) := by decide +kernel
theorem dX1_weekdayOf_3 : decode cX1_weekdayOf 3 = .ok (.bipush 7, 2) := by decide +kernel
theorem dX1_weekdayOf_5 : decode cX1_weekdayOf 5 = .ok (.irem, 1) := by decide +kernel
theorem dX1_weekdayOf_6 : decode cX1_weekdayOf 6 = .ok (.ireturn, 1) := by decide +kernel
set_option maxRecDepth 20000 in
theorem ggX1_daysOfMonth_X1_monthNumber : GoodIn wsX1_daysOfMonth wsX1_monthNumber := goodIn_r _ [4] (by decide +kernel) (by decide +kernel)
set_option maxRecDepth 20000 in
theorem gX1_daysOfMonth_X1_monthNumber : GoodIn wsX1_daysOfMonth (va_wsS RX1 13 yX1_monthNumber wsX1_monthNumber) := goodIn_app (goodIn_of _ (by decide +kernel)) ggX1_daysOfMonth_X1_monthNumber
set_option maxRecDepth 20000 in
theorem ggX1_daysOfMonth_X1_monthStart : GoodIn wsX1_daysOfMonth wsX1_monthStart := goodIn_r _ [7, 8] (by decide +kernel) (by decide +kernel)
set_option maxRecDepth 20000 in
theorem gX1_daysOfMonth_X1_monthStart : GoodIn wsX1_daysOfMonth (va_wsS RX1 17 yX1_monthStart wsX1_monthStart) := goodIn_app (goodIn_of _ (by decide +kernel)) ggX1_daysOfMonth_X1_monthStart
theorem dX1_daysOfMonth_0 : decode cX1_daysOfMonth 0 = .ok (.iload_n 0, 1) := by decide +kernel
theorem dX1_daysOfMonth_1 : decode cX1_daysOfMonth 1 = .ok (.sipush 2000, 3) := by decide +kernel
theorem dX1_daysOfMonth_4 : decode cX1_daysOfMonth 4 = .ok (.if_icmp .lt 21, 3) := by decide +kernel
theorem dX1_daysOfMonth_7 : decode cX1_daysOfMonth 7 = .ok (.iload_n 0, 1) := by decide +kernel
theorem dX1_daysOfMonth_8 : decode cX1_daysOfMonth 8 = .ok (.sipush 2099, 3) := by decide +kernel
theorem dX1_daysOfMonth_11 : decode cX1_daysOfMonth 11 = .ok (.if_icmp .gt 14, 3) := by decide +kernel
theorem dX1_daysOfMonth_14 : decode cX1_daysOfMonth 14 = .ok (.iload_n 1, 1) := by decide +kernel
theorem dX1_daysOfMonth_15 : decode cX1_daysOfMonth 15 = .ok (.iconst 1, 1) := by decide +kernel
theorem dX1_daysOfMonth_16 : decode cX1_daysOfMonth 16 = .ok (.if_icmp .lt 9, 3) := by decide +kernel
theorem dX1_daysOfMonth_19 : decode cX1_daysOfMonth 19 = .ok (.iload_n 1, 1) := by decide +kernel
theorem dX1_daysOfMonth_20 : decode cX1_daysOfMonth 20 = .ok (.bipush 12, 2) := by decide +kernel
theorem dX1_daysOfMonth_22 : decode cX1_daysOfMonth 22 = .ok (.if_icmp .le 5, 3) := by decide +kernel
theorem dX1_daysOfMonth_25 : decode cX1_daysOfMonth 25 = .ok (.iconst 0, 1) := by decide +kernel
theorem dX1_daysOfMonth_26 : decode cX1_daysOfMonth 26 = .ok (.ireturn, 1) := by decide +kernel
theorem dX1_daysOfMonth_27 : decode cX1_daysOfMonth 27 = .ok (.iload_n 0, 1) := by decide +kernel
theorem dX1_daysOfMonth_28 : decode cX1_daysOfMonth 28 = .ok (.iload_n 1, 1) := by decide +kernel
theorem dX1_daysOfMonth_29 : decode cX1_daysOfMonth 29 = .ok (.invokestatic 13, 3) := by decide +kernel
theorem dX1_daysOfMonth_32 : decode cX1_daysOfMonth 32 = .ok (.istore_n 2, 1) := by decide +kernel
theorem dX1_daysOfMonth_33 : decode cX1_daysOfMonth 33 = .ok (.iload_n 2, 1) := by decide +kernel
theorem dX1_daysOfMonth_34 : decode cX1_daysOfMonth 34 = .ok (.iconst 1, 1) := by decide +kernel
theorem dX1_daysOfMonth_35 : decode cX1_daysOfMonth 35 = .ok (.iadd, 1) := by decide +kernel
theorem dX1_daysOfMonth_36 : decode cX1_daysOfMonth 36 = .ok (.invokestatic 17, 3) := by decide +kernel
theorem dX1_daysOfMonth_39 : decode cX1_daysOfMonth 39 = .ok (.iload_n 2, 1) := by decide +kernel
theorem dX1_daysOfMonth_40 : decode cX1_daysOfMonth 40 = .ok (.invokestatic 17, 3) := by decide +kernel
theorem dX1_daysOfMonth_43 : decode cX1_daysOfMonth 43 = .ok (.isub, 1) := by decide +kernel
theorem dX1_daysOfMonth_44 : decode cX1_daysOfMonth 44 = .ok (.ireturn, 1) := by decide +kernel
set_option maxRecDepth 20000 in
theorem ggX2_init_X6_init : GoodIn wsX2_init wsX6_init := goodIn_r _ [9, 10, 11, 12, 13, 14, 15, 16, 17, 18, 19, 20, 21, 22, 23, 24, 25, 26, 27, 28, 29, 30, 31, 32, 33, 34, 35] (by decide +kernel) (by decide +kernel)
set_option maxRecDepth 20000 in
theorem gX2_init_X6_init : GoodIn wsX2_init (wsX6_init) := ggX2_init_X6_init
theorem dX2_init_0 : decode cX2_init 0 = .ok (.aload_n 0, 1) := by decide +kernel
theorem dX2_init_1 : decode cX2_init 1 = .ok (.iconst 1, 1) := by decide +kernel
theorem dX2_init_2 : decode cX2_init 2 = .ok (.iload_n 1, 1) := by decide +kernel
theorem dX2_init_3 : decode cX2_init 3 = .ok (.iload_n 2, 1) := by decide +kernel
theorem dX2_init_4 : decode cX2_init 4 = .ok (.invokespecial 3, 3) := by decide +kernel
theorem dX2_init_7 : decode cX2_init 7 = .ok (.aload_n 0, 1) := by decide +kernel
theorem dX2_init_8 : decode cX2_init 8 = .ok (.iload_n 1, 1) := by decide +kernel
theorem dX2_init_9 : decode cX2_init 9 = .ok (.iconst 1, 1) := by decide +kernel
theorem dX2_init_10 : decode cX2_init 10 = .ok (.invokestatic 9, 3) := by decide +kernel
theorem dX2_init_13 : decode cX2_init 13 = .ok (.putfield 15, 3) := by decide +kernel
theorem dX2_init_16 : decode cX2_init 16 = .ok (.return_, 1) := by decide +kernel
theorem dX2_dayFrom_0 : decode cX2_dayFrom 0 = .ok (.iload_n 1, 1) := by decide +kernel
theorem dX2_dayFrom_1 : decode cX2_dayFrom 1 = .ok (.aload_n 0, 1) := by decide +kernel
theorem dX2_dayFrom_2 : decode cX2_dayFrom 2 = .ok (.getfield 21, 3) := by decide +kernel
theorem dX2_dayFrom_5 : decode cX2_dayFrom 5 = .ok (.if_icmp .gt 8, 3) := by decide +kernel
theorem dX2_dayFrom_8 : decode cX2_dayFrom 8 = .ok (.aload_n 0, 1) := by decide +kernel
theorem dX2_dayFrom_9 : decode cX2_dayFrom 9 = .ok (.getfield 21, 3) := by decide +kernel
theorem dX2_dayFrom_12 : decode cX2_dayFrom 12 = .ok (.ireturn, 1) := by decide +kernel
theorem dX2_dayFrom_13 : decode cX2_dayFrom 13 = .ok (.aload_n 0, 1) := by decide +kernel
theorem dX2_dayFrom_14 : decode cX2_dayFrom 14 = .ok (.getfield 21, 3) := by decide +kernel
theorem dX2_dayFrom_17 : decode cX2_dayFrom 17 = .ok (.iload_n 1, 1) := by decide +kernel
theorem dX2_dayFrom_18 : decode cX2_dayFrom 18 = .ok (.aload_n 0, 1) := by decide +kernel
theorem dX2_dayFrom_19 : decode cX2_dayFrom 19 = .ok (.getfield 21, 3) := by decide +kernel
theorem dX2_dayFrom_22 : decode cX2_dayFrom 22 = .ok (.isub, 1) := by decide +kernel
theorem dX2_dayFrom_23 : decode cX2_dayFrom 23 = .ok (.aload_n 0, 1) := by decide +kernel
theorem dX2_dayFrom_24 : decode cX2_dayFrom 24 = .ok (.getfield 15, 3) := by decide +kernel
theorem dX2_dayFrom_27 : decode cX2_dayFrom 27 = .ok (.iadd, 1) := by decide +kernel
theorem dX2_dayFrom_28 : decode cX2_dayFrom 28 = .ok (.iconst 1, 1) := by decide +kernel
theorem dX2_dayFrom_29 : decode cX2_dayFrom 29 = .ok (.isub, 1) := by decide +kernel
theorem dX2_dayFrom_30 : decode cX2_dayFrom 30 = .ok (.aload_n 0, 1) := by decide +kernel
theorem dX2_dayFrom_31 : decode cX2_dayFrom 31 = .ok (.getfield 15, 3) := by decide +kernel
theorem dX2_dayFrom_34 : decode cX2_dayFrom 34 = .ok (.idiv, 1) := by decide +kernel
theorem dX2_dayFrom_35 : decode cX2_dayFrom 35 = .ok (.aload_n 0, 1) := by decide +kernel
theorem dX2_dayFrom_36 : decode cX2_dayFrom 36 = .ok (.getfield 15, 3) := by decide +kernel
theorem dX2_dayFrom_39 : decode cX2_dayFrom 39 = .ok (.imul, 1) := by decide +kernel
theorem dX2_dayFrom_40 : decode cX2_dayFrom 40 = .ok (.iadd, 1) := by decide +kernel
theorem dX2_dayFrom_41 : decode cX2_dayFrom 41 = .ok (.istore_n 2, 1) := by decide +kernel
theorem dX2_dayFrom_42 : decode cX2_dayFrom 42 = .ok (.iload_n 2, 1) := by decide +kernel
theorem dX2_dayFrom_43 : decode cX2_dayFrom 43 = .ok (.ldc 24, 2) := by decide +kernel
theorem dX2_dayFrom_45 : decode cX2_dayFrom 45 = .ok (.if_icmp .gt 7, 3) := by decide +kernel
theorem dX2_dayFrom_48 : decode cX2_dayFrom 48 = .ok (.iload_n 2, 1) := by decide +kernel
theorem dX2_dayFrom_49 : decode cX2_dayFrom 49 = .ok (.goto 4, 3) := by decide +kernel
theorem dX2_dayFrom_52 : decode cX2_dayFrom 52 = .ok (.iconst (-1), 1) := by decide +kernel
theorem dX2_dayFrom_53 : decode cX2_dayFrom 53 = .ok (.ireturn, 1) := by decide +kernel
theorem dX2_dayTo_0 : decode cX2_dayTo 0 = .ok (.iload_n 1, 1) := by decide +kernel
theorem dX2_dayTo_1 : decode cX2_dayTo 1 = .ok (.aload_n 0, 1) := by decide +kernel
theorem dX2_dayTo_2 : decode cX2_dayTo 2 = .ok (.getfield 21, 3) := by decide +kernel
theorem dX2_dayTo_5 : decode cX2_dayTo 5 = .ok (.if_icmp .ge 7, 3) := by decide +kernel
theorem dX2_dayTo_8 : decode cX2_dayTo 8 = .ok (.iconst (-1), 1) := by decide +kernel
theorem dX2_dayTo_9 : decode cX2_dayTo 9 = .ok (.goto 16, 3) := by decide +kernel
theorem dX2_dayTo_12 : decode cX2_dayTo 12 = .ok (.iload_n 1, 1) := by decide +kernel
theorem dX2_dayTo_13 : decode cX2_dayTo 13 = .ok (.iload_n 1, 1) := by decide +kernel
theorem dX2_dayTo_14 : decode cX2_dayTo 14 = .ok (.aload_n 0, 1) := by decide +kernel
theorem dX2_dayTo_15 : decode cX2_dayTo 15 = .ok (.getfield 21, 3) := by decide +kernel
theorem dX2_dayTo_18 : decode cX2_dayTo 18 = .ok (.isub, 1) := by decide +kernel
theorem dX2_dayTo_19 : decode cX2_dayTo 19 = .ok (.aload_n 0, 1) := by decide +kernel
theorem dX2_dayTo_20 : decode cX2_dayTo 20 = .ok (.getfield 15, 3) := by decide +kernel
theorem dX2_dayTo_23 : decode cX2_dayTo 23 = .ok (.irem, 1) := by decide +kernel
theorem dX2_dayTo_24 : decode cX2_dayTo 24 = .ok (.isub, 1) := by decide +kernel
theorem dX2_dayTo_25 : decode cX2_dayTo 25 = .ok (.ireturn, 1) := by decide +kernel
set_option maxRecDepth 20000 in
theorem ggX2_daysIn_X2_daysUpTo : GoodIn wsX2_daysIn wsX2_daysUpTo := goodIn_r _ [5, 6, 7, 8, 9, 10, 11, 12, 13, 14, 15, 16, 17, 18, 19, 20, 21, 22, 23, 24, 25, 26, 27, 28] (by decide +kernel) (by decide +kernel)
set_option maxRecDepth 20000 in
theorem gX2_daysIn_X2_daysUpTo : GoodIn wsX2_daysIn (wsV RX2 25 RX2 yX2_daysUpTo wsX2_daysUpTo) := goodIn_app (goodIn_of _ (by decide +kernel)) ggX2_daysIn_X2_daysUpTo
theorem dX2_daysIn_0 : decode cX2_daysIn 0 = .ok (.aload_n 0, 1) := by decide +kernel
theorem dX2_daysIn_1 : decode cX2_daysIn 1 = .ok (.iload_n 2, 1) := by decide +kernel
theorem dX2_daysIn_2 : decode cX2_daysIn 2 = .ok (.invokevirtual 25, 3) := by decide +kernel
theorem dX2_daysIn_5 : decode cX2_daysIn 5 = .ok (.aload_n 0, 1) := by decide +kernel
theorem dX2_daysIn_6 : decode cX2_daysIn 6 = .ok (.iload_n 1, 1) := by decide +kernel
theorem dX2_daysIn_7 : decode cX2_daysIn 7 = .ok (.iconst 1, 1) := by decide +kernel
theorem dX2_daysIn_8 : decode cX2_daysIn 8 = .ok (.isub, 1) := by decide +kernel
theorem dX2_daysIn_9 : decode cX2_daysIn 9 = .ok (.invokevirtual 25, 3) := by decide +kernel
theorem dX2_daysIn_12 : decode cX2_daysIn 12 = .ok (.isub, 1) := by decide +kernel
theorem dX2_daysIn_13 : decode cX2_daysIn 13 = .ok (.ireturn, 1) := by decide +kernel
theorem dX2_daysUpTo_0 : decode cX2_daysUpTo 0 = .ok (.iload_n 1, 1) := by decide +kernel
theorem dX2_daysUpTo_1 : decode cX2_daysUpTo 1 = .ok (.aload_n 0, 1) := by decide +kernel
theorem dX2_daysUpTo_2 : decode cX2_daysUpTo 2 = .ok (.getfield 21, 3) := by decide +kernel
theorem dX2_daysUpTo_5 : decode cX2_daysUpTo 5 = .ok (.if_icmp .ge 7, 3) := by decide +kernel
theorem dX2_daysUpTo_8 : decode cX2_daysUpTo 8 = .ok (.iconst 0, 1) := by decide +kernel
theorem dX2_daysUpTo_9 : decode cX2_daysUpTo 9 = .ok (.goto 16, 3) := by decide +kernel
theorem dX2_daysUpTo_12 : decode cX2_daysUpTo 12 = .ok (.iload_n 1, 1) := by decide +kernel
theorem dX2_daysUpTo_13 : decode cX2_daysUpTo 13 = .ok (.aload_n 0, 1) := by decide +kernel
theorem dX2_daysUpTo_14 : decode cX2_daysUpTo 14 = .ok (.getfield 21, 3) := by decide +kernel
theorem dX2_daysUpTo_17 : decode cX2_daysUpTo 17 = .ok (.isub, 1) := by decide +kernel
theorem dX2_daysUpTo_18 : decode cX2_daysUpTo 18 = .ok (.aload_n 0, 1) := by decide +kernel
theorem dX2_daysUpTo_19 : decode cX2_daysUpTo 19 = .ok (.getfield 15, 3) := by decide +kernel
theorem dX2_daysUpTo_22 : decode cX2_daysUpTo 22 = .ok (.idiv, 1) := by decide +kernel
theorem dX2_daysUpTo_23 : decode cX2_daysUpTo 23 = .ok (.iconst 1, 1) := by decide +kernel
theorem dX2_daysUpTo_24 : decode cX2_daysUpTo 24 = .ok (.iadd, 1) := by decide +kernel
theorem dX2_daysUpTo_25 : decode cX2_daysUpTo 25 = .ok (.ireturn, 1) := by decide +kernel
theorem dX2_cycle_0 : decode cX2_cycle 0 = .ok (.aload_n 0, 1) := by decide +kernel
theorem dX2_cycle_1 : decode cX2_cycle 1 = .ok (.getfield 15, 3) := by decide +kernel
theorem dX2_cycle_4 : decode cX2_cycle 4 = .ok (.i2l, 1) := by decide +kernel
theorem dX2_cycle_5 : decode cX2_cycle 5 = .ok (.lreturn, 1) := by decide +kernel
set_option maxRecDepth 20000 in
theorem ggX3_init_X6_init : GoodIn wsX3_init wsX6_init := goodIn_r _ [12, 13, 14, 15, 16, 17, 18, 32, 33, 34, 35, 25, 26, 27, 28, 29, 30, 31, 36, 37, 38, 39, 40, 41, 42, 43, 44] (by decide +kernel) (by decide +kernel)
set_option maxRecDepth 20000 in
theorem gX3_init_X6_init : GoodIn wsX3_init (wsX6_init) := ggX3_init_X6_init
set_option maxRecDepth 20000 in
theorem ggX3_init_X1_monthOf : GoodIn wsX3_init wsX1_monthOf := goodIn_r _ [21, 22] (by decide +kernel) (by decide +kernel)
set_option maxRecDepth 20000 in
theorem gX3_init_X1_monthOf_n21 : GoodIn wsX3_init (wsX1_monthOf) := ggX3_init_X1_monthOf
set_option maxRecDepth 20000 in
theorem ggX3_init_X1_monthStart : GoodIn wsX3_init wsX1_monthStart := goodIn_r _ [24, 22] (by decide +kernel) (by decide +kernel)
set_option maxRecDepth 20000 in
theorem gX3_init_X1_monthStart_n30 : GoodIn wsX3_init (wsX1_monthStart) := ggX3_init_X1_monthStart
theorem dX3_init_0 : decode cX3_init 0 = .ok (.aload_n 0, 1) := by decide +kernel
theorem dX3_init_1 : decode cX3_init 1 = .ok (.iload_n 1, 1) := by decide +kernel
theorem dX3_init_2 : decode cX3_init 2 = .ok (.iload_n 2, 1) := by decide +kernel
theorem dX3_init_3 : decode cX3_init 3 = .ok (.iload_n 3, 1) := by decide +kernel
theorem dX3_init_4 : decode cX3_init 4 = .ok (.invokespecial 3, 3) := by decide +kernel
theorem dX3_init_7 : decode cX3_init 7 = .ok (.aload_n 0, 1) := by decide +kernel
theorem dX3_init_8 : decode cX3_init 8 = .ok (.iload_n 1, 1) := by decide +kernel
theorem dX3_init_9 : decode cX3_init 9 = .ok (.bipush 7, 2) := by decide +kernel
theorem dX3_init_11 : decode cX3_init 11 = .ok (.if_icmp .ne 10, 3) := by decide +kernel
theorem dX3_init_14 : decode cX3_init 14 = .ok (.bipush 12, 2) := by decide +kernel
theorem dX3_init_16 : decode cX3_init 16 = .ok (.iload_n 2, 1) := by decide +kernel
theorem dX3_init_17 : decode cX3_init 17 = .ok (.imul, 1) := by decide +kernel
theorem dX3_init_18 : decode cX3_init 18 = .ok (.goto 4, 3) := by decide +kernel
theorem dX3_init_21 : decode cX3_init 21 = .ok (.iload_n 2, 1) := by decide +kernel
theorem dX3_init_22 : decode cX3_init 22 = .ok (.iconst 1, 1) := by decide +kernel
theorem dX3_init_23 : decode cX3_init 23 = .ok (.invokestatic 9, 3) := by decide +kernel
theorem dX3_init_26 : decode cX3_init 26 = .ok (.putfield 15, 3) := by decide +kernel
theorem dX3_init_29 : decode cX3_init 29 = .ok (.aload_n 0, 1) := by decide +kernel
theorem dX3_init_30 : decode cX3_init 30 = .ok (.iload_n 3, 1) := by decide +kernel
theorem dX3_init_31 : decode cX3_init 31 = .ok (.invokestatic 21, 3) := by decide +kernel
theorem dX3_init_34 : decode cX3_init 34 = .ok (.putfield 27, 3) := by decide +kernel
theorem dX3_init_37 : decode cX3_init 37 = .ok (.aload_n 0, 1) := by decide +kernel
theorem dX3_init_38 : decode cX3_init 38 = .ok (.iload_n 1, 1) := by decide +kernel
theorem dX3_init_39 : decode cX3_init 39 = .ok (.bipush 7, 2) := by decide +kernel
theorem dX3_init_41 : decode cX3_init 41 = .ok (.if_icmp .ne 17, 3) := by decide +kernel
theorem dX3_init_44 : decode cX3_init 44 = .ok (.iload_n 3, 1) := by decide +kernel
theorem dX3_init_45 : decode cX3_init 45 = .ok (.aload_n 0, 1) := by decide +kernel
theorem dX3_init_46 : decode cX3_init 46 = .ok (.getfield 27, 3) := by decide +kernel
theorem dX3_init_49 : decode cX3_init 49 = .ok (.invokestatic 30, 3) := by decide +kernel
theorem dX3_init_52 : decode cX3_init 52 = .ok (.isub, 1) := by decide +kernel
theorem dX3_init_53 : decode cX3_init 53 = .ok (.iconst 1, 1) := by decide +kernel
theorem dX3_init_54 : decode cX3_init 54 = .ok (.iadd, 1) := by decide +kernel
theorem dX3_init_55 : decode cX3_init 55 = .ok (.goto 5, 3) := by decide +kernel
theorem dX3_init_58 : decode cX3_init 58 = .ok (.iload 4, 2) := by decide +kernel
theorem dX3_init_60 : decode cX3_init 60 = .ok (.putfield 33, 3) := by decide +kernel
theorem dX3_init_63 : decode cX3_init 63 = .ok (.aload_n 0, 1) := by decide +kernel
theorem dX3_init_64 : decode cX3_init 64 = .ok (.iload 5, 2) := by decide +kernel
theorem dX3_init_66 : decode cX3_init 66 = .ok (.putfield 36, 3) := by decide +kernel
theorem dX3_init_69 : decode cX3_init 69 = .ok (.return_, 1) := by decide +kernel
set_option maxRecDepth 20000 in
theorem ggX3_dayFrom_X3_monthFrom : GoodIn wsX3_dayFrom wsX3_monthFrom := goodIn_r _ [12, 13, 7, 14, 15, 16, 17, 34, 35, 36, 37, 38, 39, 40] (by decide +kernel) (by decide +kernel)
set_option maxRecDepth 20000 in
theorem gX3_dayFrom_X3_monthFrom : GoodIn wsX3_dayFrom (wsV RX3 42 RX3 yX3_monthFrom wsX3_monthFrom) := goodIn_app (goodIn_of _ (by decide +kernel)) ggX3_dayFrom_X3_monthFrom
set_option maxRecDepth 20000 in
theorem ggX3_dayFrom_X3_dayIn : GoodIn wsX3_dayFrom wsX3_dayIn := goodIn_r _ [21, 22, 23, 24, 25, 26, 15, 27, 17, 28, 29, 30, 31, 32, 33, 34, 35, 36, 37, 38, 39, 40, 41, 42, 43, 44, 45, 46, 47, 48, 49] (by decide +kernel) (by decide +kernel)
set_option maxRecDepth 20000 in
theorem gX3_dayFrom_X3_dayIn : GoodIn wsX3_dayFrom (wsV RX3 45 RX3 yX3_dayIn wsX3_dayIn) := goodIn_app (goodIn_of _ (by decide +kernel)) ggX3_dayFrom_X3_dayIn
theorem dX3_dayFrom_0 : decode cX3_dayFrom 0 = .ok (.iload_n 1, 1) := by decide +kernel
theorem dX3_dayFrom_1 : decode cX3_dayFrom 1 = .ok (.aload_n 0, 1) := by decide +kernel
theorem dX3_dayFrom_2 : decode cX3_dayFrom 2 = .ok (.getfield 39, 3) := by decide +kernel
theorem dX3_dayFrom_5 : decode cX3_dayFrom 5 = .ok (.invokestatic 9, 3) := by decide +kernel
theorem dX3_dayFrom_8 : decode cX3_dayFrom 8 = .ok (.istore_n 2, 1) := by decide +kernel
theorem dX3_dayFrom_9 : decode cX3_dayFrom 9 = .ok (.aload_n 0, 1) := by decide +kernel
theorem dX3_dayFrom_10 : decode cX3_dayFrom 10 = .ok (.iload_n 2, 1) := by decide +kernel
theorem dX3_dayFrom_11 : decode cX3_dayFrom 11 = .ok (.invokevirtual 42, 3) := by decide +kernel
theorem dX3_dayFrom_14 : decode cX3_dayFrom 14 = .ok (.istore_n 3, 1) := by decide +kernel
theorem dX3_dayFrom_15 : decode cX3_dayFrom 15 = .ok (.iload_n 3, 1) := by decide +kernel
theorem dX3_dayFrom_16 : decode cX3_dayFrom 16 = .ok (.sipush 1200, 3) := by decide +kernel
theorem dX3_dayFrom_19 : decode cX3_dayFrom 19 = .ok (.if_icmp .ge 29, 3) := by decide +kernel
theorem dX3_dayFrom_22 : decode cX3_dayFrom 22 = .ok (.aload_n 0, 1) := by decide +kernel
theorem dX3_dayFrom_23 : decode cX3_dayFrom 23 = .ok (.iload_n 3, 1) := by decide +kernel
theorem dX3_dayFrom_24 : decode cX3_dayFrom 24 = .ok (.invokevirtual 45, 3) := by decide +kernel
theorem dX3_dayFrom_27 : decode cX3_dayFrom 27 = .ok (.istore 4, 2) := by decide +kernel
theorem dX3_dayFrom_29 : decode cX3_dayFrom 29 = .ok (.iload 4, 2) := by decide +kernel
theorem dX3_dayFrom_31 : decode cX3_dayFrom 31 = .ok (.iload_n 2, 1) := by decide +kernel
theorem dX3_dayFrom_32 : decode cX3_dayFrom 32 = .ok (.if_icmp .lt 6, 3) := by decide +kernel
theorem dX3_dayFrom_35 : decode cX3_dayFrom 35 = .ok (.iload 4, 2) := by decide +kernel
theorem dX3_dayFrom_37 : decode cX3_dayFrom 37 = .ok (.ireturn, 1) := by decide +kernel
theorem dX3_dayFrom_38 : decode cX3_dayFrom 38 = .ok (.iload_n 3, 1) := by decide +kernel
theorem dX3_dayFrom_39 : decode cX3_dayFrom 39 = .ok (.aload_n 0, 1) := by decide +kernel
theorem dX3_dayFrom_40 : decode cX3_dayFrom 40 = .ok (.getfield 15, 3) := by decide +kernel
theorem dX3_dayFrom_43 : decode cX3_dayFrom 43 = .ok (.iadd, 1) := by decide +kernel
theorem dX3_dayFrom_44 : decode cX3_dayFrom 44 = .ok (.istore_n 3, 1) := by decide +kernel
theorem dX3_dayFrom_45 : decode cX3_dayFrom 45 = .ok (.goto (-30), 3) := by decide +kernel
theorem dX3_dayFrom_48 : decode cX3_dayFrom 48 = .ok (.iconst (-1), 1) := by decide +kernel
theorem dX3_dayFrom_49 : decode cX3_dayFrom 49 = .ok (.ireturn, 1) := by decide +kernel
set_option maxRecDepth 20000 in
theorem ggX3_dayTo_X1_monthOf : GoodIn wsX3_dayTo wsX1_monthOf := goodIn_r _ [7, 8] (by decide +kernel) (by decide +kernel)
set_option maxRecDepth 20000 in
theorem gX3_dayTo_X1_monthOf_n21 : GoodIn wsX3_dayTo (wsX1_monthOf) := ggX3_dayTo_X1_monthOf
set_option maxRecDepth 20000 in
theorem ggX3_dayTo_X3_dayIn : GoodIn wsX3_dayTo wsX3_dayIn := goodIn_r _ [13, 14, 15, 16, 17, 18, 6, 19, 8, 20, 21, 29, 30, 31, 32, 22, 23, 24, 25, 26, 27, 28, 33, 34, 35, 36, 37, 38, 39, 40, 41] (by decide +kernel) (by decide +kernel)
set_option maxRecDepth 20000 in
theorem gX3_dayTo_X3_dayIn : GoodIn wsX3_dayTo (wsV RX3 45 RX3 yX3_dayIn wsX3_dayIn) := goodIn_app (goodIn_of _ (by decide +kernel)) ggX3_dayTo_X3_dayIn
theorem dX3_dayTo_0 : decode cX3_dayTo 0 = .ok (.iload_n 1, 1) := by decide +kernel
theorem dX3_dayTo_1 : decode cX3_dayTo 1 = .ok (.invokestatic 21, 3) := by decide +kernel
theorem dX3_dayTo_4 : decode cX3_dayTo 4 = .ok (.istore_n 2, 1) := by decide +kernel
theorem dX3_dayTo_5 : decode cX3_dayTo 5 = .ok (.iload_n 2, 1) := by decide +kernel
theorem dX3_dayTo_6 : decode cX3_dayTo 6 = .ok (.iload_n 2, 1) := by decide +kernel
theorem dX3_dayTo_7 : decode cX3_dayTo 7 = .ok (.aload_n 0, 1) := by decide +kernel
theorem dX3_dayTo_8 : decode cX3_dayTo 8 = .ok (.getfield 27, 3) := by decide +kernel
theorem dX3_dayTo_11 : decode cX3_dayTo 11 = .ok (.isub, 1) := by decide +kernel
theorem dX3_dayTo_12 : decode cX3_dayTo 12 = .ok (.aload_n 0, 1) := by decide +kernel
theorem dX3_dayTo_13 : decode cX3_dayTo 13 = .ok (.getfield 15, 3) := by decide +kernel
theorem dX3_dayTo_16 : decode cX3_dayTo 16 = .ok (.irem, 1) := by decide +kernel
theorem dX3_dayTo_17 : decode cX3_dayTo 17 = .ok (.isub, 1) := by decide +kernel
theorem dX3_dayTo_18 : decode cX3_dayTo 18 = .ok (.istore_n 2, 1) := by decide +kernel
theorem dX3_dayTo_19 : decode cX3_dayTo 19 = .ok (.iload_n 2, 1) := by decide +kernel
theorem dX3_dayTo_20 : decode cX3_dayTo 20 = .ok (.aload_n 0, 1) := by decide +kernel
theorem dX3_dayTo_21 : decode cX3_dayTo 21 = .ok (.getfield 27, 3) := by decide +kernel
theorem dX3_dayTo_24 : decode cX3_dayTo 24 = .ok (.if_icmp .lt 43, 3) := by decide +kernel
theorem dX3_dayTo_27 : decode cX3_dayTo 27 = .ok (.aload_n 0, 1) := by decide +kernel
theorem dX3_dayTo_28 : decode cX3_dayTo 28 = .ok (.iload_n 2, 1) := by decide +kernel
theorem dX3_dayTo_29 : decode cX3_dayTo 29 = .ok (.invokevirtual 45, 3) := by decide +kernel
theorem dX3_dayTo_32 : decode cX3_dayTo 32 = .ok (.istore_n 3, 1) := by decide +kernel
theorem dX3_dayTo_33 : decode cX3_dayTo 33 = .ok (.iload_n 3, 1) := by decide +kernel
theorem dX3_dayTo_34 : decode cX3_dayTo 34 = .ok (.iconst (-1), 1) := by decide +kernel
theorem dX3_dayTo_35 : decode cX3_dayTo 35 = .ok (.if_icmp .eq 22, 3) := by decide +kernel
theorem dX3_dayTo_38 : decode cX3_dayTo 38 = .ok (.iload_n 3, 1) := by decide +kernel
theorem dX3_dayTo_39 : decode cX3_dayTo 39 = .ok (.iload_n 1, 1) := by decide +kernel
theorem dX3_dayTo_40 : decode cX3_dayTo 40 = .ok (.if_icmp .gt 17, 3) := by decide +kernel
theorem dX3_dayTo_43 : decode cX3_dayTo 43 = .ok (.iload_n 3, 1) := by decide +kernel
theorem dX3_dayTo_44 : decode cX3_dayTo 44 = .ok (.aload_n 0, 1) := by decide +kernel
theorem dX3_dayTo_45 : decode cX3_dayTo 45 = .ok (.getfield 39, 3) := by decide +kernel
theorem dX3_dayTo_48 : decode cX3_dayTo 48 = .ok (.if_icmp .lt 7, 3) := by decide +kernel
theorem dX3_dayTo_51 : decode cX3_dayTo 51 = .ok (.iload_n 3, 1) := by decide +kernel
theorem dX3_dayTo_52 : decode cX3_dayTo 52 = .ok (.goto 4, 3) := by decide +kernel
theorem dX3_dayTo_55 : decode cX3_dayTo 55 = .ok (.iconst (-1), 1) := by decide +kernel
theorem dX3_dayTo_56 : decode cX3_dayTo 56 = .ok (.ireturn, 1) := by decide +kernel
theorem dX3_dayTo_57 : decode cX3_dayTo 57 = .ok (.iload_n 2, 1) := by decide +kernel
theorem dX3_dayTo_58 : decode cX3_dayTo 58 = .ok (.aload_n 0, 1) := by decide +kernel
theorem dX3_dayTo_59 : decode cX3_dayTo 59 = .ok (.getfield 15, 3) := by decide +kernel
theorem dX3_dayTo_62 : decode cX3_dayTo 62 = .ok (.isub, 1) := by decide +kernel
theorem dX3_dayTo_63 : decode cX3_dayTo 63 = .ok (.istore_n 2, 1) := by decide +kernel
theorem dX3_dayTo_64 : decode cX3_dayTo 64 = .ok (.goto (-45), 3) := by decide +kernel
theorem dX3_dayTo_67 : decode cX3_dayTo 67 = .ok (.iconst (-1), 1) := by decide +kernel
theorem dX3_dayTo_68 : decode cX3_dayTo 68 = .ok (.ireturn, 1) := by decide +kernel
set_option maxRecDepth 20000 in
theorem ggX3_daysIn_X1_monthOf : GoodIn wsX3_daysIn wsX1_monthOf := goodIn_r _ [10, 11] (by decide +kernel) (by decide +kernel)
set_option maxRecDepth 20000 in
theorem gX3_daysIn_X1_monthOf_n21 : GoodIn wsX3_daysIn (wsX1_monthOf) := ggX3_daysIn_X1_monthOf
set_option maxRecDepth 20000 in
theorem ggX3_daysIn_X3_monthFrom : GoodIn wsX3_daysIn wsX3_monthFrom := goodIn_r _ [16, 17, 7, 8, 9, 10, 11, 34, 35, 36, 37, 38, 39, 40] (by decide +kernel) (by decide +kernel)
set_option maxRecDepth 20000 in
theorem gX3_daysIn_X3_monthFrom : GoodIn wsX3_daysIn (wsV RX3 42 RX3 yX3_monthFrom wsX3_monthFrom) := goodIn_app (goodIn_of _ (by decide +kernel)) ggX3_daysIn_X3_monthFrom
set_option maxRecDepth 20000 in
theorem ggX3_daysIn_X3_dayIn : GoodIn wsX3_daysIn wsX3_dayIn := goodIn_r _ [21, 22, 23, 24, 25, 26, 9, 27, 11, 28, 29, 30, 31, 32, 33, 34, 35, 36, 37, 38, 39, 40, 41, 42, 43, 44, 45, 46, 47, 48, 49] (by decide +kernel) (by decide +kernel)
set_option maxRecDepth 20000 in
theorem gX3_daysIn_X3_dayIn : GoodIn wsX3_daysIn (wsV RX3 45 RX3 yX3_dayIn wsX3_dayIn) := goodIn_app (goodIn_of _ (by decide +kernel)) ggX3_daysIn_X3_dayIn
theorem dX3_daysIn_0 : decode cX3_daysIn 0 = .ok (.iload_n 1, 1) := by decide +kernel
theorem dX3_daysIn_1 : decode cX3_daysIn 1 = .ok (.aload_n 0, 1) := by decide +kernel
theorem dX3_daysIn_2 : decode cX3_daysIn 2 = .ok (.getfield 39, 3) := by decide +kernel
theorem dX3_daysIn_5 : decode cX3_daysIn 5 = .ok (.invokestatic 9, 3) := by decide +kernel
theorem dX3_daysIn_8 : decode cX3_daysIn 8 = .ok (.istore_n 3, 1) := by decide +kernel
theorem dX3_daysIn_9 : decode cX3_daysIn 9 = .ok (.iload_n 2, 1) := by decide +kernel
theorem dX3_daysIn_10 : decode cX3_daysIn 10 = .ok (.invokestatic 21, 3) := by decide +kernel
theorem dX3_daysIn_13 : decode cX3_daysIn 13 = .ok (.istore 4, 2) := by decide +kernel
theorem dX3_daysIn_15 : decode cX3_daysIn 15 = .ok (.iconst 0, 1) := by decide +kernel
theorem dX3_daysIn_16 : decode cX3_daysIn 16 = .ok (.istore 5, 2) := by decide +kernel
theorem dX3_daysIn_18 : decode cX3_daysIn 18 = .ok (.aload_n 0, 1) := by decide +kernel
theorem dX3_daysIn_19 : decode cX3_daysIn 19 = .ok (.iload_n 3, 1) := by decide +kernel
theorem dX3_daysIn_20 : decode cX3_daysIn 20 = .ok (.invokevirtual 42, 3) := by decide +kernel
theorem dX3_daysIn_23 : decode cX3_daysIn 23 = .ok (.istore 6, 2) := by decide +kernel
theorem dX3_daysIn_25 : decode cX3_daysIn 25 = .ok (.iload 6, 2) := by decide +kernel
theorem dX3_daysIn_27 : decode cX3_daysIn 27 = .ok (.iload 4, 2) := by decide +kernel
theorem dX3_daysIn_29 : decode cX3_daysIn 29 = .ok (.if_icmp .gt 38, 3) := by decide +kernel
theorem dX3_daysIn_32 : decode cX3_daysIn 32 = .ok (.aload_n 0, 1) := by decide +kernel
theorem dX3_daysIn_33 : decode cX3_daysIn 33 = .ok (.iload 6, 2) := by decide +kernel
theorem dX3_daysIn_35 : decode cX3_daysIn 35 = .ok (.invokevirtual 45, 3) := by decide +kernel
theorem dX3_daysIn_38 : decode cX3_daysIn 38 = .ok (.istore 7, 2) := by decide +kernel
theorem dX3_daysIn_40 : decode cX3_daysIn 40 = .ok (.iload 7, 2) := by decide +kernel
theorem dX3_daysIn_42 : decode cX3_daysIn 42 = .ok (.iload_n 3, 1) := by decide +kernel
theorem dX3_daysIn_43 : decode cX3_daysIn 43 = .ok (.if_icmp .lt 12, 3) := by decide +kernel
theorem dX3_daysIn_46 : decode cX3_daysIn 46 = .ok (.iload 7, 2) := by decide +kernel
theorem dX3_daysIn_48 : decode cX3_daysIn 48 = .ok (.iload_n 2, 1) := by decide +kernel
theorem dX3_daysIn_49 : decode cX3_daysIn 49 = .ok (.if_icmp .gt 6, 3) := by decide +kernel
theorem dX3_daysIn_52 : decode cX3_daysIn 52 = .ok (.iinc 5 1, 3) := by decide +kernel
theorem dX3_daysIn_55 : decode cX3_daysIn 55 = .ok (.iload 6, 2) := by decide +kernel
theorem dX3_daysIn_57 : decode cX3_daysIn 57 = .ok (.aload_n 0, 1) := by decide +kernel
theorem dX3_daysIn_58 : decode cX3_daysIn 58 = .ok (.getfield 15, 3) := by decide +kernel
theorem dX3_daysIn_61 : decode cX3_daysIn 61 = .ok (.iadd, 1) := by decide +kernel
theorem dX3_daysIn_62 : decode cX3_daysIn 62 = .ok (.istore 6, 2) := by decide +kernel
theorem dX3_daysIn_64 : decode cX3_daysIn 64 = .ok (.goto (-39), 3) := by decide +kernel
theorem dX3_daysIn_67 : decode cX3_daysIn 67 = .ok (.iload 5, 2) := by decide +kernel
theorem dX3_daysIn_69 : decode cX3_daysIn 69 = .ok (.ireturn, 1) := by decide +kernel
set_option maxRecDepth 20000 in
theorem ggX3_monthFrom_X1_monthOf : GoodIn wsX3_monthFrom wsX1_monthOf := goodIn_r _ [5, 6] (by decide +kernel) (by decide +kernel)
set_option maxRecDepth 20000 in
theorem gX3_monthFrom_X1_monthOf_n21 : GoodIn wsX3_monthFrom (wsX1_monthOf) := ggX3_monthFrom_X1_monthOf
theorem dX3_monthFrom_0 : decode cX3_monthFrom 0 = .ok (.iload_n 1, 1) := by decide +kernel
theorem dX3_monthFrom_1 : decode cX3_monthFrom 1 = .ok (.invokestatic 21, 3) := by decide +kernel
theorem dX3_monthFrom_4 : decode cX3_monthFrom 4 = .ok (.istore_n 2, 1) := by decide +kernel
theorem dX3_monthFrom_5 : decode cX3_monthFrom 5 = .ok (.iload_n 2, 1) := by decide +kernel
theorem dX3_monthFrom_6 : decode cX3_monthFrom 6 = .ok (.aload_n 0, 1) := by decide +kernel
theorem dX3_monthFrom_7 : decode cX3_monthFrom 7 = .ok (.getfield 27, 3) := by decide +kernel
theorem dX3_monthFrom_10 : decode cX3_monthFrom 10 = .ok (.isub, 1) := by decide +kernel
theorem dX3_monthFrom_11 : decode cX3_monthFrom 11 = .ok (.aload_n 0, 1) := by decide +kernel
theorem dX3_monthFrom_12 : decode cX3_monthFrom 12 = .ok (.getfield 15, 3) := by decide +kernel
theorem dX3_monthFrom_15 : decode cX3_monthFrom 15 = .ok (.irem, 1) := by decide +kernel
theorem dX3_monthFrom_16 : decode cX3_monthFrom 16 = .ok (.istore_n 3, 1) := by decide +kernel
theorem dX3_monthFrom_17 : decode cX3_monthFrom 17 = .ok (.iload_n 3, 1) := by decide +kernel
theorem dX3_monthFrom_18 : decode cX3_monthFrom 18 = .ok (.ifCond .ne 7, 3) := by decide +kernel
theorem dX3_monthFrom_21 : decode cX3_monthFrom 21 = .ok (.iload_n 2, 1) := by decide +kernel
theorem dX3_monthFrom_22 : decode cX3_monthFrom 22 = .ok (.goto 11, 3) := by decide +kernel
theorem dX3_monthFrom_25 : decode cX3_monthFrom 25 = .ok (.iload_n 2, 1) := by decide +kernel
theorem dX3_monthFrom_26 : decode cX3_monthFrom 26 = .ok (.iload_n 3, 1) := by decide +kernel
theorem dX3_monthFrom_27 : decode cX3_monthFrom 27 = .ok (.isub, 1) := by decide +kernel
theorem dX3_monthFrom_28 : decode cX3_monthFrom 28 = .ok (.aload_n 0, 1) := by decide +kernel
theorem dX3_monthFrom_29 : decode cX3_monthFrom 29 = .ok (.getfield 15, 3) := by decide +kernel
theorem dX3_monthFrom_32 : decode cX3_monthFrom 32 = .ok (.iadd, 1) := by decide +kernel
theorem dX3_monthFrom_33 : decode cX3_monthFrom 33 = .ok (.ireturn, 1) := by decide +kernel
set_option maxRecDepth 20000 in
theorem ggX3_dayIn_X1_monthStart : GoodIn wsX3_dayIn wsX1_monthStart := goodIn_r _ [7, 8] (by decide +kernel) (by decide +kernel)
set_option maxRecDepth 20000 in
theorem gX3_dayIn_X1_monthStart_n30 : GoodIn wsX3_dayIn (wsX1_monthStart) := ggX3_dayIn_X1_monthStart
set_option maxRecDepth 20000 in
theorem ggX3_dayIn_X1_weekdayOf : GoodIn wsX3_dayIn wsX1_weekdayOf := goodIn_r _ [10] (by decide +kernel) (by decide +kernel)
set_option maxRecDepth 20000 in
theorem gX3_dayIn_X1_weekdayOf_n51 : GoodIn wsX3_dayIn (wsX1_weekdayOf) := ggX3_dayIn_X1_weekdayOf
theorem dX3_dayIn_0 : decode cX3_dayIn 0 = .ok (.iload_n 1, 1) := by decide +kernel
theorem dX3_dayIn_1 : decode cX3_dayIn 1 = .ok (.invokestatic 30, 3) := by decide +kernel
theorem dX3_dayIn_4 : decode cX3_dayIn 4 = .ok (.istore_n 2, 1) := by decide +kernel
theorem dX3_dayIn_5 : decode cX3_dayIn 5 = .ok (.iload_n 1, 1) := by decide +kernel
theorem dX3_dayIn_6 : decode cX3_dayIn 6 = .ok (.iconst 1, 1) := by decide +kernel
theorem dX3_dayIn_7 : decode cX3_dayIn 7 = .ok (.iadd, 1) := by decide +kernel
theorem dX3_dayIn_8 : decode cX3_dayIn 8 = .ok (.invokestatic 30, 3) := by decide +kernel
theorem dX3_dayIn_11 : decode cX3_dayIn 11 = .ok (.iconst 1, 1) := by decide +kernel
theorem dX3_dayIn_12 : decode cX3_dayIn 12 = .ok (.isub, 1) := by decide +kernel
theorem dX3_dayIn_13 : decode cX3_dayIn 13 = .ok (.istore_n 3, 1) := by decide +kernel
theorem dX3_dayIn_14 : decode cX3_dayIn 14 = .ok (.aload_n 0, 1) := by decide +kernel
theorem dX3_dayIn_15 : decode cX3_dayIn 15 = .ok (.getfield 48, 3) := by decide +kernel
theorem dX3_dayIn_18 : decode cX3_dayIn 18 = .ok (.tableswitch 93 4 6 #[26, 39, 71], 26) := by decide +kernel
theorem dX3_dayIn_44 : decode cX3_dayIn 44 = .ok (.iload_n 3, 1) := by decide +kernel
theorem dX3_dayIn_45 : decode cX3_dayIn 45 = .ok (.aload_n 0, 1) := by decide +kernel
theorem dX3_dayIn_46 : decode cX3_dayIn 46 = .ok (.getfield 33, 3) := by decide +kernel
theorem dX3_dayIn_49 : decode cX3_dayIn 49 = .ok (.isub, 1) := by decide +kernel
theorem dX3_dayIn_50 : decode cX3_dayIn 50 = .ok (.iconst 1, 1) := by decide +kernel
theorem dX3_dayIn_51 : decode cX3_dayIn 51 = .ok (.iadd, 1) := by decide +kernel
theorem dX3_dayIn_52 : decode cX3_dayIn 52 = .ok (.istore 4, 2) := by decide +kernel
theorem dX3_dayIn_54 : decode cX3_dayIn 54 = .ok (.goto 67, 3) := by decide +kernel
theorem dX3_dayIn_57 : decode cX3_dayIn 57 = .ok (.iload_n 2, 1) := by decide +kernel
theorem dX3_dayIn_58 : decode cX3_dayIn 58 = .ok (.aload_n 0, 1) := by decide +kernel
theorem dX3_dayIn_59 : decode cX3_dayIn 59 = .ok (.getfield 36, 3) := by decide +kernel
theorem dX3_dayIn_62 : decode cX3_dayIn 62 = .ok (.iload_n 2, 1) := by decide +kernel
theorem dX3_dayIn_63 : decode cX3_dayIn 63 = .ok (.invokestatic 51, 3) := by decide +kernel
theorem dX3_dayIn_66 : decode cX3_dayIn 66 = .ok (.isub, 1) := by decide +kernel
theorem dX3_dayIn_67 : decode cX3_dayIn 67 = .ok (.bipush 7, 2) := by decide +kernel
theorem dX3_dayIn_69 : decode cX3_dayIn 69 = .ok (.iadd, 1) := by decide +kernel
theorem dX3_dayIn_70 : decode cX3_dayIn 70 = .ok (.bipush 7, 2) := by decide +kernel
theorem dX3_dayIn_72 : decode cX3_dayIn 72 = .ok (.irem, 1) := by decide +kernel
theorem dX3_dayIn_73 : decode cX3_dayIn 73 = .ok (.iadd, 1) := by decide +kernel
theorem dX3_dayIn_74 : decode cX3_dayIn 74 = .ok (.bipush 7, 2) := by decide +kernel
theorem dX3_dayIn_76 : decode cX3_dayIn 76 = .ok (.aload_n 0, 1) := by decide +kernel
theorem dX3_dayIn_77 : decode cX3_dayIn 77 = .ok (.getfield 33, 3) := by decide +kernel
theorem dX3_dayIn_80 : decode cX3_dayIn 80 = .ok (.iconst 1, 1) := by decide +kernel
theorem dX3_dayIn_81 : decode cX3_dayIn 81 = .ok (.isub, 1) := by decide +kernel
theorem dX3_dayIn_82 : decode cX3_dayIn 82 = .ok (.imul, 1) := by decide +kernel
theorem dX3_dayIn_83 : decode cX3_dayIn 83 = .ok (.iadd, 1) := by decide +kernel
theorem dX3_dayIn_84 : decode cX3_dayIn 84 = .ok (.istore 4, 2) := by decide +kernel
theorem dX3_dayIn_86 : decode cX3_dayIn 86 = .ok (.goto 35, 3) := by decide +kernel
theorem dX3_dayIn_89 : decode cX3_dayIn 89 = .ok (.iload_n 3, 1) := by decide +kernel
theorem dX3_dayIn_90 : decode cX3_dayIn 90 = .ok (.iload_n 3, 1) := by decide +kernel
theorem dX3_dayIn_91 : decode cX3_dayIn 91 = .ok (.invokestatic 51, 3) := by decide +kernel
theorem dX3_dayIn_94 : decode cX3_dayIn 94 = .ok (.aload_n 0, 1) := by decide +kernel
theorem dX3_dayIn_95 : decode cX3_dayIn 95 = .ok (.getfield 36, 3) := by decide +kernel
theorem dX3_dayIn_98 : decode cX3_dayIn 98 = .ok (.isub, 1) := by decide +kernel
theorem dX3_dayIn_99 : decode cX3_dayIn 99 = .ok (.bipush 7, 2) := by decide +kernel
theorem dX3_dayIn_101 : decode cX3_dayIn 101 = .ok (.iadd, 1) := by decide +kernel
theorem dX3_dayIn_102 : decode cX3_dayIn 102 = .ok (.bipush 7, 2) := by decide +kernel
theorem dX3_dayIn_104 : decode cX3_dayIn 104 = .ok (.irem, 1) := by decide +kernel
theorem dX3_dayIn_105 : decode cX3_dayIn 105 = .ok (.isub, 1) := by decide +kernel
theorem dX3_dayIn_106 : decode cX3_dayIn 106 = .ok (.istore 4, 2) := by decide +kernel
theorem dX3_dayIn_108 : decode cX3_dayIn 108 = .ok (.goto 13, 3) := by decide +kernel
theorem dX3_dayIn_111 : decode cX3_dayIn 111 = .ok (.iload_n 2, 1) := by decide +kernel
theorem dX3_dayIn_112 : decode cX3_dayIn 112 = .ok (.aload_n 0, 1) := by decide +kernel
theorem dX3_dayIn_113 : decode cX3_dayIn 113 = .ok (.getfield 33, 3) := by decide +kernel
theorem dX3_dayIn_116 : decode cX3_dayIn 116 = .ok (.iadd, 1) := by decide +kernel
theorem dX3_dayIn_117 : decode cX3_dayIn 117 = .ok (.iconst 1, 1) := by decide +kernel
theorem dX3_dayIn_118 : decode cX3_dayIn 118 = .ok (.isub, 1) := by decide +kernel
theorem dX3_dayIn_119 : decode cX3_dayIn 119 = .ok (.istore 4, 2) := by decide +kernel
theorem dX3_dayIn_121 : decode cX3_dayIn 121 = .ok (.iload 4, 2) := by decide +kernel
theorem dX3_dayIn_123 : decode cX3_dayIn 123 = .ok (.iload_n 3, 1) := by decide +kernel
theorem dX3_dayIn_124 : decode cX3_dayIn 124 = .ok (.if_icmp .gt 8, 3) := by decide +kernel
theorem dX3_dayIn_127 : decode cX3_dayIn 127 = .ok (.iload 4, 2) := by decide +kernel
theorem dX3_dayIn_129 : decode cX3_dayIn 129 = .ok (.goto 4, 3) := by decide +kernel
theorem dX3_dayIn_132 : decode cX3_dayIn 132 = .ok (.iconst (-1), 1) := by decide +kernel
theorem dX3_dayIn_133 : decode cX3_dayIn 133 = .ok (.ireturn, 1) := by decide +kernel
set_option maxRecDepth 20000 in
theorem ggX3_cycle_X9_commonMultiple : GoodIn wsX3_cycle wsX9_commonMultiple := goodIn_r _ [6, 7, 8, 5, 9] (by decide +kernel) (by decide +kernel)
set_option maxRecDepth 20000 in
theorem gX3_cycle_X9_commonMultiple_n58 : GoodIn wsX3_cycle (wsX9_commonMultiple) := ggX3_cycle_X9_commonMultiple
theorem dX3_cycle_0 : decode cX3_cycle 0 = .ok (.ldc2_w 54, 3) := by decide +kernel
theorem dX3_cycle_3 : decode cX3_cycle 3 = .ok (.aload_n 0, 1) := by decide +kernel
theorem dX3_cycle_4 : decode cX3_cycle 4 = .ok (.getfield 15, 3) := by decide +kernel
theorem dX3_cycle_7 : decode cX3_cycle 7 = .ok (.i2l, 1) := by decide +kernel
theorem dX3_cycle_8 : decode cX3_cycle 8 = .ok (.ldc2_w 56, 3) := by decide +kernel
theorem dX3_cycle_11 : decode cX3_cycle 11 = .ok (.invokestatic 58, 3) := by decide +kernel
theorem dX3_cycle_14 : decode cX3_cycle 14 = .ok (.ldc2_w 56, 3) := by decide +kernel
theorem dX3_cycle_17 : decode cX3_cycle 17 = .ok (.ldiv, 1) := by decide +kernel
theorem dX3_cycle_18 : decode cX3_cycle 18 = .ok (.lmul, 1) := by decide +kernel
theorem dX3_cycle_19 : decode cX3_cycle 19 = .ok (.lreturn, 1) := by decide +kernel
theorem dX3_detail_0 : decode cX3_detail 0 = .ok (.aload_n 0, 1) := by decide +kernel
theorem dX3_detail_1 : decode cX3_detail 1 = .ok (.getfield 48, 3) := by decide +kernel
theorem dX3_detail_4 : decode cX3_detail 4 = .ok (.bipush 7, 2) := by decide +kernel
theorem dX3_detail_6 : decode cX3_detail 6 = .ok (.if_icmp .ne 5, 3) := by decide +kernel
theorem dX3_detail_9 : decode cX3_detail 9 = .ok (.iconst 0, 1) := by decide +kernel
theorem dX3_detail_10 : decode cX3_detail 10 = .ok (.ireturn, 1) := by decide +kernel
theorem dX3_detail_11 : decode cX3_detail 11 = .ok (.aload_n 0, 1) := by decide +kernel
theorem dX3_detail_12 : decode cX3_detail 12 = .ok (.getfield 48, 3) := by decide +kernel
theorem dX3_detail_15 : decode cX3_detail 15 = .ok (.bipush 6, 2) := by decide +kernel
theorem dX3_detail_17 : decode cX3_detail 17 = .ok (.if_icmp .ne 10, 3) := by decide +kernel
theorem dX3_detail_20 : decode cX3_detail 20 = .ok (.aload_n 0, 1) := by decide +kernel
theorem dX3_detail_21 : decode cX3_detail 21 = .ok (.getfield 36, 3) := by decide +kernel
theorem dX3_detail_24 : decode cX3_detail 24 = .ok (.goto 7, 3) := by decide +kernel
theorem dX3_detail_27 : decode cX3_detail 27 = .ok (.aload_n 0, 1) := by decide +kernel
theorem dX3_detail_28 : decode cX3_detail 28 = .ok (.getfield 33, 3) := by decide +kernel
theorem dX3_detail_31 : decode cX3_detail 31 = .ok (.ireturn, 1) := by decide +kernel
theorem dX3_nthWeekday_0 : decode cX3_nthWeekday 0 = .ok (.aload_n 0, 1) := by decide +kernel
theorem dX3_nthWeekday_1 : decode cX3_nthWeekday 1 = .ok (.getfield 48, 3) := by decide +kernel
theorem dX3_nthWeekday_4 : decode cX3_nthWeekday 4 = .ok (.iconst 5, 1) := by decide +kernel
theorem dX3_nthWeekday_5 : decode cX3_nthWeekday 5 = .ok (.if_icmp .ne 10, 3) := by decide +kernel
theorem dX3_nthWeekday_8 : decode cX3_nthWeekday 8 = .ok (.aload_n 0, 1) := by decide +kernel
theorem dX3_nthWeekday_9 : decode cX3_nthWeekday 9 = .ok (.getfield 36, 3) := by decide +kernel
theorem dX3_nthWeekday_12 : decode cX3_nthWeekday 12 = .ok (.goto 4, 3) := by decide +kernel
theorem dX3_nthWeekday_15 : decode cX3_nthWeekday 15 = .ok (.iconst (-1), 1) := by decide +kernel
theorem dX3_nthWeekday_16 : decode cX3_nthWeekday 16 = .ok (.ireturn, 1) := by decide +kernel
set_option maxRecDepth 20000 in
theorem ggX4_init_X6_init : GoodIn wsX4_init wsX6_init := goodIn_r _ [4, 5, 6, 7, 8, 9, 10, 11, 12, 13, 14, 15, 16, 17, 18, 19, 20, 21, 22, 23, 24, 25, 26, 27, 28, 29, 30] (by decide +kernel) (by decide +kernel)
set_option maxRecDepth 20000 in
theorem gX4_init_X6_init : GoodIn wsX4_init (wsX6_init) := ggX4_init_X6_init
theorem dX4_init_0 : decode cX4_init 0 = .ok (.aload_n 0, 1) := by decide +kernel
theorem dX4_init_1 : decode cX4_init 1 = .ok (.iconst 0, 1) := by decide +kernel
theorem dX4_init_2 : decode cX4_init 2 = .ok (.iconst 0, 1) := by decide +kernel
theorem dX4_init_3 : decode cX4_init 3 = .ok (.iload_n 1, 1) := by decide +kernel
theorem dX4_init_4 : decode cX4_init 4 = .ok (.invokespecial 3, 3) := by decide +kernel
theorem dX4_init_7 : decode cX4_init 7 = .ok (.return_, 1) := by decide +kernel
theorem dX4_dayFrom_0 : decode cX4_dayFrom 0 = .ok (.iload_n 1, 1) := by decide +kernel
theorem dX4_dayFrom_1 : decode cX4_dayFrom 1 = .ok (.aload_n 0, 1) := by decide +kernel
theorem dX4_dayFrom_2 : decode cX4_dayFrom 2 = .ok (.getfield 9, 3) := by decide +kernel
theorem dX4_dayFrom_5 : decode cX4_dayFrom 5 = .ok (.if_icmp .gt 10, 3) := by decide +kernel
theorem dX4_dayFrom_8 : decode cX4_dayFrom 8 = .ok (.aload_n 0, 1) := by decide +kernel
theorem dX4_dayFrom_9 : decode cX4_dayFrom 9 = .ok (.getfield 9, 3) := by decide +kernel
theorem dX4_dayFrom_12 : decode cX4_dayFrom 12 = .ok (.goto 4, 3) := by decide +kernel
theorem dX4_dayFrom_15 : decode cX4_dayFrom 15 = .ok (.iconst (-1), 1) := by decide +kernel
theorem dX4_dayFrom_16 : decode cX4_dayFrom 16 = .ok (.ireturn, 1) := by decide +kernel
theorem dX4_dayTo_0 : decode cX4_dayTo 0 = .ok (.iload_n 1, 1) := by decide +kernel
theorem dX4_dayTo_1 : decode cX4_dayTo 1 = .ok (.aload_n 0, 1) := by decide +kernel
theorem dX4_dayTo_2 : decode cX4_dayTo 2 = .ok (.getfield 9, 3) := by decide +kernel
theorem dX4_dayTo_5 : decode cX4_dayTo 5 = .ok (.if_icmp .lt 10, 3) := by decide +kernel
theorem dX4_dayTo_8 : decode cX4_dayTo 8 = .ok (.aload_n 0, 1) := by decide +kernel
theorem dX4_dayTo_9 : decode cX4_dayTo 9 = .ok (.getfield 9, 3) := by decide +kernel
theorem dX4_dayTo_12 : decode cX4_dayTo 12 = .ok (.goto 4, 3) := by decide +kernel
theorem dX4_dayTo_15 : decode cX4_dayTo 15 = .ok (.iconst (-1), 1) := by decide +kernel
theorem dX4_dayTo_16 : decode cX4_dayTo 16 = .ok (.ireturn, 1) := by decide +kernel
theorem dX4_daysIn_0 : decode cX4_daysIn 0 = .ok (.iload_n 1, 1) := by decide +kernel
theorem dX4_daysIn_1 : decode cX4_daysIn 1 = .ok (.aload_n 0, 1) := by decide +kernel
theorem dX4_daysIn_2 : decode cX4_daysIn 2 = .ok (.getfield 9, 3) := by decide +kernel
theorem dX4_daysIn_5 : decode cX4_daysIn 5 = .ok (.if_icmp .gt 15, 3) := by decide +kernel
theorem dX4_daysIn_8 : decode cX4_daysIn 8 = .ok (.aload_n 0, 1) := by decide +kernel
theorem dX4_daysIn_9 : decode cX4_daysIn 9 = .ok (.getfield 9, 3) := by decide +kernel
theorem dX4_daysIn_12 : decode cX4_daysIn 12 = .ok (.iload_n 2, 1) := by decide +kernel
theorem dX4_daysIn_13 : decode cX4_daysIn 13 = .ok (.if_icmp .gt 7, 3) := by decide +kernel
theorem dX4_daysIn_16 : decode cX4_daysIn 16 = .ok (.iconst 1, 1) := by decide +kernel
theorem dX4_daysIn_17 : decode cX4_daysIn 17 = .ok (.goto 4, 3) := by decide +kernel
theorem dX4_daysIn_20 : decode cX4_daysIn 20 = .ok (.iconst 0, 1) := by decide +kernel
theorem dX4_daysIn_21 : decode cX4_daysIn 21 = .ok (.ireturn, 1) := by decide +kernel
theorem dX4_cycle_0 : decode cX4_cycle 0 = .ok (.lconst 0, 1) := by decide +kernel
theorem dX4_cycle_1 : decode cX4_cycle 1 = .ok (.lreturn, 1) := by decide +kernel
theorem dX5_init_0 : decode cX5_init 0 = .ok (.aload_n 0, 1) := by decide +kernel
theorem dX5_init_1 : decode cX5_init 1 = .ok (.invokespecial 3, 3) := by decide +kernel
theorem dX5_init_4 : decode cX5_init 4 = .ok (.aload_n 0, 1) := by decide +kernel
theorem dX5_init_5 : decode cX5_init 5 = .ok (.iconst 0, 1) := by decide +kernel
theorem dX5_init_6 : decode cX5_init 6 = .ok (.putfield 11, 3) := by decide +kernel
theorem dX5_init_9 : decode cX5_init 9 = .ok (.aload_n 0, 1) := by decide +kernel
theorem dX5_init_10 : decode cX5_init 10 = .ok (.iconst 0, 1) := by decide +kernel
theorem dX5_init_11 : decode cX5_init 11 = .ok (.putfield 15, 3) := by decide +kernel
theorem dX5_init_14 : decode cX5_init 14 = .ok (.aload_n 0, 1) := by decide +kernel
theorem dX5_init_15 : decode cX5_init 15 = .ok (.iconst 0, 1) := by decide +kernel
theorem dX5_init_16 : decode cX5_init 16 = .ok (.putfield 18, 3) := by decide +kernel
theorem dX5_init_19 : decode cX5_init 19 = .ok (.aload_n 0, 1) := by decide +kernel
theorem dX5_init_20 : decode cX5_init 20 = .ok (.iconst 0, 1) := by decide +kernel
theorem dX5_init_21 : decode cX5_init 21 = .ok (.putfield 21, 3) := by decide +kernel
theorem dX5_init_24 : decode cX5_init 24 = .ok (.aload_n 0, 1) := by decide +kernel
theorem dX5_init_25 : decode cX5_init 25 = .ok (.iconst 0, 1) := by decide +kernel
theorem dX5_init_26 : decode cX5_init 26 = .ok (.putfield 24, 3) := by decide +kernel
theorem dX5_init_29 : decode cX5_init 29 = .ok (.aload_n 0, 1) := by decide +kernel
theorem dX5_init_30 : decode cX5_init 30 = .ok (.iconst 0, 1) := by decide +kernel
theorem dX5_init_31 : decode cX5_init 31 = .ok (.putfield 27, 3) := by decide +kernel
theorem dX5_init_34 : decode cX5_init 34 = .ok (.aload_n 0, 1) := by decide +kernel
theorem dX5_init_35 : decode cX5_init 35 = .ok (.iconst 0, 1) := by decide +kernel
theorem dX5_init_36 : decode cX5_init 36 = .ok (.putfield 30, 3) := by decide +kernel
theorem dX5_init_39 : decode cX5_init 39 = .ok (.aload_n 0, 1) := by decide +kernel
theorem dX5_init_40 : decode cX5_init 40 = .ok (.iconst 0, 1) := by decide +kernel
theorem dX5_init_41 : decode cX5_init 41 = .ok (.putfield 33, 3) := by decide +kernel
theorem dX5_init_44 : decode cX5_init 44 = .ok (.aload_n 0, 1) := by decide +kernel
theorem dX5_init_45 : decode cX5_init 45 = .ok (.aload_n 1, 1) := by decide +kernel
theorem dX5_init_46 : decode cX5_init 46 = .ok (.putfield 36, 3) := by decide +kernel
theorem dX5_init_49 : decode cX5_init 49 = .ok (.aload_n 0, 1) := by decide +kernel
theorem dX5_init_50 : decode cX5_init 50 = .ok (.iload_n 2, 1) := by decide +kernel
theorem dX5_init_51 : decode cX5_init 51 = .ok (.aload_n 1, 1) := by decide +kernel
theorem dX5_init_52 : decode cX5_init 52 = .ok (.arraylength, 1) := by decide +kernel
theorem dX5_init_53 : decode cX5_init 53 = .ok (.invokestatic 40, 3) := by decide +kernel
theorem dX5_init_56 : decode cX5_init 56 = .ok (.putfield 46, 3) := by decide +kernel
theorem dX5_init_59 : decode cX5_init 59 = .ok (.return_, 1) := by decide +kernel
set_option maxRecDepth 20000 in
theorem ggX5_read_X5_step : GoodIn wsX5_read wsX5_step := goodIn_r _ [7, 8, 9, 10, 11, 1, 12, 13, 14, 6, 15, 307, 308, 309, 310, 311, 312, 313, 314, 315, 316] (by decide +kernel) (by decide +kernel)
set_option maxRecDepth 20000 in
theorem gX5_read_X5_step : GoodIn wsX5_read (wsV RX5 49 RX5 yX5_step wsX5_step) := goodIn_app (goodIn_of _ (by decide +kernel)) ggX5_read_X5_step
set_option maxRecDepth 20000 in
theorem ggX5_read_X5_readPlace : GoodIn wsX5_read wsX5_readPlace := goodIn_r _ [19, 20, 21, 22, 23, 24, 25, 6, 26, 27, 28, 29, 30, 1, 8, 9, 31, 32, 33, 34, 35, 36, 37, 38, 39, 40, 41, 42, 43, 44, 45, 46, 11, 47, 48, 49, 50, 51, 52, 53, 54, 55, 56, 57, 58, 59, 60, 61, 62, 63, 64, 65, 66, 67, 68, 69, 70, 71, 72, 73, 74, 75, 76, 77, 78, 79, 80, 81, 82, 83, 3, 4, 5, 7, 10, 12, 13, 14, 15, 84, 85, 86, 87, 2, 88, 89, 90, 91, 317, 318, 319, 320, 321, 322, 323, 324, 325, 326, 327, 328, 329, 330, 331, 307, 308, 309, 310, 311, 312, 313, 314, 315, 316] (by decide +kernel) (by decide +kernel)
set_option maxRecDepth 20000 in
theorem gX5_read_X5_readPlace : GoodIn wsX5_read (wsV RX5 52 RX5 yX5_readPlace wsX5_readPlace) := goodIn_app (goodIn_of _ (by decide +kernel)) ggX5_read_X5_readPlace
set_option maxRecDepth 20000 in
theorem ggX5_read_X5_readRule : GoodIn wsX5_read wsX5_readRule := goodIn_r _ [95, 96, 97, 27, 28, 29, 6, 30, 1, 8, 9, 31, 32, 33, 34, 35, 36, 37, 38, 39, 40, 41, 42, 43, 44, 45, 46, 11, 47, 48, 49, 50, 51, 52, 53, 54, 55, 56, 57, 58, 59, 60, 61, 62, 63, 64, 65, 66, 67, 68, 69, 70, 71, 72, 73, 74, 75, 76, 77, 78, 79, 80, 81, 82, 83, 3, 4, 5, 7, 10, 12, 13, 14, 15, 23, 24, 25, 26, 84, 85, 86, 87, 2, 88, 89, 90, 91, 98, 99, 100, 101, 102, 103, 104, 105, 106, 107, 108, 109, 110, 111, 112, 113, 114, 115, 307, 308, 309, 310, 311, 312, 313, 314, 315, 316] (by decide +kernel) (by decide +kernel)
set_option maxRecDepth 20000 in
theorem gX5_read_X5_readRule : GoodIn wsX5_read (wsV RX5 56 RX5 yX5_readRule wsX5_readRule) := goodIn_app (goodIn_of _ (by decide +kernel)) ggX5_read_X5_readRule
set_option maxRecDepth 20000 in
theorem ggX5_read_X5_readSpan : GoodIn wsX5_read wsX5_readSpan := goodIn_r _ [119, 120, 23, 24, 25, 6, 26, 27, 28, 29, 30, 1, 8, 9, 31, 32, 33, 34, 35, 36, 37, 38, 39, 40, 41, 42, 43, 44, 45, 46, 11, 47, 48, 49, 50, 51, 52, 53, 54, 55, 56, 57, 58, 59, 60, 61, 62, 63, 64, 65, 66, 67, 68, 69, 70, 71, 72, 73, 74, 75, 76, 77, 78, 79, 80, 81, 82, 83, 3, 4, 5, 7, 10, 12, 13, 14, 15, 84, 85, 86, 87, 2, 121, 122, 123, 124, 88, 89, 90, 91, 125, 126, 127, 128, 129, 130, 131, 132, 133, 134, 135, 136, 137, 138, 97, 139, 140, 141, 142, 143, 144, 96, 145, 146, 147, 102, 148, 149, 150, 115, 151, 152, 153, 154, 155, 156, 157, 158, 159, 160, 161, 162, 163, 164, 165, 166, 167, 168, 169, 170, 171, 172, 173, 174, 175, 176, 177, 178, 179, 180, 181, 182, 183, 184, 185, 186, 187, 188, 189, 190, 191, 192, 193, 194, 195, 196, 197, 198, 199, 200, 201, 202, 203, 204, 205, 206, 207, 208, 209, 317, 318, 319, 320, 321, 322, 323, 324, 325, 326, 327, 328, 329, 330, 331, 307, 308, 309, 310, 311, 312, 313, 314, 315, 316, 332, 333, 334, 335, 336, 337, 338, 339, 340, 341, 342, 343, 344, 345, 346, 347, 348, 349, 350, 351] (by decide +kernel) (by decide +kernel)
set_option maxRecDepth 20000 in
theorem gX5_read_X5_readSpan : GoodIn wsX5_read (wsV RX5 60 RX5 yX5_readSpan wsX5_readSpan) := goodIn_app (goodIn_of _ (by decide +kernel)) ggX5_read_X5_readSpan
set_option maxRecDepth 20000 in
theorem ggX5_read_X0_settle : GoodIn wsX5_read wsX0_settle := goodIn_r _ [213, 202, 214, 199, 201, 215, 203, 216, 217, 218, 219, 220, 221, 144, 222, 223, 224, 171, 225, 226, 227, 150, 228, 229, 230, 186, 168, 169, 170, 187, 231, 232, 233, 234, 188, 192, 126, 193, 134, 235, 236, 237, 238, 239, 240, 189, 190, 132, 133, 181, 182, 241, 242, 141, 243, 244, 245, 246, 247, 147, 248, 249, 250, 176, 179, 177, 251, 252, 253, 254, 255, 178, 256, 257, 258, 259, 260, 261, 262, 263, 264, 265, 266, 267, 268, 269, 270, 271, 272, 273, 274, 275, 276, 197, 277, 278, 279, 280, 281, 282, 283, 284, 285, 286, 287, 288, 289, 290, 291, 292, 293, 294, 295, 296, 297, 298, 299, 300, 301, 302, 303, 304, 305, 306, 317, 318, 319, 320, 321, 322, 323, 324, 325, 326, 327, 328, 329, 330, 331, 335, 336, 337, 338, 345, 346, 347, 348, 349, 350, 351, 332, 333, 334, 339, 340, 341, 342, 343, 344] (by decide +kernel) (by decide +kernel)
set_option maxRecDepth 20000 in
theorem gX5_read_X0_settle : GoodIn wsX5_read (wsV RX5 63 RX0 yX0_settle wsX0_settle) := goodIn_app (goodIn_of _ (by decide +kernel)) ggX5_read_X0_settle
set_option maxRecDepth 20000 in
theorem ggX5_read_X5_refuse : GoodIn wsX5_read wsX5_refuse := goodIn_r _ [87, 9, 2, 307, 308, 309, 310, 311, 312, 313, 314, 315, 316] (by decide +kernel) (by decide +kernel)
set_option maxRecDepth 20000 in
theorem gX5_read_X5_refuse : GoodIn wsX5_read (wsV RX5 68 RX5 yX5_refuse wsX5_refuse) := goodIn_app (goodIn_of _ (by decide +kernel)) ggX5_read_X5_refuse
theorem dX5_read_0 : decode cX5_read 0 = .ok (.aload_n 0, 1) := by decide +kernel
theorem dX5_read_1 : decode cX5_read 1 = .ok (.invokevirtual 49, 3) := by decide +kernel
theorem dX5_read_4 : decode cX5_read 4 = .ok (.aload_n 0, 1) := by decide +kernel
theorem dX5_read_5 : decode cX5_read 5 = .ok (.aload_n 1, 1) := by decide +kernel
theorem dX5_read_6 : decode cX5_read 6 = .ok (.invokevirtual 52, 3) := by decide +kernel
theorem dX5_read_9 : decode cX5_read 9 = .ok (.ifCond .eq 38, 3) := by decide +kernel
theorem dX5_read_12 : decode cX5_read 12 = .ok (.aload_n 0, 1) := by decide +kernel
theorem dX5_read_13 : decode cX5_read 13 = .ok (.invokevirtual 56, 3) := by decide +kernel
theorem dX5_read_16 : decode cX5_read 16 = .ok (.ifCond .eq 31, 3) := by decide +kernel
theorem dX5_read_19 : decode cX5_read 19 = .ok (.aload_n 0, 1) := by decide +kernel
theorem dX5_read_20 : decode cX5_read 20 = .ok (.aload_n 1, 1) := by decide +kernel
theorem dX5_read_21 : decode cX5_read 21 = .ok (.invokevirtual 60, 3) := by decide +kernel
theorem dX5_read_24 : decode cX5_read 24 = .ok (.ifCond .eq 23, 3) := by decide +kernel
theorem dX5_read_27 : decode cX5_read 27 = .ok (.aload_n 0, 1) := by decide +kernel
theorem dX5_read_28 : decode cX5_read 28 = .ok (.getfield 11, 3) := by decide +kernel
theorem dX5_read_31 : decode cX5_read 31 = .ok (.ifCond .ne 10, 3) := by decide +kernel
theorem dX5_read_34 : decode cX5_read 34 = .ok (.aload_n 1, 1) := by decide +kernel
theorem dX5_read_35 : decode cX5_read 35 = .ok (.invokevirtual 63, 3) := by decide +kernel
theorem dX5_read_38 : decode cX5_read 38 = .ok (.goto 9, 3) := by decide +kernel
theorem dX5_read_41 : decode cX5_read 41 = .ok (.aload_n 0, 1) := by decide +kernel
theorem dX5_read_42 : decode cX5_read 42 = .ok (.iconst 1, 1) := by decide +kernel
theorem dX5_read_43 : decode cX5_read 43 = .ok (.invokevirtual 68, 3) := by decide +kernel
theorem dX5_read_46 : decode cX5_read 46 = .ok (.pop, 1) := by decide +kernel
theorem dX5_read_47 : decode cX5_read 47 = .ok (.aload_n 0, 1) := by decide +kernel
theorem dX5_read_48 : decode cX5_read 48 = .ok (.getfield 21, 3) := by decide +kernel
theorem dX5_read_51 : decode cX5_read 51 = .ok (.ireturn, 1) := by decide +kernel
set_option maxRecDepth 20000 in
theorem ggX5_readPlace_X5_require : GoodIn wsX5_readPlace wsX5_require := goodIn_r _ [8, 9, 10, 11, 7, 12, 13, 14, 15, 16, 17, 18, 19, 20, 21, 22, 23, 24, 25, 26, 27, 28, 29, 30, 31, 32, 33, 34, 35, 36, 37, 38, 39, 40, 41, 42, 43, 44, 45, 46, 47, 48, 49, 50, 51, 52, 53, 54, 55, 56, 57, 58, 59, 60, 61, 62, 63, 64, 65, 66, 67, 68, 69, 70, 71, 72, 73, 74, 75, 76, 77, 78, 79, 80, 81, 82, 83, 103, 104, 105, 106, 107, 108, 109, 110, 111, 112] (by decide +kernel) (by decide +kernel)
set_option maxRecDepth 20000 in
theorem gX5_readPlace_X5_require : GoodIn wsX5_readPlace (wsV RX5 74 RX5 yX5_require wsX5_require) := goodIn_app (goodIn_of _ (by decide +kernel)) ggX5_readPlace_X5_require
set_option maxRecDepth 20000 in
theorem ggX5_readPlace_X5_takeNumber : GoodIn wsX5_readPlace wsX5_takeNumber := goodIn_r _ [87, 13, 14, 15, 32, 79, 80, 81, 7, 82, 83, 70, 71, 72, 73, 74, 75, 76, 77, 78, 103, 104, 105, 106, 107, 108, 109, 110, 111, 112] (by decide +kernel) (by decide +kernel)
set_option maxRecDepth 20000 in
theorem gX5_readPlace_X5_takeNumber : GoodIn wsX5_readPlace (wsV RX5 78 RX5 yX5_takeNumber wsX5_takeNumber) := goodIn_app (goodIn_of _ (by decide +kernel)) ggX5_readPlace_X5_takeNumber
theorem dX5_readPlace_0 : decode cX5_readPlace 0 = .ok (.aload_n 0, 1) := by decide +kernel
theorem dX5_readPlace_1 : decode cX5_readPlace 1 = .ok (.ldc 72, 2) := by decide +kernel
theorem dX5_readPlace_3 : decode cX5_readPlace 3 = .ok (.invokevirtual 74, 3) := by decide +kernel
theorem dX5_readPlace_6 : decode cX5_readPlace 6 = .ok (.ifCond .ne 5, 3) := by decide +kernel
theorem dX5_readPlace_9 : decode cX5_readPlace 9 = .ok (.iconst 0, 1) := by decide +kernel
theorem dX5_readPlace_10 : decode cX5_readPlace 10 = .ok (.ireturn, 1) := by decide +kernel
theorem dX5_readPlace_11 : decode cX5_readPlace 11 = .ok (.aload_n 1, 1) := by decide +kernel
theorem dX5_readPlace_12 : decode cX5_readPlace 12 = .ok (.aload_n 0, 1) := by decide +kernel
theorem dX5_readPlace_13 : decode cX5_readPlace 13 = .ok (.iconst 0, 1) := by decide +kernel
theorem dX5_readPlace_14 : decode cX5_readPlace 14 = .ok (.bipush 7, 2) := by decide +kernel
theorem dX5_readPlace_16 : decode cX5_readPlace 16 = .ok (.invokevirtual 78, 3) := by decide +kernel
theorem dX5_readPlace_19 : decode cX5_readPlace 19 = .ok (.putfield 81, 3) := by decide +kernel
theorem dX5_readPlace_22 : decode cX5_readPlace 22 = .ok (.aload_n 1, 1) := by decide +kernel
theorem dX5_readPlace_23 : decode cX5_readPlace 23 = .ok (.getfield 81, 3) := by decide +kernel
theorem dX5_readPlace_26 : decode cX5_readPlace 26 = .ok (.iconst (-1), 1) := by decide +kernel
theorem dX5_readPlace_27 : decode cX5_readPlace 27 = .ok (.if_icmp .eq 12, 3) := by decide +kernel
theorem dX5_readPlace_30 : decode cX5_readPlace 30 = .ok (.aload_n 0, 1) := by decide +kernel
theorem dX5_readPlace_31 : decode cX5_readPlace 31 = .ok (.ldc 84, 2) := by decide +kernel
theorem dX5_readPlace_33 : decode cX5_readPlace 33 = .ok (.invokevirtual 74, 3) := by decide +kernel
theorem dX5_readPlace_36 : decode cX5_readPlace 36 = .ok (.ifCond .ne 5, 3) := by decide +kernel
theorem dX5_readPlace_39 : decode cX5_readPlace 39 = .ok (.iconst 0, 1) := by decide +kernel
theorem dX5_readPlace_40 : decode cX5_readPlace 40 = .ok (.ireturn, 1) := by decide +kernel
theorem dX5_readPlace_41 : decode cX5_readPlace 41 = .ok (.aload_n 1, 1) := by decide +kernel
theorem dX5_readPlace_42 : decode cX5_readPlace 42 = .ok (.aload_n 0, 1) := by decide +kernel
theorem dX5_readPlace_43 : decode cX5_readPlace 43 = .ok (.iconst 0, 1) := by decide +kernel
theorem dX5_readPlace_44 : decode cX5_readPlace 44 = .ok (.sipush 1439, 3) := by decide +kernel
theorem dX5_readPlace_47 : decode cX5_readPlace 47 = .ok (.invokevirtual 78, 3) := by decide +kernel
theorem dX5_readPlace_50 : decode cX5_readPlace 50 = .ok (.putfield 86, 3) := by decide +kernel
theorem dX5_readPlace_53 : decode cX5_readPlace 53 = .ok (.aload_n 1, 1) := by decide +kernel
theorem dX5_readPlace_54 : decode cX5_readPlace 54 = .ok (.getfield 86, 3) := by decide +kernel
theorem dX5_readPlace_57 : decode cX5_readPlace 57 = .ok (.iconst (-1), 1) := by decide +kernel
theorem dX5_readPlace_58 : decode cX5_readPlace 58 = .ok (.if_icmp .eq 12, 3) := by decide +kernel
theorem dX5_readPlace_61 : decode cX5_readPlace 61 = .ok (.aload_n 0, 1) := by decide +kernel
theorem dX5_readPlace_62 : decode cX5_readPlace 62 = .ok (.ldc 89, 2) := by decide +kernel
theorem dX5_readPlace_64 : decode cX5_readPlace 64 = .ok (.invokevirtual 74, 3) := by decide +kernel
theorem dX5_readPlace_67 : decode cX5_readPlace 67 = .ok (.ifCond .ne 5, 3) := by decide +kernel
theorem dX5_readPlace_70 : decode cX5_readPlace 70 = .ok (.iconst 0, 1) := by decide +kernel
theorem dX5_readPlace_71 : decode cX5_readPlace 71 = .ok (.ireturn, 1) := by decide +kernel
theorem dX5_readPlace_72 : decode cX5_readPlace 72 = .ok (.aload_n 1, 1) := by decide +kernel
theorem dX5_readPlace_73 : decode cX5_readPlace 73 = .ok (.aload_n 0, 1) := by decide +kernel
theorem dX5_readPlace_74 : decode cX5_readPlace 74 = .ok (.iconst 1, 1) := by decide +kernel
theorem dX5_readPlace_75 : decode cX5_readPlace 75 = .ok (.sipush 4320, 3) := by decide +kernel
theorem dX5_readPlace_78 : decode cX5_readPlace 78 = .ok (.invokevirtual 78, 3) := by decide +kernel
theorem dX5_readPlace_81 : decode cX5_readPlace 81 = .ok (.putfield 91, 3) := by decide +kernel
theorem dX5_readPlace_84 : decode cX5_readPlace 84 = .ok (.aload_n 1, 1) := by decide +kernel
theorem dX5_readPlace_85 : decode cX5_readPlace 85 = .ok (.getfield 91, 3) := by decide +kernel
theorem dX5_readPlace_88 : decode cX5_readPlace 88 = .ok (.iconst (-1), 1) := by decide +kernel
theorem dX5_readPlace_89 : decode cX5_readPlace 89 = .ok (.if_icmp .eq 7, 3) := by decide +kernel
theorem dX5_readPlace_92 : decode cX5_readPlace 92 = .ok (.iconst 1, 1) := by decide +kernel
theorem dX5_readPlace_93 : decode cX5_readPlace 93 = .ok (.goto 4, 3) := by decide +kernel
theorem dX5_readPlace_96 : decode cX5_readPlace 96 = .ok (.iconst 0, 1) := by decide +kernel
theorem dX5_readPlace_97 : decode cX5_readPlace 97 = .ok (.ireturn, 1) := by decide +kernel
set_option maxRecDepth 20000 in
theorem ggX5_readRule_X5_take : GoodIn wsX5_readRule wsX5_take := goodIn_r _ [7, 8, 9, 10, 11, 12, 13, 14, 15, 16, 17, 18, 19, 20, 21, 22, 23, 24, 25, 6, 26, 27, 28, 29, 30, 31, 32, 33, 34, 35, 36, 37, 38, 39, 40, 41, 42, 43, 44, 45, 46, 47, 48, 49, 50, 51, 52, 53, 54, 55, 56, 57, 58, 59, 60, 61, 62, 63, 64, 65, 66, 67, 68, 69, 70, 71, 72, 73, 105, 106, 107, 108, 109, 110, 111, 112, 113, 114] (by decide +kernel) (by decide +kernel)
set_option maxRecDepth 20000 in
theorem gX5_readRule_X5_take : GoodIn wsX5_readRule (wsV RX5 94 RX5 yX5_take wsX5_take) := goodIn_app (goodIn_of _ (by decide +kernel)) ggX5_readRule_X5_take
set_option maxRecDepth 20000 in
theorem ggX5_readRule_X5_require : GoodIn wsX5_readRule wsX5_require := goodIn_r _ [77, 3, 4, 5, 6, 7, 8, 9, 10, 11, 12, 13, 14, 15, 16, 17, 18, 19, 20, 21, 22, 23, 24, 25, 26, 27, 28, 29, 30, 31, 32, 33, 34, 35, 36, 37, 38, 39, 40, 41, 42, 43, 44, 45, 46, 47, 48, 49, 50, 51, 52, 53, 54, 55, 56, 57, 58, 59, 60, 61, 62, 63, 64, 65, 66, 67, 68, 69, 70, 71, 72, 73, 78, 79, 80, 81, 82, 105, 106, 107, 108, 109, 110, 111, 112, 113, 114] (by decide +kernel) (by decide +kernel)
set_option maxRecDepth 20000 in
theorem gX5_readRule_X5_require : GoodIn wsX5_readRule (wsV RX5 74 RX5 yX5_require wsX5_require) := goodIn_app (goodIn_of _ (by decide +kernel)) ggX5_readRule_X5_require
set_option maxRecDepth 20000 in
theorem ggX5_readRule_X5_takeNumber : GoodIn wsX5_readRule wsX5_takeNumber := goodIn_r _ [86, 8, 9, 10, 27, 78, 79, 80, 6, 81, 82, 65, 66, 67, 68, 69, 70, 71, 72, 73, 105, 106, 107, 108, 109, 110, 111, 112, 113, 114] (by decide +kernel) (by decide +kernel)
set_option maxRecDepth 20000 in
theorem gX5_readRule_X5_takeNumber : GoodIn wsX5_readRule (wsV RX5 78 RX5 yX5_takeNumber wsX5_takeNumber) := goodIn_app (goodIn_of _ (by decide +kernel)) ggX5_readRule_X5_takeNumber
set_option maxRecDepth 20000 in
theorem ggX5_readRule_X5_readWeekdays : GoodIn wsX5_readRule wsX5_readWeekdays := goodIn_r _ [90, 91, 92, 93, 94, 6, 95, 8, 9, 10, 23, 24, 25, 26, 27, 11, 12, 13, 14, 15, 16, 17, 18, 19, 20, 21, 22, 28, 29, 30, 31, 32, 33, 34, 35, 36, 37, 38, 39, 40, 41, 42, 43, 44, 45, 46, 47, 48, 49, 50, 51, 52, 53, 54, 55, 56, 57, 58, 59, 60, 61, 62, 63, 64, 78, 79, 80, 81, 82, 65, 66, 67, 68, 69, 70, 71, 72, 73, 105, 106, 107, 108, 109, 110, 111, 112, 113, 114] (by decide +kernel) (by decide +kernel)
set_option maxRecDepth 20000 in
theorem gX5_readRule_X5_readWeekdays : GoodIn wsX5_readRule (wsV RX5 104 RX5 yX5_readWeekdays wsX5_readWeekdays) := goodIn_app (goodIn_of _ (by decide +kernel)) ggX5_readRule_X5_readWeekdays
set_option maxRecDepth 20000 in
theorem ggX5_readRule_X5_readMonths : GoodIn wsX5_readRule wsX5_readMonths := goodIn_r _ [99, 2, 91, 3, 4, 5, 6, 7, 8, 9, 10, 11, 12, 13, 14, 15, 16, 17, 18, 19, 20, 21, 22, 23, 24, 25, 26, 27, 28, 29, 30, 31, 32, 33, 34, 35, 36, 37, 38, 39, 40, 41, 42, 43, 44, 45, 46, 47, 48, 49, 50, 51, 52, 53, 54, 55, 56, 57, 58, 59, 60, 61, 62, 63, 64, 65, 66, 67, 68, 69, 70, 71, 72, 73, 83, 84, 85, 86, 78, 79, 80, 81, 82, 100, 101, 102, 103, 104, 92, 93, 94, 95, 74, 75, 76, 77, 105, 106, 107, 108, 109, 110, 111, 112, 113, 114] (by decide +kernel) (by decide +kernel)
set_option maxRecDepth 20000 in
theorem gX5_readRule_X5_readMonths : GoodIn wsX5_readRule (wsV RX5 109 RX5 yX5_readMonths wsX5_readMonths) := goodIn_app (goodIn_of _ (by decide +kernel)) ggX5_readRule_X5_readMonths
theorem dX5_readRule_0 : decode cX5_readRule 0 = .ok (.aload_n 0, 1) := by decide +kernel
theorem dX5_readRule_1 : decode cX5_readRule 1 = .ok (.ldc 92, 2) := by decide +kernel
theorem dX5_readRule_3 : decode cX5_readRule 3 = .ok (.invokevirtual 94, 3) := by decide +kernel
theorem dX5_readRule_6 : decode cX5_readRule 6 = .ok (.ifCond .eq 5, 3) := by decide +kernel
theorem dX5_readRule_9 : decode cX5_readRule 9 = .ok (.iconst 1, 1) := by decide +kernel
theorem dX5_readRule_10 : decode cX5_readRule 10 = .ok (.ireturn, 1) := by decide +kernel
theorem dX5_readRule_11 : decode cX5_readRule 11 = .ok (.aload_n 0, 1) := by decide +kernel
theorem dX5_readRule_12 : decode cX5_readRule 12 = .ok (.ldc 97, 2) := by decide +kernel
theorem dX5_readRule_14 : decode cX5_readRule 14 = .ok (.invokevirtual 74, 3) := by decide +kernel
theorem dX5_readRule_17 : decode cX5_readRule 17 = .ok (.ifCond .ne 5, 3) := by decide +kernel
theorem dX5_readRule_20 : decode cX5_readRule 20 = .ok (.iconst 0, 1) := by decide +kernel
theorem dX5_readRule_21 : decode cX5_readRule 21 = .ok (.ireturn, 1) := by decide +kernel
theorem dX5_readRule_22 : decode cX5_readRule 22 = .ok (.aload_n 0, 1) := by decide +kernel
theorem dX5_readRule_23 : decode cX5_readRule 23 = .ok (.aload_n 0, 1) := by decide +kernel
theorem dX5_readRule_24 : decode cX5_readRule 24 = .ok (.iconst 1, 1) := by decide +kernel
theorem dX5_readRule_25 : decode cX5_readRule 25 = .ok (.sipush 999, 3) := by decide +kernel
theorem dX5_readRule_28 : decode cX5_readRule 28 = .ok (.invokevirtual 78, 3) := by decide +kernel
theorem dX5_readRule_31 : decode cX5_readRule 31 = .ok (.putfield 27, 3) := by decide +kernel
theorem dX5_readRule_34 : decode cX5_readRule 34 = .ok (.aload_n 0, 1) := by decide +kernel
theorem dX5_readRule_35 : decode cX5_readRule 35 = .ok (.getfield 27, 3) := by decide +kernel
theorem dX5_readRule_38 : decode cX5_readRule 38 = .ok (.iconst (-1), 1) := by decide +kernel
theorem dX5_readRule_39 : decode cX5_readRule 39 = .ok (.if_icmp .ne 5, 3) := by decide +kernel
theorem dX5_readRule_42 : decode cX5_readRule 42 = .ok (.iconst 0, 1) := by decide +kernel
theorem dX5_readRule_43 : decode cX5_readRule 43 = .ok (.ireturn, 1) := by decide +kernel
theorem dX5_readRule_44 : decode cX5_readRule 44 = .ok (.aload_n 0, 1) := by decide +kernel
theorem dX5_readRule_45 : decode cX5_readRule 45 = .ok (.ldc 98, 2) := by decide +kernel
theorem dX5_readRule_47 : decode cX5_readRule 47 = .ok (.invokevirtual 94, 3) := by decide +kernel
theorem dX5_readRule_50 : decode cX5_readRule 50 = .ok (.ifCond .eq 10, 3) := by decide +kernel
theorem dX5_readRule_53 : decode cX5_readRule 53 = .ok (.aload_n 0, 1) := by decide +kernel
theorem dX5_readRule_54 : decode cX5_readRule 54 = .ok (.iconst 1, 1) := by decide +kernel
theorem dX5_readRule_55 : decode cX5_readRule 55 = .ok (.putfield 24, 3) := by decide +kernel
theorem dX5_readRule_58 : decode cX5_readRule 58 = .ok (.iconst 1, 1) := by decide +kernel
theorem dX5_readRule_59 : decode cX5_readRule 59 = .ok (.ireturn, 1) := by decide +kernel
theorem dX5_readRule_60 : decode cX5_readRule 60 = .ok (.aload_n 0, 1) := by decide +kernel
theorem dX5_readRule_61 : decode cX5_readRule 61 = .ok (.ldc 100, 2) := by decide +kernel
theorem dX5_readRule_63 : decode cX5_readRule 63 = .ok (.invokevirtual 94, 3) := by decide +kernel
theorem dX5_readRule_66 : decode cX5_readRule 66 = .ok (.ifCond .eq 11, 3) := by decide +kernel
theorem dX5_readRule_69 : decode cX5_readRule 69 = .ok (.aload_n 0, 1) := by decide +kernel
theorem dX5_readRule_70 : decode cX5_readRule 70 = .ok (.bipush 7, 2) := by decide +kernel
theorem dX5_readRule_72 : decode cX5_readRule 72 = .ok (.putfield 24, 3) := by decide +kernel
theorem dX5_readRule_75 : decode cX5_readRule 75 = .ok (.iconst 1, 1) := by decide +kernel
theorem dX5_readRule_76 : decode cX5_readRule 76 = .ok (.ireturn, 1) := by decide +kernel
theorem dX5_readRule_77 : decode cX5_readRule 77 = .ok (.aload_n 0, 1) := by decide +kernel
theorem dX5_readRule_78 : decode cX5_readRule 78 = .ok (.ldc 102, 2) := by decide +kernel
theorem dX5_readRule_80 : decode cX5_readRule 80 = .ok (.invokevirtual 94, 3) := by decide +kernel
theorem dX5_readRule_83 : decode cX5_readRule 83 = .ok (.ifCond .eq 13, 3) := by decide +kernel
theorem dX5_readRule_86 : decode cX5_readRule 86 = .ok (.aload_n 0, 1) := by decide +kernel
theorem dX5_readRule_87 : decode cX5_readRule 87 = .ok (.iconst 2, 1) := by decide +kernel
theorem dX5_readRule_88 : decode cX5_readRule 88 = .ok (.putfield 24, 3) := by decide +kernel
theorem dX5_readRule_91 : decode cX5_readRule 91 = .ok (.aload_n 0, 1) := by decide +kernel
theorem dX5_readRule_92 : decode cX5_readRule 92 = .ok (.invokevirtual 104, 3) := by decide +kernel
theorem dX5_readRule_95 : decode cX5_readRule 95 = .ok (.ireturn, 1) := by decide +kernel
theorem dX5_readRule_96 : decode cX5_readRule 96 = .ok (.aload_n 0, 1) := by decide +kernel
theorem dX5_readRule_97 : decode cX5_readRule 97 = .ok (.ldc 107, 2) := by decide +kernel
theorem dX5_readRule_99 : decode cX5_readRule 99 = .ok (.invokevirtual 74, 3) := by decide +kernel
theorem dX5_readRule_102 : decode cX5_readRule 102 = .ok (.ifCond .eq 14, 3) := by decide +kernel
theorem dX5_readRule_105 : decode cX5_readRule 105 = .ok (.aload_n 0, 1) := by decide +kernel
theorem dX5_readRule_106 : decode cX5_readRule 106 = .ok (.invokevirtual 109, 3) := by decide +kernel
theorem dX5_readRule_109 : decode cX5_readRule 109 = .ok (.ifCond .eq 7, 3) := by decide +kernel
theorem dX5_readRule_112 : decode cX5_readRule 112 = .ok (.iconst 1, 1) := by decide +kernel
theorem dX5_readRule_113 : decode cX5_readRule 113 = .ok (.goto 4, 3) := by decide +kernel
theorem dX5_readRule_116 : decode cX5_readRule 116 = .ok (.iconst 0, 1) := by decide +kernel
theorem dX5_readRule_117 : decode cX5_readRule 117 = .ok (.ireturn, 1) := by decide +kernel
set_option maxRecDepth 20000 in
theorem ggX5_readWeekdays_X5_weekdayHere : GoodIn wsX5_readWeekdays wsX5_weekdayHere := goodIn_r _ [6, 7, 8, 9, 10, 11, 12, 5, 13, 14, 15, 16, 17, 18, 19, 20, 21, 22, 23, 24, 25, 26, 27, 28, 29, 30, 31, 32, 33, 34, 35, 36, 37, 38, 39, 40, 41, 42, 43, 44, 45, 46, 47, 48, 49, 50, 51, 52, 53, 54, 55, 56, 57, 58, 59, 60, 61, 62, 63, 78, 79, 80, 81, 82, 83, 84, 85, 86, 87] (by decide +kernel) (by decide +kernel)
set_option maxRecDepth 20000 in
theorem gX5_readWeekdays_X5_weekdayHere : GoodIn wsX5_readWeekdays (wsV RX5 112 RX5 yX5_weekdayHere wsX5_weekdayHere) := goodIn_app (goodIn_of _ (by decide +kernel)) ggX5_readWeekdays_X5_weekdayHere
set_option maxRecDepth 20000 in
theorem ggX5_readWeekdays_X5_refuse : GoodIn wsX5_readWeekdays wsX5_refuse := goodIn_r _ [67, 9, 68, 78, 79, 80, 81, 82, 83, 84, 85, 86, 87] (by decide +kernel) (by decide +kernel)
set_option maxRecDepth 20000 in
theorem gX5_readWeekdays_X5_refuse : GoodIn wsX5_readWeekdays (wsV RX5 68 RX5 yX5_refuse wsX5_refuse) := goodIn_app (goodIn_of _ (by decide +kernel)) ggX5_readWeekdays_X5_refuse
set_option maxRecDepth 20000 in
theorem ggX5_readWeekdays_X5_step : GoodIn wsX5_readWeekdays wsX5_step := goodIn_r _ [72, 8, 9, 73, 14, 7, 74, 75, 76, 5, 77, 78, 79, 80, 81, 82, 83, 84, 85, 86, 87] (by decide +kernel) (by decide +kernel)
set_option maxRecDepth 20000 in
theorem gX5_readWeekdays_X5_step : GoodIn wsX5_readWeekdays (wsV RX5 49 RX5 yX5_step wsX5_step) := goodIn_app (goodIn_of _ (by decide +kernel)) ggX5_readWeekdays_X5_step
theorem dX5_readWeekdays_0 : decode cX5_readWeekdays 0 = .ok (.iconst 0, 1) := by decide +kernel
theorem dX5_readWeekdays_1 : decode cX5_readWeekdays 1 = .ok (.istore_n 1, 1) := by decide +kernel
theorem dX5_readWeekdays_2 : decode cX5_readWeekdays 2 = .ok (.iload_n 1, 1) := by decide +kernel
theorem dX5_readWeekdays_3 : decode cX5_readWeekdays 3 = .ok (.bipush 8, 2) := by decide +kernel
theorem dX5_readWeekdays_5 : decode cX5_readWeekdays 5 = .ok (.if_icmp .ge 53, 3) := by decide +kernel
theorem dX5_readWeekdays_8 : decode cX5_readWeekdays 8 = .ok (.aload_n 0, 1) := by decide +kernel
theorem dX5_readWeekdays_9 : decode cX5_readWeekdays 9 = .ok (.invokevirtual 112, 3) := by decide +kernel
theorem dX5_readWeekdays_12 : decode cX5_readWeekdays 12 = .ok (.iconst (-1), 1) := by decide +kernel
theorem dX5_readWeekdays_13 : decode cX5_readWeekdays 13 = .ok (.if_icmp .eq 45, 3) := by decide +kernel
theorem dX5_readWeekdays_16 : decode cX5_readWeekdays 16 = .ok (.iconst 1, 1) := by decide +kernel
theorem dX5_readWeekdays_17 : decode cX5_readWeekdays 17 = .ok (.aload_n 0, 1) := by decide +kernel
theorem dX5_readWeekdays_18 : decode cX5_readWeekdays 18 = .ok (.invokevirtual 112, 3) := by decide +kernel
theorem dX5_readWeekdays_21 : decode cX5_readWeekdays 21 = .ok (.ishl, 1) := by decide +kernel
theorem dX5_readWeekdays_22 : decode cX5_readWeekdays 22 = .ok (.istore_n 2, 1) := by decide +kernel
theorem dX5_readWeekdays_23 : decode cX5_readWeekdays 23 = .ok (.aload_n 0, 1) := by decide +kernel
theorem dX5_readWeekdays_24 : decode cX5_readWeekdays 24 = .ok (.getfield 30, 3) := by decide +kernel
theorem dX5_readWeekdays_27 : decode cX5_readWeekdays 27 = .ok (.iload_n 2, 1) := by decide +kernel
theorem dX5_readWeekdays_28 : decode cX5_readWeekdays 28 = .ok (.iand, 1) := by decide +kernel
theorem dX5_readWeekdays_29 : decode cX5_readWeekdays 29 = .ok (.ifCond .eq 9, 3) := by decide +kernel
theorem dX5_readWeekdays_32 : decode cX5_readWeekdays 32 = .ok (.aload_n 0, 1) := by decide +kernel
theorem dX5_readWeekdays_33 : decode cX5_readWeekdays 33 = .ok (.iconst 2, 1) := by decide +kernel
theorem dX5_readWeekdays_34 : decode cX5_readWeekdays 34 = .ok (.invokevirtual 68, 3) := by decide +kernel
theorem dX5_readWeekdays_37 : decode cX5_readWeekdays 37 = .ok (.ireturn, 1) := by decide +kernel
theorem dX5_readWeekdays_38 : decode cX5_readWeekdays 38 = .ok (.aload_n 0, 1) := by decide +kernel
theorem dX5_readWeekdays_39 : decode cX5_readWeekdays 39 = .ok (.dup, 1) := by decide +kernel
theorem dX5_readWeekdays_40 : decode cX5_readWeekdays 40 = .ok (.getfield 30, 3) := by decide +kernel
theorem dX5_readWeekdays_43 : decode cX5_readWeekdays 43 = .ok (.iload_n 2, 1) := by decide +kernel
theorem dX5_readWeekdays_44 : decode cX5_readWeekdays 44 = .ok (.ior, 1) := by decide +kernel
theorem dX5_readWeekdays_45 : decode cX5_readWeekdays 45 = .ok (.putfield 30, 3) := by decide +kernel
theorem dX5_readWeekdays_48 : decode cX5_readWeekdays 48 = .ok (.aload_n 0, 1) := by decide +kernel
theorem dX5_readWeekdays_49 : decode cX5_readWeekdays 49 = .ok (.invokevirtual 49, 3) := by decide +kernel
theorem dX5_readWeekdays_52 : decode cX5_readWeekdays 52 = .ok (.iinc 1 1, 3) := by decide +kernel
theorem dX5_readWeekdays_55 : decode cX5_readWeekdays 55 = .ok (.goto (-53), 3) := by decide +kernel
theorem dX5_readWeekdays_58 : decode cX5_readWeekdays 58 = .ok (.aload_n 0, 1) := by decide +kernel
theorem dX5_readWeekdays_59 : decode cX5_readWeekdays 59 = .ok (.getfield 30, 3) := by decide +kernel
theorem dX5_readWeekdays_62 : decode cX5_readWeekdays 62 = .ok (.ifCond .ne 11, 3) := by decide +kernel
theorem dX5_readWeekdays_65 : decode cX5_readWeekdays 65 = .ok (.aload_n 0, 1) := by decide +kernel
theorem dX5_readWeekdays_66 : decode cX5_readWeekdays 66 = .ok (.iconst 1, 1) := by decide +kernel
theorem dX5_readWeekdays_67 : decode cX5_readWeekdays 67 = .ok (.invokevirtual 68, 3) := by decide +kernel
theorem dX5_readWeekdays_70 : decode cX5_readWeekdays 70 = .ok (.ifCond .eq 7, 3) := by decide +kernel
theorem dX5_readWeekdays_73 : decode cX5_readWeekdays 73 = .ok (.iconst 1, 1) := by decide +kernel
theorem dX5_readWeekdays_74 : decode cX5_readWeekdays 74 = .ok (.goto 4, 3) := by decide +kernel
theorem dX5_readWeekdays_77 : decode cX5_readWeekdays 77 = .ok (.iconst 0, 1) := by decide +kernel
theorem dX5_readWeekdays_78 : decode cX5_readWeekdays 78 = .ok (.ireturn, 1) := by decide +kernel
set_option maxRecDepth 20000 in
theorem ggX5_readMonths_X5_take : GoodIn wsX5_readMonths wsX5_take := goodIn_r _ [7, 8, 9, 10, 11, 12, 13, 14, 15, 16, 17, 18, 19, 20, 21, 22, 23, 24, 25, 6, 26, 27, 28, 29, 30, 31, 32, 33, 34, 35, 36, 37, 38, 39, 40, 41, 42, 43, 44, 45, 46, 47, 48, 49, 50, 51, 52, 53, 54, 55, 56, 57, 58, 59, 60, 61, 62, 63, 64, 65, 66, 67, 68, 69, 70, 71, 72, 73, 96, 97, 98, 99, 100, 101, 102, 103, 104, 105] (by decide +kernel) (by decide +kernel)
set_option maxRecDepth 20000 in
theorem gX5_readMonths_X5_take : GoodIn wsX5_readMonths (wsV RX5 94 RX5 yX5_take wsX5_take) := goodIn_app (goodIn_of _ (by decide +kernel)) ggX5_readMonths_X5_take
set_option maxRecDepth 20000 in
theorem ggX5_readMonths_X5_takeNumber : GoodIn wsX5_readMonths wsX5_takeNumber := goodIn_r _ [77, 8, 9, 10, 27, 78, 79, 80, 6, 81, 82, 65, 66, 67, 68, 69, 70, 71, 72, 73, 96, 97, 98, 99, 100, 101, 102, 103, 104, 105] (by decide +kernel) (by decide +kernel)
set_option maxRecDepth 20000 in
theorem gX5_readMonths_X5_takeNumber : GoodIn wsX5_readMonths (wsV RX5 78 RX5 yX5_takeNumber wsX5_takeNumber) := goodIn_app (goodIn_of _ (by decide +kernel)) ggX5_readMonths_X5_takeNumber
set_option maxRecDepth 20000 in
theorem ggX5_readMonths_X5_readWeekday : GoodIn wsX5_readMonths wsX5_readWeekday := goodIn_r _ [86, 87, 88, 89, 90, 6, 91, 8, 9, 10, 23, 24, 25, 26, 27, 11, 12, 13, 14, 15, 16, 17, 18, 19, 20, 21, 22, 28, 29, 30, 31, 32, 33, 34, 35, 36, 37, 38, 39, 40, 41, 42, 43, 44, 45, 46, 47, 48, 49, 50, 51, 52, 53, 54, 55, 56, 57, 58, 59, 60, 61, 62, 63, 64, 78, 79, 80, 81, 82, 65, 66, 67, 68, 69, 70, 71, 72, 73, 96, 97, 98, 99, 100, 101, 102, 103, 104, 105] (by decide +kernel) (by decide +kernel)
set_option maxRecDepth 20000 in
theorem gX5_readMonths_X5_readWeekday : GoodIn wsX5_readMonths (wsV RX5 122 RX5 yX5_readWeekday wsX5_readWeekday) := goodIn_app (goodIn_of _ (by decide +kernel)) ggX5_readMonths_X5_readWeekday
set_option maxRecDepth 20000 in
theorem ggX5_readMonths_X5_require : GoodIn wsX5_readMonths wsX5_require := goodIn_r _ [95, 3, 4, 5, 6, 7, 8, 9, 10, 11, 12, 13, 14, 15, 16, 17, 18, 19, 20, 21, 22, 23, 24, 25, 26, 27, 28, 29, 30, 31, 32, 33, 34, 35, 36, 37, 38, 39, 40, 41, 42, 43, 44, 45, 46, 47, 48, 49, 50, 51, 52, 53, 54, 55, 56, 57, 58, 59, 60, 61, 62, 63, 64, 65, 66, 67, 68, 69, 70, 71, 72, 73, 78, 79, 80, 81, 82, 96, 97, 98, 99, 100, 101, 102, 103, 104, 105] (by decide +kernel) (by decide +kernel)
set_option maxRecDepth 20000 in
theorem gX5_readMonths_X5_require : GoodIn wsX5_readMonths (wsV RX5 74 RX5 yX5_require wsX5_require) := goodIn_app (goodIn_of _ (by decide +kernel)) ggX5_readMonths_X5_require
theorem dX5_readMonths_0 : decode cX5_readMonths 0 = .ok (.aload_n 0, 1) := by decide +kernel
theorem dX5_readMonths_1 : decode cX5_readMonths 1 = .ok (.ldc 116, 2) := by decide +kernel
theorem dX5_readMonths_3 : decode cX5_readMonths 3 = .ok (.invokevirtual 94, 3) := by decide +kernel
theorem dX5_readMonths_6 : decode cX5_readMonths 6 = .ok (.ifCond .eq 33, 3) := by decide +kernel
theorem dX5_readMonths_9 : decode cX5_readMonths 9 = .ok (.aload_n 0, 1) := by decide +kernel
theorem dX5_readMonths_10 : decode cX5_readMonths 10 = .ok (.iconst 3, 1) := by decide +kernel
theorem dX5_readMonths_11 : decode cX5_readMonths 11 = .ok (.putfield 24, 3) := by decide +kernel
theorem dX5_readMonths_14 : decode cX5_readMonths 14 = .ok (.aload_n 0, 1) := by decide +kernel
theorem dX5_readMonths_15 : decode cX5_readMonths 15 = .ok (.aload_n 0, 1) := by decide +kernel
theorem dX5_readMonths_16 : decode cX5_readMonths 16 = .ok (.iconst 1, 1) := by decide +kernel
theorem dX5_readMonths_17 : decode cX5_readMonths 17 = .ok (.bipush 31, 2) := by decide +kernel
theorem dX5_readMonths_19 : decode cX5_readMonths 19 = .ok (.invokevirtual 78, 3) := by decide +kernel
theorem dX5_readMonths_22 : decode cX5_readMonths 22 = .ok (.putfield 30, 3) := by decide +kernel
