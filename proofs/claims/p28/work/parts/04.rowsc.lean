theorem dX5_readMonths_25 : decode cX5_readMonths 25 = .ok (.aload_n 0, 1) := by decide +kernel
theorem dX5_readMonths_26 : decode cX5_readMonths 26 = .ok (.getfield 30, 3) := by decide +kernel
theorem dX5_readMonths_29 : decode cX5_readMonths 29 = .ok (.iconst (-1), 1) := by decide +kernel
theorem dX5_readMonths_30 : decode cX5_readMonths 30 = .ok (.if_icmp .eq 7, 3) := by decide +kernel
theorem dX5_readMonths_33 : decode cX5_readMonths 33 = .ok (.iconst 1, 1) := by decide +kernel
theorem dX5_readMonths_34 : decode cX5_readMonths 34 = .ok (.goto 4, 3) := by decide +kernel
theorem dX5_readMonths_37 : decode cX5_readMonths 37 = .ok (.iconst 0, 1) := by decide +kernel
theorem dX5_readMonths_38 : decode cX5_readMonths 38 = .ok (.ireturn, 1) := by decide +kernel
theorem dX5_readMonths_39 : decode cX5_readMonths 39 = .ok (.aload_n 0, 1) := by decide +kernel
theorem dX5_readMonths_40 : decode cX5_readMonths 40 = .ok (.ldc 118, 2) := by decide +kernel
theorem dX5_readMonths_42 : decode cX5_readMonths 42 = .ok (.invokevirtual 94, 3) := by decide +kernel
theorem dX5_readMonths_45 : decode cX5_readMonths 45 = .ok (.ifCond .eq 33, 3) := by decide +kernel
theorem dX5_readMonths_48 : decode cX5_readMonths 48 = .ok (.aload_n 0, 1) := by decide +kernel
theorem dX5_readMonths_49 : decode cX5_readMonths 49 = .ok (.iconst 4, 1) := by decide +kernel
theorem dX5_readMonths_50 : decode cX5_readMonths 50 = .ok (.putfield 24, 3) := by decide +kernel
theorem dX5_readMonths_53 : decode cX5_readMonths 53 = .ok (.aload_n 0, 1) := by decide +kernel
theorem dX5_readMonths_54 : decode cX5_readMonths 54 = .ok (.aload_n 0, 1) := by decide +kernel
theorem dX5_readMonths_55 : decode cX5_readMonths 55 = .ok (.iconst 1, 1) := by decide +kernel
theorem dX5_readMonths_56 : decode cX5_readMonths 56 = .ok (.bipush 28, 2) := by decide +kernel
theorem dX5_readMonths_58 : decode cX5_readMonths 58 = .ok (.invokevirtual 78, 3) := by decide +kernel
theorem dX5_readMonths_61 : decode cX5_readMonths 61 = .ok (.putfield 30, 3) := by decide +kernel
theorem dX5_readMonths_64 : decode cX5_readMonths 64 = .ok (.aload_n 0, 1) := by decide +kernel
theorem dX5_readMonths_65 : decode cX5_readMonths 65 = .ok (.getfield 30, 3) := by decide +kernel
theorem dX5_readMonths_68 : decode cX5_readMonths 68 = .ok (.iconst (-1), 1) := by decide +kernel
theorem dX5_readMonths_69 : decode cX5_readMonths 69 = .ok (.if_icmp .eq 7, 3) := by decide +kernel
theorem dX5_readMonths_72 : decode cX5_readMonths 72 = .ok (.iconst 1, 1) := by decide +kernel
theorem dX5_readMonths_73 : decode cX5_readMonths 73 = .ok (.goto 4, 3) := by decide +kernel
theorem dX5_readMonths_76 : decode cX5_readMonths 76 = .ok (.iconst 0, 1) := by decide +kernel
theorem dX5_readMonths_77 : decode cX5_readMonths 77 = .ok (.ireturn, 1) := by decide +kernel
theorem dX5_readMonths_78 : decode cX5_readMonths 78 = .ok (.aload_n 0, 1) := by decide +kernel
theorem dX5_readMonths_79 : decode cX5_readMonths 79 = .ok (.ldc 120, 2) := by decide +kernel
theorem dX5_readMonths_81 : decode cX5_readMonths 81 = .ok (.invokevirtual 94, 3) := by decide +kernel
theorem dX5_readMonths_84 : decode cX5_readMonths 84 = .ok (.ifCond .eq 39, 3) := by decide +kernel
theorem dX5_readMonths_87 : decode cX5_readMonths 87 = .ok (.aload_n 0, 1) := by decide +kernel
theorem dX5_readMonths_88 : decode cX5_readMonths 88 = .ok (.iconst 5, 1) := by decide +kernel
theorem dX5_readMonths_89 : decode cX5_readMonths 89 = .ok (.putfield 24, 3) := by decide +kernel
theorem dX5_readMonths_92 : decode cX5_readMonths 92 = .ok (.aload_n 0, 1) := by decide +kernel
theorem dX5_readMonths_93 : decode cX5_readMonths 93 = .ok (.aload_n 0, 1) := by decide +kernel
theorem dX5_readMonths_94 : decode cX5_readMonths 94 = .ok (.iconst 1, 1) := by decide +kernel
theorem dX5_readMonths_95 : decode cX5_readMonths 95 = .ok (.iconst 5, 1) := by decide +kernel
theorem dX5_readMonths_96 : decode cX5_readMonths 96 = .ok (.invokevirtual 78, 3) := by decide +kernel
theorem dX5_readMonths_99 : decode cX5_readMonths 99 = .ok (.putfield 30, 3) := by decide +kernel
theorem dX5_readMonths_102 : decode cX5_readMonths 102 = .ok (.aload_n 0, 1) := by decide +kernel
theorem dX5_readMonths_103 : decode cX5_readMonths 103 = .ok (.getfield 30, 3) := by decide +kernel
theorem dX5_readMonths_106 : decode cX5_readMonths 106 = .ok (.iconst (-1), 1) := by decide +kernel
theorem dX5_readMonths_107 : decode cX5_readMonths 107 = .ok (.if_icmp .eq 14, 3) := by decide +kernel
theorem dX5_readMonths_110 : decode cX5_readMonths 110 = .ok (.aload_n 0, 1) := by decide +kernel
theorem dX5_readMonths_111 : decode cX5_readMonths 111 = .ok (.invokevirtual 122, 3) := by decide +kernel
theorem dX5_readMonths_114 : decode cX5_readMonths 114 = .ok (.ifCond .eq 7, 3) := by decide +kernel
theorem dX5_readMonths_117 : decode cX5_readMonths 117 = .ok (.iconst 1, 1) := by decide +kernel
theorem dX5_readMonths_118 : decode cX5_readMonths 118 = .ok (.goto 4, 3) := by decide +kernel
theorem dX5_readMonths_121 : decode cX5_readMonths 121 = .ok (.iconst 0, 1) := by decide +kernel
theorem dX5_readMonths_122 : decode cX5_readMonths 122 = .ok (.ireturn, 1) := by decide +kernel
theorem dX5_readMonths_123 : decode cX5_readMonths 123 = .ok (.aload_n 0, 1) := by decide +kernel
theorem dX5_readMonths_124 : decode cX5_readMonths 124 = .ok (.bipush 6, 2) := by decide +kernel
theorem dX5_readMonths_126 : decode cX5_readMonths 126 = .ok (.putfield 24, 3) := by decide +kernel
theorem dX5_readMonths_129 : decode cX5_readMonths 129 = .ok (.aload_n 0, 1) := by decide +kernel
theorem dX5_readMonths_130 : decode cX5_readMonths 130 = .ok (.ldc 125, 2) := by decide +kernel
theorem dX5_readMonths_132 : decode cX5_readMonths 132 = .ok (.invokevirtual 74, 3) := by decide +kernel
theorem dX5_readMonths_135 : decode cX5_readMonths 135 = .ok (.ifCond .eq 14, 3) := by decide +kernel
theorem dX5_readMonths_138 : decode cX5_readMonths 138 = .ok (.aload_n 0, 1) := by decide +kernel
theorem dX5_readMonths_139 : decode cX5_readMonths 139 = .ok (.invokevirtual 122, 3) := by decide +kernel
theorem dX5_readMonths_142 : decode cX5_readMonths 142 = .ok (.ifCond .eq 7, 3) := by decide +kernel
theorem dX5_readMonths_145 : decode cX5_readMonths 145 = .ok (.iconst 1, 1) := by decide +kernel
theorem dX5_readMonths_146 : decode cX5_readMonths 146 = .ok (.goto 4, 3) := by decide +kernel
theorem dX5_readMonths_149 : decode cX5_readMonths 149 = .ok (.iconst 0, 1) := by decide +kernel
theorem dX5_readMonths_150 : decode cX5_readMonths 150 = .ok (.ireturn, 1) := by decide +kernel
set_option maxRecDepth 20000 in
theorem ggX5_readWeekday_X5_weekdayHere : GoodIn wsX5_readWeekday wsX5_weekdayHere := goodIn_r _ [6, 7, 8, 9, 10, 11, 12, 5, 13, 14, 15, 16, 17, 18, 19, 20, 21, 22, 23, 24, 25, 26, 27, 28, 29, 30, 31, 32, 33, 34, 35, 36, 37, 38, 39, 40, 41, 42, 43, 44, 45, 46, 47, 48, 49, 50, 51, 52, 53, 54, 55, 56, 57, 58, 59, 60, 61, 62, 63, 78, 79, 80, 81, 82, 83, 84, 85, 86, 87] (by decide +kernel) (by decide +kernel)
set_option maxRecDepth 20000 in
theorem gX5_readWeekday_X5_weekdayHere : GoodIn wsX5_readWeekday (wsV RX5 112 RX5 yX5_weekdayHere wsX5_weekdayHere) := goodIn_app (goodIn_of _ (by decide +kernel)) ggX5_readWeekday_X5_weekdayHere
set_option maxRecDepth 20000 in
theorem ggX5_readWeekday_X5_refuse : GoodIn wsX5_readWeekday wsX5_refuse := goodIn_r _ [67, 9, 68, 78, 79, 80, 81, 82, 83, 84, 85, 86, 87] (by decide +kernel) (by decide +kernel)
set_option maxRecDepth 20000 in
theorem gX5_readWeekday_X5_refuse : GoodIn wsX5_readWeekday (wsV RX5 68 RX5 yX5_refuse wsX5_refuse) := goodIn_app (goodIn_of _ (by decide +kernel)) ggX5_readWeekday_X5_refuse
set_option maxRecDepth 20000 in
theorem ggX5_readWeekday_X5_step : GoodIn wsX5_readWeekday wsX5_step := goodIn_r _ [72, 8, 9, 73, 14, 7, 74, 75, 76, 5, 77, 78, 79, 80, 81, 82, 83, 84, 85, 86, 87] (by decide +kernel) (by decide +kernel)
set_option maxRecDepth 20000 in
theorem gX5_readWeekday_X5_step : GoodIn wsX5_readWeekday (wsV RX5 49 RX5 yX5_step wsX5_step) := goodIn_app (goodIn_of _ (by decide +kernel)) ggX5_readWeekday_X5_step
theorem dX5_readWeekday_0 : decode cX5_readWeekday 0 = .ok (.aload_n 0, 1) := by decide +kernel
theorem dX5_readWeekday_1 : decode cX5_readWeekday 1 = .ok (.aload_n 0, 1) := by decide +kernel
theorem dX5_readWeekday_2 : decode cX5_readWeekday 2 = .ok (.invokevirtual 112, 3) := by decide +kernel
theorem dX5_readWeekday_5 : decode cX5_readWeekday 5 = .ok (.putfield 33, 3) := by decide +kernel
theorem dX5_readWeekday_8 : decode cX5_readWeekday 8 = .ok (.aload_n 0, 1) := by decide +kernel
theorem dX5_readWeekday_9 : decode cX5_readWeekday 9 = .ok (.getfield 33, 3) := by decide +kernel
theorem dX5_readWeekday_12 : decode cX5_readWeekday 12 = .ok (.iconst (-1), 1) := by decide +kernel
theorem dX5_readWeekday_13 : decode cX5_readWeekday 13 = .ok (.if_icmp .ne 9, 3) := by decide +kernel
theorem dX5_readWeekday_16 : decode cX5_readWeekday 16 = .ok (.aload_n 0, 1) := by decide +kernel
theorem dX5_readWeekday_17 : decode cX5_readWeekday 17 = .ok (.iconst 1, 1) := by decide +kernel
theorem dX5_readWeekday_18 : decode cX5_readWeekday 18 = .ok (.invokevirtual 68, 3) := by decide +kernel
theorem dX5_readWeekday_21 : decode cX5_readWeekday 21 = .ok (.ireturn, 1) := by decide +kernel
theorem dX5_readWeekday_22 : decode cX5_readWeekday 22 = .ok (.aload_n 0, 1) := by decide +kernel
theorem dX5_readWeekday_23 : decode cX5_readWeekday 23 = .ok (.invokevirtual 49, 3) := by decide +kernel
theorem dX5_readWeekday_26 : decode cX5_readWeekday 26 = .ok (.iconst 1, 1) := by decide +kernel
theorem dX5_readWeekday_27 : decode cX5_readWeekday 27 = .ok (.ireturn, 1) := by decide +kernel
set_option maxRecDepth 20000 in
theorem ggX5_readSpan_X5_require : GoodIn wsX5_readSpan wsX5_require := goodIn_r _ [6, 7, 8, 9, 5, 10, 11, 12, 13, 14, 15, 16, 17, 18, 19, 20, 21, 22, 23, 24, 25, 26, 27, 28, 29, 30, 31, 32, 33, 34, 35, 36, 37, 38, 39, 40, 41, 42, 43, 44, 45, 46, 47, 48, 49, 50, 51, 52, 53, 54, 55, 56, 57, 58, 59, 60, 61, 62, 63, 64, 65, 66, 67, 68, 69, 70, 71, 72, 73, 74, 75, 76, 77, 78, 79, 80, 81, 194, 195, 196, 197, 198, 199, 200, 201, 202, 203] (by decide +kernel) (by decide +kernel)
set_option maxRecDepth 20000 in
theorem gX5_readSpan_X5_require : GoodIn wsX5_readSpan (wsV RX5 74 RX5 yX5_require wsX5_require) := goodIn_app (goodIn_of _ (by decide +kernel)) ggX5_readSpan_X5_require
set_option maxRecDepth 20000 in
theorem ggX5_readSpan_X5_readDate : GoodIn wsX5_readSpan wsX5_readDate := goodIn_r _ [85, 86, 87, 88, 5, 89, 11, 12, 13, 30, 77, 78, 79, 80, 81, 68, 69, 70, 71, 72, 73, 74, 75, 76, 90, 91, 92, 93, 94, 95, 96, 97, 98, 99, 194, 195, 196, 197, 198, 199, 200, 201, 202, 203] (by decide +kernel) (by decide +kernel)
set_option maxRecDepth 20000 in
theorem gX5_readSpan_X5_readDate : GoodIn wsX5_readSpan (wsV RX5 129 RX5 yX5_readDate wsX5_readDate) := goodIn_app (goodIn_of _ (by decide +kernel)) ggX5_readSpan_X5_readDate
set_option maxRecDepth 20000 in
theorem ggX5_readSpan_X5_makeRule : GoodIn wsX5_readSpan wsX5_makeRule := goodIn_r _ [103, 104, 105, 106, 107, 108, 109, 110, 111, 112, 113, 114, 115, 116, 117, 118, 119, 120, 121, 122, 123, 124, 125, 126, 127, 128, 129, 130, 131, 132, 133, 134, 135, 136, 137, 138, 139, 140, 141, 142, 143, 144, 145, 146, 147, 148, 149, 150, 91, 151, 152, 153, 154, 155, 156, 157, 158, 159, 160, 161, 162, 99, 97, 98, 194, 195, 196, 197, 198, 199, 200, 201, 202, 203, 204, 205, 206, 207, 208, 209, 210, 211, 212, 213, 214, 215, 216, 217, 218, 219, 220, 221, 222, 223] (by decide +kernel) (by decide +kernel)
set_option maxRecDepth 20000 in
theorem gX5_readSpan_X5_makeRule : GoodIn wsX5_readSpan (wsV RX5 132 RX5 yX5_makeRule wsX5_makeRule) := goodIn_app (goodIn_of _ (by decide +kernel)) ggX5_readSpan_X5_makeRule
set_option maxRecDepth 20000 in
theorem ggX5_readSpan_X0_begin : GoodIn wsX5_readSpan wsX0_begin := goodIn_r _ [167, 168, 169, 170, 171, 172, 173, 179, 180, 181, 182, 183, 184, 185, 186, 187, 188, 189, 190, 191, 192, 193, 207, 208, 209, 210, 217, 218, 219, 220, 221, 222, 223, 204, 205, 206, 211, 212, 213, 214, 215, 216] (by decide +kernel) (by decide +kernel)
set_option maxRecDepth 20000 in
theorem gX5_readSpan_X0_begin : GoodIn wsX5_readSpan (wsV RX5 136 RX0 yX0_begin wsX0_begin) := goodIn_app (goodIn_of _ (by decide +kernel)) ggX5_readSpan_X0_begin
set_option maxRecDepth 20000 in
theorem ggX5_readSpan_X5_take : GoodIn wsX5_readSpan wsX5_take := goodIn_r _ [10, 11, 12, 13, 14, 15, 16, 17, 18, 19, 20, 21, 22, 23, 24, 25, 26, 27, 28, 5, 29, 30, 31, 32, 33, 34, 35, 36, 37, 38, 39, 40, 41, 42, 43, 44, 45, 46, 47, 48, 49, 50, 51, 52, 53, 54, 55, 56, 57, 58, 59, 60, 61, 62, 63, 64, 65, 66, 67, 68, 69, 70, 71, 72, 73, 74, 75, 76, 194, 195, 196, 197, 198, 199, 200, 201, 202, 203] (by decide +kernel) (by decide +kernel)
set_option maxRecDepth 20000 in
theorem gX5_readSpan_X5_take : GoodIn wsX5_readSpan (wsV RX5 94 RX5 yX5_take wsX5_take) := goodIn_app (goodIn_of _ (by decide +kernel)) ggX5_readSpan_X5_take
set_option maxRecDepth 20000 in
theorem ggX5_readSpan_X5_takeNumber : GoodIn wsX5_readSpan wsX5_takeNumber := goodIn_r _ [89, 11, 12, 13, 30, 77, 78, 79, 5, 80, 81, 68, 69, 70, 71, 72, 73, 74, 75, 76, 194, 195, 196, 197, 198, 199, 200, 201, 202, 203] (by decide +kernel) (by decide +kernel)
set_option maxRecDepth 20000 in
theorem gX5_readSpan_X5_takeNumber : GoodIn wsX5_readSpan (wsV RX5 78 RX5 yX5_takeNumber wsX5_takeNumber) := goodIn_app (goodIn_of _ (by decide +kernel)) ggX5_readSpan_X5_takeNumber
set_option maxRecDepth 20000 in
theorem ggX5_readSpan_X5_readUntil : GoodIn wsX5_readSpan wsX5_readUntil := goodIn_r _ [177, 13, 178, 81, 82, 83, 84, 5, 85, 86, 87, 88, 89, 11, 12, 30, 77, 78, 79, 80, 68, 69, 70, 71, 72, 73, 74, 75, 76, 90, 91, 92, 93, 94, 95, 96, 97, 98, 99, 194, 195, 196, 197, 198, 199, 200, 201, 202, 203, 179, 180, 181, 182, 183, 184, 185, 186, 187, 188, 189, 190, 191, 192, 193] (by decide +kernel) (by decide +kernel)
set_option maxRecDepth 20000 in
theorem gX5_readSpan_X5_readUntil : GoodIn wsX5_readSpan (wsV RX5 146 RX5 yX5_readUntil wsX5_readUntil) := goodIn_app (goodIn_of _ (by decide +kernel)) ggX5_readSpan_X5_readUntil
theorem dX5_readSpan_0 : decode cX5_readSpan 0 = .ok (.aload_n 0, 1) := by decide +kernel
theorem dX5_readSpan_1 : decode cX5_readSpan 1 = .ok (.ldc 127, 2) := by decide +kernel
theorem dX5_readSpan_3 : decode cX5_readSpan 3 = .ok (.invokevirtual 74, 3) := by decide +kernel
theorem dX5_readSpan_6 : decode cX5_readSpan 6 = .ok (.ifCond .ne 5, 3) := by decide +kernel
theorem dX5_readSpan_9 : decode cX5_readSpan 9 = .ok (.iconst 0, 1) := by decide +kernel
theorem dX5_readSpan_10 : decode cX5_readSpan 10 = .ok (.ireturn, 1) := by decide +kernel
theorem dX5_readSpan_11 : decode cX5_readSpan 11 = .ok (.aload_n 0, 1) := by decide +kernel
theorem dX5_readSpan_12 : decode cX5_readSpan 12 = .ok (.invokevirtual 129, 3) := by decide +kernel
theorem dX5_readSpan_15 : decode cX5_readSpan 15 = .ok (.istore_n 2, 1) := by decide +kernel
theorem dX5_readSpan_16 : decode cX5_readSpan 16 = .ok (.iload_n 2, 1) := by decide +kernel
theorem dX5_readSpan_17 : decode cX5_readSpan 17 = .ok (.iconst (-1), 1) := by decide +kernel
theorem dX5_readSpan_18 : decode cX5_readSpan 18 = .ok (.if_icmp .ne 5, 3) := by decide +kernel
theorem dX5_readSpan_21 : decode cX5_readSpan 21 = .ok (.iconst 0, 1) := by decide +kernel
theorem dX5_readSpan_22 : decode cX5_readSpan 22 = .ok (.ireturn, 1) := by decide +kernel
theorem dX5_readSpan_23 : decode cX5_readSpan 23 = .ok (.aload_n 1, 1) := by decide +kernel
theorem dX5_readSpan_24 : decode cX5_readSpan 24 = .ok (.aload_n 0, 1) := by decide +kernel
theorem dX5_readSpan_25 : decode cX5_readSpan 25 = .ok (.iload_n 2, 1) := by decide +kernel
theorem dX5_readSpan_26 : decode cX5_readSpan 26 = .ok (.invokevirtual 132, 3) := by decide +kernel
theorem dX5_readSpan_29 : decode cX5_readSpan 29 = .ok (.invokevirtual 136, 3) := by decide +kernel
theorem dX5_readSpan_32 : decode cX5_readSpan 32 = .ok (.aload_n 0, 1) := by decide +kernel
theorem dX5_readSpan_33 : decode cX5_readSpan 33 = .ok (.ldc 140, 2) := by decide +kernel
theorem dX5_readSpan_35 : decode cX5_readSpan 35 = .ok (.invokevirtual 94, 3) := by decide +kernel
theorem dX5_readSpan_38 : decode cX5_readSpan 38 = .ok (.ifCond .eq 29, 3) := by decide +kernel
theorem dX5_readSpan_41 : decode cX5_readSpan 41 = .ok (.aload_n 1, 1) := by decide +kernel
theorem dX5_readSpan_42 : decode cX5_readSpan 42 = .ok (.aload_n 0, 1) := by decide +kernel
theorem dX5_readSpan_43 : decode cX5_readSpan 43 = .ok (.iconst 1, 1) := by decide +kernel
theorem dX5_readSpan_44 : decode cX5_readSpan 44 = .ok (.sipush 999, 3) := by decide +kernel
theorem dX5_readSpan_47 : decode cX5_readSpan 47 = .ok (.invokevirtual 78, 3) := by decide +kernel
theorem dX5_readSpan_50 : decode cX5_readSpan 50 = .ok (.putfield 142, 3) := by decide +kernel
theorem dX5_readSpan_53 : decode cX5_readSpan 53 = .ok (.aload_n 1, 1) := by decide +kernel
theorem dX5_readSpan_54 : decode cX5_readSpan 54 = .ok (.getfield 142, 3) := by decide +kernel
theorem dX5_readSpan_57 : decode cX5_readSpan 57 = .ok (.iconst (-1), 1) := by decide +kernel
theorem dX5_readSpan_58 : decode cX5_readSpan 58 = .ok (.if_icmp .eq 7, 3) := by decide +kernel
theorem dX5_readSpan_61 : decode cX5_readSpan 61 = .ok (.iconst 1, 1) := by decide +kernel
theorem dX5_readSpan_62 : decode cX5_readSpan 62 = .ok (.goto 4, 3) := by decide +kernel
theorem dX5_readSpan_65 : decode cX5_readSpan 65 = .ok (.iconst 0, 1) := by decide +kernel
theorem dX5_readSpan_66 : decode cX5_readSpan 66 = .ok (.ireturn, 1) := by decide +kernel
theorem dX5_readSpan_67 : decode cX5_readSpan 67 = .ok (.aload_n 0, 1) := by decide +kernel
theorem dX5_readSpan_68 : decode cX5_readSpan 68 = .ok (.ldc 144, 2) := by decide +kernel
theorem dX5_readSpan_70 : decode cX5_readSpan 70 = .ok (.invokevirtual 94, 3) := by decide +kernel
theorem dX5_readSpan_73 : decode cX5_readSpan 73 = .ok (.ifCond .eq 12, 3) := by decide +kernel
theorem dX5_readSpan_76 : decode cX5_readSpan 76 = .ok (.aload_n 0, 1) := by decide +kernel
theorem dX5_readSpan_77 : decode cX5_readSpan 77 = .ok (.aload_n 1, 1) := by decide +kernel
theorem dX5_readSpan_78 : decode cX5_readSpan 78 = .ok (.iload_n 2, 1) := by decide +kernel
theorem dX5_readSpan_79 : decode cX5_readSpan 79 = .ok (.invokevirtual 146, 3) := by decide +kernel
theorem dX5_readSpan_82 : decode cX5_readSpan 82 = .ok (.ifCond .eq 7, 3) := by decide +kernel
theorem dX5_readSpan_85 : decode cX5_readSpan 85 = .ok (.iconst 1, 1) := by decide +kernel
theorem dX5_readSpan_86 : decode cX5_readSpan 86 = .ok (.goto 4, 3) := by decide +kernel
theorem dX5_readSpan_89 : decode cX5_readSpan 89 = .ok (.iconst 0, 1) := by decide +kernel
theorem dX5_readSpan_90 : decode cX5_readSpan 90 = .ok (.ireturn, 1) := by decide +kernel
set_option maxRecDepth 20000 in
theorem ggX5_readUntil_X5_readDate : GoodIn wsX5_readUntil wsX5_readDate := goodIn_r _ [8, 9, 10, 11, 7, 12, 13, 14, 1, 15, 16, 17, 18, 19, 3, 20, 21, 22, 23, 24, 25, 26, 27, 28, 29, 30, 31, 32, 33, 34, 35, 36, 37, 38, 39, 40, 41, 42, 43, 44, 45, 46, 47, 48] (by decide +kernel) (by decide +kernel)
set_option maxRecDepth 20000 in
theorem gX5_readUntil_X5_readDate : GoodIn wsX5_readUntil (wsV RX5 129 RX5 yX5_readDate wsX5_readDate) := goodIn_app (goodIn_of _ (by decide +kernel)) ggX5_readUntil_X5_readDate
theorem dX5_readUntil_0 : decode cX5_readUntil 0 = .ok (.aload_n 0, 1) := by decide +kernel
theorem dX5_readUntil_1 : decode cX5_readUntil 1 = .ok (.getfield 15, 3) := by decide +kernel
theorem dX5_readUntil_4 : decode cX5_readUntil 4 = .ok (.istore_n 3, 1) := by decide +kernel
theorem dX5_readUntil_5 : decode cX5_readUntil 5 = .ok (.aload_n 1, 1) := by decide +kernel
theorem dX5_readUntil_6 : decode cX5_readUntil 6 = .ok (.aload_n 0, 1) := by decide +kernel
theorem dX5_readUntil_7 : decode cX5_readUntil 7 = .ok (.invokevirtual 129, 3) := by decide +kernel
theorem dX5_readUntil_10 : decode cX5_readUntil 10 = .ok (.putfield 150, 3) := by decide +kernel
theorem dX5_readUntil_13 : decode cX5_readUntil 13 = .ok (.aload_n 1, 1) := by decide +kernel
theorem dX5_readUntil_14 : decode cX5_readUntil 14 = .ok (.getfield 150, 3) := by decide +kernel
theorem dX5_readUntil_17 : decode cX5_readUntil 17 = .ok (.iconst (-1), 1) := by decide +kernel
theorem dX5_readUntil_18 : decode cX5_readUntil 18 = .ok (.if_icmp .ne 5, 3) := by decide +kernel
theorem dX5_readUntil_21 : decode cX5_readUntil 21 = .ok (.iconst 0, 1) := by decide +kernel
theorem dX5_readUntil_22 : decode cX5_readUntil 22 = .ok (.ireturn, 1) := by decide +kernel
theorem dX5_readUntil_23 : decode cX5_readUntil 23 = .ok (.aload_n 1, 1) := by decide +kernel
theorem dX5_readUntil_24 : decode cX5_readUntil 24 = .ok (.getfield 150, 3) := by decide +kernel
theorem dX5_readUntil_27 : decode cX5_readUntil 27 = .ok (.iload_n 2, 1) := by decide +kernel
theorem dX5_readUntil_28 : decode cX5_readUntil 28 = .ok (.if_icmp .ge 15, 3) := by decide +kernel
theorem dX5_readUntil_31 : decode cX5_readUntil 31 = .ok (.aload_n 0, 1) := by decide +kernel
theorem dX5_readUntil_32 : decode cX5_readUntil 32 = .ok (.bipush 8, 2) := by decide +kernel
theorem dX5_readUntil_34 : decode cX5_readUntil 34 = .ok (.iload_n 3, 1) := by decide +kernel
theorem dX5_readUntil_35 : decode cX5_readUntil 35 = .ok (.imul, 1) := by decide +kernel
theorem dX5_readUntil_36 : decode cX5_readUntil 36 = .ok (.iconst 3, 1) := by decide +kernel
theorem dX5_readUntil_37 : decode cX5_readUntil 37 = .ok (.iadd, 1) := by decide +kernel
theorem dX5_readUntil_38 : decode cX5_readUntil 38 = .ok (.putfield 21, 3) := by decide +kernel
theorem dX5_readUntil_41 : decode cX5_readUntil 41 = .ok (.iconst 0, 1) := by decide +kernel
theorem dX5_readUntil_42 : decode cX5_readUntil 42 = .ok (.ireturn, 1) := by decide +kernel
theorem dX5_readUntil_43 : decode cX5_readUntil 43 = .ok (.iconst 1, 1) := by decide +kernel
theorem dX5_readUntil_44 : decode cX5_readUntil 44 = .ok (.ireturn, 1) := by decide +kernel
set_option maxRecDepth 20000 in
theorem ggX5_readDate_X5_takeNumber : GoodIn wsX5_readDate wsX5_takeNumber := goodIn_r _ [5, 6, 7, 8, 9, 10, 11, 12, 4, 13, 14, 15, 16, 17, 18, 19, 20, 21, 22, 23, 34, 35, 36, 37, 38, 39, 40, 41, 42, 43] (by decide +kernel) (by decide +kernel)
set_option maxRecDepth 20000 in
theorem gX5_readDate_X5_takeNumber : GoodIn wsX5_readDate (wsV RX5 78 RX5 yX5_takeNumber wsX5_takeNumber) := goodIn_app (goodIn_of _ (by decide +kernel)) ggX5_readDate_X5_takeNumber
set_option maxRecDepth 20000 in
theorem ggX5_readDate_X1_daysOfMonth : GoodIn wsX5_readDate wsX1_daysOfMonth := goodIn_r _ [26, 27, 28, 25, 29, 30, 31, 32, 33] (by decide +kernel) (by decide +kernel)
set_option maxRecDepth 20000 in
theorem gX5_readDate_X1_daysOfMonth_n152 : GoodIn wsX5_readDate (wsX1_daysOfMonth) := ggX5_readDate_X1_daysOfMonth
set_option maxRecDepth 20000 in
theorem ggX5_readDate_X1_monthNumber : GoodIn wsX5_readDate wsX1_monthNumber := goodIn_r _ [29] (by decide +kernel) (by decide +kernel)
set_option maxRecDepth 20000 in
theorem gX5_readDate_X1_monthNumber_n157 : GoodIn wsX5_readDate (wsX1_monthNumber) := ggX5_readDate_X1_monthNumber
set_option maxRecDepth 20000 in
theorem ggX5_readDate_X1_monthStart : GoodIn wsX5_readDate wsX1_monthStart := goodIn_r _ [32, 33] (by decide +kernel) (by decide +kernel)
set_option maxRecDepth 20000 in
theorem gX5_readDate_X1_monthStart_n160 : GoodIn wsX5_readDate (wsX1_monthStart) := ggX5_readDate_X1_monthStart
theorem dX5_readDate_0 : decode cX5_readDate 0 = .ok (.aload_n 0, 1) := by decide +kernel
theorem dX5_readDate_1 : decode cX5_readDate 1 = .ok (.sipush 2000, 3) := by decide +kernel
theorem dX5_readDate_4 : decode cX5_readDate 4 = .ok (.sipush 2099, 3) := by decide +kernel
theorem dX5_readDate_7 : decode cX5_readDate 7 = .ok (.invokevirtual 78, 3) := by decide +kernel
theorem dX5_readDate_10 : decode cX5_readDate 10 = .ok (.istore_n 1, 1) := by decide +kernel
theorem dX5_readDate_11 : decode cX5_readDate 11 = .ok (.iload_n 1, 1) := by decide +kernel
theorem dX5_readDate_12 : decode cX5_readDate 12 = .ok (.iconst (-1), 1) := by decide +kernel
theorem dX5_readDate_13 : decode cX5_readDate 13 = .ok (.if_icmp .ne 5, 3) := by decide +kernel
theorem dX5_readDate_16 : decode cX5_readDate 16 = .ok (.iconst (-1), 1) := by decide +kernel
theorem dX5_readDate_17 : decode cX5_readDate 17 = .ok (.ireturn, 1) := by decide +kernel
theorem dX5_readDate_18 : decode cX5_readDate 18 = .ok (.aload_n 0, 1) := by decide +kernel
theorem dX5_readDate_19 : decode cX5_readDate 19 = .ok (.iconst 1, 1) := by decide +kernel
theorem dX5_readDate_20 : decode cX5_readDate 20 = .ok (.bipush 12, 2) := by decide +kernel
theorem dX5_readDate_22 : decode cX5_readDate 22 = .ok (.invokevirtual 78, 3) := by decide +kernel
theorem dX5_readDate_25 : decode cX5_readDate 25 = .ok (.istore_n 2, 1) := by decide +kernel
theorem dX5_readDate_26 : decode cX5_readDate 26 = .ok (.iload_n 2, 1) := by decide +kernel
theorem dX5_readDate_27 : decode cX5_readDate 27 = .ok (.iconst (-1), 1) := by decide +kernel
theorem dX5_readDate_28 : decode cX5_readDate 28 = .ok (.if_icmp .ne 5, 3) := by decide +kernel
theorem dX5_readDate_31 : decode cX5_readDate 31 = .ok (.iconst (-1), 1) := by decide +kernel
theorem dX5_readDate_32 : decode cX5_readDate 32 = .ok (.ireturn, 1) := by decide +kernel
theorem dX5_readDate_33 : decode cX5_readDate 33 = .ok (.aload_n 0, 1) := by decide +kernel
theorem dX5_readDate_34 : decode cX5_readDate 34 = .ok (.iconst 1, 1) := by decide +kernel
theorem dX5_readDate_35 : decode cX5_readDate 35 = .ok (.iload_n 1, 1) := by decide +kernel
theorem dX5_readDate_36 : decode cX5_readDate 36 = .ok (.iload_n 2, 1) := by decide +kernel
theorem dX5_readDate_37 : decode cX5_readDate 37 = .ok (.invokestatic 152, 3) := by decide +kernel
theorem dX5_readDate_40 : decode cX5_readDate 40 = .ok (.invokevirtual 78, 3) := by decide +kernel
theorem dX5_readDate_43 : decode cX5_readDate 43 = .ok (.istore_n 3, 1) := by decide +kernel
theorem dX5_readDate_44 : decode cX5_readDate 44 = .ok (.iload_n 3, 1) := by decide +kernel
theorem dX5_readDate_45 : decode cX5_readDate 45 = .ok (.iconst (-1), 1) := by decide +kernel
theorem dX5_readDate_46 : decode cX5_readDate 46 = .ok (.if_icmp .ne 5, 3) := by decide +kernel
theorem dX5_readDate_49 : decode cX5_readDate 49 = .ok (.iconst (-1), 1) := by decide +kernel
theorem dX5_readDate_50 : decode cX5_readDate 50 = .ok (.ireturn, 1) := by decide +kernel
theorem dX5_readDate_51 : decode cX5_readDate 51 = .ok (.iload_n 1, 1) := by decide +kernel
theorem dX5_readDate_52 : decode cX5_readDate 52 = .ok (.iload_n 2, 1) := by decide +kernel
theorem dX5_readDate_53 : decode cX5_readDate 53 = .ok (.invokestatic 157, 3) := by decide +kernel
theorem dX5_readDate_56 : decode cX5_readDate 56 = .ok (.invokestatic 160, 3) := by decide +kernel
theorem dX5_readDate_59 : decode cX5_readDate 59 = .ok (.iload_n 3, 1) := by decide +kernel
theorem dX5_readDate_60 : decode cX5_readDate 60 = .ok (.iadd, 1) := by decide +kernel
theorem dX5_readDate_61 : decode cX5_readDate 61 = .ok (.iconst 1, 1) := by decide +kernel
theorem dX5_readDate_62 : decode cX5_readDate 62 = .ok (.isub, 1) := by decide +kernel
theorem dX5_readDate_63 : decode cX5_readDate 63 = .ok (.ireturn, 1) := by decide +kernel
set_option maxRecDepth 20000 in
theorem ggX5_makeRule_X4_init : GoodIn wsX5_makeRule wsX4_init := goodIn_r _ [19, 20, 21, 22, 23, 24, 25, 26, 27, 28, 29, 77, 78, 79, 80, 87, 88, 89, 90, 91, 92, 93, 74, 75, 76, 81, 82, 83, 84, 85, 86] (by decide +kernel) (by decide +kernel)
set_option maxRecDepth 20000 in
theorem gX5_makeRule_X4_init : GoodIn wsX5_makeRule (wsX4_init) := ggX5_makeRule_X4_init
set_option maxRecDepth 20000 in
theorem ggX5_makeRule_X2_init : GoodIn wsX5_makeRule wsX2_init := goodIn_r _ [32, 33, 34, 35, 36, 37, 38, 21, 22, 23, 24, 25, 26, 27, 28, 29, 77, 78, 79, 80, 87, 88, 89, 90, 91, 92, 93, 74, 75, 76, 81, 82, 83, 84, 85, 86] (by decide +kernel) (by decide +kernel)
set_option maxRecDepth 20000 in
theorem gX5_makeRule_X2_init : GoodIn wsX5_makeRule (wsX2_init) := ggX5_makeRule_X2_init
set_option maxRecDepth 20000 in
theorem ggX5_makeRule_X8_init : GoodIn wsX5_makeRule wsX8_init := goodIn_r _ [41, 42, 34, 35, 36, 43, 44, 45, 46, 21, 22, 23, 24, 25, 26, 27, 28, 29, 47, 48, 49, 81, 82, 83, 84, 85, 86, 77, 78, 79, 80, 87, 88, 89, 90, 91, 92, 93, 74, 75, 76] (by decide +kernel) (by decide +kernel)
set_option maxRecDepth 20000 in
theorem gX5_makeRule_X8_init : GoodIn wsX5_makeRule (wsX8_init) := ggX5_makeRule_X8_init
set_option maxRecDepth 20000 in
theorem ggX5_makeRule_X3_init : GoodIn wsX5_makeRule wsX3_init := goodIn_r _ [52, 53, 34, 35, 36, 54, 55, 56, 57, 58, 21, 22, 23, 24, 25, 26, 27, 28, 29, 59, 48, 60, 61, 62, 63, 87, 88, 89, 90, 91, 92, 93, 77, 78, 79, 80, 74, 75, 76, 81, 82, 83, 84, 85, 86] (by decide +kernel) (by decide +kernel)
set_option maxRecDepth 20000 in
theorem gX5_makeRule_X3_init : GoodIn wsX5_makeRule (wsX3_init) := ggX5_makeRule_X3_init
theorem dX5_makeRule_0 : decode cX5_makeRule 0 = .ok (.aload_n 0, 1) := by decide +kernel
theorem dX5_makeRule_1 : decode cX5_makeRule 1 = .ok (.getfield 24, 3) := by decide +kernel
theorem dX5_makeRule_4 : decode cX5_makeRule 4 = .ok (.tableswitch 67 0 2 #[28, 37, 50], 28) := by decide +kernel
theorem dX5_makeRule_32 : decode cX5_makeRule 32 = .ok (.new 164, 3) := by decide +kernel
theorem dX5_makeRule_35 : decode cX5_makeRule 35 = .ok (.dup, 1) := by decide +kernel
theorem dX5_makeRule_36 : decode cX5_makeRule 36 = .ok (.iload_n 1, 1) := by decide +kernel
theorem dX5_makeRule_37 : decode cX5_makeRule 37 = .ok (.invokespecial 166, 3) := by decide +kernel
theorem dX5_makeRule_40 : decode cX5_makeRule 40 = .ok (.areturn, 1) := by decide +kernel
theorem dX5_makeRule_41 : decode cX5_makeRule 41 = .ok (.new 169, 3) := by decide +kernel
theorem dX5_makeRule_44 : decode cX5_makeRule 44 = .ok (.dup, 1) := by decide +kernel
theorem dX5_makeRule_45 : decode cX5_makeRule 45 = .ok (.aload_n 0, 1) := by decide +kernel
theorem dX5_makeRule_46 : decode cX5_makeRule 46 = .ok (.getfield 27, 3) := by decide +kernel
theorem dX5_makeRule_49 : decode cX5_makeRule 49 = .ok (.iload_n 1, 1) := by decide +kernel
theorem dX5_makeRule_50 : decode cX5_makeRule 50 = .ok (.invokespecial 171, 3) := by decide +kernel
theorem dX5_makeRule_53 : decode cX5_makeRule 53 = .ok (.areturn, 1) := by decide +kernel
theorem dX5_makeRule_54 : decode cX5_makeRule 54 = .ok (.new 174, 3) := by decide +kernel
theorem dX5_makeRule_57 : decode cX5_makeRule 57 = .ok (.dup, 1) := by decide +kernel
theorem dX5_makeRule_58 : decode cX5_makeRule 58 = .ok (.aload_n 0, 1) := by decide +kernel
theorem dX5_makeRule_59 : decode cX5_makeRule 59 = .ok (.getfield 27, 3) := by decide +kernel
theorem dX5_makeRule_62 : decode cX5_makeRule 62 = .ok (.iload_n 1, 1) := by decide +kernel
theorem dX5_makeRule_63 : decode cX5_makeRule 63 = .ok (.aload_n 0, 1) := by decide +kernel
theorem dX5_makeRule_64 : decode cX5_makeRule 64 = .ok (.getfield 30, 3) := by decide +kernel
theorem dX5_makeRule_67 : decode cX5_makeRule 67 = .ok (.invokespecial 176, 3) := by decide +kernel
theorem dX5_makeRule_70 : decode cX5_makeRule 70 = .ok (.areturn, 1) := by decide +kernel
theorem dX5_makeRule_71 : decode cX5_makeRule 71 = .ok (.new 179, 3) := by decide +kernel
theorem dX5_makeRule_74 : decode cX5_makeRule 74 = .ok (.dup, 1) := by decide +kernel
theorem dX5_makeRule_75 : decode cX5_makeRule 75 = .ok (.aload_n 0, 1) := by decide +kernel
theorem dX5_makeRule_76 : decode cX5_makeRule 76 = .ok (.getfield 24, 3) := by decide +kernel
theorem dX5_makeRule_79 : decode cX5_makeRule 79 = .ok (.aload_n 0, 1) := by decide +kernel
theorem dX5_makeRule_80 : decode cX5_makeRule 80 = .ok (.getfield 27, 3) := by decide +kernel
theorem dX5_makeRule_83 : decode cX5_makeRule 83 = .ok (.iload_n 1, 1) := by decide +kernel
theorem dX5_makeRule_84 : decode cX5_makeRule 84 = .ok (.aload_n 0, 1) := by decide +kernel
theorem dX5_makeRule_85 : decode cX5_makeRule 85 = .ok (.getfield 30, 3) := by decide +kernel
theorem dX5_makeRule_88 : decode cX5_makeRule 88 = .ok (.aload_n 0, 1) := by decide +kernel
theorem dX5_makeRule_89 : decode cX5_makeRule 89 = .ok (.getfield 33, 3) := by decide +kernel
theorem dX5_makeRule_92 : decode cX5_makeRule 92 = .ok (.invokespecial 181, 3) := by decide +kernel
theorem dX5_makeRule_95 : decode cX5_makeRule 95 = .ok (.areturn, 1) := by decide +kernel
theorem dX5_refuse_0 : decode cX5_refuse 0 = .ok (.aload_n 0, 1) := by decide +kernel
theorem dX5_refuse_1 : decode cX5_refuse 1 = .ok (.bipush 8, 2) := by decide +kernel
theorem dX5_refuse_3 : decode cX5_refuse 3 = .ok (.aload_n 0, 1) := by decide +kernel
theorem dX5_refuse_4 : decode cX5_refuse 4 = .ok (.getfield 15, 3) := by decide +kernel
theorem dX5_refuse_7 : decode cX5_refuse 7 = .ok (.imul, 1) := by decide +kernel
theorem dX5_refuse_8 : decode cX5_refuse 8 = .ok (.iload_n 1, 1) := by decide +kernel
theorem dX5_refuse_9 : decode cX5_refuse 9 = .ok (.iadd, 1) := by decide +kernel
theorem dX5_refuse_10 : decode cX5_refuse 10 = .ok (.putfield 21, 3) := by decide +kernel
theorem dX5_refuse_13 : decode cX5_refuse 13 = .ok (.iconst 0, 1) := by decide +kernel
theorem dX5_refuse_14 : decode cX5_refuse 14 = .ok (.ireturn, 1) := by decide +kernel
set_option maxRecDepth 20000 in
theorem ggX5_require_X5_take : GoodIn wsX5_require wsX5_take := goodIn_r _ [5, 6, 7, 8, 9, 10, 11, 12, 13, 14, 15, 16, 17, 18, 19, 20, 21, 22, 23, 4, 24, 25, 26, 27, 28, 29, 30, 31, 32, 33, 34, 35, 36, 37, 38, 39, 40, 41, 42, 43, 44, 45, 46, 47, 48, 49, 50, 51, 52, 53, 54, 55, 56, 57, 58, 59, 60, 61, 62, 63, 64, 65, 66, 67, 68, 69, 70, 71, 77, 78, 79, 80, 81, 82, 83, 84, 85, 86] (by decide +kernel) (by decide +kernel)
set_option maxRecDepth 20000 in
theorem gX5_require_X5_take : GoodIn wsX5_require (wsV RX5 94 RX5 yX5_take wsX5_take) := goodIn_app (goodIn_of _ (by decide +kernel)) ggX5_require_X5_take
set_option maxRecDepth 20000 in
theorem ggX5_require_X5_refuse : GoodIn wsX5_require wsX5_refuse := goodIn_r _ [75, 8, 76, 77, 78, 79, 80, 81, 82, 83, 84, 85, 86] (by decide +kernel) (by decide +kernel)
set_option maxRecDepth 20000 in
theorem gX5_require_X5_refuse : GoodIn wsX5_require (wsV RX5 68 RX5 yX5_refuse wsX5_refuse) := goodIn_app (goodIn_of _ (by decide +kernel)) ggX5_require_X5_refuse
theorem dX5_require_0 : decode cX5_require 0 = .ok (.aload_n 0, 1) := by decide +kernel
theorem dX5_require_1 : decode cX5_require 1 = .ok (.aload_n 1, 1) := by decide +kernel
theorem dX5_require_2 : decode cX5_require 2 = .ok (.invokevirtual 94, 3) := by decide +kernel
theorem dX5_require_5 : decode cX5_require 5 = .ok (.ifCond .ne 11, 3) := by decide +kernel
theorem dX5_require_8 : decode cX5_require 8 = .ok (.aload_n 0, 1) := by decide +kernel
theorem dX5_require_9 : decode cX5_require 9 = .ok (.iconst 1, 1) := by decide +kernel
theorem dX5_require_10 : decode cX5_require 10 = .ok (.invokevirtual 68, 3) := by decide +kernel
theorem dX5_require_13 : decode cX5_require 13 = .ok (.ifCond .eq 7, 3) := by decide +kernel
theorem dX5_require_16 : decode cX5_require 16 = .ok (.iconst 1, 1) := by decide +kernel
theorem dX5_require_17 : decode cX5_require 17 = .ok (.goto 4, 3) := by decide +kernel
theorem dX5_require_20 : decode cX5_require 20 = .ok (.iconst 0, 1) := by decide +kernel
theorem dX5_require_21 : decode cX5_require 21 = .ok (.ireturn, 1) := by decide +kernel
set_option maxRecDepth 20000 in
theorem ggX5_take_J0_length_8abf5 : GoodIn wsX5_take wsJ0_length_8abf5 := goodIn_r _ [8, 9, 10, 11, 12, 7, 13, 14, 15] (by decide +kernel) (by decide +kernel)
set_option maxRecDepth 20000 in
theorem gX5_take_J0_length_8abf5 : GoodIn wsX5_take (wsV RX5 184 RJ0 yJ0_length_8abf5 wsJ0_length_8abf5) := goodIn_app (goodIn_of _ (by decide +kernel)) ggX5_take_J0_length_8abf5
set_option maxRecDepth 20000 in
theorem ggX5_take_X5_standsHere : GoodIn wsX5_take wsX5_standsHere := goodIn_r _ [20, 3, 2, 21, 4, 5, 6, 7, 8, 9, 10, 11, 12, 13, 14, 15, 22, 23, 24, 25, 26, 27, 28, 29, 30, 31, 32, 33, 34, 35, 36, 37, 38, 39, 40, 41, 42, 43, 44, 45, 46, 47, 48, 49, 50, 51, 52, 53, 54, 55, 56, 57, 58, 68, 69, 70, 71, 72, 73, 74, 75, 76, 77] (by decide +kernel) (by decide +kernel)
set_option maxRecDepth 20000 in
theorem gX5_take_X5_standsHere : GoodIn wsX5_take (wsV RX5 188 RX5 yX5_standsHere wsX5_standsHere) := goodIn_app (goodIn_of _ (by decide +kernel)) ggX5_take_X5_standsHere
set_option maxRecDepth 20000 in
theorem ggX5_take_X5_step : GoodIn wsX5_take wsX5_step := goodIn_r _ [62, 2, 3, 63, 21, 1, 64, 65, 66, 19, 67, 68, 69, 70, 71, 72, 73, 74, 75, 76, 77] (by decide +kernel) (by decide +kernel)
set_option maxRecDepth 20000 in
theorem gX5_take_X5_step : GoodIn wsX5_take (wsV RX5 49 RX5 yX5_step wsX5_step) := goodIn_app (goodIn_of _ (by decide +kernel)) ggX5_take_X5_step
theorem dX5_take_0 : decode cX5_take 0 = .ok (.aload_n 0, 1) := by decide +kernel
theorem dX5_take_1 : decode cX5_take 1 = .ok (.getfield 11, 3) := by decide +kernel
theorem dX5_take_4 : decode cX5_take 4 = .ok (.iconst 1, 1) := by decide +kernel
theorem dX5_take_5 : decode cX5_take 5 = .ok (.if_icmp .ne 28, 3) := by decide +kernel
theorem dX5_take_8 : decode cX5_take 8 = .ok (.aload_n 0, 1) := by decide +kernel
theorem dX5_take_9 : decode cX5_take 9 = .ok (.getfield 18, 3) := by decide +kernel
theorem dX5_take_12 : decode cX5_take 12 = .ok (.aload_n 0, 1) := by decide +kernel
theorem dX5_take_13 : decode cX5_take 13 = .ok (.getfield 15, 3) := by decide +kernel
theorem dX5_take_16 : decode cX5_take 16 = .ok (.isub, 1) := by decide +kernel
theorem dX5_take_17 : decode cX5_take 17 = .ok (.aload_n 1, 1) := by decide +kernel
theorem dX5_take_18 : decode cX5_take 18 = .ok (.invokevirtual 184, 3) := by decide +kernel
theorem dX5_take_21 : decode cX5_take 21 = .ok (.if_icmp .ne 12, 3) := by decide +kernel
theorem dX5_take_24 : decode cX5_take 24 = .ok (.aload_n 0, 1) := by decide +kernel
theorem dX5_take_25 : decode cX5_take 25 = .ok (.aload_n 1, 1) := by decide +kernel
theorem dX5_take_26 : decode cX5_take 26 = .ok (.iconst 0, 1) := by decide +kernel
theorem dX5_take_27 : decode cX5_take 27 = .ok (.invokevirtual 188, 3) := by decide +kernel
theorem dX5_take_30 : decode cX5_take 30 = .ok (.ifCond .ne 5, 3) := by decide +kernel
theorem dX5_take_33 : decode cX5_take 33 = .ok (.iconst 0, 1) := by decide +kernel
theorem dX5_take_34 : decode cX5_take 34 = .ok (.ireturn, 1) := by decide +kernel
theorem dX5_take_35 : decode cX5_take 35 = .ok (.aload_n 0, 1) := by decide +kernel
theorem dX5_take_36 : decode cX5_take 36 = .ok (.invokevirtual 49, 3) := by decide +kernel
theorem dX5_take_39 : decode cX5_take 39 = .ok (.iconst 1, 1) := by decide +kernel
theorem dX5_take_40 : decode cX5_take 40 = .ok (.ireturn, 1) := by decide +kernel
set_option maxRecDepth 20000 in
theorem ggX5_takeNumber_X5_refuse : GoodIn wsX5_takeNumber wsX5_refuse := goodIn_r _ [9, 3, 10, 20, 21, 22, 23, 24, 25, 26, 27, 28, 29] (by decide +kernel) (by decide +kernel)
set_option maxRecDepth 20000 in
theorem gX5_takeNumber_X5_refuse : GoodIn wsX5_takeNumber (wsV RX5 68 RX5 yX5_refuse wsX5_refuse) := goodIn_app (goodIn_of _ (by decide +kernel)) ggX5_takeNumber_X5_refuse
set_option maxRecDepth 20000 in
theorem ggX5_takeNumber_X5_step : GoodIn wsX5_takeNumber wsX5_step := goodIn_r _ [14, 2, 3, 15, 4, 1, 16, 17, 18, 8, 19, 20, 21, 22, 23, 24, 25, 26, 27, 28, 29] (by decide +kernel) (by decide +kernel)
set_option maxRecDepth 20000 in
theorem gX5_takeNumber_X5_step : GoodIn wsX5_takeNumber (wsV RX5 49 RX5 yX5_step wsX5_step) := goodIn_app (goodIn_of _ (by decide +kernel)) ggX5_takeNumber_X5_step
theorem dX5_takeNumber_0 : decode cX5_takeNumber 0 = .ok (.aload_n 0, 1) := by decide +kernel
theorem dX5_takeNumber_1 : decode cX5_takeNumber 1 = .ok (.getfield 11, 3) := by decide +kernel
theorem dX5_takeNumber_4 : decode cX5_takeNumber 4 = .ok (.iconst 2, 1) := by decide +kernel
theorem dX5_takeNumber_5 : decode cX5_takeNumber 5 = .ok (.if_icmp .ne 16, 3) := by decide +kernel
theorem dX5_takeNumber_8 : decode cX5_takeNumber 8 = .ok (.aload_n 0, 1) := by decide +kernel
theorem dX5_takeNumber_9 : decode cX5_takeNumber 9 = .ok (.getfield 18, 3) := by decide +kernel
theorem dX5_takeNumber_12 : decode cX5_takeNumber 12 = .ok (.aload_n 0, 1) := by decide +kernel
theorem dX5_takeNumber_13 : decode cX5_takeNumber 13 = .ok (.getfield 15, 3) := by decide +kernel
theorem dX5_takeNumber_16 : decode cX5_takeNumber 16 = .ok (.isub, 1) := by decide +kernel
theorem dX5_takeNumber_17 : decode cX5_takeNumber 17 = .ok (.iconst 4, 1) := by decide +kernel
theorem dX5_takeNumber_18 : decode cX5_takeNumber 18 = .ok (.if_icmp .le 11, 3) := by decide +kernel
theorem dX5_takeNumber_21 : decode cX5_takeNumber 21 = .ok (.aload_n 0, 1) := by decide +kernel
theorem dX5_takeNumber_22 : decode cX5_takeNumber 22 = .ok (.iconst 1, 1) := by decide +kernel
theorem dX5_takeNumber_23 : decode cX5_takeNumber 23 = .ok (.invokevirtual 68, 3) := by decide +kernel
theorem dX5_takeNumber_26 : decode cX5_takeNumber 26 = .ok (.pop, 1) := by decide +kernel
theorem dX5_takeNumber_27 : decode cX5_takeNumber 27 = .ok (.iconst (-1), 1) := by decide +kernel
theorem dX5_takeNumber_28 : decode cX5_takeNumber 28 = .ok (.ireturn, 1) := by decide +kernel
theorem dX5_takeNumber_29 : decode cX5_takeNumber 29 = .ok (.iconst 0, 1) := by decide +kernel
theorem dX5_takeNumber_30 : decode cX5_takeNumber 30 = .ok (.istore_n 3, 1) := by decide +kernel
theorem dX5_takeNumber_31 : decode cX5_takeNumber 31 = .ok (.aload_n 0, 1) := by decide +kernel
theorem dX5_takeNumber_32 : decode cX5_takeNumber 32 = .ok (.getfield 15, 3) := by decide +kernel
theorem dX5_takeNumber_35 : decode cX5_takeNumber 35 = .ok (.istore 4, 2) := by decide +kernel
theorem dX5_takeNumber_37 : decode cX5_takeNumber 37 = .ok (.iload 4, 2) := by decide +kernel
theorem dX5_takeNumber_39 : decode cX5_takeNumber 39 = .ok (.aload_n 0, 1) := by decide +kernel
theorem dX5_takeNumber_40 : decode cX5_takeNumber 40 = .ok (.getfield 18, 3) := by decide +kernel
theorem dX5_takeNumber_43 : decode cX5_takeNumber 43 = .ok (.if_icmp .ge 25, 3) := by decide +kernel
theorem dX5_takeNumber_46 : decode cX5_takeNumber 46 = .ok (.bipush 10, 2) := by decide +kernel
theorem dX5_takeNumber_48 : decode cX5_takeNumber 48 = .ok (.iload_n 3, 1) := by decide +kernel
theorem dX5_takeNumber_49 : decode cX5_takeNumber 49 = .ok (.imul, 1) := by decide +kernel
theorem dX5_takeNumber_50 : decode cX5_takeNumber 50 = .ok (.aload_n 0, 1) := by decide +kernel
theorem dX5_takeNumber_51 : decode cX5_takeNumber 51 = .ok (.getfield 36, 3) := by decide +kernel
theorem dX5_takeNumber_54 : decode cX5_takeNumber 54 = .ok (.iload 4, 2) := by decide +kernel
theorem dX5_takeNumber_56 : decode cX5_takeNumber 56 = .ok (.caload, 1) := by decide +kernel
theorem dX5_takeNumber_57 : decode cX5_takeNumber 57 = .ok (.iadd, 1) := by decide +kernel
theorem dX5_takeNumber_58 : decode cX5_takeNumber 58 = .ok (.bipush 48, 2) := by decide +kernel
theorem dX5_takeNumber_60 : decode cX5_takeNumber 60 = .ok (.isub, 1) := by decide +kernel
theorem dX5_takeNumber_61 : decode cX5_takeNumber 61 = .ok (.istore_n 3, 1) := by decide +kernel
theorem dX5_takeNumber_62 : decode cX5_takeNumber 62 = .ok (.iinc 4 1, 3) := by decide +kernel
theorem dX5_takeNumber_65 : decode cX5_takeNumber 65 = .ok (.goto (-28), 3) := by decide +kernel
theorem dX5_takeNumber_68 : decode cX5_takeNumber 68 = .ok (.iload_n 3, 1) := by decide +kernel
theorem dX5_takeNumber_69 : decode cX5_takeNumber 69 = .ok (.iload_n 1, 1) := by decide +kernel
theorem dX5_takeNumber_70 : decode cX5_takeNumber 70 = .ok (.if_icmp .lt 8, 3) := by decide +kernel
theorem dX5_takeNumber_73 : decode cX5_takeNumber 73 = .ok (.iload_n 3, 1) := by decide +kernel
theorem dX5_takeNumber_74 : decode cX5_takeNumber 74 = .ok (.iload_n 2, 1) := by decide +kernel
theorem dX5_takeNumber_75 : decode cX5_takeNumber 75 = .ok (.if_icmp .le 11, 3) := by decide +kernel
theorem dX5_takeNumber_78 : decode cX5_takeNumber 78 = .ok (.aload_n 0, 1) := by decide +kernel
theorem dX5_takeNumber_79 : decode cX5_takeNumber 79 = .ok (.iconst 2, 1) := by decide +kernel
theorem dX5_takeNumber_80 : decode cX5_takeNumber 80 = .ok (.invokevirtual 68, 3) := by decide +kernel
theorem dX5_takeNumber_83 : decode cX5_takeNumber 83 = .ok (.pop, 1) := by decide +kernel
theorem dX5_takeNumber_84 : decode cX5_takeNumber 84 = .ok (.iconst (-1), 1) := by decide +kernel
theorem dX5_takeNumber_85 : decode cX5_takeNumber 85 = .ok (.ireturn, 1) := by decide +kernel
theorem dX5_takeNumber_86 : decode cX5_takeNumber 86 = .ok (.aload_n 0, 1) := by decide +kernel
theorem dX5_takeNumber_87 : decode cX5_takeNumber 87 = .ok (.invokevirtual 49, 3) := by decide +kernel
theorem dX5_takeNumber_90 : decode cX5_takeNumber 90 = .ok (.iload_n 3, 1) := by decide +kernel
theorem dX5_takeNumber_91 : decode cX5_takeNumber 91 = .ok (.ireturn, 1) := by decide +kernel
set_option maxRecDepth 20000 in
theorem ggX5_weekdayHere_X5_standsHere : GoodIn wsX5_weekdayHere wsX5_standsHere := goodIn_r _ [8, 3, 2, 9, 10, 11, 12, 13, 14, 15, 16, 17, 18, 19, 20, 21, 22, 23, 24, 25, 26, 27, 28, 29, 30, 31, 32, 33, 34, 35, 36, 37, 38, 39, 40, 41, 42, 43, 44, 45, 46, 47, 48, 49, 50, 51, 52, 53, 54, 55, 56, 57, 58, 59, 60, 61, 62, 63, 64, 65, 66, 67, 68] (by decide +kernel) (by decide +kernel)
set_option maxRecDepth 20000 in
theorem gX5_weekdayHere_X5_standsHere : GoodIn wsX5_weekdayHere (wsV RX5 188 RX5 yX5_standsHere wsX5_standsHere) := goodIn_app (goodIn_of _ (by decide +kernel)) ggX5_weekdayHere_X5_standsHere
theorem dX5_weekdayHere_0 : decode cX5_weekdayHere 0 = .ok (.aload_n 0, 1) := by decide +kernel
theorem dX5_weekdayHere_1 : decode cX5_weekdayHere 1 = .ok (.getfield 11, 3) := by decide +kernel
theorem dX5_weekdayHere_4 : decode cX5_weekdayHere 4 = .ok (.iconst 1, 1) := by decide +kernel
theorem dX5_weekdayHere_5 : decode cX5_weekdayHere 5 = .ok (.if_icmp .ne 16, 3) := by decide +kernel
theorem dX5_weekdayHere_8 : decode cX5_weekdayHere 8 = .ok (.aload_n 0, 1) := by decide +kernel
theorem dX5_weekdayHere_9 : decode cX5_weekdayHere 9 = .ok (.getfield 18, 3) := by decide +kernel
theorem dX5_weekdayHere_12 : decode cX5_weekdayHere 12 = .ok (.aload_n 0, 1) := by decide +kernel
theorem dX5_weekdayHere_13 : decode cX5_weekdayHere 13 = .ok (.getfield 15, 3) := by decide +kernel
theorem dX5_weekdayHere_16 : decode cX5_weekdayHere 16 = .ok (.isub, 1) := by decide +kernel
theorem dX5_weekdayHere_17 : decode cX5_weekdayHere 17 = .ok (.iconst 3, 1) := by decide +kernel
theorem dX5_weekdayHere_18 : decode cX5_weekdayHere 18 = .ok (.if_icmp .eq 5, 3) := by decide +kernel
theorem dX5_weekdayHere_21 : decode cX5_weekdayHere 21 = .ok (.iconst (-1), 1) := by decide +kernel
theorem dX5_weekdayHere_22 : decode cX5_weekdayHere 22 = .ok (.ireturn, 1) := by decide +kernel
theorem dX5_weekdayHere_23 : decode cX5_weekdayHere 23 = .ok (.iconst 0, 1) := by decide +kernel
theorem dX5_weekdayHere_24 : decode cX5_weekdayHere 24 = .ok (.istore_n 1, 1) := by decide +kernel
theorem dX5_weekdayHere_25 : decode cX5_weekdayHere 25 = .ok (.iload_n 1, 1) := by decide +kernel
theorem dX5_weekdayHere_26 : decode cX5_weekdayHere 26 = .ok (.bipush 7, 2) := by decide +kernel
theorem dX5_weekdayHere_28 : decode cX5_weekdayHere 28 = .ok (.if_icmp .ge 23, 3) := by decide +kernel
theorem dX5_weekdayHere_31 : decode cX5_weekdayHere 31 = .ok (.aload_n 0, 1) := by decide +kernel
theorem dX5_weekdayHere_32 : decode cX5_weekdayHere 32 = .ok (.ldc 192, 2) := by decide +kernel
theorem dX5_weekdayHere_34 : decode cX5_weekdayHere 34 = .ok (.iconst 3, 1) := by decide +kernel
theorem dX5_weekdayHere_35 : decode cX5_weekdayHere 35 = .ok (.iload_n 1, 1) := by decide +kernel
theorem dX5_weekdayHere_36 : decode cX5_weekdayHere 36 = .ok (.imul, 1) := by decide +kernel
theorem dX5_weekdayHere_37 : decode cX5_weekdayHere 37 = .ok (.invokevirtual 188, 3) := by decide +kernel
theorem dX5_weekdayHere_40 : decode cX5_weekdayHere 40 = .ok (.ifCond .eq 5, 3) := by decide +kernel
theorem dX5_weekdayHere_43 : decode cX5_weekdayHere 43 = .ok (.iload_n 1, 1) := by decide +kernel
theorem dX5_weekdayHere_44 : decode cX5_weekdayHere 44 = .ok (.ireturn, 1) := by decide +kernel
theorem dX5_weekdayHere_45 : decode cX5_weekdayHere 45 = .ok (.iinc 1 1, 3) := by decide +kernel
theorem dX5_weekdayHere_48 : decode cX5_weekdayHere 48 = .ok (.goto (-23), 3) := by decide +kernel
theorem dX5_weekdayHere_51 : decode cX5_weekdayHere 51 = .ok (.iconst (-1), 1) := by decide +kernel
theorem dX5_weekdayHere_52 : decode cX5_weekdayHere 52 = .ok (.ireturn, 1) := by decide +kernel
set_option maxRecDepth 20000 in
theorem ggX5_standsHere_J0_length_8abf5 : GoodIn wsX5_standsHere wsJ0_length_8abf5 := goodIn_r _ [8, 9, 10, 11, 12, 7, 13, 14, 15] (by decide +kernel) (by decide +kernel)
set_option maxRecDepth 20000 in
theorem gX5_standsHere_J0_length_8abf5 : GoodIn wsX5_standsHere (wsV RX5 184 RJ0 yJ0_length_8abf5 wsJ0_length_8abf5) := goodIn_app (goodIn_of _ (by decide +kernel)) ggX5_standsHere_J0_length_8abf5
set_option maxRecDepth 20000 in
theorem ggX5_standsHere_J0_charAt_5068e : GoodIn wsX5_standsHere wsJ0_charAt_5068e := goodIn_r _ [19, 9, 20, 21, 22, 7, 23, 14, 15, 24, 25, 26, 27, 28, 29, 30, 31, 32, 33, 34, 35, 36, 37, 38, 39, 40, 41, 42, 43, 44, 45, 46, 47, 48, 49, 50, 51, 52] (by decide +kernel) (by decide +kernel)
set_option maxRecDepth 20000 in
theorem gX5_standsHere_J0_charAt_5068e : GoodIn wsX5_standsHere (wsV RX5 194 RJ0 yJ0_charAt_5068e wsJ0_charAt_5068e) := goodIn_app (goodIn_of _ (by decide +kernel)) ggX5_standsHere_J0_charAt_5068e
theorem dX5_standsHere_0 : decode cX5_standsHere 0 = .ok (.aload_n 0, 1) := by decide +kernel
theorem dX5_standsHere_1 : decode cX5_standsHere 1 = .ok (.getfield 15, 3) := by decide +kernel
theorem dX5_standsHere_4 : decode cX5_standsHere 4 = .ok (.istore_n 3, 1) := by decide +kernel
theorem dX5_standsHere_5 : decode cX5_standsHere 5 = .ok (.iload_n 3, 1) := by decide +kernel
theorem dX5_standsHere_6 : decode cX5_standsHere 6 = .ok (.aload_n 0, 1) := by decide +kernel
theorem dX5_standsHere_7 : decode cX5_standsHere 7 = .ok (.getfield 18, 3) := by decide +kernel
theorem dX5_standsHere_10 : decode cX5_standsHere 10 = .ok (.if_icmp .ge 45, 3) := by decide +kernel
theorem dX5_standsHere_13 : decode cX5_standsHere 13 = .ok (.iload_n 2, 1) := by decide +kernel
theorem dX5_standsHere_14 : decode cX5_standsHere 14 = .ok (.iload_n 3, 1) := by decide +kernel
theorem dX5_standsHere_15 : decode cX5_standsHere 15 = .ok (.iadd, 1) := by decide +kernel
theorem dX5_standsHere_16 : decode cX5_standsHere 16 = .ok (.aload_n 0, 1) := by decide +kernel
theorem dX5_standsHere_17 : decode cX5_standsHere 17 = .ok (.getfield 15, 3) := by decide +kernel
theorem dX5_standsHere_20 : decode cX5_standsHere 20 = .ok (.isub, 1) := by decide +kernel
theorem dX5_standsHere_21 : decode cX5_standsHere 21 = .ok (.istore 4, 2) := by decide +kernel
theorem dX5_standsHere_23 : decode cX5_standsHere 23 = .ok (.iload 4, 2) := by decide +kernel
theorem dX5_standsHere_25 : decode cX5_standsHere 25 = .ok (.aload_n 1, 1) := by decide +kernel
theorem dX5_standsHere_26 : decode cX5_standsHere 26 = .ok (.invokevirtual 184, 3) := by decide +kernel
theorem dX5_standsHere_29 : decode cX5_standsHere 29 = .ok (.if_icmp .ge 18, 3) := by decide +kernel
theorem dX5_standsHere_32 : decode cX5_standsHere 32 = .ok (.aload_n 0, 1) := by decide +kernel
theorem dX5_standsHere_33 : decode cX5_standsHere 33 = .ok (.getfield 36, 3) := by decide +kernel
theorem dX5_standsHere_36 : decode cX5_standsHere 36 = .ok (.iload_n 3, 1) := by decide +kernel
theorem dX5_standsHere_37 : decode cX5_standsHere 37 = .ok (.caload, 1) := by decide +kernel
theorem dX5_standsHere_38 : decode cX5_standsHere 38 = .ok (.aload_n 1, 1) := by decide +kernel
theorem dX5_standsHere_39 : decode cX5_standsHere 39 = .ok (.iload 4, 2) := by decide +kernel
theorem dX5_standsHere_41 : decode cX5_standsHere 41 = .ok (.invokevirtual 194, 3) := by decide +kernel
theorem dX5_standsHere_44 : decode cX5_standsHere 44 = .ok (.if_icmp .eq 5, 3) := by decide +kernel
theorem dX5_standsHere_47 : decode cX5_standsHere 47 = .ok (.iconst 0, 1) := by decide +kernel
theorem dX5_standsHere_48 : decode cX5_standsHere 48 = .ok (.ireturn, 1) := by decide +kernel
theorem dX5_standsHere_49 : decode cX5_standsHere 49 = .ok (.iinc 3 1, 3) := by decide +kernel
theorem dX5_standsHere_52 : decode cX5_standsHere 52 = .ok (.goto (-47), 3) := by decide +kernel
theorem dX5_standsHere_55 : decode cX5_standsHere 55 = .ok (.iconst 1, 1) := by decide +kernel
theorem dX5_standsHere_56 : decode cX5_standsHere 56 = .ok (.ireturn, 1) := by decide +kernel
set_option maxRecDepth 20000 in
theorem ggX5_step_X5_typeAt : GoodIn wsX5_step wsX5_typeAt := goodIn_r _ [10, 3, 4, 11, 12, 13, 14, 15, 16, 17, 18, 19, 20] (by decide +kernel) (by decide +kernel)
set_option maxRecDepth 20000 in
theorem gX5_step_X5_typeAt : GoodIn wsX5_step (wsV RX5 198 RX5 yX5_typeAt wsX5_typeAt) := goodIn_app (goodIn_of _ (by decide +kernel)) ggX5_step_X5_typeAt
theorem dX5_step_0 : decode cX5_step 0 = .ok (.aload_n 0, 1) := by decide +kernel
theorem dX5_step_1 : decode cX5_step 1 = .ok (.aload_n 0, 1) := by decide +kernel
theorem dX5_step_2 : decode cX5_step 2 = .ok (.getfield 18, 3) := by decide +kernel
theorem dX5_step_5 : decode cX5_step 5 = .ok (.putfield 15, 3) := by decide +kernel
theorem dX5_step_8 : decode cX5_step 8 = .ok (.aload_n 0, 1) := by decide +kernel
theorem dX5_step_9 : decode cX5_step 9 = .ok (.getfield 15, 3) := by decide +kernel
theorem dX5_step_12 : decode cX5_step 12 = .ok (.aload_n 0, 1) := by decide +kernel
theorem dX5_step_13 : decode cX5_step 13 = .ok (.getfield 46, 3) := by decide +kernel
theorem dX5_step_16 : decode cX5_step 16 = .ok (.if_icmp .ge 30, 3) := by decide +kernel
theorem dX5_step_19 : decode cX5_step 19 = .ok (.aload_n 0, 1) := by decide +kernel
theorem dX5_step_20 : decode cX5_step 20 = .ok (.getfield 36, 3) := by decide +kernel
theorem dX5_step_23 : decode cX5_step 23 = .ok (.aload_n 0, 1) := by decide +kernel
theorem dX5_step_24 : decode cX5_step 24 = .ok (.getfield 15, 3) := by decide +kernel
theorem dX5_step_27 : decode cX5_step 27 = .ok (.caload, 1) := by decide +kernel
theorem dX5_step_28 : decode cX5_step 28 = .ok (.bipush 32, 2) := by decide +kernel
theorem dX5_step_30 : decode cX5_step 30 = .ok (.if_icmp .ne 16, 3) := by decide +kernel
theorem dX5_step_33 : decode cX5_step 33 = .ok (.aload_n 0, 1) := by decide +kernel
theorem dX5_step_34 : decode cX5_step 34 = .ok (.dup, 1) := by decide +kernel
theorem dX5_step_35 : decode cX5_step 35 = .ok (.getfield 15, 3) := by decide +kernel
theorem dX5_step_38 : decode cX5_step 38 = .ok (.iconst 1, 1) := by decide +kernel
theorem dX5_step_39 : decode cX5_step 39 = .ok (.iadd, 1) := by decide +kernel
theorem dX5_step_40 : decode cX5_step 40 = .ok (.putfield 15, 3) := by decide +kernel
theorem dX5_step_43 : decode cX5_step 43 = .ok (.goto (-35), 3) := by decide +kernel
theorem dX5_step_46 : decode cX5_step 46 = .ok (.aload_n 0, 1) := by decide +kernel
theorem dX5_step_47 : decode cX5_step 47 = .ok (.aload_n 0, 1) := by decide +kernel
theorem dX5_step_48 : decode cX5_step 48 = .ok (.aload_n 0, 1) := by decide +kernel
theorem dX5_step_49 : decode cX5_step 49 = .ok (.getfield 15, 3) := by decide +kernel
theorem dX5_step_52 : decode cX5_step 52 = .ok (.invokevirtual 198, 3) := by decide +kernel
theorem dX5_step_55 : decode cX5_step 55 = .ok (.putfield 11, 3) := by decide +kernel
theorem dX5_step_58 : decode cX5_step 58 = .ok (.aload_n 0, 1) := by decide +kernel
theorem dX5_step_59 : decode cX5_step 59 = .ok (.aload_n 0, 1) := by decide +kernel
theorem dX5_step_60 : decode cX5_step 60 = .ok (.getfield 15, 3) := by decide +kernel
theorem dX5_step_63 : decode cX5_step 63 = .ok (.putfield 18, 3) := by decide +kernel
theorem dX5_step_66 : decode cX5_step 66 = .ok (.aload_n 0, 1) := by decide +kernel
theorem dX5_step_67 : decode cX5_step 67 = .ok (.getfield 18, 3) := by decide +kernel
theorem dX5_step_70 : decode cX5_step 70 = .ok (.aload_n 0, 1) := by decide +kernel
theorem dX5_step_71 : decode cX5_step 71 = .ok (.getfield 46, 3) := by decide +kernel
theorem dX5_step_74 : decode cX5_step 74 = .ok (.if_icmp .ge 39, 3) := by decide +kernel
theorem dX5_step_77 : decode cX5_step 77 = .ok (.aload_n 0, 1) := by decide +kernel
theorem dX5_step_78 : decode cX5_step 78 = .ok (.getfield 11, 3) := by decide +kernel
theorem dX5_step_81 : decode cX5_step 81 = .ok (.iconst 3, 1) := by decide +kernel
theorem dX5_step_82 : decode cX5_step 82 = .ok (.if_icmp .eq 31, 3) := by decide +kernel
theorem dX5_step_85 : decode cX5_step 85 = .ok (.aload_n 0, 1) := by decide +kernel
theorem dX5_step_86 : decode cX5_step 86 = .ok (.aload_n 0, 1) := by decide +kernel
theorem dX5_step_87 : decode cX5_step 87 = .ok (.getfield 18, 3) := by decide +kernel
theorem dX5_step_90 : decode cX5_step 90 = .ok (.invokevirtual 198, 3) := by decide +kernel
theorem dX5_step_93 : decode cX5_step 93 = .ok (.aload_n 0, 1) := by decide +kernel
theorem dX5_step_94 : decode cX5_step 94 = .ok (.getfield 11, 3) := by decide +kernel
theorem dX5_step_97 : decode cX5_step 97 = .ok (.if_icmp .ne 16, 3) := by decide +kernel
theorem dX5_step_100 : decode cX5_step 100 = .ok (.aload_n 0, 1) := by decide +kernel
theorem dX5_step_101 : decode cX5_step 101 = .ok (.dup, 1) := by decide +kernel
theorem dX5_step_102 : decode cX5_step 102 = .ok (.getfield 18, 3) := by decide +kernel
theorem dX5_step_105 : decode cX5_step 105 = .ok (.iconst 1, 1) := by decide +kernel
theorem dX5_step_106 : decode cX5_step 106 = .ok (.iadd, 1) := by decide +kernel
theorem dX5_step_107 : decode cX5_step 107 = .ok (.putfield 18, 3) := by decide +kernel
theorem dX5_step_110 : decode cX5_step 110 = .ok (.goto (-44), 3) := by decide +kernel
theorem dX5_step_113 : decode cX5_step 113 = .ok (.return_, 1) := by decide +kernel
theorem dX5_typeAt_0 : decode cX5_typeAt 0 = .ok (.iload_n 1, 1) := by decide +kernel
theorem dX5_typeAt_1 : decode cX5_typeAt 1 = .ok (.aload_n 0, 1) := by decide +kernel
theorem dX5_typeAt_2 : decode cX5_typeAt 2 = .ok (.getfield 46, 3) := by decide +kernel
theorem dX5_typeAt_5 : decode cX5_typeAt 5 = .ok (.if_icmp .lt 5, 3) := by decide +kernel
theorem dX5_typeAt_8 : decode cX5_typeAt 8 = .ok (.iconst 0, 1) := by decide +kernel
theorem dX5_typeAt_9 : decode cX5_typeAt 9 = .ok (.ireturn, 1) := by decide +kernel
theorem dX5_typeAt_10 : decode cX5_typeAt 10 = .ok (.aload_n 0, 1) := by decide +kernel
theorem dX5_typeAt_11 : decode cX5_typeAt 11 = .ok (.getfield 36, 3) := by decide +kernel
theorem dX5_typeAt_14 : decode cX5_typeAt 14 = .ok (.iload_n 1, 1) := by decide +kernel
theorem dX5_typeAt_15 : decode cX5_typeAt 15 = .ok (.caload, 1) := by decide +kernel
theorem dX5_typeAt_16 : decode cX5_typeAt 16 = .ok (.istore_n 2, 1) := by decide +kernel
theorem dX5_typeAt_17 : decode cX5_typeAt 17 = .ok (.iload_n 2, 1) := by decide +kernel
theorem dX5_typeAt_18 : decode cX5_typeAt 18 = .ok (.bipush 97, 2) := by decide +kernel
theorem dX5_typeAt_20 : decode cX5_typeAt 20 = .ok (.if_icmp .lt 11, 3) := by decide +kernel
theorem dX5_typeAt_23 : decode cX5_typeAt 23 = .ok (.iload_n 2, 1) := by decide +kernel
theorem dX5_typeAt_24 : decode cX5_typeAt 24 = .ok (.bipush 122, 2) := by decide +kernel
theorem dX5_typeAt_26 : decode cX5_typeAt 26 = .ok (.if_icmp .gt 5, 3) := by decide +kernel
theorem dX5_typeAt_29 : decode cX5_typeAt 29 = .ok (.iconst 1, 1) := by decide +kernel
theorem dX5_typeAt_30 : decode cX5_typeAt 30 = .ok (.ireturn, 1) := by decide +kernel
theorem dX5_typeAt_31 : decode cX5_typeAt 31 = .ok (.iload_n 2, 1) := by decide +kernel
theorem dX5_typeAt_32 : decode cX5_typeAt 32 = .ok (.bipush 48, 2) := by decide +kernel
theorem dX5_typeAt_34 : decode cX5_typeAt 34 = .ok (.if_icmp .lt 13, 3) := by decide +kernel
theorem dX5_typeAt_37 : decode cX5_typeAt 37 = .ok (.iload_n 2, 1) := by decide +kernel
theorem dX5_typeAt_38 : decode cX5_typeAt 38 = .ok (.bipush 57, 2) := by decide +kernel
theorem dX5_typeAt_40 : decode cX5_typeAt 40 = .ok (.if_icmp .gt 7, 3) := by decide +kernel
theorem dX5_typeAt_43 : decode cX5_typeAt 43 = .ok (.iconst 2, 1) := by decide +kernel
theorem dX5_typeAt_44 : decode cX5_typeAt 44 = .ok (.goto 4, 3) := by decide +kernel
theorem dX5_typeAt_47 : decode cX5_typeAt 47 = .ok (.iconst 3, 1) := by decide +kernel
theorem dX5_typeAt_48 : decode cX5_typeAt 48 = .ok (.ireturn, 1) := by decide +kernel
theorem dX6_init_0 : decode cX6_init 0 = .ok (.aload_n 0, 1) := by decide +kernel
theorem dX6_init_1 : decode cX6_init 1 = .ok (.invokespecial 3, 3) := by decide +kernel
theorem dX6_init_4 : decode cX6_init 4 = .ok (.aload_n 0, 1) := by decide +kernel
theorem dX6_init_5 : decode cX6_init 5 = .ok (.iload_n 1, 1) := by decide +kernel
theorem dX6_init_6 : decode cX6_init 6 = .ok (.putfield 9, 3) := by decide +kernel
theorem dX6_init_9 : decode cX6_init 9 = .ok (.aload_n 0, 1) := by decide +kernel
theorem dX6_init_10 : decode cX6_init 10 = .ok (.iload_n 2, 1) := by decide +kernel
theorem dX6_init_11 : decode cX6_init 11 = .ok (.putfield 15, 3) := by decide +kernel
theorem dX6_init_14 : decode cX6_init 14 = .ok (.aload_n 0, 1) := by decide +kernel
theorem dX6_init_15 : decode cX6_init 15 = .ok (.iload_n 3, 1) := by decide +kernel
theorem dX6_init_16 : decode cX6_init 16 = .ok (.putfield 18, 3) := by decide +kernel
theorem dX6_init_19 : decode cX6_init 19 = .ok (.return_, 1) := by decide +kernel
theorem dX6_detail_0 : decode cX6_detail 0 = .ok (.iconst 0, 1) := by decide +kernel
theorem dX6_detail_1 : decode cX6_detail 1 = .ok (.ireturn, 1) := by decide +kernel
theorem dX6_nthWeekday_0 : decode cX6_nthWeekday 0 = .ok (.iconst (-1), 1) := by decide +kernel
theorem dX6_nthWeekday_1 : decode cX6_nthWeekday 1 = .ok (.ireturn, 1) := by decide +kernel
set_option maxRecDepth 20000 in
theorem ggX7_init_X4_init : GoodIn wsX7_init wsX4_init := goodIn_r _ [14, 15, 16, 17, 18, 19, 2, 3, 20, 21, 22, 51, 52, 53, 54, 55, 56, 57, 58, 59, 60, 61, 33, 34, 35, 62, 63, 64, 65, 66, 67] (by decide +kernel) (by decide +kernel)
set_option maxRecDepth 20000 in
theorem gX7_init_X4_init : GoodIn wsX7_init (wsX4_init) := ggX7_init_X4_init
set_option maxRecDepth 20000 in
theorem ggX7_init_X0_init : GoodIn wsX7_init wsX0_init := goodIn_r _ [25, 26, 2, 3, 27, 28, 29, 30, 36, 37, 38, 39, 40, 41, 42, 43, 44, 45, 46, 47, 48, 49, 50] (by decide +kernel) (by decide +kernel)
set_option maxRecDepth 20000 in
theorem gX7_init_X0_init : GoodIn wsX7_init (wsX0_init) := ggX7_init_X0_init
theorem dX7_init_0 : decode cX7_init 0 = .ok (.aload_n 0, 1) := by decide +kernel
theorem dX7_init_1 : decode cX7_init 1 = .ok (.invokespecial 3, 3) := by decide +kernel
theorem dX7_init_4 : decode cX7_init 4 = .ok (.aload_n 0, 1) := by decide +kernel
theorem dX7_init_5 : decode cX7_init 5 = .ok (.bipush 12, 2) := by decide +kernel
theorem dX7_init_7 : decode cX7_init 7 = .ok (.anewarray 9, 3) := by decide +kernel
theorem dX7_init_10 : decode cX7_init 10 = .ok (.putfield 11, 3) := by decide +kernel
theorem dX7_init_13 : decode cX7_init 13 = .ok (.aload_n 0, 1) := by decide +kernel
theorem dX7_init_14 : decode cX7_init 14 = .ok (.iconst 0, 1) := by decide +kernel
theorem dX7_init_15 : decode cX7_init 15 = .ok (.putfield 17, 3) := by decide +kernel
theorem dX7_init_18 : decode cX7_init 18 = .ok (.new 21, 3) := by decide +kernel
theorem dX7_init_21 : decode cX7_init 21 = .ok (.dup, 1) := by decide +kernel
theorem dX7_init_22 : decode cX7_init 22 = .ok (.iconst 0, 1) := by decide +kernel
theorem dX7_init_23 : decode cX7_init 23 = .ok (.invokespecial 23, 3) := by decide +kernel
theorem dX7_init_26 : decode cX7_init 26 = .ok (.astore_n 1, 1) := by decide +kernel
theorem dX7_init_27 : decode cX7_init 27 = .ok (.iconst 0, 1) := by decide +kernel
theorem dX7_init_28 : decode cX7_init 28 = .ok (.istore_n 2, 1) := by decide +kernel
theorem dX7_init_29 : decode cX7_init 29 = .ok (.iload_n 2, 1) := by decide +kernel
theorem dX7_init_30 : decode cX7_init 30 = .ok (.aload_n 0, 1) := by decide +kernel
theorem dX7_init_31 : decode cX7_init 31 = .ok (.getfield 11, 3) := by decide +kernel
theorem dX7_init_34 : decode cX7_init 34 = .ok (.arraylength, 1) := by decide +kernel
theorem dX7_init_35 : decode cX7_init 35 = .ok (.if_icmp .ge 23, 3) := by decide +kernel
theorem dX7_init_38 : decode cX7_init 38 = .ok (.aload_n 0, 1) := by decide +kernel
theorem dX7_init_39 : decode cX7_init 39 = .ok (.getfield 11, 3) := by decide +kernel
theorem dX7_init_42 : decode cX7_init 42 = .ok (.iload_n 2, 1) := by decide +kernel
theorem dX7_init_43 : decode cX7_init 43 = .ok (.new 9, 3) := by decide +kernel
theorem dX7_init_46 : decode cX7_init 46 = .ok (.dup, 1) := by decide +kernel
theorem dX7_init_47 : decode cX7_init 47 = .ok (.aload_n 1, 1) := by decide +kernel
theorem dX7_init_48 : decode cX7_init 48 = .ok (.invokespecial 26, 3) := by decide +kernel
theorem dX7_init_51 : decode cX7_init 51 = .ok (.aastore, 1) := by decide +kernel
theorem dX7_init_52 : decode cX7_init 52 = .ok (.iinc 2 1, 3) := by decide +kernel
theorem dX7_init_55 : decode cX7_init 55 = .ok (.goto (-26), 3) := by decide +kernel
theorem dX7_init_58 : decode cX7_init 58 = .ok (.return_, 1) := by decide +kernel
theorem dX7_has_0 : decode cX7_has 0 = .ok (.iload_n 1, 1) := by decide +kernel
theorem dX7_has_1 : decode cX7_has 1 = .ok (.ifCond .lt 15, 3) := by decide +kernel
theorem dX7_has_4 : decode cX7_has 4 = .ok (.iload_n 1, 1) := by decide +kernel
theorem dX7_has_5 : decode cX7_has 5 = .ok (.aload_n 0, 1) := by decide +kernel
theorem dX7_has_6 : decode cX7_has 6 = .ok (.getfield 17, 3) := by decide +kernel
theorem dX7_has_9 : decode cX7_has 9 = .ok (.if_icmp .ge 7, 3) := by decide +kernel
theorem dX7_has_12 : decode cX7_has 12 = .ok (.iconst 1, 1) := by decide +kernel
theorem dX7_has_13 : decode cX7_has 13 = .ok (.goto 4, 3) := by decide +kernel
theorem dX7_has_16 : decode cX7_has 16 = .ok (.iconst 0, 1) := by decide +kernel
theorem dX7_has_17 : decode cX7_has 17 = .ok (.ireturn, 1) := by decide +kernel
theorem dX7_isFull_0 : decode cX7_isFull 0 = .ok (.aload_n 0, 1) := by decide +kernel
theorem dX7_isFull_1 : decode cX7_isFull 1 = .ok (.getfield 17, 3) := by decide +kernel
theorem dX7_isFull_4 : decode cX7_isFull 4 = .ok (.aload_n 0, 1) := by decide +kernel
theorem dX7_isFull_5 : decode cX7_isFull 5 = .ok (.getfield 11, 3) := by decide +kernel
theorem dX7_isFull_8 : decode cX7_isFull 8 = .ok (.arraylength, 1) := by decide +kernel
theorem dX7_isFull_9 : decode cX7_isFull 9 = .ok (.if_icmp .lt 7, 3) := by decide +kernel
theorem dX7_isFull_12 : decode cX7_isFull 12 = .ok (.iconst 1, 1) := by decide +kernel
theorem dX7_isFull_13 : decode cX7_isFull 13 = .ok (.goto 4, 3) := by decide +kernel
theorem dX7_isFull_16 : decode cX7_isFull 16 = .ok (.iconst 0, 1) := by decide +kernel
theorem dX7_isFull_17 : decode cX7_isFull 17 = .ok (.ireturn, 1) := by decide +kernel
theorem dX7_at_0 : decode cX7_at 0 = .ok (.aload_n 0, 1) := by decide +kernel
theorem dX7_at_1 : decode cX7_at 1 = .ok (.getfield 11, 3) := by decide +kernel
theorem dX7_at_4 : decode cX7_at 4 = .ok (.iload_n 1, 1) := by decide +kernel
theorem dX7_at_5 : decode cX7_at 5 = .ok (.aaload, 1) := by decide +kernel
theorem dX7_at_6 : decode cX7_at 6 = .ok (.areturn, 1) := by decide +kernel
theorem dX7_isOf_0 : decode cX7_isOf 0 = .ok (.iload_n 2, 1) := by decide +kernel
theorem dX7_isOf_1 : decode cX7_isOf 1 = .ok (.iconst (-1), 1) := by decide +kernel
theorem dX7_isOf_2 : decode cX7_isOf 2 = .ok (.if_icmp .eq 16, 3) := by decide +kernel
theorem dX7_isOf_5 : decode cX7_isOf 5 = .ok (.aload_n 0, 1) := by decide +kernel
theorem dX7_isOf_6 : decode cX7_isOf 6 = .ok (.getfield 11, 3) := by decide +kernel
theorem dX7_isOf_9 : decode cX7_isOf 9 = .ok (.iload_n 1, 1) := by decide +kernel
theorem dX7_isOf_10 : decode cX7_isOf 10 = .ok (.aaload, 1) := by decide +kernel
theorem dX7_isOf_11 : decode cX7_isOf 11 = .ok (.getfield 29, 3) := by decide +kernel
theorem dX7_isOf_14 : decode cX7_isOf 14 = .ok (.iload_n 2, 1) := by decide +kernel
theorem dX7_isOf_15 : decode cX7_isOf 15 = .ok (.if_icmp .ne 7, 3) := by decide +kernel
theorem dX7_isOf_18 : decode cX7_isOf 18 = .ok (.iconst 1, 1) := by decide +kernel
theorem dX7_isOf_19 : decode cX7_isOf 19 = .ok (.goto 4, 3) := by decide +kernel
theorem dX7_isOf_22 : decode cX7_isOf 22 = .ok (.iconst 0, 1) := by decide +kernel
theorem dX7_isOf_23 : decode cX7_isOf 23 = .ok (.ireturn, 1) := by decide +kernel
theorem dX7_spare_0 : decode cX7_spare 0 = .ok (.aload_n 0, 1) := by decide +kernel
theorem dX7_spare_1 : decode cX7_spare 1 = .ok (.getfield 11, 3) := by decide +kernel
theorem dX7_spare_4 : decode cX7_spare 4 = .ok (.aload_n 0, 1) := by decide +kernel
theorem dX7_spare_5 : decode cX7_spare 5 = .ok (.getfield 17, 3) := by decide +kernel
theorem dX7_spare_8 : decode cX7_spare 8 = .ok (.aload_n 0, 1) := by decide +kernel
theorem dX7_spare_9 : decode cX7_spare 9 = .ok (.getfield 11, 3) := by decide +kernel
theorem dX7_spare_12 : decode cX7_spare 12 = .ok (.arraylength, 1) := by decide +kernel
theorem dX7_spare_13 : decode cX7_spare 13 = .ok (.iconst 1, 1) := by decide +kernel
theorem dX7_spare_14 : decode cX7_spare 14 = .ok (.isub, 1) := by decide +kernel
theorem dX7_spare_15 : decode cX7_spare 15 = .ok (.invokestatic 32, 3) := by decide +kernel
theorem dX7_spare_18 : decode cX7_spare 18 = .ok (.aaload, 1) := by decide +kernel
theorem dX7_spare_19 : decode cX7_spare 19 = .ok (.areturn, 1) := by decide +kernel
theorem dX7_keepSpare_0 : decode cX7_keepSpare 0 = .ok (.aload_n 0, 1) := by decide +kernel
theorem dX7_keepSpare_1 : decode cX7_keepSpare 1 = .ok (.aload_n 0, 1) := by decide +kernel
theorem dX7_keepSpare_2 : decode cX7_keepSpare 2 = .ok (.getfield 17, 3) := by decide +kernel
theorem dX7_keepSpare_5 : decode cX7_keepSpare 5 = .ok (.iconst 1, 1) := by decide +kernel
theorem dX7_keepSpare_6 : decode cX7_keepSpare 6 = .ok (.iadd, 1) := by decide +kernel
theorem dX7_keepSpare_7 : decode cX7_keepSpare 7 = .ok (.aload_n 0, 1) := by decide +kernel
theorem dX7_keepSpare_8 : decode cX7_keepSpare 8 = .ok (.getfield 11, 3) := by decide +kernel
theorem dX7_keepSpare_11 : decode cX7_keepSpare 11 = .ok (.arraylength, 1) := by decide +kernel
theorem dX7_keepSpare_12 : decode cX7_keepSpare 12 = .ok (.invokestatic 32, 3) := by decide +kernel
theorem dX7_keepSpare_15 : decode cX7_keepSpare 15 = .ok (.putfield 17, 3) := by decide +kernel
theorem dX7_keepSpare_18 : decode cX7_keepSpare 18 = .ok (.aload_n 0, 1) := by decide +kernel
theorem dX7_keepSpare_19 : decode cX7_keepSpare 19 = .ok (.getfield 17, 3) := by decide +kernel
theorem dX7_keepSpare_22 : decode cX7_keepSpare 22 = .ok (.iconst 1, 1) := by decide +kernel
theorem dX7_keepSpare_23 : decode cX7_keepSpare 23 = .ok (.isub, 1) := by decide +kernel
theorem dX7_keepSpare_24 : decode cX7_keepSpare 24 = .ok (.ireturn, 1) := by decide +kernel
theorem dX7_remove_0 : decode cX7_remove 0 = .ok (.aload_n 0, 1) := by decide +kernel
theorem dX7_remove_1 : decode cX7_remove 1 = .ok (.getfield 11, 3) := by decide +kernel
theorem dX7_remove_4 : decode cX7_remove 4 = .ok (.iload_n 1, 1) := by decide +kernel
theorem dX7_remove_5 : decode cX7_remove 5 = .ok (.aaload, 1) := by decide +kernel
theorem dX7_remove_6 : decode cX7_remove 6 = .ok (.astore_n 2, 1) := by decide +kernel
theorem dX7_remove_7 : decode cX7_remove 7 = .ok (.aload_n 0, 1) := by decide +kernel
theorem dX7_remove_8 : decode cX7_remove 8 = .ok (.dup, 1) := by decide +kernel
theorem dX7_remove_9 : decode cX7_remove 9 = .ok (.getfield 17, 3) := by decide +kernel
theorem dX7_remove_12 : decode cX7_remove 12 = .ok (.iconst 1, 1) := by decide +kernel
theorem dX7_remove_13 : decode cX7_remove 13 = .ok (.isub, 1) := by decide +kernel
theorem dX7_remove_14 : decode cX7_remove 14 = .ok (.putfield 17, 3) := by decide +kernel
theorem dX7_remove_17 : decode cX7_remove 17 = .ok (.iload_n 1, 1) := by decide +kernel
theorem dX7_remove_18 : decode cX7_remove 18 = .ok (.istore_n 3, 1) := by decide +kernel
theorem dX7_remove_19 : decode cX7_remove 19 = .ok (.iload_n 3, 1) := by decide +kernel
theorem dX7_remove_20 : decode cX7_remove 20 = .ok (.aload_n 0, 1) := by decide +kernel
theorem dX7_remove_21 : decode cX7_remove 21 = .ok (.getfield 17, 3) := by decide +kernel
theorem dX7_remove_24 : decode cX7_remove 24 = .ok (.if_icmp .ge 23, 3) := by decide +kernel
theorem dX7_remove_27 : decode cX7_remove 27 = .ok (.aload_n 0, 1) := by decide +kernel
theorem dX7_remove_28 : decode cX7_remove 28 = .ok (.getfield 11, 3) := by decide +kernel
theorem dX7_remove_31 : decode cX7_remove 31 = .ok (.iload_n 3, 1) := by decide +kernel
theorem dX7_remove_32 : decode cX7_remove 32 = .ok (.aload_n 0, 1) := by decide +kernel
theorem dX7_remove_33 : decode cX7_remove 33 = .ok (.getfield 11, 3) := by decide +kernel
theorem dX7_remove_36 : decode cX7_remove 36 = .ok (.iload_n 3, 1) := by decide +kernel
theorem dX7_remove_37 : decode cX7_remove 37 = .ok (.iconst 1, 1) := by decide +kernel
theorem dX7_remove_38 : decode cX7_remove 38 = .ok (.iadd, 1) := by decide +kernel
theorem dX7_remove_39 : decode cX7_remove 39 = .ok (.aaload, 1) := by decide +kernel
theorem dX7_remove_40 : decode cX7_remove 40 = .ok (.aastore, 1) := by decide +kernel
theorem dX7_remove_41 : decode cX7_remove 41 = .ok (.iinc 3 1, 3) := by decide +kernel
theorem dX7_remove_44 : decode cX7_remove 44 = .ok (.goto (-25), 3) := by decide +kernel
theorem dX7_remove_47 : decode cX7_remove 47 = .ok (.aload_n 0, 1) := by decide +kernel
theorem dX7_remove_48 : decode cX7_remove 48 = .ok (.getfield 11, 3) := by decide +kernel
theorem dX7_remove_51 : decode cX7_remove 51 = .ok (.aload_n 0, 1) := by decide +kernel
theorem dX7_remove_52 : decode cX7_remove 52 = .ok (.getfield 17, 3) := by decide +kernel
theorem dX7_remove_55 : decode cX7_remove 55 = .ok (.aload_n 2, 1) := by decide +kernel
theorem dX7_remove_56 : decode cX7_remove 56 = .ok (.aastore, 1) := by decide +kernel
theorem dX7_remove_57 : decode cX7_remove 57 = .ok (.return_, 1) := by decide +kernel
set_option maxRecDepth 20000 in
theorem ggX7_copyFrom_X0_copyFrom : GoodIn wsX7_copyFrom wsX0_copyFrom := goodIn_r _ [7, 8, 9, 10, 11, 12, 13, 14, 15, 16, 17, 18, 19, 20, 21, 22, 23, 24, 27, 28, 29, 30, 31, 32, 33, 34, 35, 36, 37, 38, 39, 40, 41] (by decide +kernel) (by decide +kernel)
set_option maxRecDepth 20000 in
theorem gX7_copyFrom_X0_copyFrom : GoodIn wsX7_copyFrom (wsV RX7 38 RX0 yX0_copyFrom wsX0_copyFrom) := goodIn_app (goodIn_of _ (by decide +kernel)) ggX7_copyFrom_X0_copyFrom
theorem dX7_copyFrom_0 : decode cX7_copyFrom 0 = .ok (.aload_n 0, 1) := by decide +kernel
theorem dX7_copyFrom_1 : decode cX7_copyFrom 1 = .ok (.aload_n 1, 1) := by decide +kernel
theorem dX7_copyFrom_2 : decode cX7_copyFrom 2 = .ok (.getfield 17, 3) := by decide +kernel
theorem dX7_copyFrom_5 : decode cX7_copyFrom 5 = .ok (.putfield 17, 3) := by decide +kernel
theorem dX7_copyFrom_8 : decode cX7_copyFrom 8 = .ok (.iconst 0, 1) := by decide +kernel
theorem dX7_copyFrom_9 : decode cX7_copyFrom 9 = .ok (.istore_n 2, 1) := by decide +kernel
theorem dX7_copyFrom_10 : decode cX7_copyFrom 10 = .ok (.iload_n 2, 1) := by decide +kernel
theorem dX7_copyFrom_11 : decode cX7_copyFrom 11 = .ok (.aload_n 0, 1) := by decide +kernel
theorem dX7_copyFrom_12 : decode cX7_copyFrom 12 = .ok (.getfield 17, 3) := by decide +kernel
theorem dX7_copyFrom_15 : decode cX7_copyFrom 15 = .ok (.if_icmp .ge 24, 3) := by decide +kernel
theorem dX7_copyFrom_18 : decode cX7_copyFrom 18 = .ok (.aload_n 0, 1) := by decide +kernel
theorem dX7_copyFrom_19 : decode cX7_copyFrom 19 = .ok (.getfield 11, 3) := by decide +kernel
theorem dX7_copyFrom_22 : decode cX7_copyFrom 22 = .ok (.iload_n 2, 1) := by decide +kernel
theorem dX7_copyFrom_23 : decode cX7_copyFrom 23 = .ok (.aaload, 1) := by decide +kernel
theorem dX7_copyFrom_24 : decode cX7_copyFrom 24 = .ok (.aload_n 1, 1) := by decide +kernel
theorem dX7_copyFrom_25 : decode cX7_copyFrom 25 = .ok (.getfield 11, 3) := by decide +kernel
theorem dX7_copyFrom_28 : decode cX7_copyFrom 28 = .ok (.iload_n 2, 1) := by decide +kernel
theorem dX7_copyFrom_29 : decode cX7_copyFrom 29 = .ok (.aaload, 1) := by decide +kernel
theorem dX7_copyFrom_30 : decode cX7_copyFrom 30 = .ok (.invokevirtual 38, 3) := by decide +kernel
theorem dX7_copyFrom_33 : decode cX7_copyFrom 33 = .ok (.iinc 2 1, 3) := by decide +kernel
theorem dX7_copyFrom_36 : decode cX7_copyFrom 36 = .ok (.goto (-26), 3) := by decide +kernel
theorem dX7_copyFrom_39 : decode cX7_copyFrom 39 = .ok (.return_, 1) := by decide +kernel
theorem dX7_roomBits_0 : decode cX7_roomBits 0 = .ok (.iconst 0, 1) := by decide +kernel
theorem dX7_roomBits_1 : decode cX7_roomBits 1 = .ok (.istore_n 1, 1) := by decide +kernel
theorem dX7_roomBits_2 : decode cX7_roomBits 2 = .ok (.iconst 0, 1) := by decide +kernel
theorem dX7_roomBits_3 : decode cX7_roomBits 3 = .ok (.istore_n 2, 1) := by decide +kernel
theorem dX7_roomBits_4 : decode cX7_roomBits 4 = .ok (.iload_n 2, 1) := by decide +kernel
theorem dX7_roomBits_5 : decode cX7_roomBits 5 = .ok (.aload_n 0, 1) := by decide +kernel
theorem dX7_roomBits_6 : decode cX7_roomBits 6 = .ok (.getfield 17, 3) := by decide +kernel
theorem dX7_roomBits_9 : decode cX7_roomBits 9 = .ok (.if_icmp .ge 23, 3) := by decide +kernel
theorem dX7_roomBits_12 : decode cX7_roomBits 12 = .ok (.iload_n 1, 1) := by decide +kernel
theorem dX7_roomBits_13 : decode cX7_roomBits 13 = .ok (.iconst 1, 1) := by decide +kernel
theorem dX7_roomBits_14 : decode cX7_roomBits 14 = .ok (.aload_n 0, 1) := by decide +kernel
theorem dX7_roomBits_15 : decode cX7_roomBits 15 = .ok (.getfield 11, 3) := by decide +kernel
theorem dX7_roomBits_18 : decode cX7_roomBits 18 = .ok (.iload_n 2, 1) := by decide +kernel
theorem dX7_roomBits_19 : decode cX7_roomBits 19 = .ok (.aaload, 1) := by decide +kernel
theorem dX7_roomBits_20 : decode cX7_roomBits 20 = .ok (.getfield 29, 3) := by decide +kernel
theorem dX7_roomBits_23 : decode cX7_roomBits 23 = .ok (.ishl, 1) := by decide +kernel
theorem dX7_roomBits_24 : decode cX7_roomBits 24 = .ok (.ior, 1) := by decide +kernel
theorem dX7_roomBits_25 : decode cX7_roomBits 25 = .ok (.istore_n 1, 1) := by decide +kernel
theorem dX7_roomBits_26 : decode cX7_roomBits 26 = .ok (.iinc 2 1, 3) := by decide +kernel
theorem dX7_roomBits_29 : decode cX7_roomBits 29 = .ok (.goto (-25), 3) := by decide +kernel
theorem dX7_roomBits_32 : decode cX7_roomBits 32 = .ok (.iload_n 1, 1) := by decide +kernel
theorem dX7_roomBits_33 : decode cX7_roomBits 33 = .ok (.ireturn, 1) := by decide +kernel
set_option maxRecDepth 20000 in
theorem ggX8_init_X6_init : GoodIn wsX8_init wsX6_init := goodIn_r _ [11, 12, 13, 14, 15, 16, 17, 27, 28, 29, 30, 31, 32, 33, 34, 35, 36, 37, 38, 39, 40, 21, 22, 23, 24, 25, 26] (by decide +kernel) (by decide +kernel)
set_option maxRecDepth 20000 in
theorem gX8_init_X6_init : GoodIn wsX8_init (wsX6_init) := ggX8_init_X6_init
set_option maxRecDepth 20000 in
theorem ggX8_init_X1_weekdayOf : GoodIn wsX8_init wsX1_weekdayOf := goodIn_r _ [20] (by decide +kernel) (by decide +kernel)
set_option maxRecDepth 20000 in
theorem gX8_init_X1_weekdayOf_n24 : GoodIn wsX8_init (wsX1_weekdayOf) := ggX8_init_X1_weekdayOf
theorem dX8_init_0 : decode cX8_init 0 = .ok (.aload_n 0, 1) := by decide +kernel
theorem dX8_init_1 : decode cX8_init 1 = .ok (.iconst 2, 1) := by decide +kernel
theorem dX8_init_2 : decode cX8_init 2 = .ok (.iload_n 1, 1) := by decide +kernel
theorem dX8_init_3 : decode cX8_init 3 = .ok (.iload_n 2, 1) := by decide +kernel
theorem dX8_init_4 : decode cX8_init 4 = .ok (.invokespecial 3, 3) := by decide +kernel
theorem dX8_init_7 : decode cX8_init 7 = .ok (.aload_n 0, 1) := by decide +kernel
theorem dX8_init_8 : decode cX8_init 8 = .ok (.iload_n 1, 1) := by decide +kernel
theorem dX8_init_9 : decode cX8_init 9 = .ok (.iconst 1, 1) := by decide +kernel
theorem dX8_init_10 : decode cX8_init 10 = .ok (.invokestatic 9, 3) := by decide +kernel
theorem dX8_init_13 : decode cX8_init 13 = .ok (.putfield 15, 3) := by decide +kernel
theorem dX8_init_16 : decode cX8_init 16 = .ok (.aload_n 0, 1) := by decide +kernel
theorem dX8_init_17 : decode cX8_init 17 = .ok (.iload_n 3, 1) := by decide +kernel
theorem dX8_init_18 : decode cX8_init 18 = .ok (.putfield 21, 3) := by decide +kernel
theorem dX8_init_21 : decode cX8_init 21 = .ok (.aload_n 0, 1) := by decide +kernel
theorem dX8_init_22 : decode cX8_init 22 = .ok (.iload_n 2, 1) := by decide +kernel
theorem dX8_init_23 : decode cX8_init 23 = .ok (.iload_n 2, 1) := by decide +kernel
theorem dX8_init_24 : decode cX8_init 24 = .ok (.invokestatic 24, 3) := by decide +kernel
theorem dX8_init_27 : decode cX8_init 27 = .ok (.isub, 1) := by decide +kernel
theorem dX8_init_28 : decode cX8_init 28 = .ok (.putfield 30, 3) := by decide +kernel
theorem dX8_init_31 : decode cX8_init 31 = .ok (.return_, 1) := by decide +kernel
set_option maxRecDepth 20000 in
theorem ggX8_dayFrom_X8_firstWeekday : GoodIn wsX8_dayFrom wsX8_firstWeekday := goodIn_r _ [14, 15, 30, 31, 32, 33, 34, 35] (by decide +kernel) (by decide +kernel)
set_option maxRecDepth 20000 in
theorem gX8_dayFrom_X8_firstWeekday : GoodIn wsX8_dayFrom (wsV RX8 36 RX8 yX8_firstWeekday wsX8_firstWeekday) := goodIn_app (goodIn_of _ (by decide +kernel)) ggX8_dayFrom_X8_firstWeekday
theorem dX8_dayFrom_0 : decode cX8_dayFrom 0 = .ok (.iload_n 1, 1) := by decide +kernel
theorem dX8_dayFrom_1 : decode cX8_dayFrom 1 = .ok (.aload_n 0, 1) := by decide +kernel
theorem dX8_dayFrom_2 : decode cX8_dayFrom 2 = .ok (.getfield 33, 3) := by decide +kernel
theorem dX8_dayFrom_5 : decode cX8_dayFrom 5 = .ok (.invokestatic 9, 3) := by decide +kernel
theorem dX8_dayFrom_8 : decode cX8_dayFrom 8 = .ok (.istore_n 2, 1) := by decide +kernel
theorem dX8_dayFrom_9 : decode cX8_dayFrom 9 = .ok (.iload_n 2, 1) := by decide +kernel
theorem dX8_dayFrom_10 : decode cX8_dayFrom 10 = .ok (.aload_n 0, 1) := by decide +kernel
theorem dX8_dayFrom_11 : decode cX8_dayFrom 11 = .ok (.getfield 30, 3) := by decide +kernel
theorem dX8_dayFrom_14 : decode cX8_dayFrom 14 = .ok (.isub, 1) := by decide +kernel
theorem dX8_dayFrom_15 : decode cX8_dayFrom 15 = .ok (.bipush 7, 2) := by decide +kernel
theorem dX8_dayFrom_17 : decode cX8_dayFrom 17 = .ok (.idiv, 1) := by decide +kernel
theorem dX8_dayFrom_18 : decode cX8_dayFrom 18 = .ok (.istore_n 3, 1) := by decide +kernel
theorem dX8_dayFrom_19 : decode cX8_dayFrom 19 = .ok (.iload_n 3, 1) := by decide +kernel
theorem dX8_dayFrom_20 : decode cX8_dayFrom 20 = .ok (.aload_n 0, 1) := by decide +kernel
theorem dX8_dayFrom_21 : decode cX8_dayFrom 21 = .ok (.getfield 15, 3) := by decide +kernel
theorem dX8_dayFrom_24 : decode cX8_dayFrom 24 = .ok (.irem, 1) := by decide +kernel
theorem dX8_dayFrom_25 : decode cX8_dayFrom 25 = .ok (.istore 4, 2) := by decide +kernel
theorem dX8_dayFrom_27 : decode cX8_dayFrom 27 = .ok (.iload 4, 2) := by decide +kernel
theorem dX8_dayFrom_29 : decode cX8_dayFrom 29 = .ok (.ifCond .ne 15, 3) := by decide +kernel
theorem dX8_dayFrom_32 : decode cX8_dayFrom 32 = .ok (.iload_n 2, 1) := by decide +kernel
theorem dX8_dayFrom_33 : decode cX8_dayFrom 33 = .ok (.aload_n 0, 1) := by decide +kernel
theorem dX8_dayFrom_34 : decode cX8_dayFrom 34 = .ok (.getfield 30, 3) := by decide +kernel
theorem dX8_dayFrom_37 : decode cX8_dayFrom 37 = .ok (.isub, 1) := by decide +kernel
theorem dX8_dayFrom_38 : decode cX8_dayFrom 38 = .ok (.bipush 7, 2) := by decide +kernel
theorem dX8_dayFrom_40 : decode cX8_dayFrom 40 = .ok (.irem, 1) := by decide +kernel
theorem dX8_dayFrom_41 : decode cX8_dayFrom 41 = .ok (.goto 4, 3) := by decide +kernel
theorem dX8_dayFrom_44 : decode cX8_dayFrom 44 = .ok (.iconst 0, 1) := by decide +kernel
theorem dX8_dayFrom_45 : decode cX8_dayFrom 45 = .ok (.istore 5, 2) := by decide +kernel
theorem dX8_dayFrom_47 : decode cX8_dayFrom 47 = .ok (.iload 4, 2) := by decide +kernel
theorem dX8_dayFrom_49 : decode cX8_dayFrom 49 = .ok (.ifCond .ne 7, 3) := by decide +kernel
theorem dX8_dayFrom_52 : decode cX8_dayFrom 52 = .ok (.iload_n 3, 1) := by decide +kernel
theorem dX8_dayFrom_53 : decode cX8_dayFrom 53 = .ok (.goto 12, 3) := by decide +kernel
theorem dX8_dayFrom_56 : decode cX8_dayFrom 56 = .ok (.iload_n 3, 1) := by decide +kernel
theorem dX8_dayFrom_57 : decode cX8_dayFrom 57 = .ok (.iload 4, 2) := by decide +kernel
theorem dX8_dayFrom_59 : decode cX8_dayFrom 59 = .ok (.isub, 1) := by decide +kernel
theorem dX8_dayFrom_60 : decode cX8_dayFrom 60 = .ok (.aload_n 0, 1) := by decide +kernel
theorem dX8_dayFrom_61 : decode cX8_dayFrom 61 = .ok (.getfield 15, 3) := by decide +kernel
theorem dX8_dayFrom_64 : decode cX8_dayFrom 64 = .ok (.iadd, 1) := by decide +kernel
theorem dX8_dayFrom_65 : decode cX8_dayFrom 65 = .ok (.istore 6, 2) := by decide +kernel
theorem dX8_dayFrom_67 : decode cX8_dayFrom 67 = .ok (.aload_n 0, 1) := by decide +kernel
theorem dX8_dayFrom_68 : decode cX8_dayFrom 68 = .ok (.iload 5, 2) := by decide +kernel
theorem dX8_dayFrom_70 : decode cX8_dayFrom 70 = .ok (.invokevirtual 36, 3) := by decide +kernel
theorem dX8_dayFrom_73 : decode cX8_dayFrom 73 = .ok (.istore 7, 2) := by decide +kernel
theorem dX8_dayFrom_75 : decode cX8_dayFrom 75 = .ok (.iload 7, 2) := by decide +kernel
theorem dX8_dayFrom_77 : decode cX8_dayFrom 77 = .ok (.iconst (-1), 1) := by decide +kernel
theorem dX8_dayFrom_78 : decode cX8_dayFrom 78 = .ok (.if_icmp .ne 19, 3) := by decide +kernel
theorem dX8_dayFrom_81 : decode cX8_dayFrom 81 = .ok (.iload 6, 2) := by decide +kernel
theorem dX8_dayFrom_83 : decode cX8_dayFrom 83 = .ok (.aload_n 0, 1) := by decide +kernel
theorem dX8_dayFrom_84 : decode cX8_dayFrom 84 = .ok (.getfield 15, 3) := by decide +kernel
theorem dX8_dayFrom_87 : decode cX8_dayFrom 87 = .ok (.iadd, 1) := by decide +kernel
theorem dX8_dayFrom_88 : decode cX8_dayFrom 88 = .ok (.istore 6, 2) := by decide +kernel
theorem dX8_dayFrom_90 : decode cX8_dayFrom 90 = .ok (.aload_n 0, 1) := by decide +kernel
theorem dX8_dayFrom_91 : decode cX8_dayFrom 91 = .ok (.iconst 0, 1) := by decide +kernel
theorem dX8_dayFrom_92 : decode cX8_dayFrom 92 = .ok (.invokevirtual 36, 3) := by decide +kernel
theorem dX8_dayFrom_95 : decode cX8_dayFrom 95 = .ok (.istore 7, 2) := by decide +kernel
theorem dX8_dayFrom_97 : decode cX8_dayFrom 97 = .ok (.aload_n 0, 1) := by decide +kernel
theorem dX8_dayFrom_98 : decode cX8_dayFrom 98 = .ok (.getfield 30, 3) := by decide +kernel
theorem dX8_dayFrom_101 : decode cX8_dayFrom 101 = .ok (.bipush 7, 2) := by decide +kernel
theorem dX8_dayFrom_103 : decode cX8_dayFrom 103 = .ok (.iload 6, 2) := by decide +kernel
theorem dX8_dayFrom_105 : decode cX8_dayFrom 105 = .ok (.imul, 1) := by decide +kernel
theorem dX8_dayFrom_106 : decode cX8_dayFrom 106 = .ok (.iadd, 1) := by decide +kernel
theorem dX8_dayFrom_107 : decode cX8_dayFrom 107 = .ok (.iload 7, 2) := by decide +kernel
theorem dX8_dayFrom_109 : decode cX8_dayFrom 109 = .ok (.iadd, 1) := by decide +kernel
theorem dX8_dayFrom_110 : decode cX8_dayFrom 110 = .ok (.istore 8, 2) := by decide +kernel
theorem dX8_dayFrom_112 : decode cX8_dayFrom 112 = .ok (.iload 8, 2) := by decide +kernel
theorem dX8_dayFrom_114 : decode cX8_dayFrom 114 = .ok (.ldc 39, 2) := by decide +kernel
theorem dX8_dayFrom_116 : decode cX8_dayFrom 116 = .ok (.if_icmp .gt 8, 3) := by decide +kernel
theorem dX8_dayFrom_119 : decode cX8_dayFrom 119 = .ok (.iload 8, 2) := by decide +kernel
theorem dX8_dayFrom_121 : decode cX8_dayFrom 121 = .ok (.goto 4, 3) := by decide +kernel
theorem dX8_dayFrom_124 : decode cX8_dayFrom 124 = .ok (.iconst (-1), 1) := by decide +kernel
theorem dX8_dayFrom_125 : decode cX8_dayFrom 125 = .ok (.ireturn, 1) := by decide +kernel
set_option maxRecDepth 20000 in
theorem ggX8_dayTo_X8_lastWeekday : GoodIn wsX8_dayTo wsX8_lastWeekday := goodIn_r _ [9, 10, 25, 26, 27, 28, 29, 30] (by decide +kernel) (by decide +kernel)
set_option maxRecDepth 20000 in
theorem gX8_dayTo_X8_lastWeekday : GoodIn wsX8_dayTo (wsV RX8 40 RX8 yX8_lastWeekday wsX8_lastWeekday) := goodIn_app (goodIn_of _ (by decide +kernel)) ggX8_dayTo_X8_lastWeekday
theorem dX8_dayTo_0 : decode cX8_dayTo 0 = .ok (.iload_n 1, 1) := by decide +kernel
theorem dX8_dayTo_1 : decode cX8_dayTo 1 = .ok (.aload_n 0, 1) := by decide +kernel
theorem dX8_dayTo_2 : decode cX8_dayTo 2 = .ok (.getfield 33, 3) := by decide +kernel
theorem dX8_dayTo_5 : decode cX8_dayTo 5 = .ok (.if_icmp .ge 5, 3) := by decide +kernel
theorem dX8_dayTo_8 : decode cX8_dayTo 8 = .ok (.iconst (-1), 1) := by decide +kernel
theorem dX8_dayTo_9 : decode cX8_dayTo 9 = .ok (.ireturn, 1) := by decide +kernel
theorem dX8_dayTo_10 : decode cX8_dayTo 10 = .ok (.iload_n 1, 1) := by decide +kernel
theorem dX8_dayTo_11 : decode cX8_dayTo 11 = .ok (.aload_n 0, 1) := by decide +kernel
theorem dX8_dayTo_12 : decode cX8_dayTo 12 = .ok (.getfield 30, 3) := by decide +kernel
theorem dX8_dayTo_15 : decode cX8_dayTo 15 = .ok (.isub, 1) := by decide +kernel
theorem dX8_dayTo_16 : decode cX8_dayTo 16 = .ok (.bipush 7, 2) := by decide +kernel
theorem dX8_dayTo_18 : decode cX8_dayTo 18 = .ok (.idiv, 1) := by decide +kernel
theorem dX8_dayTo_19 : decode cX8_dayTo 19 = .ok (.istore_n 2, 1) := by decide +kernel
theorem dX8_dayTo_20 : decode cX8_dayTo 20 = .ok (.iload_n 2, 1) := by decide +kernel
theorem dX8_dayTo_21 : decode cX8_dayTo 21 = .ok (.aload_n 0, 1) := by decide +kernel
theorem dX8_dayTo_22 : decode cX8_dayTo 22 = .ok (.getfield 15, 3) := by decide +kernel
theorem dX8_dayTo_25 : decode cX8_dayTo 25 = .ok (.irem, 1) := by decide +kernel
theorem dX8_dayTo_26 : decode cX8_dayTo 26 = .ok (.istore_n 3, 1) := by decide +kernel
theorem dX8_dayTo_27 : decode cX8_dayTo 27 = .ok (.iload_n 3, 1) := by decide +kernel
theorem dX8_dayTo_28 : decode cX8_dayTo 28 = .ok (.ifCond .ne 15, 3) := by decide +kernel
theorem dX8_dayTo_31 : decode cX8_dayTo 31 = .ok (.iload_n 1, 1) := by decide +kernel
theorem dX8_dayTo_32 : decode cX8_dayTo 32 = .ok (.aload_n 0, 1) := by decide +kernel
theorem dX8_dayTo_33 : decode cX8_dayTo 33 = .ok (.getfield 30, 3) := by decide +kernel
theorem dX8_dayTo_36 : decode cX8_dayTo 36 = .ok (.isub, 1) := by decide +kernel
theorem dX8_dayTo_37 : decode cX8_dayTo 37 = .ok (.bipush 7, 2) := by decide +kernel
theorem dX8_dayTo_39 : decode cX8_dayTo 39 = .ok (.irem, 1) := by decide +kernel
theorem dX8_dayTo_40 : decode cX8_dayTo 40 = .ok (.goto 5, 3) := by decide +kernel
theorem dX8_dayTo_43 : decode cX8_dayTo 43 = .ok (.bipush 6, 2) := by decide +kernel
theorem dX8_dayTo_45 : decode cX8_dayTo 45 = .ok (.istore 4, 2) := by decide +kernel
theorem dX8_dayTo_47 : decode cX8_dayTo 47 = .ok (.iload_n 2, 1) := by decide +kernel
theorem dX8_dayTo_48 : decode cX8_dayTo 48 = .ok (.iload_n 3, 1) := by decide +kernel
theorem dX8_dayTo_49 : decode cX8_dayTo 49 = .ok (.isub, 1) := by decide +kernel
theorem dX8_dayTo_50 : decode cX8_dayTo 50 = .ok (.istore 5, 2) := by decide +kernel
theorem dX8_dayTo_52 : decode cX8_dayTo 52 = .ok (.aload_n 0, 1) := by decide +kernel
theorem dX8_dayTo_53 : decode cX8_dayTo 53 = .ok (.iload 4, 2) := by decide +kernel
theorem dX8_dayTo_55 : decode cX8_dayTo 55 = .ok (.invokevirtual 40, 3) := by decide +kernel
theorem dX8_dayTo_58 : decode cX8_dayTo 58 = .ok (.istore 6, 2) := by decide +kernel
theorem dX8_dayTo_60 : decode cX8_dayTo 60 = .ok (.iload 6, 2) := by decide +kernel
theorem dX8_dayTo_62 : decode cX8_dayTo 62 = .ok (.iconst (-1), 1) := by decide +kernel
theorem dX8_dayTo_63 : decode cX8_dayTo 63 = .ok (.if_icmp .ne 20, 3) := by decide +kernel
theorem dX8_dayTo_66 : decode cX8_dayTo 66 = .ok (.iload 5, 2) := by decide +kernel
theorem dX8_dayTo_68 : decode cX8_dayTo 68 = .ok (.aload_n 0, 1) := by decide +kernel
theorem dX8_dayTo_69 : decode cX8_dayTo 69 = .ok (.getfield 15, 3) := by decide +kernel
theorem dX8_dayTo_72 : decode cX8_dayTo 72 = .ok (.isub, 1) := by decide +kernel
theorem dX8_dayTo_73 : decode cX8_dayTo 73 = .ok (.istore 5, 2) := by decide +kernel
theorem dX8_dayTo_75 : decode cX8_dayTo 75 = .ok (.aload_n 0, 1) := by decide +kernel
theorem dX8_dayTo_76 : decode cX8_dayTo 76 = .ok (.bipush 6, 2) := by decide +kernel
theorem dX8_dayTo_78 : decode cX8_dayTo 78 = .ok (.invokevirtual 40, 3) := by decide +kernel
theorem dX8_dayTo_81 : decode cX8_dayTo 81 = .ok (.istore 6, 2) := by decide +kernel
theorem dX8_dayTo_83 : decode cX8_dayTo 83 = .ok (.aload_n 0, 1) := by decide +kernel
theorem dX8_dayTo_84 : decode cX8_dayTo 84 = .ok (.getfield 30, 3) := by decide +kernel
theorem dX8_dayTo_87 : decode cX8_dayTo 87 = .ok (.bipush 7, 2) := by decide +kernel
theorem dX8_dayTo_89 : decode cX8_dayTo 89 = .ok (.iload 5, 2) := by decide +kernel
theorem dX8_dayTo_91 : decode cX8_dayTo 91 = .ok (.imul, 1) := by decide +kernel
theorem dX8_dayTo_92 : decode cX8_dayTo 92 = .ok (.iadd, 1) := by decide +kernel
theorem dX8_dayTo_93 : decode cX8_dayTo 93 = .ok (.iload 6, 2) := by decide +kernel
theorem dX8_dayTo_95 : decode cX8_dayTo 95 = .ok (.iadd, 1) := by decide +kernel
theorem dX8_dayTo_96 : decode cX8_dayTo 96 = .ok (.istore 7, 2) := by decide +kernel
theorem dX8_dayTo_98 : decode cX8_dayTo 98 = .ok (.iload 7, 2) := by decide +kernel
theorem dX8_dayTo_100 : decode cX8_dayTo 100 = .ok (.aload_n 0, 1) := by decide +kernel
theorem dX8_dayTo_101 : decode cX8_dayTo 101 = .ok (.getfield 33, 3) := by decide +kernel
theorem dX8_dayTo_104 : decode cX8_dayTo 104 = .ok (.if_icmp .lt 8, 3) := by decide +kernel
theorem dX8_dayTo_107 : decode cX8_dayTo 107 = .ok (.iload 7, 2) := by decide +kernel
theorem dX8_dayTo_109 : decode cX8_dayTo 109 = .ok (.goto 4, 3) := by decide +kernel
theorem dX8_dayTo_112 : decode cX8_dayTo 112 = .ok (.iconst (-1), 1) := by decide +kernel
theorem dX8_dayTo_113 : decode cX8_dayTo 113 = .ok (.ireturn, 1) := by decide +kernel
set_option maxRecDepth 20000 in
theorem ggX8_daysIn_X8_daysUpTo : GoodIn wsX8_daysIn wsX8_daysUpTo := goodIn_r _ [11, 12, 13, 14, 15, 16, 17, 18, 19, 20, 21, 36, 37, 38, 39, 40, 41] (by decide +kernel) (by decide +kernel)
set_option maxRecDepth 20000 in
theorem gX8_daysIn_X8_daysUpTo : GoodIn wsX8_daysIn (wsV RX8 43 RX8 yX8_daysUpTo wsX8_daysUpTo) := goodIn_app (goodIn_of _ (by decide +kernel)) ggX8_daysIn_X8_daysUpTo
theorem dX8_daysIn_0 : decode cX8_daysIn 0 = .ok (.aload_n 0, 1) := by decide +kernel
theorem dX8_daysIn_1 : decode cX8_daysIn 1 = .ok (.iload_n 2, 1) := by decide +kernel
theorem dX8_daysIn_2 : decode cX8_daysIn 2 = .ok (.invokevirtual 43, 3) := by decide +kernel
theorem dX8_daysIn_5 : decode cX8_daysIn 5 = .ok (.aload_n 0, 1) := by decide +kernel
theorem dX8_daysIn_6 : decode cX8_daysIn 6 = .ok (.iload_n 1, 1) := by decide +kernel
theorem dX8_daysIn_7 : decode cX8_daysIn 7 = .ok (.aload_n 0, 1) := by decide +kernel
theorem dX8_daysIn_8 : decode cX8_daysIn 8 = .ok (.getfield 33, 3) := by decide +kernel
theorem dX8_daysIn_11 : decode cX8_daysIn 11 = .ok (.invokestatic 9, 3) := by decide +kernel
theorem dX8_daysIn_14 : decode cX8_daysIn 14 = .ok (.iconst 1, 1) := by decide +kernel
