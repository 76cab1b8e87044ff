theorem dX10_dateTold_41 : decode cX10_dateTold 41 = .ok (.iload_n 1, 1) := by decide +kernel
theorem dX10_dateTold_42 : decode cX10_dateTold 42 = .ok (.iload_n 2, 1) := by decide +kernel
theorem dX10_dateTold_43 : decode cX10_dateTold 43 = .ok (.invokestatic 56, 3) := by decide +kernel
theorem dX10_dateTold_46 : decode cX10_dateTold 46 = .ok (.invokevirtual 160, 3) := by decide +kernel
theorem dX10_dateTold_49 : decode cX10_dateTold 49 = .ok (.istore_n 3, 1) := by decide +kernel
theorem dX10_dateTold_50 : decode cX10_dateTold 50 = .ok (.aload_n 0, 1) := by decide +kernel
theorem dX10_dateTold_51 : decode cX10_dateTold 51 = .ok (.getfield 83, 3) := by decide +kernel
theorem dX10_dateTold_54 : decode cX10_dateTold 54 = .ok (.ifCond .le 7, 3) := by decide +kernel
theorem dX10_dateTold_57 : decode cX10_dateTold 57 = .ok (.iconst 0, 1) := by decide +kernel
theorem dX10_dateTold_58 : decode cX10_dateTold 58 = .ok (.goto 10, 3) := by decide +kernel
theorem dX10_dateTold_61 : decode cX10_dateTold 61 = .ok (.aload_n 0, 1) := by decide +kernel
theorem dX10_dateTold_62 : decode cX10_dateTold 62 = .ok (.iload_n 1, 1) := by decide +kernel
theorem dX10_dateTold_63 : decode cX10_dateTold 63 = .ok (.iload_n 2, 1) := by decide +kernel
theorem dX10_dateTold_64 : decode cX10_dateTold 64 = .ok (.iload_n 3, 1) := by decide +kernel
theorem dX10_dateTold_65 : decode cX10_dateTold 65 = .ok (.invokevirtual 163, 3) := by decide +kernel
theorem dX10_dateTold_68 : decode cX10_dateTold 68 = .ok (.ireturn, 1) := by decide +kernel
set_option maxRecDepth 20000 in
theorem ggX10_ruleTold_X10_isWord : GoodIn wsX10_ruleTold wsX10_isWord := goodIn_r _ [6, 7, 8, 9, 10, 11, 5, 12, 13, 14, 15, 16, 17, 18, 19, 20, 21, 22, 23, 24, 25, 26, 27, 28, 29, 30, 31, 32, 33, 34, 35, 36, 37, 38, 39, 40, 41, 42, 43, 44, 45, 46, 47, 48, 49, 50, 51, 52, 53, 54, 55, 56, 57, 58, 59, 60, 61, 62, 113, 114, 115, 116, 117, 118, 119, 120, 121, 122, 123, 124, 125, 126, 127, 128, 129, 130, 131, 132, 133, 134, 135, 136, 137, 138] (by decide +kernel) (by decide +kernel)
set_option maxRecDepth 20000 in
theorem gX10_ruleTold_X10_isWord : GoodIn wsX10_ruleTold (wsV RX10 129 RX10 yX10_isWord wsX10_isWord) := goodIn_app (goodIn_of _ (by decide +kernel)) ggX10_ruleTold_X10_isWord
set_option maxRecDepth 20000 in
theorem ggX10_ruleTold_X10_next : GoodIn wsX10_ruleTold wsX10_next := goodIn_r _ [66, 7, 67, 68, 8, 9, 69, 13, 70, 71, 72, 5, 73, 74, 75, 76, 77, 78, 79, 80, 81, 113, 114, 115, 116, 117, 118, 119, 120, 121, 122, 123, 124, 125, 126, 127, 128, 129, 130, 131, 132, 133, 134, 135, 136, 137, 138] (by decide +kernel) (by decide +kernel)
set_option maxRecDepth 20000 in
theorem gX10_ruleTold_X10_next : GoodIn wsX10_ruleTold (wsV RX10 137 RX10 yX10_next wsX10_next) := goodIn_app (goodIn_of _ (by decide +kernel)) ggX10_ruleTold_X10_next
set_option maxRecDepth 20000 in
theorem ggX10_ruleTold_X10_must : GoodIn wsX10_ruleTold wsX10_must := goodIn_r _ [85, 7, 2, 3, 4, 5, 6, 8, 9, 10, 11, 12, 13, 14, 15, 16, 17, 18, 19, 20, 21, 22, 23, 24, 25, 26, 27, 28, 29, 30, 31, 32, 33, 34, 35, 36, 37, 38, 39, 40, 41, 42, 43, 44, 45, 46, 47, 48, 49, 50, 51, 52, 53, 54, 55, 56, 57, 58, 59, 60, 61, 62, 86, 87, 88, 89, 68, 63, 64, 65, 66, 67, 69, 70, 71, 72, 73, 74, 75, 76, 77, 78, 79, 80, 81, 113, 114, 115, 116, 117, 118, 119, 120, 121, 122, 123, 124, 125, 126, 127, 128, 129, 130, 131, 132, 133, 134, 135, 136, 137, 138] (by decide +kernel) (by decide +kernel)
set_option maxRecDepth 20000 in
theorem gX10_ruleTold_X10_must : GoodIn wsX10_ruleTold (wsV RX10 171 RX10 yX10_must wsX10_must) := goodIn_app (goodIn_of _ (by decide +kernel)) ggX10_ruleTold_X10_must
set_option maxRecDepth 20000 in
theorem ggX10_ruleTold_X10_numberTold : GoodIn wsX10_ruleTold wsX10_numberTold := goodIn_r _ [93, 7, 8, 69, 86, 87, 88, 5, 89, 68, 94, 95, 96, 63, 64, 65, 66, 67, 9, 13, 70, 71, 72, 73, 74, 75, 76, 77, 78, 79, 80, 81, 113, 114, 115, 116, 117, 118, 119, 120, 121, 122, 123, 124, 125, 126, 127, 128, 129, 130, 131, 132, 133, 134, 135, 136, 137, 138] (by decide +kernel) (by decide +kernel)
set_option maxRecDepth 20000 in
theorem gX10_ruleTold_X10_numberTold : GoodIn wsX10_ruleTold (wsV RX10 160 RX10 yX10_numberTold wsX10_numberTold) := goodIn_app (goodIn_of _ (by decide +kernel)) ggX10_ruleTold_X10_numberTold
set_option maxRecDepth 20000 in
theorem ggX10_ruleTold_X10_weeksTold : GoodIn wsX10_ruleTold wsX10_weeksTold := goodIn_r _ [100, 1, 101, 102, 103, 5, 104, 2, 3, 4, 6, 7, 8, 9, 10, 11, 12, 13, 14, 15, 16, 17, 18, 19, 20, 21, 22, 23, 24, 25, 26, 27, 28, 29, 30, 31, 32, 33, 34, 35, 36, 37, 38, 39, 40, 41, 42, 43, 44, 45, 46, 47, 48, 49, 50, 51, 52, 53, 54, 55, 56, 57, 58, 59, 60, 61, 62, 86, 87, 88, 89, 68, 63, 64, 65, 66, 67, 69, 70, 71, 72, 73, 74, 75, 76, 77, 78, 79, 80, 81, 113, 114, 115, 116, 117, 118, 119, 120, 121, 122, 123, 124, 125, 126, 127, 128, 129, 130, 131, 132, 133, 134, 135, 136, 137, 138] (by decide +kernel) (by decide +kernel)
set_option maxRecDepth 20000 in
theorem gX10_ruleTold_X10_weeksTold : GoodIn wsX10_ruleTold (wsV RX10 179 RX10 yX10_weeksTold wsX10_weeksTold) := goodIn_app (goodIn_of _ (by decide +kernel)) ggX10_ruleTold_X10_weeksTold
set_option maxRecDepth 20000 in
theorem ggX10_ruleTold_X10_monthsTold : GoodIn wsX10_ruleTold wsX10_monthsTold := goodIn_r _ [108, 1, 2, 3, 4, 5, 6, 7, 8, 9, 10, 11, 12, 13, 14, 15, 16, 17, 18, 19, 20, 21, 22, 23, 24, 25, 26, 27, 28, 29, 30, 31, 32, 33, 34, 35, 36, 37, 38, 39, 40, 41, 42, 43, 44, 45, 46, 47, 48, 49, 50, 51, 52, 53, 54, 55, 56, 57, 58, 59, 60, 61, 62, 63, 64, 65, 66, 67, 68, 69, 70, 71, 72, 73, 74, 75, 76, 77, 78, 79, 80, 81, 90, 91, 92, 93, 86, 87, 88, 89, 94, 95, 96, 109, 110, 111, 112, 101, 102, 103, 104, 113, 114, 115, 116, 117, 118, 119, 120, 121, 122, 123, 124, 125, 126, 127, 128, 129, 130, 131, 132, 133, 134, 135, 136, 137, 138] (by decide +kernel) (by decide +kernel)
set_option maxRecDepth 20000 in
theorem gX10_ruleTold_X10_monthsTold : GoodIn wsX10_ruleTold (wsV RX10 184 RX10 yX10_monthsTold wsX10_monthsTold) := goodIn_app (goodIn_of _ (by decide +kernel)) ggX10_ruleTold_X10_monthsTold
set_option maxRecDepth 20000 in
theorem ggX10_ruleTold_X10_wrong : GoodIn wsX10_ruleTold wsX10_wrong := goodIn_r _ [89, 7, 68, 113, 114, 115, 116, 117, 118, 119, 120, 121, 122, 123, 124, 125, 126, 127, 128, 129, 130, 131, 132, 133, 134, 135, 136, 137, 138] (by decide +kernel) (by decide +kernel)
set_option maxRecDepth 20000 in
theorem gX10_ruleTold_X10_wrong : GoodIn wsX10_ruleTold (wsV RX10 133 RX10 yX10_wrong wsX10_wrong) := goodIn_app (goodIn_of _ (by decide +kernel)) ggX10_ruleTold_X10_wrong
theorem dX10_ruleTold_0 : decode cX10_ruleTold 0 = .ok (.aload_n 0, 1) := by decide +kernel
theorem dX10_ruleTold_1 : decode cX10_ruleTold 1 = .ok (.getfield 45, 3) := by decide +kernel
theorem dX10_ruleTold_4 : decode cX10_ruleTold 4 = .ok (.bipush 6, 2) := by decide +kernel
theorem dX10_ruleTold_6 : decode cX10_ruleTold 6 = .ok (.iconst 0, 1) := by decide +kernel
theorem dX10_ruleTold_7 : decode cX10_ruleTold 7 = .ok (.iastore, 1) := by decide +kernel
theorem dX10_ruleTold_8 : decode cX10_ruleTold 8 = .ok (.aload_n 0, 1) := by decide +kernel
theorem dX10_ruleTold_9 : decode cX10_ruleTold 9 = .ok (.getfield 45, 3) := by decide +kernel
theorem dX10_ruleTold_12 : decode cX10_ruleTold 12 = .ok (.bipush 7, 2) := by decide +kernel
theorem dX10_ruleTold_14 : decode cX10_ruleTold 14 = .ok (.iconst (-1), 1) := by decide +kernel
theorem dX10_ruleTold_15 : decode cX10_ruleTold 15 = .ok (.iastore, 1) := by decide +kernel
theorem dX10_ruleTold_16 : decode cX10_ruleTold 16 = .ok (.aload_n 0, 1) := by decide +kernel
theorem dX10_ruleTold_17 : decode cX10_ruleTold 17 = .ok (.ldc 167, 2) := by decide +kernel
theorem dX10_ruleTold_19 : decode cX10_ruleTold 19 = .ok (.invokevirtual 129, 3) := by decide +kernel
theorem dX10_ruleTold_22 : decode cX10_ruleTold 22 = .ok (.ifCond .eq 22, 3) := by decide +kernel
theorem dX10_ruleTold_25 : decode cX10_ruleTold 25 = .ok (.aload_n 0, 1) := by decide +kernel
theorem dX10_ruleTold_26 : decode cX10_ruleTold 26 = .ok (.invokevirtual 137, 3) := by decide +kernel
theorem dX10_ruleTold_29 : decode cX10_ruleTold 29 = .ok (.aload_n 0, 1) := by decide +kernel
theorem dX10_ruleTold_30 : decode cX10_ruleTold 30 = .ok (.getfield 45, 3) := by decide +kernel
theorem dX10_ruleTold_33 : decode cX10_ruleTold 33 = .ok (.iconst 3, 1) := by decide +kernel
theorem dX10_ruleTold_34 : decode cX10_ruleTold 34 = .ok (.iconst 0, 1) := by decide +kernel
theorem dX10_ruleTold_35 : decode cX10_ruleTold 35 = .ok (.iastore, 1) := by decide +kernel
theorem dX10_ruleTold_36 : decode cX10_ruleTold 36 = .ok (.aload_n 0, 1) := by decide +kernel
theorem dX10_ruleTold_37 : decode cX10_ruleTold 37 = .ok (.getfield 45, 3) := by decide +kernel
theorem dX10_ruleTold_40 : decode cX10_ruleTold 40 = .ok (.iconst 4, 1) := by decide +kernel
theorem dX10_ruleTold_41 : decode cX10_ruleTold 41 = .ok (.iconst 0, 1) := by decide +kernel
theorem dX10_ruleTold_42 : decode cX10_ruleTold 42 = .ok (.iastore, 1) := by decide +kernel
theorem dX10_ruleTold_43 : decode cX10_ruleTold 43 = .ok (.return_, 1) := by decide +kernel
theorem dX10_ruleTold_44 : decode cX10_ruleTold 44 = .ok (.aload_n 0, 1) := by decide +kernel
theorem dX10_ruleTold_45 : decode cX10_ruleTold 45 = .ok (.ldc 169, 2) := by decide +kernel
theorem dX10_ruleTold_47 : decode cX10_ruleTold 47 = .ok (.invokevirtual 171, 3) := by decide +kernel
theorem dX10_ruleTold_50 : decode cX10_ruleTold 50 = .ok (.aload_n 0, 1) := by decide +kernel
theorem dX10_ruleTold_51 : decode cX10_ruleTold 51 = .ok (.getfield 45, 3) := by decide +kernel
theorem dX10_ruleTold_54 : decode cX10_ruleTold 54 = .ok (.iconst 4, 1) := by decide +kernel
theorem dX10_ruleTold_55 : decode cX10_ruleTold 55 = .ok (.aload_n 0, 1) := by decide +kernel
theorem dX10_ruleTold_56 : decode cX10_ruleTold 56 = .ok (.iconst 1, 1) := by decide +kernel
theorem dX10_ruleTold_57 : decode cX10_ruleTold 57 = .ok (.sipush 999, 3) := by decide +kernel
theorem dX10_ruleTold_60 : decode cX10_ruleTold 60 = .ok (.invokevirtual 160, 3) := by decide +kernel
theorem dX10_ruleTold_63 : decode cX10_ruleTold 63 = .ok (.iastore, 1) := by decide +kernel
theorem dX10_ruleTold_64 : decode cX10_ruleTold 64 = .ok (.aload_n 0, 1) := by decide +kernel
theorem dX10_ruleTold_65 : decode cX10_ruleTold 65 = .ok (.ldc 175, 2) := by decide +kernel
theorem dX10_ruleTold_67 : decode cX10_ruleTold 67 = .ok (.invokevirtual 129, 3) := by decide +kernel
theorem dX10_ruleTold_70 : decode cX10_ruleTold 70 = .ok (.ifCond .eq 17, 3) := by decide +kernel
theorem dX10_ruleTold_73 : decode cX10_ruleTold 73 = .ok (.aload_n 0, 1) := by decide +kernel
theorem dX10_ruleTold_74 : decode cX10_ruleTold 74 = .ok (.invokevirtual 137, 3) := by decide +kernel
theorem dX10_ruleTold_77 : decode cX10_ruleTold 77 = .ok (.aload_n 0, 1) := by decide +kernel
theorem dX10_ruleTold_78 : decode cX10_ruleTold 78 = .ok (.getfield 45, 3) := by decide +kernel
theorem dX10_ruleTold_81 : decode cX10_ruleTold 81 = .ok (.iconst 3, 1) := by decide +kernel
theorem dX10_ruleTold_82 : decode cX10_ruleTold 82 = .ok (.iconst 1, 1) := by decide +kernel
theorem dX10_ruleTold_83 : decode cX10_ruleTold 83 = .ok (.iastore, 1) := by decide +kernel
theorem dX10_ruleTold_84 : decode cX10_ruleTold 84 = .ok (.goto 72, 3) := by decide +kernel
theorem dX10_ruleTold_87 : decode cX10_ruleTold 87 = .ok (.aload_n 0, 1) := by decide +kernel
theorem dX10_ruleTold_88 : decode cX10_ruleTold 88 = .ok (.ldc 177, 2) := by decide +kernel
theorem dX10_ruleTold_90 : decode cX10_ruleTold 90 = .ok (.invokevirtual 129, 3) := by decide +kernel
theorem dX10_ruleTold_93 : decode cX10_ruleTold 93 = .ok (.ifCond .eq 14, 3) := by decide +kernel
theorem dX10_ruleTold_96 : decode cX10_ruleTold 96 = .ok (.aload_n 0, 1) := by decide +kernel
theorem dX10_ruleTold_97 : decode cX10_ruleTold 97 = .ok (.invokevirtual 137, 3) := by decide +kernel
theorem dX10_ruleTold_100 : decode cX10_ruleTold 100 = .ok (.aload_n 0, 1) := by decide +kernel
theorem dX10_ruleTold_101 : decode cX10_ruleTold 101 = .ok (.invokevirtual 179, 3) := by decide +kernel
theorem dX10_ruleTold_104 : decode cX10_ruleTold 104 = .ok (.goto 52, 3) := by decide +kernel
theorem dX10_ruleTold_107 : decode cX10_ruleTold 107 = .ok (.aload_n 0, 1) := by decide +kernel
theorem dX10_ruleTold_108 : decode cX10_ruleTold 108 = .ok (.ldc 182, 2) := by decide +kernel
theorem dX10_ruleTold_110 : decode cX10_ruleTold 110 = .ok (.invokevirtual 129, 3) := by decide +kernel
theorem dX10_ruleTold_113 : decode cX10_ruleTold 113 = .ok (.ifCond .eq 14, 3) := by decide +kernel
theorem dX10_ruleTold_116 : decode cX10_ruleTold 116 = .ok (.aload_n 0, 1) := by decide +kernel
theorem dX10_ruleTold_117 : decode cX10_ruleTold 117 = .ok (.invokevirtual 137, 3) := by decide +kernel
theorem dX10_ruleTold_120 : decode cX10_ruleTold 120 = .ok (.aload_n 0, 1) := by decide +kernel
theorem dX10_ruleTold_121 : decode cX10_ruleTold 121 = .ok (.invokevirtual 184, 3) := by decide +kernel
theorem dX10_ruleTold_124 : decode cX10_ruleTold 124 = .ok (.goto 32, 3) := by decide +kernel
theorem dX10_ruleTold_127 : decode cX10_ruleTold 127 = .ok (.aload_n 0, 1) := by decide +kernel
theorem dX10_ruleTold_128 : decode cX10_ruleTold 128 = .ok (.ldc 187, 2) := by decide +kernel
theorem dX10_ruleTold_130 : decode cX10_ruleTold 130 = .ok (.invokevirtual 129, 3) := by decide +kernel
theorem dX10_ruleTold_133 : decode cX10_ruleTold 133 = .ok (.ifCond .eq 18, 3) := by decide +kernel
theorem dX10_ruleTold_136 : decode cX10_ruleTold 136 = .ok (.aload_n 0, 1) := by decide +kernel
theorem dX10_ruleTold_137 : decode cX10_ruleTold 137 = .ok (.invokevirtual 137, 3) := by decide +kernel
theorem dX10_ruleTold_140 : decode cX10_ruleTold 140 = .ok (.aload_n 0, 1) := by decide +kernel
theorem dX10_ruleTold_141 : decode cX10_ruleTold 141 = .ok (.getfield 45, 3) := by decide +kernel
theorem dX10_ruleTold_144 : decode cX10_ruleTold 144 = .ok (.iconst 3, 1) := by decide +kernel
theorem dX10_ruleTold_145 : decode cX10_ruleTold 145 = .ok (.bipush 7, 2) := by decide +kernel
theorem dX10_ruleTold_147 : decode cX10_ruleTold 147 = .ok (.iastore, 1) := by decide +kernel
theorem dX10_ruleTold_148 : decode cX10_ruleTold 148 = .ok (.goto 8, 3) := by decide +kernel
theorem dX10_ruleTold_151 : decode cX10_ruleTold 151 = .ok (.aload_n 0, 1) := by decide +kernel
theorem dX10_ruleTold_152 : decode cX10_ruleTold 152 = .ok (.iconst 1, 1) := by decide +kernel
theorem dX10_ruleTold_153 : decode cX10_ruleTold 153 = .ok (.invokevirtual 133, 3) := by decide +kernel
theorem dX10_ruleTold_156 : decode cX10_ruleTold 156 = .ok (.return_, 1) := by decide +kernel
set_option maxRecDepth 20000 in
theorem ggX10_weeksTold_X10_weekdayHere : GoodIn wsX10_weeksTold wsX10_weekdayHere := goodIn_r _ [6, 7, 8, 9, 5, 10, 11, 12, 13, 14, 15, 16, 17, 18, 19, 20, 21, 22, 23, 24, 25, 26, 27, 28, 29, 30, 31, 32, 33, 34, 35, 36, 37, 38, 39, 40, 41, 42, 43, 44, 45, 46, 47, 48, 49, 50, 51, 52, 53, 54, 55, 56, 57, 58, 59, 60, 61, 62, 63, 64, 65, 66, 90, 91, 92, 93, 94, 95, 96, 97, 98, 99, 100, 101, 102, 103, 104, 105, 106, 107, 108, 109, 110, 111, 112, 113, 114, 115] (by decide +kernel) (by decide +kernel)
set_option maxRecDepth 20000 in
theorem gX10_weeksTold_X10_weekdayHere : GoodIn wsX10_weeksTold (wsV RX10 154 RX10 yX10_weekdayHere wsX10_weekdayHere) := goodIn_app (goodIn_of _ (by decide +kernel)) ggX10_weeksTold_X10_weekdayHere
set_option maxRecDepth 20000 in
theorem ggX10_weeksTold_X10_wrong : GoodIn wsX10_weeksTold wsX10_wrong := goodIn_r _ [70, 11, 71, 90, 91, 92, 93, 94, 95, 96, 97, 98, 99, 100, 101, 102, 103, 104, 105, 106, 107, 108, 109, 110, 111, 112, 113, 114, 115] (by decide +kernel) (by decide +kernel)
set_option maxRecDepth 20000 in
theorem gX10_weeksTold_X10_wrong : GoodIn wsX10_weeksTold (wsV RX10 133 RX10 yX10_wrong wsX10_wrong) := goodIn_app (goodIn_of _ (by decide +kernel)) ggX10_weeksTold_X10_wrong
set_option maxRecDepth 20000 in
theorem ggX10_weeksTold_X10_next : GoodIn wsX10_weeksTold wsX10_next := goodIn_r _ [75, 11, 76, 71, 12, 13, 77, 17, 78, 79, 80, 5, 81, 82, 83, 84, 85, 86, 87, 88, 89, 90, 91, 92, 93, 94, 95, 96, 97, 98, 99, 100, 101, 102, 103, 104, 105, 106, 107, 108, 109, 110, 111, 112, 113, 114, 115] (by decide +kernel) (by decide +kernel)
set_option maxRecDepth 20000 in
theorem gX10_weeksTold_X10_next : GoodIn wsX10_weeksTold (wsV RX10 137 RX10 yX10_next wsX10_next) := goodIn_app (goodIn_of _ (by decide +kernel)) ggX10_weeksTold_X10_next
theorem dX10_weeksTold_0 : decode cX10_weeksTold 0 = .ok (.aload_n 0, 1) := by decide +kernel
theorem dX10_weeksTold_1 : decode cX10_weeksTold 1 = .ok (.getfield 45, 3) := by decide +kernel
theorem dX10_weeksTold_4 : decode cX10_weeksTold 4 = .ok (.iconst 3, 1) := by decide +kernel
theorem dX10_weeksTold_5 : decode cX10_weeksTold 5 = .ok (.iconst 2, 1) := by decide +kernel
theorem dX10_weeksTold_6 : decode cX10_weeksTold 6 = .ok (.iastore, 1) := by decide +kernel
theorem dX10_weeksTold_7 : decode cX10_weeksTold 7 = .ok (.iconst 0, 1) := by decide +kernel
theorem dX10_weeksTold_8 : decode cX10_weeksTold 8 = .ok (.istore_n 1, 1) := by decide +kernel
theorem dX10_weeksTold_9 : decode cX10_weeksTold 9 = .ok (.aload_n 0, 1) := by decide +kernel
theorem dX10_weeksTold_10 : decode cX10_weeksTold 10 = .ok (.invokevirtual 154, 3) := by decide +kernel
theorem dX10_weeksTold_13 : decode cX10_weeksTold 13 = .ok (.ifCond .ge 8, 3) := by decide +kernel
theorem dX10_weeksTold_16 : decode cX10_weeksTold 16 = .ok (.aload_n 0, 1) := by decide +kernel
theorem dX10_weeksTold_17 : decode cX10_weeksTold 17 = .ok (.iconst 1, 1) := by decide +kernel
theorem dX10_weeksTold_18 : decode cX10_weeksTold 18 = .ok (.invokevirtual 133, 3) := by decide +kernel
theorem dX10_weeksTold_21 : decode cX10_weeksTold 21 = .ok (.aload_n 0, 1) := by decide +kernel
theorem dX10_weeksTold_22 : decode cX10_weeksTold 22 = .ok (.invokevirtual 154, 3) := by decide +kernel
theorem dX10_weeksTold_25 : decode cX10_weeksTold 25 = .ok (.ifCond .lt 35, 3) := by decide +kernel
theorem dX10_weeksTold_28 : decode cX10_weeksTold 28 = .ok (.aload_n 0, 1) := by decide +kernel
theorem dX10_weeksTold_29 : decode cX10_weeksTold 29 = .ok (.invokevirtual 154, 3) := by decide +kernel
theorem dX10_weeksTold_32 : decode cX10_weeksTold 32 = .ok (.istore_n 2, 1) := by decide +kernel
theorem dX10_weeksTold_33 : decode cX10_weeksTold 33 = .ok (.iload_n 1, 1) := by decide +kernel
theorem dX10_weeksTold_34 : decode cX10_weeksTold 34 = .ok (.iload_n 2, 1) := by decide +kernel
theorem dX10_weeksTold_35 : decode cX10_weeksTold 35 = .ok (.ishr, 1) := by decide +kernel
theorem dX10_weeksTold_36 : decode cX10_weeksTold 36 = .ok (.iconst 1, 1) := by decide +kernel
theorem dX10_weeksTold_37 : decode cX10_weeksTold 37 = .ok (.iand, 1) := by decide +kernel
theorem dX10_weeksTold_38 : decode cX10_weeksTold 38 = .ok (.iconst 1, 1) := by decide +kernel
theorem dX10_weeksTold_39 : decode cX10_weeksTold 39 = .ok (.if_icmp .ne 8, 3) := by decide +kernel
theorem dX10_weeksTold_42 : decode cX10_weeksTold 42 = .ok (.aload_n 0, 1) := by decide +kernel
theorem dX10_weeksTold_43 : decode cX10_weeksTold 43 = .ok (.iconst 2, 1) := by decide +kernel
theorem dX10_weeksTold_44 : decode cX10_weeksTold 44 = .ok (.invokevirtual 133, 3) := by decide +kernel
theorem dX10_weeksTold_47 : decode cX10_weeksTold 47 = .ok (.iload_n 1, 1) := by decide +kernel
theorem dX10_weeksTold_48 : decode cX10_weeksTold 48 = .ok (.iconst 1, 1) := by decide +kernel
theorem dX10_weeksTold_49 : decode cX10_weeksTold 49 = .ok (.iload_n 2, 1) := by decide +kernel
theorem dX10_weeksTold_50 : decode cX10_weeksTold 50 = .ok (.ishl, 1) := by decide +kernel
theorem dX10_weeksTold_51 : decode cX10_weeksTold 51 = .ok (.ior, 1) := by decide +kernel
theorem dX10_weeksTold_52 : decode cX10_weeksTold 52 = .ok (.istore_n 1, 1) := by decide +kernel
theorem dX10_weeksTold_53 : decode cX10_weeksTold 53 = .ok (.aload_n 0, 1) := by decide +kernel
theorem dX10_weeksTold_54 : decode cX10_weeksTold 54 = .ok (.invokevirtual 137, 3) := by decide +kernel
theorem dX10_weeksTold_57 : decode cX10_weeksTold 57 = .ok (.goto (-36), 3) := by decide +kernel
theorem dX10_weeksTold_60 : decode cX10_weeksTold 60 = .ok (.aload_n 0, 1) := by decide +kernel
theorem dX10_weeksTold_61 : decode cX10_weeksTold 61 = .ok (.getfield 45, 3) := by decide +kernel
theorem dX10_weeksTold_64 : decode cX10_weeksTold 64 = .ok (.bipush 6, 2) := by decide +kernel
theorem dX10_weeksTold_66 : decode cX10_weeksTold 66 = .ok (.iload_n 1, 1) := by decide +kernel
theorem dX10_weeksTold_67 : decode cX10_weeksTold 67 = .ok (.iastore, 1) := by decide +kernel
theorem dX10_weeksTold_68 : decode cX10_weeksTold 68 = .ok (.return_, 1) := by decide +kernel
set_option maxRecDepth 20000 in
theorem ggX10_monthsTold_X10_isWord : GoodIn wsX10_monthsTold wsX10_isWord := goodIn_r _ [6, 7, 8, 9, 10, 11, 5, 12, 13, 14, 15, 16, 17, 18, 19, 20, 21, 22, 23, 24, 25, 26, 27, 28, 29, 30, 31, 32, 33, 34, 35, 36, 37, 38, 39, 40, 41, 42, 43, 44, 45, 46, 47, 48, 49, 50, 51, 52, 53, 54, 55, 56, 57, 58, 59, 60, 61, 62, 101, 102, 103, 104, 105, 106, 107, 108, 109, 110, 111, 112, 113, 114, 115, 116, 117, 118, 119, 120, 121, 122, 123, 124, 125, 126] (by decide +kernel) (by decide +kernel)
set_option maxRecDepth 20000 in
theorem gX10_monthsTold_X10_isWord : GoodIn wsX10_monthsTold (wsV RX10 129 RX10 yX10_isWord wsX10_isWord) := goodIn_app (goodIn_of _ (by decide +kernel)) ggX10_monthsTold_X10_isWord
set_option maxRecDepth 20000 in
theorem ggX10_monthsTold_X10_next : GoodIn wsX10_monthsTold wsX10_next := goodIn_r _ [66, 7, 67, 68, 8, 9, 69, 13, 70, 71, 72, 5, 73, 74, 75, 76, 77, 78, 79, 80, 81, 101, 102, 103, 104, 105, 106, 107, 108, 109, 110, 111, 112, 113, 114, 115, 116, 117, 118, 119, 120, 121, 122, 123, 124, 125, 126] (by decide +kernel) (by decide +kernel)
set_option maxRecDepth 20000 in
theorem gX10_monthsTold_X10_next : GoodIn wsX10_monthsTold (wsV RX10 137 RX10 yX10_next wsX10_next) := goodIn_app (goodIn_of _ (by decide +kernel)) ggX10_monthsTold_X10_next
set_option maxRecDepth 20000 in
theorem ggX10_monthsTold_X10_numberTold : GoodIn wsX10_monthsTold wsX10_numberTold := goodIn_r _ [85, 7, 8, 69, 86, 87, 88, 5, 89, 68, 90, 91, 92, 63, 64, 65, 66, 67, 9, 13, 70, 71, 72, 73, 74, 75, 76, 77, 78, 79, 80, 81, 101, 102, 103, 104, 105, 106, 107, 108, 109, 110, 111, 112, 113, 114, 115, 116, 117, 118, 119, 120, 121, 122, 123, 124, 125, 126] (by decide +kernel) (by decide +kernel)
set_option maxRecDepth 20000 in
theorem gX10_monthsTold_X10_numberTold : GoodIn wsX10_monthsTold (wsV RX10 160 RX10 yX10_numberTold wsX10_numberTold) := goodIn_app (goodIn_of _ (by decide +kernel)) ggX10_monthsTold_X10_numberTold
set_option maxRecDepth 20000 in
theorem ggX10_monthsTold_X10_weekdayTold : GoodIn wsX10_monthsTold wsX10_weekdayTold := goodIn_r _ [96, 97, 98, 99, 5, 100, 2, 3, 4, 6, 7, 8, 9, 10, 11, 12, 13, 14, 15, 16, 17, 18, 19, 20, 21, 22, 23, 24, 25, 26, 27, 28, 29, 30, 31, 32, 33, 34, 35, 36, 37, 38, 39, 40, 41, 42, 43, 44, 45, 46, 47, 48, 49, 50, 51, 52, 53, 54, 55, 56, 57, 58, 59, 60, 61, 62, 86, 87, 88, 89, 68, 63, 64, 65, 66, 67, 69, 70, 71, 72, 73, 74, 75, 76, 77, 78, 79, 80, 81, 101, 102, 103, 104, 105, 106, 107, 108, 109, 110, 111, 112, 113, 114, 115, 116, 117, 118, 119, 120, 121, 122, 123, 124, 125, 126] (by decide +kernel) (by decide +kernel)
set_option maxRecDepth 20000 in
theorem gX10_monthsTold_X10_weekdayTold : GoodIn wsX10_monthsTold (wsV RX10 195 RX10 yX10_weekdayTold wsX10_weekdayTold) := goodIn_app (goodIn_of _ (by decide +kernel)) ggX10_monthsTold_X10_weekdayTold
set_option maxRecDepth 20000 in
theorem ggX10_monthsTold_X10_wrong : GoodIn wsX10_monthsTold wsX10_wrong := goodIn_r _ [89, 7, 68, 101, 102, 103, 104, 105, 106, 107, 108, 109, 110, 111, 112, 113, 114, 115, 116, 117, 118, 119, 120, 121, 122, 123, 124, 125, 126] (by decide +kernel) (by decide +kernel)
set_option maxRecDepth 20000 in
theorem gX10_monthsTold_X10_wrong : GoodIn wsX10_monthsTold (wsV RX10 133 RX10 yX10_wrong wsX10_wrong) := goodIn_app (goodIn_of _ (by decide +kernel)) ggX10_monthsTold_X10_wrong
theorem dX10_monthsTold_0 : decode cX10_monthsTold 0 = .ok (.aload_n 0, 1) := by decide +kernel
theorem dX10_monthsTold_1 : decode cX10_monthsTold 1 = .ok (.ldc 189, 2) := by decide +kernel
theorem dX10_monthsTold_3 : decode cX10_monthsTold 3 = .ok (.invokevirtual 129, 3) := by decide +kernel
theorem dX10_monthsTold_6 : decode cX10_monthsTold 6 = .ok (.ifCond .eq 31, 3) := by decide +kernel
theorem dX10_monthsTold_9 : decode cX10_monthsTold 9 = .ok (.aload_n 0, 1) := by decide +kernel
theorem dX10_monthsTold_10 : decode cX10_monthsTold 10 = .ok (.invokevirtual 137, 3) := by decide +kernel
theorem dX10_monthsTold_13 : decode cX10_monthsTold 13 = .ok (.aload_n 0, 1) := by decide +kernel
theorem dX10_monthsTold_14 : decode cX10_monthsTold 14 = .ok (.getfield 45, 3) := by decide +kernel
theorem dX10_monthsTold_17 : decode cX10_monthsTold 17 = .ok (.iconst 3, 1) := by decide +kernel
theorem dX10_monthsTold_18 : decode cX10_monthsTold 18 = .ok (.iconst 3, 1) := by decide +kernel
theorem dX10_monthsTold_19 : decode cX10_monthsTold 19 = .ok (.iastore, 1) := by decide +kernel
theorem dX10_monthsTold_20 : decode cX10_monthsTold 20 = .ok (.aload_n 0, 1) := by decide +kernel
theorem dX10_monthsTold_21 : decode cX10_monthsTold 21 = .ok (.getfield 45, 3) := by decide +kernel
theorem dX10_monthsTold_24 : decode cX10_monthsTold 24 = .ok (.bipush 6, 2) := by decide +kernel
theorem dX10_monthsTold_26 : decode cX10_monthsTold 26 = .ok (.aload_n 0, 1) := by decide +kernel
theorem dX10_monthsTold_27 : decode cX10_monthsTold 27 = .ok (.iconst 1, 1) := by decide +kernel
theorem dX10_monthsTold_28 : decode cX10_monthsTold 28 = .ok (.bipush 31, 2) := by decide +kernel
theorem dX10_monthsTold_30 : decode cX10_monthsTold 30 = .ok (.invokevirtual 160, 3) := by decide +kernel
theorem dX10_monthsTold_33 : decode cX10_monthsTold 33 = .ok (.iastore, 1) := by decide +kernel
theorem dX10_monthsTold_34 : decode cX10_monthsTold 34 = .ok (.goto 127, 3) := by decide +kernel
theorem dX10_monthsTold_37 : decode cX10_monthsTold 37 = .ok (.aload_n 0, 1) := by decide +kernel
theorem dX10_monthsTold_38 : decode cX10_monthsTold 38 = .ok (.ldc 191, 2) := by decide +kernel
theorem dX10_monthsTold_40 : decode cX10_monthsTold 40 = .ok (.invokevirtual 129, 3) := by decide +kernel
theorem dX10_monthsTold_43 : decode cX10_monthsTold 43 = .ok (.ifCond .eq 31, 3) := by decide +kernel
theorem dX10_monthsTold_46 : decode cX10_monthsTold 46 = .ok (.aload_n 0, 1) := by decide +kernel
theorem dX10_monthsTold_47 : decode cX10_monthsTold 47 = .ok (.invokevirtual 137, 3) := by decide +kernel
theorem dX10_monthsTold_50 : decode cX10_monthsTold 50 = .ok (.aload_n 0, 1) := by decide +kernel
theorem dX10_monthsTold_51 : decode cX10_monthsTold 51 = .ok (.getfield 45, 3) := by decide +kernel
theorem dX10_monthsTold_54 : decode cX10_monthsTold 54 = .ok (.iconst 3, 1) := by decide +kernel
theorem dX10_monthsTold_55 : decode cX10_monthsTold 55 = .ok (.iconst 4, 1) := by decide +kernel
theorem dX10_monthsTold_56 : decode cX10_monthsTold 56 = .ok (.iastore, 1) := by decide +kernel
theorem dX10_monthsTold_57 : decode cX10_monthsTold 57 = .ok (.aload_n 0, 1) := by decide +kernel
theorem dX10_monthsTold_58 : decode cX10_monthsTold 58 = .ok (.getfield 45, 3) := by decide +kernel
theorem dX10_monthsTold_61 : decode cX10_monthsTold 61 = .ok (.bipush 6, 2) := by decide +kernel
theorem dX10_monthsTold_63 : decode cX10_monthsTold 63 = .ok (.aload_n 0, 1) := by decide +kernel
theorem dX10_monthsTold_64 : decode cX10_monthsTold 64 = .ok (.iconst 1, 1) := by decide +kernel
theorem dX10_monthsTold_65 : decode cX10_monthsTold 65 = .ok (.bipush 28, 2) := by decide +kernel
theorem dX10_monthsTold_67 : decode cX10_monthsTold 67 = .ok (.invokevirtual 160, 3) := by decide +kernel
theorem dX10_monthsTold_70 : decode cX10_monthsTold 70 = .ok (.iastore, 1) := by decide +kernel
theorem dX10_monthsTold_71 : decode cX10_monthsTold 71 = .ok (.goto 90, 3) := by decide +kernel
theorem dX10_monthsTold_74 : decode cX10_monthsTold 74 = .ok (.aload_n 0, 1) := by decide +kernel
theorem dX10_monthsTold_75 : decode cX10_monthsTold 75 = .ok (.ldc 193, 2) := by decide +kernel
theorem dX10_monthsTold_77 : decode cX10_monthsTold 77 = .ok (.invokevirtual 129, 3) := by decide +kernel
theorem dX10_monthsTold_80 : decode cX10_monthsTold 80 = .ok (.ifCond .eq 41, 3) := by decide +kernel
theorem dX10_monthsTold_83 : decode cX10_monthsTold 83 = .ok (.aload_n 0, 1) := by decide +kernel
theorem dX10_monthsTold_84 : decode cX10_monthsTold 84 = .ok (.invokevirtual 137, 3) := by decide +kernel
theorem dX10_monthsTold_87 : decode cX10_monthsTold 87 = .ok (.aload_n 0, 1) := by decide +kernel
theorem dX10_monthsTold_88 : decode cX10_monthsTold 88 = .ok (.getfield 45, 3) := by decide +kernel
theorem dX10_monthsTold_91 : decode cX10_monthsTold 91 = .ok (.iconst 3, 1) := by decide +kernel
theorem dX10_monthsTold_92 : decode cX10_monthsTold 92 = .ok (.iconst 5, 1) := by decide +kernel
theorem dX10_monthsTold_93 : decode cX10_monthsTold 93 = .ok (.iastore, 1) := by decide +kernel
theorem dX10_monthsTold_94 : decode cX10_monthsTold 94 = .ok (.aload_n 0, 1) := by decide +kernel
theorem dX10_monthsTold_95 : decode cX10_monthsTold 95 = .ok (.getfield 45, 3) := by decide +kernel
theorem dX10_monthsTold_98 : decode cX10_monthsTold 98 = .ok (.bipush 6, 2) := by decide +kernel
theorem dX10_monthsTold_100 : decode cX10_monthsTold 100 = .ok (.aload_n 0, 1) := by decide +kernel
theorem dX10_monthsTold_101 : decode cX10_monthsTold 101 = .ok (.iconst 1, 1) := by decide +kernel
theorem dX10_monthsTold_102 : decode cX10_monthsTold 102 = .ok (.iconst 5, 1) := by decide +kernel
theorem dX10_monthsTold_103 : decode cX10_monthsTold 103 = .ok (.invokevirtual 160, 3) := by decide +kernel
theorem dX10_monthsTold_106 : decode cX10_monthsTold 106 = .ok (.iastore, 1) := by decide +kernel
theorem dX10_monthsTold_107 : decode cX10_monthsTold 107 = .ok (.aload_n 0, 1) := by decide +kernel
theorem dX10_monthsTold_108 : decode cX10_monthsTold 108 = .ok (.getfield 45, 3) := by decide +kernel
theorem dX10_monthsTold_111 : decode cX10_monthsTold 111 = .ok (.bipush 7, 2) := by decide +kernel
theorem dX10_monthsTold_113 : decode cX10_monthsTold 113 = .ok (.aload_n 0, 1) := by decide +kernel
theorem dX10_monthsTold_114 : decode cX10_monthsTold 114 = .ok (.invokevirtual 195, 3) := by decide +kernel
theorem dX10_monthsTold_117 : decode cX10_monthsTold 117 = .ok (.iastore, 1) := by decide +kernel
theorem dX10_monthsTold_118 : decode cX10_monthsTold 118 = .ok (.goto 43, 3) := by decide +kernel
theorem dX10_monthsTold_121 : decode cX10_monthsTold 121 = .ok (.aload_n 0, 1) := by decide +kernel
theorem dX10_monthsTold_122 : decode cX10_monthsTold 122 = .ok (.ldc 198, 2) := by decide +kernel
theorem dX10_monthsTold_124 : decode cX10_monthsTold 124 = .ok (.invokevirtual 129, 3) := by decide +kernel
theorem dX10_monthsTold_127 : decode cX10_monthsTold 127 = .ok (.ifCond .eq 29, 3) := by decide +kernel
theorem dX10_monthsTold_130 : decode cX10_monthsTold 130 = .ok (.aload_n 0, 1) := by decide +kernel
theorem dX10_monthsTold_131 : decode cX10_monthsTold 131 = .ok (.invokevirtual 137, 3) := by decide +kernel
theorem dX10_monthsTold_134 : decode cX10_monthsTold 134 = .ok (.aload_n 0, 1) := by decide +kernel
theorem dX10_monthsTold_135 : decode cX10_monthsTold 135 = .ok (.getfield 45, 3) := by decide +kernel
theorem dX10_monthsTold_138 : decode cX10_monthsTold 138 = .ok (.iconst 3, 1) := by decide +kernel
theorem dX10_monthsTold_139 : decode cX10_monthsTold 139 = .ok (.bipush 6, 2) := by decide +kernel
theorem dX10_monthsTold_141 : decode cX10_monthsTold 141 = .ok (.iastore, 1) := by decide +kernel
theorem dX10_monthsTold_142 : decode cX10_monthsTold 142 = .ok (.aload_n 0, 1) := by decide +kernel
theorem dX10_monthsTold_143 : decode cX10_monthsTold 143 = .ok (.getfield 45, 3) := by decide +kernel
theorem dX10_monthsTold_146 : decode cX10_monthsTold 146 = .ok (.bipush 6, 2) := by decide +kernel
theorem dX10_monthsTold_148 : decode cX10_monthsTold 148 = .ok (.aload_n 0, 1) := by decide +kernel
theorem dX10_monthsTold_149 : decode cX10_monthsTold 149 = .ok (.invokevirtual 195, 3) := by decide +kernel
theorem dX10_monthsTold_152 : decode cX10_monthsTold 152 = .ok (.iastore, 1) := by decide +kernel
theorem dX10_monthsTold_153 : decode cX10_monthsTold 153 = .ok (.goto 8, 3) := by decide +kernel
theorem dX10_monthsTold_156 : decode cX10_monthsTold 156 = .ok (.aload_n 0, 1) := by decide +kernel
theorem dX10_monthsTold_157 : decode cX10_monthsTold 157 = .ok (.iconst 1, 1) := by decide +kernel
theorem dX10_monthsTold_158 : decode cX10_monthsTold 158 = .ok (.invokevirtual 133, 3) := by decide +kernel
theorem dX10_monthsTold_161 : decode cX10_monthsTold 161 = .ok (.return_, 1) := by decide +kernel
set_option maxRecDepth 20000 in
theorem ggX10_endTold_X10_isWord : GoodIn wsX10_endTold wsX10_isWord := goodIn_r _ [9, 2, 4, 10, 11, 12, 8, 13, 14, 15, 16, 17, 18, 19, 20, 21, 22, 23, 24, 25, 26, 27, 28, 29, 30, 31, 32, 33, 34, 35, 36, 37, 38, 39, 40, 41, 42, 43, 44, 45, 46, 47, 48, 49, 50, 51, 52, 53, 54, 55, 56, 57, 58, 59, 60, 61, 62, 63, 109, 110, 111, 112, 113, 114, 115, 116, 117, 118, 119, 120, 121, 122, 123, 124, 125, 126, 127, 128, 129, 130, 131, 132, 133, 134] (by decide +kernel) (by decide +kernel)
set_option maxRecDepth 20000 in
theorem gX10_endTold_X10_isWord : GoodIn wsX10_endTold (wsV RX10 129 RX10 yX10_isWord wsX10_isWord) := goodIn_app (goodIn_of _ (by decide +kernel)) ggX10_endTold_X10_isWord
set_option maxRecDepth 20000 in
theorem ggX10_endTold_X10_next : GoodIn wsX10_endTold wsX10_next := goodIn_r _ [67, 2, 68, 69, 4, 10, 70, 14, 71, 72, 73, 8, 74, 75, 76, 77, 78, 79, 80, 81, 82, 109, 110, 111, 112, 113, 114, 115, 116, 117, 118, 119, 120, 121, 122, 123, 124, 125, 126, 127, 128, 129, 130, 131, 132, 133, 134] (by decide +kernel) (by decide +kernel)
set_option maxRecDepth 20000 in
theorem gX10_endTold_X10_next : GoodIn wsX10_endTold (wsV RX10 137 RX10 yX10_next wsX10_next) := goodIn_app (goodIn_of _ (by decide +kernel)) ggX10_endTold_X10_next
set_option maxRecDepth 20000 in
theorem ggX10_endTold_X10_dateTold : GoodIn wsX10_endTold wsX10_dateTold := goodIn_r _ [86, 69, 3, 2, 87, 88, 89, 8, 90, 4, 70, 91, 92, 93, 94, 95, 96, 97, 64, 65, 66, 67, 68, 10, 14, 71, 72, 73, 74, 75, 76, 77, 78, 79, 80, 81, 82, 98, 99, 100, 101, 102, 103, 104, 105, 106, 107, 108, 109, 110, 111, 112, 113, 114, 115, 116, 117, 118, 119, 120, 121, 122, 123, 124, 125, 126, 127, 128, 129, 130, 131, 132, 133, 134] (by decide +kernel) (by decide +kernel)
set_option maxRecDepth 20000 in
theorem gX10_endTold_X10_dateTold : GoodIn wsX10_endTold (wsV RX10 202 RX10 yX10_dateTold wsX10_dateTold) := goodIn_app (goodIn_of _ (by decide +kernel)) ggX10_endTold_X10_dateTold
set_option maxRecDepth 20000 in
theorem ggX10_endTold_X10_numberTold : GoodIn wsX10_endTold wsX10_numberTold := goodIn_r _ [90, 2, 4, 70, 91, 92, 93, 8, 94, 69, 95, 96, 97, 64, 65, 66, 67, 68, 10, 14, 71, 72, 73, 74, 75, 76, 77, 78, 79, 80, 81, 82, 109, 110, 111, 112, 113, 114, 115, 116, 117, 118, 119, 120, 121, 122, 123, 124, 125, 126, 127, 128, 129, 130, 131, 132, 133, 134] (by decide +kernel) (by decide +kernel)
set_option maxRecDepth 20000 in
theorem gX10_endTold_X10_numberTold : GoodIn wsX10_endTold (wsV RX10 160 RX10 yX10_numberTold wsX10_numberTold) := goodIn_app (goodIn_of _ (by decide +kernel)) ggX10_endTold_X10_numberTold
set_option maxRecDepth 20000 in
theorem ggX10_endTold_X10_wrong : GoodIn wsX10_endTold wsX10_wrong := goodIn_r _ [94, 2, 69, 109, 110, 111, 112, 113, 114, 115, 116, 117, 118, 119, 120, 121, 122, 123, 124, 125, 126, 127, 128, 129, 130, 131, 132, 133, 134] (by decide +kernel) (by decide +kernel)
set_option maxRecDepth 20000 in
theorem gX10_endTold_X10_wrong : GoodIn wsX10_endTold (wsV RX10 133 RX10 yX10_wrong wsX10_wrong) := goodIn_app (goodIn_of _ (by decide +kernel)) ggX10_endTold_X10_wrong
theorem dX10_endTold_0 : decode cX10_endTold 0 = .ok (.aload_n 0, 1) := by decide +kernel
theorem dX10_endTold_1 : decode cX10_endTold 1 = .ok (.getfield 45, 3) := by decide +kernel
theorem dX10_endTold_4 : decode cX10_endTold 4 = .ok (.bipush 8, 2) := by decide +kernel
theorem dX10_endTold_6 : decode cX10_endTold 6 = .ok (.iconst (-1), 1) := by decide +kernel
theorem dX10_endTold_7 : decode cX10_endTold 7 = .ok (.iastore, 1) := by decide +kernel
theorem dX10_endTold_8 : decode cX10_endTold 8 = .ok (.aload_n 0, 1) := by decide +kernel
theorem dX10_endTold_9 : decode cX10_endTold 9 = .ok (.getfield 45, 3) := by decide +kernel
theorem dX10_endTold_12 : decode cX10_endTold 12 = .ok (.bipush 9, 2) := by decide +kernel
theorem dX10_endTold_14 : decode cX10_endTold 14 = .ok (.iconst (-1), 1) := by decide +kernel
theorem dX10_endTold_15 : decode cX10_endTold 15 = .ok (.iastore, 1) := by decide +kernel
theorem dX10_endTold_16 : decode cX10_endTold 16 = .ok (.aload_n 0, 1) := by decide +kernel
theorem dX10_endTold_17 : decode cX10_endTold 17 = .ok (.ldc 200, 2) := by decide +kernel
theorem dX10_endTold_19 : decode cX10_endTold 19 = .ok (.invokevirtual 129, 3) := by decide +kernel
theorem dX10_endTold_22 : decode cX10_endTold 22 = .ok (.ifCond .eq 57, 3) := by decide +kernel
theorem dX10_endTold_25 : decode cX10_endTold 25 = .ok (.aload_n 0, 1) := by decide +kernel
theorem dX10_endTold_26 : decode cX10_endTold 26 = .ok (.invokevirtual 137, 3) := by decide +kernel
theorem dX10_endTold_29 : decode cX10_endTold 29 = .ok (.aload_n 0, 1) := by decide +kernel
theorem dX10_endTold_30 : decode cX10_endTold 30 = .ok (.getfield 45, 3) := by decide +kernel
theorem dX10_endTold_33 : decode cX10_endTold 33 = .ok (.bipush 8, 2) := by decide +kernel
theorem dX10_endTold_35 : decode cX10_endTold 35 = .ok (.aload_n 0, 1) := by decide +kernel
theorem dX10_endTold_36 : decode cX10_endTold 36 = .ok (.invokevirtual 202, 3) := by decide +kernel
theorem dX10_endTold_39 : decode cX10_endTold 39 = .ok (.iastore, 1) := by decide +kernel
theorem dX10_endTold_40 : decode cX10_endTold 40 = .ok (.aload_n 0, 1) := by decide +kernel
theorem dX10_endTold_41 : decode cX10_endTold 41 = .ok (.getfield 83, 3) := by decide +kernel
theorem dX10_endTold_44 : decode cX10_endTold 44 = .ok (.ifCond .ne 63, 3) := by decide +kernel
theorem dX10_endTold_47 : decode cX10_endTold 47 = .ok (.aload_n 0, 1) := by decide +kernel
theorem dX10_endTold_48 : decode cX10_endTold 48 = .ok (.getfield 45, 3) := by decide +kernel
theorem dX10_endTold_51 : decode cX10_endTold 51 = .ok (.bipush 8, 2) := by decide +kernel
theorem dX10_endTold_53 : decode cX10_endTold 53 = .ok (.iaload, 1) := by decide +kernel
theorem dX10_endTold_54 : decode cX10_endTold 54 = .ok (.aload_n 0, 1) := by decide +kernel
theorem dX10_endTold_55 : decode cX10_endTold 55 = .ok (.getfield 45, 3) := by decide +kernel
theorem dX10_endTold_58 : decode cX10_endTold 58 = .ok (.iconst 5, 1) := by decide +kernel
theorem dX10_endTold_59 : decode cX10_endTold 59 = .ok (.iaload, 1) := by decide +kernel
theorem dX10_endTold_60 : decode cX10_endTold 60 = .ok (.if_icmp .ge 47, 3) := by decide +kernel
theorem dX10_endTold_63 : decode cX10_endTold 63 = .ok (.aload_n 0, 1) := by decide +kernel
theorem dX10_endTold_64 : decode cX10_endTold 64 = .ok (.bipush 8, 2) := by decide +kernel
theorem dX10_endTold_66 : decode cX10_endTold 66 = .ok (.aload_n 0, 1) := by decide +kernel
theorem dX10_endTold_67 : decode cX10_endTold 67 = .ok (.getfield 157, 3) := by decide +kernel
theorem dX10_endTold_70 : decode cX10_endTold 70 = .ok (.imul, 1) := by decide +kernel
theorem dX10_endTold_71 : decode cX10_endTold 71 = .ok (.iconst 3, 1) := by decide +kernel
theorem dX10_endTold_72 : decode cX10_endTold 72 = .ok (.iadd, 1) := by decide +kernel
theorem dX10_endTold_73 : decode cX10_endTold 73 = .ok (.putfield 83, 3) := by decide +kernel
theorem dX10_endTold_76 : decode cX10_endTold 76 = .ok (.goto 31, 3) := by decide +kernel
theorem dX10_endTold_79 : decode cX10_endTold 79 = .ok (.aload_n 0, 1) := by decide +kernel
theorem dX10_endTold_80 : decode cX10_endTold 80 = .ok (.ldc 205, 2) := by decide +kernel
theorem dX10_endTold_82 : decode cX10_endTold 82 = .ok (.invokevirtual 129, 3) := by decide +kernel
theorem dX10_endTold_85 : decode cX10_endTold 85 = .ok (.ifCond .eq 22, 3) := by decide +kernel
theorem dX10_endTold_88 : decode cX10_endTold 88 = .ok (.aload_n 0, 1) := by decide +kernel
theorem dX10_endTold_89 : decode cX10_endTold 89 = .ok (.invokevirtual 137, 3) := by decide +kernel
theorem dX10_endTold_92 : decode cX10_endTold 92 = .ok (.aload_n 0, 1) := by decide +kernel
theorem dX10_endTold_93 : decode cX10_endTold 93 = .ok (.getfield 45, 3) := by decide +kernel
theorem dX10_endTold_96 : decode cX10_endTold 96 = .ok (.bipush 9, 2) := by decide +kernel
theorem dX10_endTold_98 : decode cX10_endTold 98 = .ok (.aload_n 0, 1) := by decide +kernel
theorem dX10_endTold_99 : decode cX10_endTold 99 = .ok (.iconst 1, 1) := by decide +kernel
theorem dX10_endTold_100 : decode cX10_endTold 100 = .ok (.sipush 999, 3) := by decide +kernel
theorem dX10_endTold_103 : decode cX10_endTold 103 = .ok (.invokevirtual 160, 3) := by decide +kernel
theorem dX10_endTold_106 : decode cX10_endTold 106 = .ok (.iastore, 1) := by decide +kernel
theorem dX10_endTold_107 : decode cX10_endTold 107 = .ok (.aload_n 0, 1) := by decide +kernel
theorem dX10_endTold_108 : decode cX10_endTold 108 = .ok (.getfield 83, 3) := by decide +kernel
theorem dX10_endTold_111 : decode cX10_endTold 111 = .ok (.ifCond .ne 15, 3) := by decide +kernel
theorem dX10_endTold_114 : decode cX10_endTold 114 = .ok (.aload_n 0, 1) := by decide +kernel
theorem dX10_endTold_115 : decode cX10_endTold 115 = .ok (.getfield 96, 3) := by decide +kernel
theorem dX10_endTold_118 : decode cX10_endTold 118 = .ok (.ifCond .eq 8, 3) := by decide +kernel
theorem dX10_endTold_121 : decode cX10_endTold 121 = .ok (.aload_n 0, 1) := by decide +kernel
theorem dX10_endTold_122 : decode cX10_endTold 122 = .ok (.iconst 1, 1) := by decide +kernel
theorem dX10_endTold_123 : decode cX10_endTold 123 = .ok (.invokevirtual 133, 3) := by decide +kernel
theorem dX10_endTold_126 : decode cX10_endTold 126 = .ok (.return_, 1) := by decide +kernel
set_option maxRecDepth 20000 in
theorem ggX10_book_X10_next : GoodIn wsX10_book wsX10_next := goodIn_r _ [13, 5, 6, 14, 15, 16, 17, 18, 19, 20, 21, 12, 22, 3, 23, 24, 25, 26, 27, 28, 29, 141, 142, 143, 144, 145, 146, 147, 148, 149, 150, 151, 152, 153, 154, 155, 156, 157, 158, 159, 160, 161, 162, 163, 164, 165, 166] (by decide +kernel) (by decide +kernel)
set_option maxRecDepth 20000 in
theorem gX10_book_X10_next : GoodIn wsX10_book (wsV RX10 137 RX10 yX10_next wsX10_next) := goodIn_app (goodIn_of _ (by decide +kernel)) ggX10_book_X10_next
set_option maxRecDepth 20000 in
theorem ggX10_book_X10_must : GoodIn wsX10_book wsX10_must := goodIn_r _ [33, 5, 34, 35, 36, 12, 37, 15, 16, 38, 39, 40, 18, 41, 42, 43, 44, 45, 46, 47, 48, 49, 50, 51, 52, 53, 54, 55, 56, 57, 58, 59, 60, 61, 62, 63, 64, 65, 66, 67, 68, 69, 70, 71, 72, 73, 74, 75, 76, 77, 78, 79, 80, 81, 82, 83, 84, 85, 86, 87, 88, 89, 90, 91, 92, 93, 14, 9, 10, 11, 13, 6, 17, 19, 20, 21, 22, 3, 23, 24, 25, 26, 27, 28, 29, 141, 142, 143, 144, 145, 146, 147, 148, 149, 150, 151, 152, 153, 154, 155, 156, 157, 158, 159, 160, 161, 162, 163, 164, 165, 166] (by decide +kernel) (by decide +kernel)
set_option maxRecDepth 20000 in
theorem gX10_book_X10_must : GoodIn wsX10_book (wsV RX10 171 RX10 yX10_must wsX10_must) := goodIn_app (goodIn_of _ (by decide +kernel)) ggX10_book_X10_must
set_option maxRecDepth 20000 in
theorem ggX10_book_X10_numberTold : GoodIn wsX10_book wsX10_numberTold := goodIn_r _ [97, 5, 15, 17, 90, 91, 92, 12, 93, 14, 98, 99, 100, 9, 10, 11, 13, 6, 16, 18, 19, 20, 21, 22, 3, 23, 24, 25, 26, 27, 28, 29, 141, 142, 143, 144, 145, 146, 147, 148, 149, 150, 151, 152, 153, 154, 155, 156, 157, 158, 159, 160, 161, 162, 163, 164, 165, 166] (by decide +kernel) (by decide +kernel)
set_option maxRecDepth 20000 in
theorem gX10_book_X10_numberTold : GoodIn wsX10_book (wsV RX10 160 RX10 yX10_numberTold wsX10_numberTold) := goodIn_app (goodIn_of _ (by decide +kernel)) ggX10_book_X10_numberTold
set_option maxRecDepth 20000 in
theorem ggX10_book_X10_ruleTold : GoodIn wsX10_book wsX10_ruleTold := goodIn_r _ [104, 7, 34, 35, 36, 12, 37, 5, 15, 16, 38, 39, 40, 18, 41, 42, 43, 44, 45, 46, 47, 48, 49, 50, 51, 52, 53, 54, 55, 56, 57, 58, 59, 60, 61, 62, 63, 64, 65, 66, 67, 68, 69, 70, 71, 72, 73, 74, 75, 76, 77, 78, 79, 80, 81, 82, 83, 84, 85, 86, 87, 88, 89, 9, 10, 11, 13, 6, 14, 17, 19, 20, 21, 22, 3, 23, 24, 25, 26, 27, 28, 29, 30, 31, 32, 33, 90, 91, 92, 93, 94, 95, 96, 97, 98, 99, 100, 105, 106, 107, 108, 109, 110, 111, 112, 113, 114, 115, 116, 117, 118, 119, 120, 141, 142, 143, 144, 145, 146, 147, 148, 149, 150, 151, 152, 153, 154, 155, 156, 157, 158, 159, 160, 161, 162, 163, 164, 165, 166] (by decide +kernel) (by decide +kernel)
set_option maxRecDepth 20000 in
theorem gX10_book_X10_ruleTold : GoodIn wsX10_book (wsV RX10 212 RX10 yX10_ruleTold wsX10_ruleTold) := goodIn_app (goodIn_of _ (by decide +kernel)) ggX10_book_X10_ruleTold
set_option maxRecDepth 20000 in
theorem ggX10_book_X10_dateTold : GoodIn wsX10_book wsX10_dateTold := goodIn_r _ [124, 14, 125, 5, 94, 95, 96, 12, 97, 15, 17, 90, 91, 92, 93, 98, 99, 100, 9, 10, 11, 13, 6, 16, 18, 19, 20, 21, 22, 3, 23, 24, 25, 26, 27, 28, 29, 126, 127, 128, 129, 130, 131, 132, 133, 134, 135, 136, 141, 142, 143, 144, 145, 146, 147, 148, 149, 150, 151, 152, 153, 154, 155, 156, 157, 158, 159, 160, 161, 162, 163, 164, 165, 166] (by decide +kernel) (by decide +kernel)
set_option maxRecDepth 20000 in
theorem gX10_book_X10_dateTold : GoodIn wsX10_book (wsV RX10 202 RX10 yX10_dateTold wsX10_dateTold) := goodIn_app (goodIn_of _ (by decide +kernel)) ggX10_book_X10_dateTold
set_option maxRecDepth 20000 in
theorem ggX10_book_X10_endTold : GoodIn wsX10_book wsX10_endTold := goodIn_r _ [140, 7, 5, 125, 15, 34, 35, 36, 12, 37, 16, 38, 39, 40, 18, 41, 42, 43, 44, 45, 46, 47, 48, 49, 50, 51, 52, 53, 54, 55, 56, 57, 58, 59, 60, 61, 62, 63, 64, 65, 66, 67, 68, 69, 70, 71, 72, 73, 74, 75, 76, 77, 78, 79, 80, 81, 82, 83, 84, 85, 86, 87, 88, 89, 9, 10, 11, 13, 6, 14, 17, 19, 20, 21, 22, 3, 23, 24, 25, 26, 27, 28, 29, 121, 122, 123, 124, 94, 95, 96, 97, 90, 91, 92, 93, 98, 99, 100, 126, 127, 128, 129, 130, 131, 132, 133, 134, 135, 136, 141, 142, 143, 144, 145, 146, 147, 148, 149, 150, 151, 152, 153, 154, 155, 156, 157, 158, 159, 160, 161, 162, 163, 164, 165, 166] (by decide +kernel) (by decide +kernel)
set_option maxRecDepth 20000 in
theorem gX10_book_X10_endTold : GoodIn wsX10_book (wsV RX10 217 RX10 yX10_endTold wsX10_endTold) := goodIn_app (goodIn_of _ (by decide +kernel)) ggX10_book_X10_endTold
theorem dX10_book_0 : decode cX10_book 0 = .ok (.aload_n 0, 1) := by decide +kernel
theorem dX10_book_1 : decode cX10_book 1 = .ok (.iconst 0, 1) := by decide +kernel
theorem dX10_book_2 : decode cX10_book 2 = .ok (.putfield 60, 3) := by decide +kernel
theorem dX10_book_5 : decode cX10_book 5 = .ok (.aload_n 0, 1) := by decide +kernel
theorem dX10_book_6 : decode cX10_book 6 = .ok (.aload_n 0, 1) := by decide +kernel
theorem dX10_book_7 : decode cX10_book 7 = .ok (.getfield 73, 3) := by decide +kernel
theorem dX10_book_10 : decode cX10_book 10 = .ok (.putfield 80, 3) := by decide +kernel
theorem dX10_book_13 : decode cX10_book 13 = .ok (.aload_n 0, 1) := by decide +kernel
theorem dX10_book_14 : decode cX10_book 14 = .ok (.iconst 0, 1) := by decide +kernel
theorem dX10_book_15 : decode cX10_book 15 = .ok (.putfield 73, 3) := by decide +kernel
theorem dX10_book_18 : decode cX10_book 18 = .ok (.aload_n 0, 1) := by decide +kernel
theorem dX10_book_19 : decode cX10_book 19 = .ok (.getfield 80, 3) := by decide +kernel
theorem dX10_book_22 : decode cX10_book 22 = .ok (.sipush 160, 3) := by decide +kernel
theorem dX10_book_25 : decode cX10_book 25 = .ok (.if_icmp .gt 12, 3) := by decide +kernel
theorem dX10_book_28 : decode cX10_book 28 = .ok (.aload_n 0, 1) := by decide +kernel
theorem dX10_book_29 : decode cX10_book 29 = .ok (.getfield 70, 3) := by decide +kernel
theorem dX10_book_32 : decode cX10_book 32 = .ok (.bipush 12, 2) := by decide +kernel
theorem dX10_book_34 : decode cX10_book 34 = .ok (.if_icmp .ne 5, 3) := by decide +kernel
theorem dX10_book_37 : decode cX10_book 37 = .ok (.iconst (-1), 1) := by decide +kernel
theorem dX10_book_38 : decode cX10_book 38 = .ok (.ireturn, 1) := by decide +kernel
theorem dX10_book_39 : decode cX10_book 39 = .ok (.aload_n 0, 1) := by decide +kernel
theorem dX10_book_40 : decode cX10_book 40 = .ok (.iconst 0, 1) := by decide +kernel
theorem dX10_book_41 : decode cX10_book 41 = .ok (.putfield 83, 3) := by decide +kernel
theorem dX10_book_44 : decode cX10_book 44 = .ok (.aload_n 0, 1) := by decide +kernel
theorem dX10_book_45 : decode cX10_book 45 = .ok (.iconst 0, 1) := by decide +kernel
theorem dX10_book_46 : decode cX10_book 46 = .ok (.putfield 86, 3) := by decide +kernel
theorem dX10_book_49 : decode cX10_book 49 = .ok (.aload_n 0, 1) := by decide +kernel
theorem dX10_book_50 : decode cX10_book 50 = .ok (.invokevirtual 137, 3) := by decide +kernel
theorem dX10_book_53 : decode cX10_book 53 = .ok (.aload_n 0, 1) := by decide +kernel
theorem dX10_book_54 : decode cX10_book 54 = .ok (.ldc 206, 2) := by decide +kernel
theorem dX10_book_56 : decode cX10_book 56 = .ok (.invokevirtual 171, 3) := by decide +kernel
theorem dX10_book_59 : decode cX10_book 59 = .ok (.aload_n 0, 1) := by decide +kernel
theorem dX10_book_60 : decode cX10_book 60 = .ok (.getfield 45, 3) := by decide +kernel
theorem dX10_book_63 : decode cX10_book 63 = .ok (.iconst 0, 1) := by decide +kernel
theorem dX10_book_64 : decode cX10_book 64 = .ok (.aload_n 0, 1) := by decide +kernel
theorem dX10_book_65 : decode cX10_book 65 = .ok (.iconst 0, 1) := by decide +kernel
theorem dX10_book_66 : decode cX10_book 66 = .ok (.bipush 7, 2) := by decide +kernel
theorem dX10_book_68 : decode cX10_book 68 = .ok (.invokevirtual 160, 3) := by decide +kernel
theorem dX10_book_71 : decode cX10_book 71 = .ok (.iastore, 1) := by decide +kernel
theorem dX10_book_72 : decode cX10_book 72 = .ok (.aload_n 0, 1) := by decide +kernel
theorem dX10_book_73 : decode cX10_book 73 = .ok (.ldc 208, 2) := by decide +kernel
theorem dX10_book_75 : decode cX10_book 75 = .ok (.invokevirtual 171, 3) := by decide +kernel
theorem dX10_book_78 : decode cX10_book 78 = .ok (.aload_n 0, 1) := by decide +kernel
theorem dX10_book_79 : decode cX10_book 79 = .ok (.getfield 45, 3) := by decide +kernel
theorem dX10_book_82 : decode cX10_book 82 = .ok (.iconst 1, 1) := by decide +kernel
theorem dX10_book_83 : decode cX10_book 83 = .ok (.aload_n 0, 1) := by decide +kernel
theorem dX10_book_84 : decode cX10_book 84 = .ok (.iconst 0, 1) := by decide +kernel
theorem dX10_book_85 : decode cX10_book 85 = .ok (.sipush 1439, 3) := by decide +kernel
theorem dX10_book_88 : decode cX10_book 88 = .ok (.invokevirtual 160, 3) := by decide +kernel
theorem dX10_book_91 : decode cX10_book 91 = .ok (.iastore, 1) := by decide +kernel
theorem dX10_book_92 : decode cX10_book 92 = .ok (.aload_n 0, 1) := by decide +kernel
theorem dX10_book_93 : decode cX10_book 93 = .ok (.ldc 210, 2) := by decide +kernel
theorem dX10_book_95 : decode cX10_book 95 = .ok (.invokevirtual 171, 3) := by decide +kernel
theorem dX10_book_98 : decode cX10_book 98 = .ok (.aload_n 0, 1) := by decide +kernel
theorem dX10_book_99 : decode cX10_book 99 = .ok (.getfield 45, 3) := by decide +kernel
theorem dX10_book_102 : decode cX10_book 102 = .ok (.iconst 2, 1) := by decide +kernel
theorem dX10_book_103 : decode cX10_book 103 = .ok (.aload_n 0, 1) := by decide +kernel
theorem dX10_book_104 : decode cX10_book 104 = .ok (.iconst 1, 1) := by decide +kernel
theorem dX10_book_105 : decode cX10_book 105 = .ok (.sipush 4320, 3) := by decide +kernel
theorem dX10_book_108 : decode cX10_book 108 = .ok (.invokevirtual 160, 3) := by decide +kernel
theorem dX10_book_111 : decode cX10_book 111 = .ok (.iastore, 1) := by decide +kernel
theorem dX10_book_112 : decode cX10_book 112 = .ok (.aload_n 0, 1) := by decide +kernel
theorem dX10_book_113 : decode cX10_book 113 = .ok (.getfield 83, 3) := by decide +kernel
theorem dX10_book_116 : decode cX10_book 116 = .ok (.ifCond .ne 7, 3) := by decide +kernel
theorem dX10_book_119 : decode cX10_book 119 = .ok (.aload_n 0, 1) := by decide +kernel
theorem dX10_book_120 : decode cX10_book 120 = .ok (.invokevirtual 212, 3) := by decide +kernel
theorem dX10_book_123 : decode cX10_book 123 = .ok (.aload_n 0, 1) := by decide +kernel
theorem dX10_book_124 : decode cX10_book 124 = .ok (.ldc 215, 2) := by decide +kernel
theorem dX10_book_126 : decode cX10_book 126 = .ok (.invokevirtual 171, 3) := by decide +kernel
theorem dX10_book_129 : decode cX10_book 129 = .ok (.aload_n 0, 1) := by decide +kernel
theorem dX10_book_130 : decode cX10_book 130 = .ok (.getfield 45, 3) := by decide +kernel
theorem dX10_book_133 : decode cX10_book 133 = .ok (.iconst 5, 1) := by decide +kernel
theorem dX10_book_134 : decode cX10_book 134 = .ok (.aload_n 0, 1) := by decide +kernel
theorem dX10_book_135 : decode cX10_book 135 = .ok (.invokevirtual 202, 3) := by decide +kernel
theorem dX10_book_138 : decode cX10_book 138 = .ok (.iastore, 1) := by decide +kernel
theorem dX10_book_139 : decode cX10_book 139 = .ok (.aload_n 0, 1) := by decide +kernel
theorem dX10_book_140 : decode cX10_book 140 = .ok (.invokevirtual 217, 3) := by decide +kernel
theorem dX10_book_143 : decode cX10_book 143 = .ok (.aload_n 0, 1) := by decide +kernel
theorem dX10_book_144 : decode cX10_book 144 = .ok (.getfield 83, 3) := by decide +kernel
theorem dX10_book_147 : decode cX10_book 147 = .ok (.ifCond .le 11, 3) := by decide +kernel
theorem dX10_book_150 : decode cX10_book 150 = .ok (.bipush (-2), 2) := by decide +kernel
theorem dX10_book_152 : decode cX10_book 152 = .ok (.aload_n 0, 1) := by decide +kernel
theorem dX10_book_153 : decode cX10_book 153 = .ok (.getfield 83, 3) := by decide +kernel
theorem dX10_book_156 : decode cX10_book 156 = .ok (.isub, 1) := by decide +kernel
theorem dX10_book_157 : decode cX10_book 157 = .ok (.ireturn, 1) := by decide +kernel
theorem dX10_book_158 : decode cX10_book 158 = .ok (.aload_n 0, 1) := by decide +kernel
theorem dX10_book_159 : decode cX10_book 159 = .ok (.getfield 45, 3) := by decide +kernel
theorem dX10_book_162 : decode cX10_book 162 = .ok (.bipush 10, 2) := by decide +kernel
theorem dX10_book_164 : decode cX10_book 164 = .ok (.aload_n 0, 1) := by decide +kernel
theorem dX10_book_165 : decode cX10_book 165 = .ok (.getfield 45, 3) := by decide +kernel
theorem dX10_book_168 : decode cX10_book 168 = .ok (.iconst 5, 1) := by decide +kernel
theorem dX10_book_169 : decode cX10_book 169 = .ok (.iaload, 1) := by decide +kernel
theorem dX10_book_170 : decode cX10_book 170 = .ok (.iastore, 1) := by decide +kernel
theorem dX10_book_171 : decode cX10_book 171 = .ok (.aload_n 0, 1) := by decide +kernel
theorem dX10_book_172 : decode cX10_book 172 = .ok (.getfield 45, 3) := by decide +kernel
theorem dX10_book_175 : decode cX10_book 175 = .ok (.bipush 11, 2) := by decide +kernel
theorem dX10_book_177 : decode cX10_book 177 = .ok (.iconst 0, 1) := by decide +kernel
theorem dX10_book_178 : decode cX10_book 178 = .ok (.iastore, 1) := by decide +kernel
theorem dX10_book_179 : decode cX10_book 179 = .ok (.iconst 0, 1) := by decide +kernel
theorem dX10_book_180 : decode cX10_book 180 = .ok (.istore_n 1, 1) := by decide +kernel
theorem dX10_book_181 : decode cX10_book 181 = .ok (.iload_n 1, 1) := by decide +kernel
theorem dX10_book_182 : decode cX10_book 182 = .ok (.bipush 44, 2) := by decide +kernel
theorem dX10_book_184 : decode cX10_book 184 = .ok (.if_icmp .ge 29, 3) := by decide +kernel
theorem dX10_book_187 : decode cX10_book 187 = .ok (.aload_n 0, 1) := by decide +kernel
theorem dX10_book_188 : decode cX10_book 188 = .ok (.getfield 23, 3) := by decide +kernel
theorem dX10_book_191 : decode cX10_book 191 = .ok (.bipush 44, 2) := by decide +kernel
theorem dX10_book_193 : decode cX10_book 193 = .ok (.aload_n 0, 1) := by decide +kernel
theorem dX10_book_194 : decode cX10_book 194 = .ok (.getfield 70, 3) := by decide +kernel
theorem dX10_book_197 : decode cX10_book 197 = .ok (.imul, 1) := by decide +kernel
theorem dX10_book_198 : decode cX10_book 198 = .ok (.iload_n 1, 1) := by decide +kernel
theorem dX10_book_199 : decode cX10_book 199 = .ok (.iadd, 1) := by decide +kernel
theorem dX10_book_200 : decode cX10_book 200 = .ok (.aload_n 0, 1) := by decide +kernel
theorem dX10_book_201 : decode cX10_book 201 = .ok (.getfield 45, 3) := by decide +kernel
theorem dX10_book_204 : decode cX10_book 204 = .ok (.iload_n 1, 1) := by decide +kernel
theorem dX10_book_205 : decode cX10_book 205 = .ok (.iaload, 1) := by decide +kernel
theorem dX10_book_206 : decode cX10_book 206 = .ok (.iastore, 1) := by decide +kernel
theorem dX10_book_207 : decode cX10_book 207 = .ok (.iinc 1 1, 3) := by decide +kernel
theorem dX10_book_210 : decode cX10_book 210 = .ok (.goto (-29), 3) := by decide +kernel
theorem dX10_book_213 : decode cX10_book 213 = .ok (.aload_n 0, 1) := by decide +kernel
theorem dX10_book_214 : decode cX10_book 214 = .ok (.dup, 1) := by decide +kernel
theorem dX10_book_215 : decode cX10_book 215 = .ok (.getfield 70, 3) := by decide +kernel
theorem dX10_book_218 : decode cX10_book 218 = .ok (.iconst 1, 1) := by decide +kernel
theorem dX10_book_219 : decode cX10_book 219 = .ok (.iadd, 1) := by decide +kernel
theorem dX10_book_220 : decode cX10_book 220 = .ok (.putfield 70, 3) := by decide +kernel
theorem dX10_book_223 : decode cX10_book 223 = .ok (.aload_n 0, 1) := by decide +kernel
theorem dX10_book_224 : decode cX10_book 224 = .ok (.getfield 70, 3) := by decide +kernel
theorem dX10_book_227 : decode cX10_book 227 = .ok (.iconst 1, 1) := by decide +kernel
theorem dX10_book_228 : decode cX10_book 228 = .ok (.isub, 1) := by decide +kernel
theorem dX10_book_229 : decode cX10_book 229 = .ok (.ireturn, 1) := by decide +kernel
set_option maxRecDepth 20000 in
theorem ggX10_cancel_X10_isBooking : GoodIn wsX10_cancel wsX10_isBooking := goodIn_r _ [8, 2, 9, 10, 7, 11, 12, 13, 14, 15, 16, 17, 18, 19, 20, 21, 22, 23, 24, 25, 26, 27, 28, 29, 30, 31, 32, 33, 34, 35, 36, 37] (by decide +kernel) (by decide +kernel)
set_option maxRecDepth 20000 in
theorem gX10_cancel_X10_isBooking : GoodIn wsX10_cancel (wsV RX10 220 RX10 yX10_isBooking wsX10_isBooking) := goodIn_app (goodIn_of _ (by decide +kernel)) ggX10_cancel_X10_isBooking
theorem dX10_cancel_0 : decode cX10_cancel 0 = .ok (.aload_n 0, 1) := by decide +kernel
theorem dX10_cancel_1 : decode cX10_cancel 1 = .ok (.iconst 0, 1) := by decide +kernel
theorem dX10_cancel_2 : decode cX10_cancel 2 = .ok (.putfield 60, 3) := by decide +kernel
theorem dX10_cancel_5 : decode cX10_cancel 5 = .ok (.aload_n 0, 1) := by decide +kernel
theorem dX10_cancel_6 : decode cX10_cancel 6 = .ok (.iload_n 1, 1) := by decide +kernel
theorem dX10_cancel_7 : decode cX10_cancel 7 = .ok (.invokevirtual 220, 3) := by decide +kernel
theorem dX10_cancel_10 : decode cX10_cancel 10 = .ok (.ifCond .ne 5, 3) := by decide +kernel
theorem dX10_cancel_13 : decode cX10_cancel 13 = .ok (.iconst 0, 1) := by decide +kernel
theorem dX10_cancel_14 : decode cX10_cancel 14 = .ok (.ireturn, 1) := by decide +kernel
theorem dX10_cancel_15 : decode cX10_cancel 15 = .ok (.aload_n 0, 1) := by decide +kernel
theorem dX10_cancel_16 : decode cX10_cancel 16 = .ok (.dup, 1) := by decide +kernel
theorem dX10_cancel_17 : decode cX10_cancel 17 = .ok (.getfield 70, 3) := by decide +kernel
theorem dX10_cancel_20 : decode cX10_cancel 20 = .ok (.iconst 1, 1) := by decide +kernel
theorem dX10_cancel_21 : decode cX10_cancel 21 = .ok (.isub, 1) := by decide +kernel
theorem dX10_cancel_22 : decode cX10_cancel 22 = .ok (.putfield 70, 3) := by decide +kernel
theorem dX10_cancel_25 : decode cX10_cancel 25 = .ok (.bipush 44, 2) := by decide +kernel
theorem dX10_cancel_27 : decode cX10_cancel 27 = .ok (.iload_n 1, 1) := by decide +kernel
theorem dX10_cancel_28 : decode cX10_cancel 28 = .ok (.imul, 1) := by decide +kernel
theorem dX10_cancel_29 : decode cX10_cancel 29 = .ok (.istore_n 2, 1) := by decide +kernel
theorem dX10_cancel_30 : decode cX10_cancel 30 = .ok (.iload_n 2, 1) := by decide +kernel
theorem dX10_cancel_31 : decode cX10_cancel 31 = .ok (.bipush 44, 2) := by decide +kernel
theorem dX10_cancel_33 : decode cX10_cancel 33 = .ok (.aload_n 0, 1) := by decide +kernel
theorem dX10_cancel_34 : decode cX10_cancel 34 = .ok (.getfield 70, 3) := by decide +kernel
theorem dX10_cancel_37 : decode cX10_cancel 37 = .ok (.imul, 1) := by decide +kernel
theorem dX10_cancel_38 : decode cX10_cancel 38 = .ok (.if_icmp .ge 24, 3) := by decide +kernel
theorem dX10_cancel_41 : decode cX10_cancel 41 = .ok (.aload_n 0, 1) := by decide +kernel
theorem dX10_cancel_42 : decode cX10_cancel 42 = .ok (.getfield 23, 3) := by decide +kernel
theorem dX10_cancel_45 : decode cX10_cancel 45 = .ok (.iload_n 2, 1) := by decide +kernel
theorem dX10_cancel_46 : decode cX10_cancel 46 = .ok (.aload_n 0, 1) := by decide +kernel
theorem dX10_cancel_47 : decode cX10_cancel 47 = .ok (.getfield 23, 3) := by decide +kernel
theorem dX10_cancel_50 : decode cX10_cancel 50 = .ok (.iload_n 2, 1) := by decide +kernel
theorem dX10_cancel_51 : decode cX10_cancel 51 = .ok (.bipush 44, 2) := by decide +kernel
theorem dX10_cancel_53 : decode cX10_cancel 53 = .ok (.iadd, 1) := by decide +kernel
theorem dX10_cancel_54 : decode cX10_cancel 54 = .ok (.iaload, 1) := by decide +kernel
theorem dX10_cancel_55 : decode cX10_cancel 55 = .ok (.iastore, 1) := by decide +kernel
theorem dX10_cancel_56 : decode cX10_cancel 56 = .ok (.iinc 2 1, 3) := by decide +kernel
theorem dX10_cancel_59 : decode cX10_cancel 59 = .ok (.goto (-29), 3) := by decide +kernel
theorem dX10_cancel_62 : decode cX10_cancel 62 = .ok (.iconst 1, 1) := by decide +kernel
theorem dX10_cancel_63 : decode cX10_cancel 63 = .ok (.ireturn, 1) := by decide +kernel
set_option maxRecDepth 20000 in
theorem ggX10_day_X10_within : GoodIn wsX10_day wsX10_within := goodIn_r _ [5] (by decide +kernel) (by decide +kernel)
set_option maxRecDepth 20000 in
theorem gX10_day_X10_within : GoodIn wsX10_day (va_wsS RX10 65 yX10_within wsX10_within) := goodIn_app (goodIn_of _ (by decide +kernel)) ggX10_day_X10_within
set_option maxRecDepth 20000 in
theorem ggX10_day_X10_daysIn : GoodIn wsX10_day wsX10_daysIn := goodIn_r _ [8] (by decide +kernel) (by decide +kernel)
set_option maxRecDepth 20000 in
theorem gX10_day_X10_daysIn : GoodIn wsX10_day (va_wsS RX10 56 yX10_daysIn wsX10_daysIn) := goodIn_app (goodIn_of _ (by decide +kernel)) ggX10_day_X10_daysIn
set_option maxRecDepth 20000 in
theorem ggX10_day_X10_dayOf : GoodIn wsX10_day wsX10_dayOf := goodIn_r _ [12, 13, 14, 15, 16, 17, 18, 19, 20, 21, 22, 23, 24, 25, 26, 27, 28, 29, 30, 31, 32, 33, 34, 35, 36, 37, 38, 39, 40, 41, 42] (by decide +kernel) (by decide +kernel)
set_option maxRecDepth 20000 in
theorem gX10_day_X10_dayOf : GoodIn wsX10_day (wsV RX10 163 RX10 yX10_dayOf wsX10_dayOf) := goodIn_app (goodIn_of _ (by decide +kernel)) ggX10_day_X10_dayOf
theorem dX10_day_0 : decode cX10_day 0 = .ok (.aload_n 0, 1) := by decide +kernel
theorem dX10_day_1 : decode cX10_day 1 = .ok (.iconst 0, 1) := by decide +kernel
theorem dX10_day_2 : decode cX10_day 2 = .ok (.putfield 60, 3) := by decide +kernel
theorem dX10_day_5 : decode cX10_day 5 = .ok (.iload_n 1, 1) := by decide +kernel
theorem dX10_day_6 : decode cX10_day 6 = .ok (.sipush 2000, 3) := by decide +kernel
theorem dX10_day_9 : decode cX10_day 9 = .ok (.sipush 2099, 3) := by decide +kernel
theorem dX10_day_12 : decode cX10_day 12 = .ok (.invokestatic 65, 3) := by decide +kernel
theorem dX10_day_15 : decode cX10_day 15 = .ok (.ifCond .eq 36, 3) := by decide +kernel
theorem dX10_day_18 : decode cX10_day 18 = .ok (.iload_n 2, 1) := by decide +kernel
theorem dX10_day_19 : decode cX10_day 19 = .ok (.iconst 1, 1) := by decide +kernel
theorem dX10_day_20 : decode cX10_day 20 = .ok (.bipush 12, 2) := by decide +kernel
theorem dX10_day_22 : decode cX10_day 22 = .ok (.invokestatic 65, 3) := by decide +kernel
theorem dX10_day_25 : decode cX10_day 25 = .ok (.ifCond .eq 26, 3) := by decide +kernel
theorem dX10_day_28 : decode cX10_day 28 = .ok (.iload_n 3, 1) := by decide +kernel
theorem dX10_day_29 : decode cX10_day 29 = .ok (.iconst 1, 1) := by decide +kernel
theorem dX10_day_30 : decode cX10_day 30 = .ok (.iload_n 1, 1) := by decide +kernel
theorem dX10_day_31 : decode cX10_day 31 = .ok (.iload_n 2, 1) := by decide +kernel
theorem dX10_day_32 : decode cX10_day 32 = .ok (.invokestatic 56, 3) := by decide +kernel
theorem dX10_day_35 : decode cX10_day 35 = .ok (.invokestatic 65, 3) := by decide +kernel
theorem dX10_day_38 : decode cX10_day 38 = .ok (.ifCond .eq 13, 3) := by decide +kernel
theorem dX10_day_41 : decode cX10_day 41 = .ok (.aload_n 0, 1) := by decide +kernel
theorem dX10_day_42 : decode cX10_day 42 = .ok (.iload_n 1, 1) := by decide +kernel
theorem dX10_day_43 : decode cX10_day 43 = .ok (.iload_n 2, 1) := by decide +kernel
theorem dX10_day_44 : decode cX10_day 44 = .ok (.iload_n 3, 1) := by decide +kernel
theorem dX10_day_45 : decode cX10_day 45 = .ok (.invokevirtual 163, 3) := by decide +kernel
theorem dX10_day_48 : decode cX10_day 48 = .ok (.goto 4, 3) := by decide +kernel
theorem dX10_day_51 : decode cX10_day 51 = .ok (.iconst (-1), 1) := by decide +kernel
theorem dX10_day_52 : decode cX10_day 52 = .ok (.ireturn, 1) := by decide +kernel
set_option maxRecDepth 20000 in
theorem ggX10_date_X10_isDay : GoodIn wsX10_date wsX10_isDay := goodIn_r _ [9, 10, 11, 12, 8, 13] (by decide +kernel) (by decide +kernel)
set_option maxRecDepth 20000 in
theorem gX10_date_X10_isDay : GoodIn wsX10_date (va_wsS RX10 223 yX10_isDay wsX10_isDay) := goodIn_app (goodIn_of _ (by decide +kernel)) ggX10_date_X10_isDay
set_option maxRecDepth 20000 in
theorem ggX10_date_X10_weekdayOf : GoodIn wsX10_date wsX10_weekdayOf := goodIn_r _ [16] (by decide +kernel) (by decide +kernel)
set_option maxRecDepth 20000 in
theorem gX10_date_X10_weekdayOf : GoodIn wsX10_date (va_wsS RX10 226 yX10_weekdayOf wsX10_weekdayOf) := goodIn_app (goodIn_of _ (by decide +kernel)) ggX10_date_X10_weekdayOf
theorem dX10_date_0 : decode cX10_date 0 = .ok (.aload_n 0, 1) := by decide +kernel
theorem dX10_date_1 : decode cX10_date 1 = .ok (.iconst 0, 1) := by decide +kernel
theorem dX10_date_2 : decode cX10_date 2 = .ok (.putfield 60, 3) := by decide +kernel
theorem dX10_date_5 : decode cX10_date 5 = .ok (.iload_n 1, 1) := by decide +kernel
theorem dX10_date_6 : decode cX10_date 6 = .ok (.invokestatic 223, 3) := by decide +kernel
theorem dX10_date_9 : decode cX10_date 9 = .ok (.ifCond .ne 5, 3) := by decide +kernel
theorem dX10_date_12 : decode cX10_date 12 = .ok (.iconst (-1), 1) := by decide +kernel
theorem dX10_date_13 : decode cX10_date 13 = .ok (.ireturn, 1) := by decide +kernel
theorem dX10_date_14 : decode cX10_date 14 = .ok (.iload_n 2, 1) := by decide +kernel
theorem dX10_date_15 : decode cX10_date 15 = .ok (.tableswitch 66 0 4 #[33, 40, 47, 54, 59], 33) := by decide +kernel
theorem dX10_date_48 : decode cX10_date 48 = .ok (.aload_n 0, 1) := by decide +kernel
theorem dX10_date_49 : decode cX10_date 49 = .ok (.getfield 8, 3) := by decide +kernel
theorem dX10_date_52 : decode cX10_date 52 = .ok (.iload_n 1, 1) := by decide +kernel
theorem dX10_date_53 : decode cX10_date 53 = .ok (.iaload, 1) := by decide +kernel
theorem dX10_date_54 : decode cX10_date 54 = .ok (.ireturn, 1) := by decide +kernel
theorem dX10_date_55 : decode cX10_date 55 = .ok (.aload_n 0, 1) := by decide +kernel
theorem dX10_date_56 : decode cX10_date 56 = .ok (.getfield 14, 3) := by decide +kernel
theorem dX10_date_59 : decode cX10_date 59 = .ok (.iload_n 1, 1) := by decide +kernel
theorem dX10_date_60 : decode cX10_date 60 = .ok (.iaload, 1) := by decide +kernel
theorem dX10_date_61 : decode cX10_date 61 = .ok (.ireturn, 1) := by decide +kernel
theorem dX10_date_62 : decode cX10_date 62 = .ok (.aload_n 0, 1) := by decide +kernel
theorem dX10_date_63 : decode cX10_date 63 = .ok (.getfield 17, 3) := by decide +kernel
theorem dX10_date_66 : decode cX10_date 66 = .ok (.iload_n 1, 1) := by decide +kernel
theorem dX10_date_67 : decode cX10_date 67 = .ok (.iaload, 1) := by decide +kernel
theorem dX10_date_68 : decode cX10_date 68 = .ok (.ireturn, 1) := by decide +kernel
theorem dX10_date_69 : decode cX10_date 69 = .ok (.iload_n 1, 1) := by decide +kernel
theorem dX10_date_70 : decode cX10_date 70 = .ok (.invokestatic 226, 3) := by decide +kernel
theorem dX10_date_73 : decode cX10_date 73 = .ok (.ireturn, 1) := by decide +kernel
theorem dX10_date_74 : decode cX10_date 74 = .ok (.aload_n 0, 1) := by decide +kernel
theorem dX10_date_75 : decode cX10_date 75 = .ok (.getfield 20, 3) := by decide +kernel
theorem dX10_date_78 : decode cX10_date 78 = .ok (.iload_n 1, 1) := by decide +kernel
theorem dX10_date_79 : decode cX10_date 79 = .ok (.iaload, 1) := by decide +kernel
theorem dX10_date_80 : decode cX10_date 80 = .ok (.ireturn, 1) := by decide +kernel
theorem dX10_date_81 : decode cX10_date 81 = .ok (.iconst (-1), 1) := by decide +kernel
theorem dX10_date_82 : decode cX10_date 82 = .ok (.ireturn, 1) := by decide +kernel
set_option maxRecDepth 20000 in
theorem ggX10_isOn_X10_get : GoodIn wsX10_isOn wsX10_get := goodIn_r _ [9, 10, 14, 15, 16, 17, 18, 19, 20, 21, 22, 23, 24, 25, 26, 27, 28, 29, 30, 31, 32, 33, 34, 35, 36, 37, 38, 39] (by decide +kernel) (by decide +kernel)
set_option maxRecDepth 20000 in
theorem gX10_isOn_X10_get : GoodIn wsX10_isOn (wsV RX10 229 RX10 yX10_get wsX10_get) := goodIn_app (goodIn_of _ (by decide +kernel)) ggX10_isOn_X10_get
set_option maxRecDepth 20000 in
theorem ggX10_isOn_X10_weekdayOf : GoodIn wsX10_isOn wsX10_weekdayOf := goodIn_r _ [13] (by decide +kernel) (by decide +kernel)
set_option maxRecDepth 20000 in
theorem gX10_isOn_X10_weekdayOf : GoodIn wsX10_isOn (va_wsS RX10 226 yX10_weekdayOf wsX10_weekdayOf) := goodIn_app (goodIn_of _ (by decide +kernel)) ggX10_isOn_X10_weekdayOf
theorem dX10_isOn_0 : decode cX10_isOn 0 = .ok (.aload_n 0, 1) := by decide +kernel
theorem dX10_isOn_1 : decode cX10_isOn 1 = .ok (.iload_n 1, 1) := by decide +kernel
theorem dX10_isOn_2 : decode cX10_isOn 2 = .ok (.iconst 5, 1) := by decide +kernel
theorem dX10_isOn_3 : decode cX10_isOn 3 = .ok (.invokevirtual 229, 3) := by decide +kernel
theorem dX10_isOn_6 : decode cX10_isOn 6 = .ok (.istore_n 3, 1) := by decide +kernel
theorem dX10_isOn_7 : decode cX10_isOn 7 = .ok (.aload_n 0, 1) := by decide +kernel
theorem dX10_isOn_8 : decode cX10_isOn 8 = .ok (.iload_n 1, 1) := by decide +kernel
theorem dX10_isOn_9 : decode cX10_isOn 9 = .ok (.iconst 4, 1) := by decide +kernel
theorem dX10_isOn_10 : decode cX10_isOn 10 = .ok (.invokevirtual 229, 3) := by decide +kernel
theorem dX10_isOn_13 : decode cX10_isOn 13 = .ok (.istore 4, 2) := by decide +kernel
theorem dX10_isOn_15 : decode cX10_isOn 15 = .ok (.aload_n 0, 1) := by decide +kernel
theorem dX10_isOn_16 : decode cX10_isOn 16 = .ok (.iload_n 1, 1) := by decide +kernel
theorem dX10_isOn_17 : decode cX10_isOn 17 = .ok (.bipush 6, 2) := by decide +kernel
theorem dX10_isOn_19 : decode cX10_isOn 19 = .ok (.invokevirtual 229, 3) := by decide +kernel
theorem dX10_isOn_22 : decode cX10_isOn 22 = .ok (.istore 5, 2) := by decide +kernel
theorem dX10_isOn_24 : decode cX10_isOn 24 = .ok (.iload_n 2, 1) := by decide +kernel
theorem dX10_isOn_25 : decode cX10_isOn 25 = .ok (.iload_n 3, 1) := by decide +kernel
theorem dX10_isOn_26 : decode cX10_isOn 26 = .ok (.if_icmp .ge 5, 3) := by decide +kernel
theorem dX10_isOn_29 : decode cX10_isOn 29 = .ok (.iconst 0, 1) := by decide +kernel
theorem dX10_isOn_30 : decode cX10_isOn 30 = .ok (.ireturn, 1) := by decide +kernel
theorem dX10_isOn_31 : decode cX10_isOn 31 = .ok (.bipush 12, 2) := by decide +kernel
theorem dX10_isOn_33 : decode cX10_isOn 33 = .ok (.aload_n 0, 1) := by decide +kernel
theorem dX10_isOn_34 : decode cX10_isOn 34 = .ok (.getfield 8, 3) := by decide +kernel
theorem dX10_isOn_37 : decode cX10_isOn 37 = .ok (.iload_n 2, 1) := by decide +kernel
theorem dX10_isOn_38 : decode cX10_isOn 38 = .ok (.iaload, 1) := by decide +kernel
theorem dX10_isOn_39 : decode cX10_isOn 39 = .ok (.aload_n 0, 1) := by decide +kernel
theorem dX10_isOn_40 : decode cX10_isOn 40 = .ok (.getfield 8, 3) := by decide +kernel
theorem dX10_isOn_43 : decode cX10_isOn 43 = .ok (.iload_n 3, 1) := by decide +kernel
theorem dX10_isOn_44 : decode cX10_isOn 44 = .ok (.iaload, 1) := by decide +kernel
theorem dX10_isOn_45 : decode cX10_isOn 45 = .ok (.isub, 1) := by decide +kernel
theorem dX10_isOn_46 : decode cX10_isOn 46 = .ok (.imul, 1) := by decide +kernel
theorem dX10_isOn_47 : decode cX10_isOn 47 = .ok (.aload_n 0, 1) := by decide +kernel
theorem dX10_isOn_48 : decode cX10_isOn 48 = .ok (.getfield 14, 3) := by decide +kernel
theorem dX10_isOn_51 : decode cX10_isOn 51 = .ok (.iload_n 2, 1) := by decide +kernel
theorem dX10_isOn_52 : decode cX10_isOn 52 = .ok (.iaload, 1) := by decide +kernel
theorem dX10_isOn_53 : decode cX10_isOn 53 = .ok (.iadd, 1) := by decide +kernel
theorem dX10_isOn_54 : decode cX10_isOn 54 = .ok (.aload_n 0, 1) := by decide +kernel
theorem dX10_isOn_55 : decode cX10_isOn 55 = .ok (.getfield 14, 3) := by decide +kernel
theorem dX10_isOn_58 : decode cX10_isOn 58 = .ok (.iload_n 3, 1) := by decide +kernel
theorem dX10_isOn_59 : decode cX10_isOn 59 = .ok (.iaload, 1) := by decide +kernel
theorem dX10_isOn_60 : decode cX10_isOn 60 = .ok (.isub, 1) := by decide +kernel
theorem dX10_isOn_61 : decode cX10_isOn 61 = .ok (.istore 6, 2) := by decide +kernel
theorem dX10_isOn_63 : decode cX10_isOn 63 = .ok (.aload_n 0, 1) := by decide +kernel
theorem dX10_isOn_64 : decode cX10_isOn 64 = .ok (.iload_n 1, 1) := by decide +kernel
theorem dX10_isOn_65 : decode cX10_isOn 65 = .ok (.iconst 3, 1) := by decide +kernel
theorem dX10_isOn_66 : decode cX10_isOn 66 = .ok (.invokevirtual 229, 3) := by decide +kernel
theorem dX10_isOn_69 : decode cX10_isOn 69 = .ok (.tableswitch 253 0 6 #[43, 54, 69, 107, 132, 166, 212], 43) := by decide +kernel
theorem dX10_isOn_112 : decode cX10_isOn 112 = .ok (.iload_n 2, 1) := by decide +kernel
theorem dX10_isOn_113 : decode cX10_isOn 113 = .ok (.iload_n 3, 1) := by decide +kernel
theorem dX10_isOn_114 : decode cX10_isOn 114 = .ok (.if_icmp .ne 7, 3) := by decide +kernel
theorem dX10_isOn_117 : decode cX10_isOn 117 = .ok (.iconst 1, 1) := by decide +kernel
theorem dX10_isOn_118 : decode cX10_isOn 118 = .ok (.goto 4, 3) := by decide +kernel
theorem dX10_isOn_121 : decode cX10_isOn 121 = .ok (.iconst 0, 1) := by decide +kernel
theorem dX10_isOn_122 : decode cX10_isOn 122 = .ok (.ireturn, 1) := by decide +kernel
theorem dX10_isOn_123 : decode cX10_isOn 123 = .ok (.iload_n 2, 1) := by decide +kernel
theorem dX10_isOn_124 : decode cX10_isOn 124 = .ok (.iload_n 3, 1) := by decide +kernel
theorem dX10_isOn_125 : decode cX10_isOn 125 = .ok (.isub, 1) := by decide +kernel
theorem dX10_isOn_126 : decode cX10_isOn 126 = .ok (.iload 4, 2) := by decide +kernel
theorem dX10_isOn_128 : decode cX10_isOn 128 = .ok (.irem, 1) := by decide +kernel
theorem dX10_isOn_129 : decode cX10_isOn 129 = .ok (.ifCond .ne 7, 3) := by decide +kernel
theorem dX10_isOn_132 : decode cX10_isOn 132 = .ok (.iconst 1, 1) := by decide +kernel
theorem dX10_isOn_133 : decode cX10_isOn 133 = .ok (.goto 4, 3) := by decide +kernel
theorem dX10_isOn_136 : decode cX10_isOn 136 = .ok (.iconst 0, 1) := by decide +kernel
theorem dX10_isOn_137 : decode cX10_isOn 137 = .ok (.ireturn, 1) := by decide +kernel
theorem dX10_isOn_138 : decode cX10_isOn 138 = .ok (.iload 5, 2) := by decide +kernel
theorem dX10_isOn_140 : decode cX10_isOn 140 = .ok (.iload_n 2, 1) := by decide +kernel
theorem dX10_isOn_141 : decode cX10_isOn 141 = .ok (.invokestatic 226, 3) := by decide +kernel
theorem dX10_isOn_144 : decode cX10_isOn 144 = .ok (.ishr, 1) := by decide +kernel
theorem dX10_isOn_145 : decode cX10_isOn 145 = .ok (.iconst 1, 1) := by decide +kernel
theorem dX10_isOn_146 : decode cX10_isOn 146 = .ok (.iand, 1) := by decide +kernel
theorem dX10_isOn_147 : decode cX10_isOn 147 = .ok (.iconst 1, 1) := by decide +kernel
theorem dX10_isOn_148 : decode cX10_isOn 148 = .ok (.if_icmp .ne 26, 3) := by decide +kernel
theorem dX10_isOn_151 : decode cX10_isOn 151 = .ok (.iload_n 2, 1) := by decide +kernel
theorem dX10_isOn_152 : decode cX10_isOn 152 = .ok (.iconst 5, 1) := by decide +kernel
theorem dX10_isOn_153 : decode cX10_isOn 153 = .ok (.iadd, 1) := by decide +kernel
theorem dX10_isOn_154 : decode cX10_isOn 154 = .ok (.bipush 7, 2) := by decide +kernel
theorem dX10_isOn_156 : decode cX10_isOn 156 = .ok (.idiv, 1) := by decide +kernel
theorem dX10_isOn_157 : decode cX10_isOn 157 = .ok (.iload_n 3, 1) := by decide +kernel
theorem dX10_isOn_158 : decode cX10_isOn 158 = .ok (.iconst 5, 1) := by decide +kernel
theorem dX10_isOn_159 : decode cX10_isOn 159 = .ok (.iadd, 1) := by decide +kernel
theorem dX10_isOn_160 : decode cX10_isOn 160 = .ok (.bipush 7, 2) := by decide +kernel
theorem dX10_isOn_162 : decode cX10_isOn 162 = .ok (.idiv, 1) := by decide +kernel
theorem dX10_isOn_163 : decode cX10_isOn 163 = .ok (.isub, 1) := by decide +kernel
theorem dX10_isOn_164 : decode cX10_isOn 164 = .ok (.iload 4, 2) := by decide +kernel
theorem dX10_isOn_166 : decode cX10_isOn 166 = .ok (.irem, 1) := by decide +kernel
theorem dX10_isOn_167 : decode cX10_isOn 167 = .ok (.ifCond .ne 7, 3) := by decide +kernel
theorem dX10_isOn_170 : decode cX10_isOn 170 = .ok (.iconst 1, 1) := by decide +kernel
theorem dX10_isOn_171 : decode cX10_isOn 171 = .ok (.goto 4, 3) := by decide +kernel
theorem dX10_isOn_174 : decode cX10_isOn 174 = .ok (.iconst 0, 1) := by decide +kernel
theorem dX10_isOn_175 : decode cX10_isOn 175 = .ok (.ireturn, 1) := by decide +kernel
theorem dX10_isOn_176 : decode cX10_isOn 176 = .ok (.iload 6, 2) := by decide +kernel
theorem dX10_isOn_178 : decode cX10_isOn 178 = .ok (.iload 4, 2) := by decide +kernel
theorem dX10_isOn_180 : decode cX10_isOn 180 = .ok (.irem, 1) := by decide +kernel
theorem dX10_isOn_181 : decode cX10_isOn 181 = .ok (.ifCond .ne 18, 3) := by decide +kernel
theorem dX10_isOn_184 : decode cX10_isOn 184 = .ok (.aload_n 0, 1) := by decide +kernel
theorem dX10_isOn_185 : decode cX10_isOn 185 = .ok (.getfield 17, 3) := by decide +kernel
theorem dX10_isOn_188 : decode cX10_isOn 188 = .ok (.iload_n 2, 1) := by decide +kernel
theorem dX10_isOn_189 : decode cX10_isOn 189 = .ok (.iaload, 1) := by decide +kernel
theorem dX10_isOn_190 : decode cX10_isOn 190 = .ok (.iload 5, 2) := by decide +kernel
theorem dX10_isOn_192 : decode cX10_isOn 192 = .ok (.if_icmp .ne 7, 3) := by decide +kernel
theorem dX10_isOn_195 : decode cX10_isOn 195 = .ok (.iconst 1, 1) := by decide +kernel
theorem dX10_isOn_196 : decode cX10_isOn 196 = .ok (.goto 4, 3) := by decide +kernel
theorem dX10_isOn_199 : decode cX10_isOn 199 = .ok (.iconst 0, 1) := by decide +kernel
theorem dX10_isOn_200 : decode cX10_isOn 200 = .ok (.ireturn, 1) := by decide +kernel
theorem dX10_isOn_201 : decode cX10_isOn 201 = .ok (.iload 6, 2) := by decide +kernel
theorem dX10_isOn_203 : decode cX10_isOn 203 = .ok (.iload 4, 2) := by decide +kernel
theorem dX10_isOn_205 : decode cX10_isOn 205 = .ok (.irem, 1) := by decide +kernel
theorem dX10_isOn_206 : decode cX10_isOn 206 = .ok (.ifCond .ne 27, 3) := by decide +kernel
theorem dX10_isOn_209 : decode cX10_isOn 209 = .ok (.aload_n 0, 1) := by decide +kernel
theorem dX10_isOn_210 : decode cX10_isOn 210 = .ok (.getfield 17, 3) := by decide +kernel
theorem dX10_isOn_213 : decode cX10_isOn 213 = .ok (.iload_n 2, 1) := by decide +kernel
theorem dX10_isOn_214 : decode cX10_isOn 214 = .ok (.iaload, 1) := by decide +kernel
theorem dX10_isOn_215 : decode cX10_isOn 215 = .ok (.aload_n 0, 1) := by decide +kernel
theorem dX10_isOn_216 : decode cX10_isOn 216 = .ok (.getfield 20, 3) := by decide +kernel
theorem dX10_isOn_219 : decode cX10_isOn 219 = .ok (.iload_n 2, 1) := by decide +kernel
theorem dX10_isOn_220 : decode cX10_isOn 220 = .ok (.iaload, 1) := by decide +kernel
theorem dX10_isOn_221 : decode cX10_isOn 221 = .ok (.iload 5, 2) := by decide +kernel
theorem dX10_isOn_223 : decode cX10_isOn 223 = .ok (.isub, 1) := by decide +kernel
theorem dX10_isOn_224 : decode cX10_isOn 224 = .ok (.iconst 1, 1) := by decide +kernel
theorem dX10_isOn_225 : decode cX10_isOn 225 = .ok (.iadd, 1) := by decide +kernel
theorem dX10_isOn_226 : decode cX10_isOn 226 = .ok (.if_icmp .ne 7, 3) := by decide +kernel
theorem dX10_isOn_229 : decode cX10_isOn 229 = .ok (.iconst 1, 1) := by decide +kernel
theorem dX10_isOn_230 : decode cX10_isOn 230 = .ok (.goto 4, 3) := by decide +kernel
theorem dX10_isOn_233 : decode cX10_isOn 233 = .ok (.iconst 0, 1) := by decide +kernel
theorem dX10_isOn_234 : decode cX10_isOn 234 = .ok (.ireturn, 1) := by decide +kernel
theorem dX10_isOn_235 : decode cX10_isOn 235 = .ok (.iload 6, 2) := by decide +kernel
theorem dX10_isOn_237 : decode cX10_isOn 237 = .ok (.iload 4, 2) := by decide +kernel
theorem dX10_isOn_239 : decode cX10_isOn 239 = .ok (.irem, 1) := by decide +kernel
theorem dX10_isOn_240 : decode cX10_isOn 240 = .ok (.ifCond .ne 39, 3) := by decide +kernel
theorem dX10_isOn_243 : decode cX10_isOn 243 = .ok (.iload_n 2, 1) := by decide +kernel
theorem dX10_isOn_244 : decode cX10_isOn 244 = .ok (.invokestatic 226, 3) := by decide +kernel
theorem dX10_isOn_247 : decode cX10_isOn 247 = .ok (.aload_n 0, 1) := by decide +kernel
theorem dX10_isOn_248 : decode cX10_isOn 248 = .ok (.iload_n 1, 1) := by decide +kernel
theorem dX10_isOn_249 : decode cX10_isOn 249 = .ok (.bipush 7, 2) := by decide +kernel
theorem dX10_isOn_251 : decode cX10_isOn 251 = .ok (.invokevirtual 229, 3) := by decide +kernel
theorem dX10_isOn_254 : decode cX10_isOn 254 = .ok (.if_icmp .ne 25, 3) := by decide +kernel
theorem dX10_isOn_257 : decode cX10_isOn 257 = .ok (.aload_n 0, 1) := by decide +kernel
theorem dX10_isOn_258 : decode cX10_isOn 258 = .ok (.getfield 17, 3) := by decide +kernel
theorem dX10_isOn_261 : decode cX10_isOn 261 = .ok (.iload_n 2, 1) := by decide +kernel
theorem dX10_isOn_262 : decode cX10_isOn 262 = .ok (.iaload, 1) := by decide +kernel
theorem dX10_isOn_263 : decode cX10_isOn 263 = .ok (.iconst 1, 1) := by decide +kernel
theorem dX10_isOn_264 : decode cX10_isOn 264 = .ok (.isub, 1) := by decide +kernel
theorem dX10_isOn_265 : decode cX10_isOn 265 = .ok (.bipush 7, 2) := by decide +kernel
theorem dX10_isOn_267 : decode cX10_isOn 267 = .ok (.idiv, 1) := by decide +kernel
theorem dX10_isOn_268 : decode cX10_isOn 268 = .ok (.iconst 1, 1) := by decide +kernel
theorem dX10_isOn_269 : decode cX10_isOn 269 = .ok (.iadd, 1) := by decide +kernel
theorem dX10_isOn_270 : decode cX10_isOn 270 = .ok (.iload 5, 2) := by decide +kernel
theorem dX10_isOn_272 : decode cX10_isOn 272 = .ok (.if_icmp .ne 7, 3) := by decide +kernel
theorem dX10_isOn_275 : decode cX10_isOn 275 = .ok (.iconst 1, 1) := by decide +kernel
theorem dX10_isOn_276 : decode cX10_isOn 276 = .ok (.goto 4, 3) := by decide +kernel
theorem dX10_isOn_279 : decode cX10_isOn 279 = .ok (.iconst 0, 1) := by decide +kernel
theorem dX10_isOn_280 : decode cX10_isOn 280 = .ok (.ireturn, 1) := by decide +kernel
theorem dX10_isOn_281 : decode cX10_isOn 281 = .ok (.iload 6, 2) := by decide +kernel
theorem dX10_isOn_283 : decode cX10_isOn 283 = .ok (.iload 4, 2) := by decide +kernel
theorem dX10_isOn_285 : decode cX10_isOn 285 = .ok (.irem, 1) := by decide +kernel
theorem dX10_isOn_286 : decode cX10_isOn 286 = .ok (.ifCond .ne 34, 3) := by decide +kernel
theorem dX10_isOn_289 : decode cX10_isOn 289 = .ok (.iload_n 2, 1) := by decide +kernel
theorem dX10_isOn_290 : decode cX10_isOn 290 = .ok (.invokestatic 226, 3) := by decide +kernel
theorem dX10_isOn_293 : decode cX10_isOn 293 = .ok (.iload 5, 2) := by decide +kernel
theorem dX10_isOn_295 : decode cX10_isOn 295 = .ok (.if_icmp .ne 25, 3) := by decide +kernel
theorem dX10_isOn_298 : decode cX10_isOn 298 = .ok (.aload_n 0, 1) := by decide +kernel
theorem dX10_isOn_299 : decode cX10_isOn 299 = .ok (.getfield 17, 3) := by decide +kernel
theorem dX10_isOn_302 : decode cX10_isOn 302 = .ok (.iload_n 2, 1) := by decide +kernel
theorem dX10_isOn_303 : decode cX10_isOn 303 = .ok (.iaload, 1) := by decide +kernel
theorem dX10_isOn_304 : decode cX10_isOn 304 = .ok (.bipush 7, 2) := by decide +kernel
theorem dX10_isOn_306 : decode cX10_isOn 306 = .ok (.iadd, 1) := by decide +kernel
theorem dX10_isOn_307 : decode cX10_isOn 307 = .ok (.aload_n 0, 1) := by decide +kernel
theorem dX10_isOn_308 : decode cX10_isOn 308 = .ok (.getfield 20, 3) := by decide +kernel
theorem dX10_isOn_311 : decode cX10_isOn 311 = .ok (.iload_n 2, 1) := by decide +kernel
theorem dX10_isOn_312 : decode cX10_isOn 312 = .ok (.iaload, 1) := by decide +kernel
theorem dX10_isOn_313 : decode cX10_isOn 313 = .ok (.if_icmp .le 7, 3) := by decide +kernel
theorem dX10_isOn_316 : decode cX10_isOn 316 = .ok (.iconst 1, 1) := by decide +kernel
theorem dX10_isOn_317 : decode cX10_isOn 317 = .ok (.goto 4, 3) := by decide +kernel
theorem dX10_isOn_320 : decode cX10_isOn 320 = .ok (.iconst 0, 1) := by decide +kernel
theorem dX10_isOn_321 : decode cX10_isOn 321 = .ok (.ireturn, 1) := by decide +kernel
theorem dX10_isOn_322 : decode cX10_isOn 322 = .ok (.aload_n 0, 1) := by decide +kernel
theorem dX10_isOn_323 : decode cX10_isOn 323 = .ok (.getfield 8, 3) := by decide +kernel
theorem dX10_isOn_326 : decode cX10_isOn 326 = .ok (.iload_n 2, 1) := by decide +kernel
theorem dX10_isOn_327 : decode cX10_isOn 327 = .ok (.iaload, 1) := by decide +kernel
theorem dX10_isOn_328 : decode cX10_isOn 328 = .ok (.aload_n 0, 1) := by decide +kernel
theorem dX10_isOn_329 : decode cX10_isOn 329 = .ok (.getfield 8, 3) := by decide +kernel
theorem dX10_isOn_332 : decode cX10_isOn 332 = .ok (.iload_n 3, 1) := by decide +kernel
theorem dX10_isOn_333 : decode cX10_isOn 333 = .ok (.iaload, 1) := by decide +kernel
theorem dX10_isOn_334 : decode cX10_isOn 334 = .ok (.isub, 1) := by decide +kernel
theorem dX10_isOn_335 : decode cX10_isOn 335 = .ok (.iload 4, 2) := by decide +kernel
theorem dX10_isOn_337 : decode cX10_isOn 337 = .ok (.irem, 1) := by decide +kernel
theorem dX10_isOn_338 : decode cX10_isOn 338 = .ok (.ifCond .ne 37, 3) := by decide +kernel
theorem dX10_isOn_341 : decode cX10_isOn 341 = .ok (.aload_n 0, 1) := by decide +kernel
theorem dX10_isOn_342 : decode cX10_isOn 342 = .ok (.getfield 14, 3) := by decide +kernel
theorem dX10_isOn_345 : decode cX10_isOn 345 = .ok (.iload_n 2, 1) := by decide +kernel
theorem dX10_isOn_346 : decode cX10_isOn 346 = .ok (.iaload, 1) := by decide +kernel
theorem dX10_isOn_347 : decode cX10_isOn 347 = .ok (.aload_n 0, 1) := by decide +kernel
theorem dX10_isOn_348 : decode cX10_isOn 348 = .ok (.getfield 14, 3) := by decide +kernel
theorem dX10_isOn_351 : decode cX10_isOn 351 = .ok (.iload_n 3, 1) := by decide +kernel
theorem dX10_isOn_352 : decode cX10_isOn 352 = .ok (.iaload, 1) := by decide +kernel
theorem dX10_isOn_353 : decode cX10_isOn 353 = .ok (.if_icmp .ne 22, 3) := by decide +kernel
theorem dX10_isOn_356 : decode cX10_isOn 356 = .ok (.aload_n 0, 1) := by decide +kernel
theorem dX10_isOn_357 : decode cX10_isOn 357 = .ok (.getfield 17, 3) := by decide +kernel
theorem dX10_isOn_360 : decode cX10_isOn 360 = .ok (.iload_n 2, 1) := by decide +kernel
theorem dX10_isOn_361 : decode cX10_isOn 361 = .ok (.iaload, 1) := by decide +kernel
theorem dX10_isOn_362 : decode cX10_isOn 362 = .ok (.aload_n 0, 1) := by decide +kernel
theorem dX10_isOn_363 : decode cX10_isOn 363 = .ok (.getfield 17, 3) := by decide +kernel
theorem dX10_isOn_366 : decode cX10_isOn 366 = .ok (.iload_n 3, 1) := by decide +kernel
theorem dX10_isOn_367 : decode cX10_isOn 367 = .ok (.iaload, 1) := by decide +kernel
theorem dX10_isOn_368 : decode cX10_isOn 368 = .ok (.if_icmp .ne 7, 3) := by decide +kernel
theorem dX10_isOn_371 : decode cX10_isOn 371 = .ok (.iconst 1, 1) := by decide +kernel
theorem dX10_isOn_372 : decode cX10_isOn 372 = .ok (.goto 4, 3) := by decide +kernel
theorem dX10_isOn_375 : decode cX10_isOn 375 = .ok (.iconst 0, 1) := by decide +kernel
theorem dX10_isOn_376 : decode cX10_isOn 376 = .ok (.ireturn, 1) := by decide +kernel
set_option maxRecDepth 20000 in
theorem ggX10_laysKeys_X10_get : GoodIn wsX10_laysKeys wsX10_get := goodIn_r _ [9, 10, 22, 23, 24, 25, 26, 27, 28, 29, 30, 31, 32, 33, 34, 35, 36, 37, 38, 39, 40, 41, 42, 43, 44, 45, 46, 47] (by decide +kernel) (by decide +kernel)
set_option maxRecDepth 20000 in
theorem gX10_laysKeys_X10_get : GoodIn wsX10_laysKeys (wsV RX10 229 RX10 yX10_get wsX10_get) := goodIn_app (goodIn_of _ (by decide +kernel)) ggX10_laysKeys_X10_get
set_option maxRecDepth 20000 in
theorem ggX10_laysKeys_X10_isOn : GoodIn wsX10_laysKeys wsX10_isOn := goodIn_r _ [14, 15, 16, 17, 18, 5, 6, 7, 8, 9, 10, 19, 20, 21, 22, 23, 24, 25, 26, 27, 28, 29, 30, 31, 32, 33, 34, 35, 36, 37, 38, 39, 40, 41, 42, 43, 44, 45, 46, 47] (by decide +kernel) (by decide +kernel)
set_option maxRecDepth 20000 in
theorem gX10_laysKeys_X10_isOn : GoodIn wsX10_laysKeys (wsV RX10 232 RX10 yX10_isOn wsX10_isOn) := goodIn_app (goodIn_of _ (by decide +kernel)) ggX10_laysKeys_X10_isOn
theorem dX10_laysKeys_0 : decode cX10_laysKeys 0 = .ok (.iconst 0, 1) := by decide +kernel
theorem dX10_laysKeys_1 : decode cX10_laysKeys 1 = .ok (.istore_n 3, 1) := by decide +kernel
theorem dX10_laysKeys_2 : decode cX10_laysKeys 2 = .ok (.aload_n 0, 1) := by decide +kernel
theorem dX10_laysKeys_3 : decode cX10_laysKeys 3 = .ok (.iload_n 1, 1) := by decide +kernel
theorem dX10_laysKeys_4 : decode cX10_laysKeys 4 = .ok (.bipush 9, 2) := by decide +kernel
theorem dX10_laysKeys_6 : decode cX10_laysKeys 6 = .ok (.invokevirtual 229, 3) := by decide +kernel
theorem dX10_laysKeys_9 : decode cX10_laysKeys 9 = .ok (.istore 4, 2) := by decide +kernel
theorem dX10_laysKeys_11 : decode cX10_laysKeys 11 = .ok (.aload_n 0, 1) := by decide +kernel
theorem dX10_laysKeys_12 : decode cX10_laysKeys 12 = .ok (.iload_n 1, 1) := by decide +kernel
theorem dX10_laysKeys_13 : decode cX10_laysKeys 13 = .ok (.bipush 8, 2) := by decide +kernel
theorem dX10_laysKeys_15 : decode cX10_laysKeys 15 = .ok (.invokevirtual 229, 3) := by decide +kernel
theorem dX10_laysKeys_18 : decode cX10_laysKeys 18 = .ok (.ifCond .ge 8, 3) := by decide +kernel
theorem dX10_laysKeys_21 : decode cX10_laysKeys 21 = .ok (.ldc 64, 2) := by decide +kernel
theorem dX10_laysKeys_23 : decode cX10_laysKeys 23 = .ok (.goto 10, 3) := by decide +kernel
theorem dX10_laysKeys_26 : decode cX10_laysKeys 26 = .ok (.aload_n 0, 1) := by decide +kernel
theorem dX10_laysKeys_27 : decode cX10_laysKeys 27 = .ok (.iload_n 1, 1) := by decide +kernel
theorem dX10_laysKeys_28 : decode cX10_laysKeys 28 = .ok (.bipush 8, 2) := by decide +kernel
theorem dX10_laysKeys_30 : decode cX10_laysKeys 30 = .ok (.invokevirtual 229, 3) := by decide +kernel
theorem dX10_laysKeys_33 : decode cX10_laysKeys 33 = .ok (.istore 5, 2) := by decide +kernel
theorem dX10_laysKeys_35 : decode cX10_laysKeys 35 = .ok (.aload_n 0, 1) := by decide +kernel
theorem dX10_laysKeys_36 : decode cX10_laysKeys 36 = .ok (.iload_n 1, 1) := by decide +kernel
theorem dX10_laysKeys_37 : decode cX10_laysKeys 37 = .ok (.bipush 10, 2) := by decide +kernel
theorem dX10_laysKeys_39 : decode cX10_laysKeys 39 = .ok (.invokevirtual 229, 3) := by decide +kernel
theorem dX10_laysKeys_42 : decode cX10_laysKeys 42 = .ok (.istore 6, 2) := by decide +kernel
theorem dX10_laysKeys_44 : decode cX10_laysKeys 44 = .ok (.iload 6, 2) := by decide +kernel
theorem dX10_laysKeys_46 : decode cX10_laysKeys 46 = .ok (.iload 5, 2) := by decide +kernel
theorem dX10_laysKeys_48 : decode cX10_laysKeys 48 = .ok (.if_icmp .gt 49, 3) := by decide +kernel
theorem dX10_laysKeys_51 : decode cX10_laysKeys 51 = .ok (.iload 4, 2) := by decide +kernel
theorem dX10_laysKeys_53 : decode cX10_laysKeys 53 = .ok (.ifCond .lt 9, 3) := by decide +kernel
theorem dX10_laysKeys_56 : decode cX10_laysKeys 56 = .ok (.iload_n 3, 1) := by decide +kernel
theorem dX10_laysKeys_57 : decode cX10_laysKeys 57 = .ok (.iload 4, 2) := by decide +kernel
theorem dX10_laysKeys_59 : decode cX10_laysKeys 59 = .ok (.if_icmp .ge 38, 3) := by decide +kernel
theorem dX10_laysKeys_62 : decode cX10_laysKeys 62 = .ok (.aload_n 0, 1) := by decide +kernel
theorem dX10_laysKeys_63 : decode cX10_laysKeys 63 = .ok (.iload_n 1, 1) := by decide +kernel
theorem dX10_laysKeys_64 : decode cX10_laysKeys 64 = .ok (.iload 6, 2) := by decide +kernel
theorem dX10_laysKeys_66 : decode cX10_laysKeys 66 = .ok (.invokevirtual 232, 3) := by decide +kernel
theorem dX10_laysKeys_69 : decode cX10_laysKeys 69 = .ok (.ifCond .ne 6, 3) := by decide +kernel
theorem dX10_laysKeys_72 : decode cX10_laysKeys 72 = .ok (.goto 19, 3) := by decide +kernel
theorem dX10_laysKeys_75 : decode cX10_laysKeys 75 = .ok (.aload_n 0, 1) := by decide +kernel
theorem dX10_laysKeys_76 : decode cX10_laysKeys 76 = .ok (.getfield 39, 3) := by decide +kernel
theorem dX10_laysKeys_79 : decode cX10_laysKeys 79 = .ok (.ldc 7, 2) := by decide +kernel
theorem dX10_laysKeys_81 : decode cX10_laysKeys 81 = .ok (.iload_n 2, 1) := by decide +kernel
theorem dX10_laysKeys_82 : decode cX10_laysKeys 82 = .ok (.imul, 1) := by decide +kernel
theorem dX10_laysKeys_83 : decode cX10_laysKeys 83 = .ok (.iload_n 3, 1) := by decide +kernel
theorem dX10_laysKeys_84 : decode cX10_laysKeys 84 = .ok (.iadd, 1) := by decide +kernel
theorem dX10_laysKeys_85 : decode cX10_laysKeys 85 = .ok (.iload 6, 2) := by decide +kernel
theorem dX10_laysKeys_87 : decode cX10_laysKeys 87 = .ok (.iastore, 1) := by decide +kernel
theorem dX10_laysKeys_88 : decode cX10_laysKeys 88 = .ok (.iinc 3 1, 3) := by decide +kernel
theorem dX10_laysKeys_91 : decode cX10_laysKeys 91 = .ok (.iinc 6 1, 3) := by decide +kernel
theorem dX10_laysKeys_94 : decode cX10_laysKeys 94 = .ok (.goto (-50), 3) := by decide +kernel
theorem dX10_laysKeys_97 : decode cX10_laysKeys 97 = .ok (.aload_n 0, 1) := by decide +kernel
theorem dX10_laysKeys_98 : decode cX10_laysKeys 98 = .ok (.getfield 42, 3) := by decide +kernel
theorem dX10_laysKeys_101 : decode cX10_laysKeys 101 = .ok (.iload_n 2, 1) := by decide +kernel
theorem dX10_laysKeys_102 : decode cX10_laysKeys 102 = .ok (.iload_n 3, 1) := by decide +kernel
theorem dX10_laysKeys_103 : decode cX10_laysKeys 103 = .ok (.iastore, 1) := by decide +kernel
theorem dX10_laysKeys_104 : decode cX10_laysKeys 104 = .ok (.iload_n 3, 1) := by decide +kernel
theorem dX10_laysKeys_105 : decode cX10_laysKeys 105 = .ok (.ireturn, 1) := by decide +kernel
set_option maxRecDepth 20000 in
theorem ggX10_oddOf_X10_get : GoodIn wsX10_oddOf wsX10_get := goodIn_r _ [5, 6, 7, 8, 9, 10, 11, 12, 13, 14, 15, 16, 17, 18, 19, 20, 21, 22, 23, 24, 25, 26, 27, 28, 29, 30, 31, 32] (by decide +kernel) (by decide +kernel)
set_option maxRecDepth 20000 in
theorem gX10_oddOf_X10_get : GoodIn wsX10_oddOf (wsV RX10 229 RX10 yX10_get wsX10_get) := goodIn_app (goodIn_of _ (by decide +kernel)) ggX10_oddOf_X10_get
theorem dX10_oddOf_0 : decode cX10_oddOf 0 = .ok (.iconst 0, 1) := by decide +kernel
theorem dX10_oddOf_1 : decode cX10_oddOf 1 = .ok (.istore_n 3, 1) := by decide +kernel
theorem dX10_oddOf_2 : decode cX10_oddOf 2 = .ok (.iload_n 3, 1) := by decide +kernel
theorem dX10_oddOf_3 : decode cX10_oddOf 3 = .ok (.aload_n 0, 1) := by decide +kernel
theorem dX10_oddOf_4 : decode cX10_oddOf 4 = .ok (.iload_n 1, 1) := by decide +kernel
theorem dX10_oddOf_5 : decode cX10_oddOf 5 = .ok (.bipush 11, 2) := by decide +kernel
theorem dX10_oddOf_7 : decode cX10_oddOf 7 = .ok (.invokevirtual 229, 3) := by decide +kernel
theorem dX10_oddOf_10 : decode cX10_oddOf 10 = .ok (.if_icmp .ge 26, 3) := by decide +kernel
theorem dX10_oddOf_13 : decode cX10_oddOf 13 = .ok (.aload_n 0, 1) := by decide +kernel
theorem dX10_oddOf_14 : decode cX10_oddOf 14 = .ok (.iload_n 1, 1) := by decide +kernel
theorem dX10_oddOf_15 : decode cX10_oddOf 15 = .ok (.bipush 12, 2) := by decide +kernel
theorem dX10_oddOf_17 : decode cX10_oddOf 17 = .ok (.iconst 2, 1) := by decide +kernel
theorem dX10_oddOf_18 : decode cX10_oddOf 18 = .ok (.iload_n 3, 1) := by decide +kernel
theorem dX10_oddOf_19 : decode cX10_oddOf 19 = .ok (.imul, 1) := by decide +kernel
theorem dX10_oddOf_20 : decode cX10_oddOf 20 = .ok (.iadd, 1) := by decide +kernel
theorem dX10_oddOf_21 : decode cX10_oddOf 21 = .ok (.invokevirtual 229, 3) := by decide +kernel
theorem dX10_oddOf_24 : decode cX10_oddOf 24 = .ok (.iload_n 2, 1) := by decide +kernel
theorem dX10_oddOf_25 : decode cX10_oddOf 25 = .ok (.if_icmp .ne 5, 3) := by decide +kernel
theorem dX10_oddOf_28 : decode cX10_oddOf 28 = .ok (.iload_n 3, 1) := by decide +kernel
theorem dX10_oddOf_29 : decode cX10_oddOf 29 = .ok (.ireturn, 1) := by decide +kernel
theorem dX10_oddOf_30 : decode cX10_oddOf 30 = .ok (.iinc 3 1, 3) := by decide +kernel
theorem dX10_oddOf_33 : decode cX10_oddOf 33 = .ok (.goto (-31), 3) := by decide +kernel
theorem dX10_oddOf_36 : decode cX10_oddOf 36 = .ok (.iconst (-1), 1) := by decide +kernel
theorem dX10_oddOf_37 : decode cX10_oddOf 37 = .ok (.ireturn, 1) := by decide +kernel
set_option maxRecDepth 20000 in
theorem ggX10_laysTimes_X10_laysKeys : GoodIn wsX10_laysTimes wsX10_laysKeys := goodIn_r _ [9, 10, 2, 1, 4, 11, 12, 13, 8, 14, 15, 16, 17, 18, 19, 20, 21, 22, 23, 24, 25, 26, 31, 32, 33, 34, 35, 36, 37, 38, 39, 40, 41, 42, 43, 44, 45, 46, 47, 48, 49, 50, 51, 52, 53, 54, 55, 56] (by decide +kernel) (by decide +kernel)
set_option maxRecDepth 20000 in
theorem gX10_laysTimes_X10_laysKeys : GoodIn wsX10_laysTimes (wsV RX10 236 RX10 yX10_laysKeys wsX10_laysKeys) := goodIn_app (goodIn_of _ (by decide +kernel)) ggX10_laysTimes_X10_laysKeys
set_option maxRecDepth 20000 in
theorem ggX10_laysTimes_X10_oddOf : GoodIn wsX10_laysTimes wsX10_oddOf := goodIn_r _ [30, 11, 12, 13, 8, 14, 15, 31, 32, 33, 34, 35, 36, 37, 38, 39, 40, 41, 42, 43, 44, 45, 46, 47, 48, 49, 50, 51, 52, 53, 54, 55, 56] (by decide +kernel) (by decide +kernel)
set_option maxRecDepth 20000 in
theorem gX10_laysTimes_X10_oddOf : GoodIn wsX10_laysTimes (wsV RX10 239 RX10 yX10_oddOf wsX10_oddOf) := goodIn_app (goodIn_of _ (by decide +kernel)) ggX10_laysTimes_X10_oddOf
set_option maxRecDepth 20000 in
theorem ggX10_laysTimes_X10_get : GoodIn wsX10_laysTimes wsX10_get := goodIn_r _ [14, 15, 31, 32, 33, 34, 35, 36, 37, 38, 39, 40, 41, 42, 43, 44, 45, 46, 47, 48, 49, 50, 51, 52, 53, 54, 55, 56] (by decide +kernel) (by decide +kernel)
set_option maxRecDepth 20000 in
theorem gX10_laysTimes_X10_get : GoodIn wsX10_laysTimes (wsV RX10 229 RX10 yX10_get wsX10_get) := goodIn_app (goodIn_of _ (by decide +kernel)) ggX10_laysTimes_X10_get
theorem dX10_laysTimes_0 : decode cX10_laysTimes 0 = .ok (.aload_n 0, 1) := by decide +kernel
theorem dX10_laysTimes_1 : decode cX10_laysTimes 1 = .ok (.iload_n 1, 1) := by decide +kernel
theorem dX10_laysTimes_2 : decode cX10_laysTimes 2 = .ok (.iload_n 2, 1) := by decide +kernel
theorem dX10_laysTimes_3 : decode cX10_laysTimes 3 = .ok (.invokevirtual 236, 3) := by decide +kernel
theorem dX10_laysTimes_6 : decode cX10_laysTimes 6 = .ok (.istore_n 3, 1) := by decide +kernel
theorem dX10_laysTimes_7 : decode cX10_laysTimes 7 = .ok (.ldc 7, 2) := by decide +kernel
theorem dX10_laysTimes_9 : decode cX10_laysTimes 9 = .ok (.iload_n 2, 1) := by decide +kernel
theorem dX10_laysTimes_10 : decode cX10_laysTimes 10 = .ok (.imul, 1) := by decide +kernel
theorem dX10_laysTimes_11 : decode cX10_laysTimes 11 = .ok (.istore 4, 2) := by decide +kernel
theorem dX10_laysTimes_13 : decode cX10_laysTimes 13 = .ok (.iconst 0, 1) := by decide +kernel
theorem dX10_laysTimes_14 : decode cX10_laysTimes 14 = .ok (.istore 5, 2) := by decide +kernel
theorem dX10_laysTimes_16 : decode cX10_laysTimes 16 = .ok (.iconst 0, 1) := by decide +kernel
theorem dX10_laysTimes_17 : decode cX10_laysTimes 17 = .ok (.istore 6, 2) := by decide +kernel
theorem dX10_laysTimes_19 : decode cX10_laysTimes 19 = .ok (.iload 6, 2) := by decide +kernel
theorem dX10_laysTimes_21 : decode cX10_laysTimes 21 = .ok (.iload_n 3, 1) := by decide +kernel
theorem dX10_laysTimes_22 : decode cX10_laysTimes 22 = .ok (.if_icmp .ge 72, 3) := by decide +kernel
theorem dX10_laysTimes_25 : decode cX10_laysTimes 25 = .ok (.aload_n 0, 1) := by decide +kernel
theorem dX10_laysTimes_26 : decode cX10_laysTimes 26 = .ok (.getfield 39, 3) := by decide +kernel
theorem dX10_laysTimes_29 : decode cX10_laysTimes 29 = .ok (.iload 4, 2) := by decide +kernel
theorem dX10_laysTimes_31 : decode cX10_laysTimes 31 = .ok (.iload 6, 2) := by decide +kernel
