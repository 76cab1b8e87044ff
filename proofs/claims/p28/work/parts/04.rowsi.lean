set_option maxRecDepth 20000 in
theorem ggX10_onAt_X10_laysOn : GoodIn wsX10_onAt wsX10_laysOn := goodIn_r _ [20, 2, 21, 22, 23, 24, 25, 26, 27, 6, 28, 29, 30, 31, 32, 33, 34, 35, 36, 37, 38, 39, 40, 41, 42, 43, 44, 45, 46, 47, 48, 49, 50, 51, 52, 53, 54, 55, 56, 57, 58, 59, 60, 61, 62, 3, 63, 64, 65, 66, 67, 68, 69, 70, 71, 72, 73, 74, 75, 76, 77, 78, 79, 80, 81, 82, 83, 84, 85, 86, 87, 88] (by decide +kernel) (by decide +kernel)
set_option maxRecDepth 20000 in
theorem gX10_onAt_X10_laysOn : GoodIn wsX10_onAt (wsV RX10 273 RX10 yX10_laysOn wsX10_laysOn) := goodIn_app (goodIn_of _ (by decide +kernel)) ggX10_onAt_X10_laysOn
theorem dX10_onAt_0 : decode cX10_onAt 0 = .ok (.aload_n 0, 1) := by decide +kernel
theorem dX10_onAt_1 : decode cX10_onAt 1 = .ok (.iconst 1, 1) := by decide +kernel
theorem dX10_onAt_2 : decode cX10_onAt 2 = .ok (.putfield 60, 3) := by decide +kernel
theorem dX10_onAt_5 : decode cX10_onAt 5 = .ok (.iload_n 1, 1) := by decide +kernel
theorem dX10_onAt_6 : decode cX10_onAt 6 = .ok (.iload_n 2, 1) := by decide +kernel
theorem dX10_onAt_7 : decode cX10_onAt 7 = .ok (.iload_n 3, 1) := by decide +kernel
theorem dX10_onAt_8 : decode cX10_onAt 8 = .ok (.invokestatic 270, 3) := by decide +kernel
theorem dX10_onAt_11 : decode cX10_onAt 11 = .ok (.ifCond .eq 13, 3) := by decide +kernel
theorem dX10_onAt_14 : decode cX10_onAt 14 = .ok (.iload 5, 2) := by decide +kernel
theorem dX10_onAt_16 : decode cX10_onAt 16 = .ok (.iconst 0, 1) := by decide +kernel
theorem dX10_onAt_17 : decode cX10_onAt 17 = .ok (.iconst 2, 1) := by decide +kernel
theorem dX10_onAt_18 : decode cX10_onAt 18 = .ok (.invokestatic 65, 3) := by decide +kernel
theorem dX10_onAt_21 : decode cX10_onAt 21 = .ok (.ifCond .ne 5, 3) := by decide +kernel
theorem dX10_onAt_24 : decode cX10_onAt 24 = .ok (.iconst 0, 1) := by decide +kernel
theorem dX10_onAt_25 : decode cX10_onAt 25 = .ok (.ireturn, 1) := by decide +kernel
theorem dX10_onAt_26 : decode cX10_onAt 26 = .ok (.aload_n 0, 1) := by decide +kernel
theorem dX10_onAt_27 : decode cX10_onAt 27 = .ok (.iload_n 1, 1) := by decide +kernel
theorem dX10_onAt_28 : decode cX10_onAt 28 = .ok (.iload_n 2, 1) := by decide +kernel
theorem dX10_onAt_29 : decode cX10_onAt 29 = .ok (.iload_n 3, 1) := by decide +kernel
theorem dX10_onAt_30 : decode cX10_onAt 30 = .ok (.invokevirtual 273, 3) := by decide +kernel
theorem dX10_onAt_33 : decode cX10_onAt 33 = .ok (.iload 4, 2) := by decide +kernel
theorem dX10_onAt_35 : decode cX10_onAt 35 = .ok (.iconst 0, 1) := by decide +kernel
theorem dX10_onAt_36 : decode cX10_onAt 36 = .ok (.aload_n 0, 1) := by decide +kernel
theorem dX10_onAt_37 : decode cX10_onAt 37 = .ok (.getfield 258, 3) := by decide +kernel
theorem dX10_onAt_40 : decode cX10_onAt 40 = .ok (.iconst 1, 1) := by decide +kernel
theorem dX10_onAt_41 : decode cX10_onAt 41 = .ok (.isub, 1) := by decide +kernel
theorem dX10_onAt_42 : decode cX10_onAt 42 = .ok (.invokestatic 65, 3) := by decide +kernel
theorem dX10_onAt_45 : decode cX10_onAt 45 = .ok (.ifCond .ne 5, 3) := by decide +kernel
theorem dX10_onAt_48 : decode cX10_onAt 48 = .ok (.iconst 0, 1) := by decide +kernel
theorem dX10_onAt_49 : decode cX10_onAt 49 = .ok (.ireturn, 1) := by decide +kernel
theorem dX10_onAt_50 : decode cX10_onAt 50 = .ok (.aload_n 0, 1) := by decide +kernel
theorem dX10_onAt_51 : decode cX10_onAt 51 = .ok (.iconst 0, 1) := by decide +kernel
theorem dX10_onAt_52 : decode cX10_onAt 52 = .ok (.putfield 60, 3) := by decide +kernel
theorem dX10_onAt_55 : decode cX10_onAt 55 = .ok (.aload_n 0, 1) := by decide +kernel
theorem dX10_onAt_56 : decode cX10_onAt 56 = .ok (.getfield 48, 3) := by decide +kernel
theorem dX10_onAt_59 : decode cX10_onAt 59 = .ok (.iconst 3, 1) := by decide +kernel
theorem dX10_onAt_60 : decode cX10_onAt 60 = .ok (.iload 4, 2) := by decide +kernel
theorem dX10_onAt_62 : decode cX10_onAt 62 = .ok (.imul, 1) := by decide +kernel
theorem dX10_onAt_63 : decode cX10_onAt 63 = .ok (.iload 5, 2) := by decide +kernel
theorem dX10_onAt_65 : decode cX10_onAt 65 = .ok (.iadd, 1) := by decide +kernel
theorem dX10_onAt_66 : decode cX10_onAt 66 = .ok (.iaload, 1) := by decide +kernel
theorem dX10_onAt_67 : decode cX10_onAt 67 = .ok (.ireturn, 1) := by decide +kernel
theorem dX10_clashOf_0 : decode cX10_clashOf 0 = .ok (.iconst (-1), 1) := by decide +kernel
theorem dX10_clashOf_1 : decode cX10_clashOf 1 = .ok (.istore 4, 2) := by decide +kernel
theorem dX10_clashOf_3 : decode cX10_clashOf 3 = .ok (.iconst 0, 1) := by decide +kernel
theorem dX10_clashOf_4 : decode cX10_clashOf 4 = .ok (.istore 5, 2) := by decide +kernel
theorem dX10_clashOf_6 : decode cX10_clashOf 6 = .ok (.iconst 0, 1) := by decide +kernel
theorem dX10_clashOf_7 : decode cX10_clashOf 7 = .ok (.istore 6, 2) := by decide +kernel
theorem dX10_clashOf_9 : decode cX10_clashOf 9 = .ok (.iload 6, 2) := by decide +kernel
theorem dX10_clashOf_11 : decode cX10_clashOf 11 = .ok (.aload_n 0, 1) := by decide +kernel
theorem dX10_clashOf_12 : decode cX10_clashOf 12 = .ok (.getfield 42, 3) := by decide +kernel
theorem dX10_clashOf_15 : decode cX10_clashOf 15 = .ok (.iconst 0, 1) := by decide +kernel
theorem dX10_clashOf_16 : decode cX10_clashOf 16 = .ok (.iaload, 1) := by decide +kernel
theorem dX10_clashOf_17 : decode cX10_clashOf 17 = .ok (.if_icmp .ge 90, 3) := by decide +kernel
theorem dX10_clashOf_20 : decode cX10_clashOf 20 = .ok (.aload_n 0, 1) := by decide +kernel
theorem dX10_clashOf_21 : decode cX10_clashOf 21 = .ok (.getfield 36, 3) := by decide +kernel
theorem dX10_clashOf_24 : decode cX10_clashOf 24 = .ok (.iload 6, 2) := by decide +kernel
theorem dX10_clashOf_26 : decode cX10_clashOf 26 = .ok (.iaload, 1) := by decide +kernel
theorem dX10_clashOf_27 : decode cX10_clashOf 27 = .ok (.istore 7, 2) := by decide +kernel
theorem dX10_clashOf_29 : decode cX10_clashOf 29 = .ok (.iload 5, 2) := by decide +kernel
theorem dX10_clashOf_31 : decode cX10_clashOf 31 = .ok (.aload_n 0, 1) := by decide +kernel
theorem dX10_clashOf_32 : decode cX10_clashOf 32 = .ok (.getfield 42, 3) := by decide +kernel
theorem dX10_clashOf_35 : decode cX10_clashOf 35 = .ok (.iconst 1, 1) := by decide +kernel
theorem dX10_clashOf_36 : decode cX10_clashOf 36 = .ok (.iaload, 1) := by decide +kernel
theorem dX10_clashOf_37 : decode cX10_clashOf 37 = .ok (.if_icmp .ge 24, 3) := by decide +kernel
theorem dX10_clashOf_40 : decode cX10_clashOf 40 = .ok (.aload_n 0, 1) := by decide +kernel
theorem dX10_clashOf_41 : decode cX10_clashOf 41 = .ok (.getfield 36, 3) := by decide +kernel
theorem dX10_clashOf_44 : decode cX10_clashOf 44 = .ok (.ldc 7, 2) := by decide +kernel
theorem dX10_clashOf_46 : decode cX10_clashOf 46 = .ok (.iload 5, 2) := by decide +kernel
theorem dX10_clashOf_48 : decode cX10_clashOf 48 = .ok (.iadd, 1) := by decide +kernel
theorem dX10_clashOf_49 : decode cX10_clashOf 49 = .ok (.iaload, 1) := by decide +kernel
theorem dX10_clashOf_50 : decode cX10_clashOf 50 = .ok (.iload 7, 2) := by decide +kernel
theorem dX10_clashOf_52 : decode cX10_clashOf 52 = .ok (.if_icmp .gt 9, 3) := by decide +kernel
theorem dX10_clashOf_55 : decode cX10_clashOf 55 = .ok (.iinc 5 1, 3) := by decide +kernel
theorem dX10_clashOf_58 : decode cX10_clashOf 58 = .ok (.goto (-29), 3) := by decide +kernel
theorem dX10_clashOf_61 : decode cX10_clashOf 61 = .ok (.iload 7, 2) := by decide +kernel
theorem dX10_clashOf_63 : decode cX10_clashOf 63 = .ok (.iload_n 3, 1) := by decide +kernel
theorem dX10_clashOf_64 : decode cX10_clashOf 64 = .ok (.if_icmp .lt 37, 3) := by decide +kernel
theorem dX10_clashOf_67 : decode cX10_clashOf 67 = .ok (.iload 5, 2) := by decide +kernel
theorem dX10_clashOf_69 : decode cX10_clashOf 69 = .ok (.ifCond .eq 32, 3) := by decide +kernel
theorem dX10_clashOf_72 : decode cX10_clashOf 72 = .ok (.aload_n 0, 1) := by decide +kernel
theorem dX10_clashOf_73 : decode cX10_clashOf 73 = .ok (.getfield 36, 3) := by decide +kernel
theorem dX10_clashOf_76 : decode cX10_clashOf 76 = .ok (.ldc 7, 2) := by decide +kernel
theorem dX10_clashOf_78 : decode cX10_clashOf 78 = .ok (.iload 5, 2) := by decide +kernel
theorem dX10_clashOf_80 : decode cX10_clashOf 80 = .ok (.iadd, 1) := by decide +kernel
theorem dX10_clashOf_81 : decode cX10_clashOf 81 = .ok (.iconst 1, 1) := by decide +kernel
theorem dX10_clashOf_82 : decode cX10_clashOf 82 = .ok (.isub, 1) := by decide +kernel
theorem dX10_clashOf_83 : decode cX10_clashOf 83 = .ok (.iaload, 1) := by decide +kernel
theorem dX10_clashOf_84 : decode cX10_clashOf 84 = .ok (.iload_n 2, 1) := by decide +kernel
theorem dX10_clashOf_85 : decode cX10_clashOf 85 = .ok (.iadd, 1) := by decide +kernel
theorem dX10_clashOf_86 : decode cX10_clashOf 86 = .ok (.iload 7, 2) := by decide +kernel
theorem dX10_clashOf_88 : decode cX10_clashOf 88 = .ok (.if_icmp .gt 6, 3) := by decide +kernel
theorem dX10_clashOf_91 : decode cX10_clashOf 91 = .ok (.goto 10, 3) := by decide +kernel
theorem dX10_clashOf_94 : decode cX10_clashOf 94 = .ok (.iload 7, 2) := by decide +kernel
theorem dX10_clashOf_96 : decode cX10_clashOf 96 = .ok (.istore 4, 2) := by decide +kernel
theorem dX10_clashOf_98 : decode cX10_clashOf 98 = .ok (.goto 9, 3) := by decide +kernel
theorem dX10_clashOf_101 : decode cX10_clashOf 101 = .ok (.iinc 6 1, 3) := by decide +kernel
theorem dX10_clashOf_104 : decode cX10_clashOf 104 = .ok (.goto (-95), 3) := by decide +kernel
theorem dX10_clashOf_107 : decode cX10_clashOf 107 = .ok (.iconst 0, 1) := by decide +kernel
theorem dX10_clashOf_108 : decode cX10_clashOf 108 = .ok (.istore 6, 2) := by decide +kernel
theorem dX10_clashOf_110 : decode cX10_clashOf 110 = .ok (.iconst 0, 1) := by decide +kernel
theorem dX10_clashOf_111 : decode cX10_clashOf 111 = .ok (.istore 7, 2) := by decide +kernel
theorem dX10_clashOf_113 : decode cX10_clashOf 113 = .ok (.iload 7, 2) := by decide +kernel
theorem dX10_clashOf_115 : decode cX10_clashOf 115 = .ok (.aload_n 0, 1) := by decide +kernel
theorem dX10_clashOf_116 : decode cX10_clashOf 116 = .ok (.getfield 42, 3) := by decide +kernel
theorem dX10_clashOf_119 : decode cX10_clashOf 119 = .ok (.iconst 1, 1) := by decide +kernel
theorem dX10_clashOf_120 : decode cX10_clashOf 120 = .ok (.iaload, 1) := by decide +kernel
theorem dX10_clashOf_121 : decode cX10_clashOf 121 = .ok (.if_icmp .ge 95, 3) := by decide +kernel
theorem dX10_clashOf_124 : decode cX10_clashOf 124 = .ok (.aload_n 0, 1) := by decide +kernel
theorem dX10_clashOf_125 : decode cX10_clashOf 125 = .ok (.getfield 36, 3) := by decide +kernel
theorem dX10_clashOf_128 : decode cX10_clashOf 128 = .ok (.ldc 7, 2) := by decide +kernel
theorem dX10_clashOf_130 : decode cX10_clashOf 130 = .ok (.iload 7, 2) := by decide +kernel
theorem dX10_clashOf_132 : decode cX10_clashOf 132 = .ok (.iadd, 1) := by decide +kernel
theorem dX10_clashOf_133 : decode cX10_clashOf 133 = .ok (.iaload, 1) := by decide +kernel
theorem dX10_clashOf_134 : decode cX10_clashOf 134 = .ok (.istore 8, 2) := by decide +kernel
theorem dX10_clashOf_136 : decode cX10_clashOf 136 = .ok (.iload 4, 2) := by decide +kernel
theorem dX10_clashOf_138 : decode cX10_clashOf 138 = .ok (.ifCond .lt 13, 3) := by decide +kernel
theorem dX10_clashOf_141 : decode cX10_clashOf 141 = .ok (.iload 8, 2) := by decide +kernel
theorem dX10_clashOf_143 : decode cX10_clashOf 143 = .ok (.iload 4, 2) := by decide +kernel
theorem dX10_clashOf_145 : decode cX10_clashOf 145 = .ok (.if_icmp .lt 6, 3) := by decide +kernel
theorem dX10_clashOf_148 : decode cX10_clashOf 148 = .ok (.goto 68, 3) := by decide +kernel
theorem dX10_clashOf_151 : decode cX10_clashOf 151 = .ok (.iload 6, 2) := by decide +kernel
theorem dX10_clashOf_153 : decode cX10_clashOf 153 = .ok (.aload_n 0, 1) := by decide +kernel
theorem dX10_clashOf_154 : decode cX10_clashOf 154 = .ok (.getfield 42, 3) := by decide +kernel
theorem dX10_clashOf_157 : decode cX10_clashOf 157 = .ok (.iconst 0, 1) := by decide +kernel
theorem dX10_clashOf_158 : decode cX10_clashOf 158 = .ok (.iaload, 1) := by decide +kernel
theorem dX10_clashOf_159 : decode cX10_clashOf 159 = .ok (.if_icmp .ge 21, 3) := by decide +kernel
theorem dX10_clashOf_162 : decode cX10_clashOf 162 = .ok (.aload_n 0, 1) := by decide +kernel
theorem dX10_clashOf_163 : decode cX10_clashOf 163 = .ok (.getfield 36, 3) := by decide +kernel
theorem dX10_clashOf_166 : decode cX10_clashOf 166 = .ok (.iload 6, 2) := by decide +kernel
theorem dX10_clashOf_168 : decode cX10_clashOf 168 = .ok (.iaload, 1) := by decide +kernel
theorem dX10_clashOf_169 : decode cX10_clashOf 169 = .ok (.iload 8, 2) := by decide +kernel
theorem dX10_clashOf_171 : decode cX10_clashOf 171 = .ok (.if_icmp .gt 9, 3) := by decide +kernel
theorem dX10_clashOf_174 : decode cX10_clashOf 174 = .ok (.iinc 6 1, 3) := by decide +kernel
theorem dX10_clashOf_177 : decode cX10_clashOf 177 = .ok (.goto (-26), 3) := by decide +kernel
theorem dX10_clashOf_180 : decode cX10_clashOf 180 = .ok (.iload 8, 2) := by decide +kernel
theorem dX10_clashOf_182 : decode cX10_clashOf 182 = .ok (.iload_n 3, 1) := by decide +kernel
theorem dX10_clashOf_183 : decode cX10_clashOf 183 = .ok (.if_icmp .lt 27, 3) := by decide +kernel
theorem dX10_clashOf_186 : decode cX10_clashOf 186 = .ok (.iload 6, 2) := by decide +kernel
theorem dX10_clashOf_188 : decode cX10_clashOf 188 = .ok (.ifCond .le 22, 3) := by decide +kernel
theorem dX10_clashOf_191 : decode cX10_clashOf 191 = .ok (.aload_n 0, 1) := by decide +kernel
theorem dX10_clashOf_192 : decode cX10_clashOf 192 = .ok (.getfield 36, 3) := by decide +kernel
theorem dX10_clashOf_195 : decode cX10_clashOf 195 = .ok (.iload 6, 2) := by decide +kernel
theorem dX10_clashOf_197 : decode cX10_clashOf 197 = .ok (.iconst 1, 1) := by decide +kernel
theorem dX10_clashOf_198 : decode cX10_clashOf 198 = .ok (.isub, 1) := by decide +kernel
theorem dX10_clashOf_199 : decode cX10_clashOf 199 = .ok (.iaload, 1) := by decide +kernel
theorem dX10_clashOf_200 : decode cX10_clashOf 200 = .ok (.iload_n 1, 1) := by decide +kernel
theorem dX10_clashOf_201 : decode cX10_clashOf 201 = .ok (.iadd, 1) := by decide +kernel
theorem dX10_clashOf_202 : decode cX10_clashOf 202 = .ok (.iload 8, 2) := by decide +kernel
theorem dX10_clashOf_204 : decode cX10_clashOf 204 = .ok (.if_icmp .le 6, 3) := by decide +kernel
theorem dX10_clashOf_207 : decode cX10_clashOf 207 = .ok (.iload 8, 2) := by decide +kernel
theorem dX10_clashOf_209 : decode cX10_clashOf 209 = .ok (.ireturn, 1) := by decide +kernel
theorem dX10_clashOf_210 : decode cX10_clashOf 210 = .ok (.iinc 7 1, 3) := by decide +kernel
theorem dX10_clashOf_213 : decode cX10_clashOf 213 = .ok (.goto (-100), 3) := by decide +kernel
theorem dX10_clashOf_216 : decode cX10_clashOf 216 = .ok (.iload 4, 2) := by decide +kernel
theorem dX10_clashOf_218 : decode cX10_clashOf 218 = .ok (.ireturn, 1) := by decide +kernel
set_option maxRecDepth 20000 in
theorem ggX10_clash_X10_isBooking : GoodIn wsX10_clash wsX10_isBooking := goodIn_r _ [6, 7, 8, 9, 5, 10, 52, 53, 54, 55, 56, 57, 58, 59, 60, 61, 62, 63, 64, 65, 66, 67, 68, 69, 70, 71, 72, 73, 74, 75, 76, 77] (by decide +kernel) (by decide +kernel)
set_option maxRecDepth 20000 in
theorem gX10_clash_X10_isBooking : GoodIn wsX10_clash (wsV RX10 220 RX10 yX10_isBooking wsX10_isBooking) := goodIn_app (goodIn_of _ (by decide +kernel)) ggX10_clash_X10_isBooking
set_option maxRecDepth 20000 in
theorem ggX10_clash_X10_isTime : GoodIn wsX10_clash wsX10_isTime := goodIn_r _ [13, 14, 8, 9, 5, 10] (by decide +kernel) (by decide +kernel)
set_option maxRecDepth 20000 in
theorem gX10_clash_X10_isTime : GoodIn wsX10_clash (va_wsS RX10 248 yX10_isTime wsX10_isTime) := goodIn_app (goodIn_of _ (by decide +kernel)) ggX10_clash_X10_isTime
set_option maxRecDepth 20000 in
theorem ggX10_clash_X10_laysTimes : GoodIn wsX10_clash wsX10_laysTimes := goodIn_r _ [18, 19, 20, 21, 22, 23, 24, 25, 5, 26, 27, 28, 29, 30, 31, 32, 33, 34, 35, 36, 37, 38, 39, 40, 41, 42, 43, 44, 45, 46, 47, 52, 53, 54, 55, 56, 57, 58, 59, 60, 61, 62, 63, 64, 65, 66, 67, 68, 69, 70, 71, 72, 73, 74, 75, 76, 77] (by decide +kernel) (by decide +kernel)
set_option maxRecDepth 20000 in
theorem gX10_clash_X10_laysTimes : GoodIn wsX10_clash (wsV RX10 255 RX10 yX10_laysTimes wsX10_laysTimes) := goodIn_app (goodIn_of _ (by decide +kernel)) ggX10_clash_X10_laysTimes
set_option maxRecDepth 20000 in
theorem ggX10_clash_X10_get : GoodIn wsX10_clash wsX10_get := goodIn_r _ [31, 32, 52, 53, 54, 55, 56, 57, 58, 59, 60, 61, 62, 63, 64, 65, 66, 67, 68, 69, 70, 71, 72, 73, 74, 75, 76, 77] (by decide +kernel) (by decide +kernel)
set_option maxRecDepth 20000 in
theorem gX10_clash_X10_get : GoodIn wsX10_clash (wsV RX10 229 RX10 yX10_get wsX10_get) := goodIn_app (goodIn_of _ (by decide +kernel)) ggX10_clash_X10_get
set_option maxRecDepth 20000 in
theorem ggX10_clash_X10_clashOf : GoodIn wsX10_clash wsX10_clashOf := goodIn_r _ [51, 22, 21, 19, 52, 53, 54, 55, 56, 57, 58, 59, 60, 61, 62, 63, 64, 65, 66, 67, 68, 69, 70, 71, 72, 73, 74, 75, 76, 77] (by decide +kernel) (by decide +kernel)
set_option maxRecDepth 20000 in
theorem gX10_clash_X10_clashOf : GoodIn wsX10_clash (wsV RX10 276 RX10 yX10_clashOf wsX10_clashOf) := goodIn_app (goodIn_of _ (by decide +kernel)) ggX10_clash_X10_clashOf
theorem dX10_clash_0 : decode cX10_clash 0 = .ok (.aload_n 0, 1) := by decide +kernel
theorem dX10_clash_1 : decode cX10_clash 1 = .ok (.iconst 0, 1) := by decide +kernel
theorem dX10_clash_2 : decode cX10_clash 2 = .ok (.putfield 60, 3) := by decide +kernel
theorem dX10_clash_5 : decode cX10_clash 5 = .ok (.aload_n 0, 1) := by decide +kernel
theorem dX10_clash_6 : decode cX10_clash 6 = .ok (.iload_n 1, 1) := by decide +kernel
theorem dX10_clash_7 : decode cX10_clash 7 = .ok (.invokevirtual 220, 3) := by decide +kernel
theorem dX10_clash_10 : decode cX10_clash 10 = .ok (.ifCond .eq 23, 3) := by decide +kernel
theorem dX10_clash_13 : decode cX10_clash 13 = .ok (.aload_n 0, 1) := by decide +kernel
theorem dX10_clash_14 : decode cX10_clash 14 = .ok (.iload_n 2, 1) := by decide +kernel
theorem dX10_clash_15 : decode cX10_clash 15 = .ok (.invokevirtual 220, 3) := by decide +kernel
theorem dX10_clash_18 : decode cX10_clash 18 = .ok (.ifCond .eq 15, 3) := by decide +kernel
theorem dX10_clash_21 : decode cX10_clash 21 = .ok (.iload_n 1, 1) := by decide +kernel
theorem dX10_clash_22 : decode cX10_clash 22 = .ok (.iload_n 2, 1) := by decide +kernel
theorem dX10_clash_23 : decode cX10_clash 23 = .ok (.if_icmp .eq 10, 3) := by decide +kernel
theorem dX10_clash_26 : decode cX10_clash 26 = .ok (.iload_n 3, 1) := by decide +kernel
theorem dX10_clash_27 : decode cX10_clash 27 = .ok (.invokestatic 248, 3) := by decide +kernel
theorem dX10_clash_30 : decode cX10_clash 30 = .ok (.ifCond .ne 5, 3) := by decide +kernel
theorem dX10_clash_33 : decode cX10_clash 33 = .ok (.iconst (-1), 1) := by decide +kernel
theorem dX10_clash_34 : decode cX10_clash 34 = .ok (.ireturn, 1) := by decide +kernel
theorem dX10_clash_35 : decode cX10_clash 35 = .ok (.aload_n 0, 1) := by decide +kernel
theorem dX10_clash_36 : decode cX10_clash 36 = .ok (.iload_n 1, 1) := by decide +kernel
theorem dX10_clash_37 : decode cX10_clash 37 = .ok (.iconst 0, 1) := by decide +kernel
theorem dX10_clash_38 : decode cX10_clash 38 = .ok (.invokevirtual 255, 3) := by decide +kernel
theorem dX10_clash_41 : decode cX10_clash 41 = .ok (.aload_n 0, 1) := by decide +kernel
theorem dX10_clash_42 : decode cX10_clash 42 = .ok (.iload_n 2, 1) := by decide +kernel
theorem dX10_clash_43 : decode cX10_clash 43 = .ok (.iconst 1, 1) := by decide +kernel
theorem dX10_clash_44 : decode cX10_clash 44 = .ok (.invokevirtual 255, 3) := by decide +kernel
theorem dX10_clash_47 : decode cX10_clash 47 = .ok (.aload_n 0, 1) := by decide +kernel
theorem dX10_clash_48 : decode cX10_clash 48 = .ok (.aload_n 0, 1) := by decide +kernel
theorem dX10_clash_49 : decode cX10_clash 49 = .ok (.iload_n 1, 1) := by decide +kernel
theorem dX10_clash_50 : decode cX10_clash 50 = .ok (.iconst 2, 1) := by decide +kernel
theorem dX10_clash_51 : decode cX10_clash 51 = .ok (.invokevirtual 229, 3) := by decide +kernel
theorem dX10_clash_54 : decode cX10_clash 54 = .ok (.aload_n 0, 1) := by decide +kernel
theorem dX10_clash_55 : decode cX10_clash 55 = .ok (.iload_n 2, 1) := by decide +kernel
theorem dX10_clash_56 : decode cX10_clash 56 = .ok (.iconst 2, 1) := by decide +kernel
theorem dX10_clash_57 : decode cX10_clash 57 = .ok (.invokevirtual 229, 3) := by decide +kernel
theorem dX10_clash_60 : decode cX10_clash 60 = .ok (.iload_n 3, 1) := by decide +kernel
theorem dX10_clash_61 : decode cX10_clash 61 = .ok (.invokevirtual 276, 3) := by decide +kernel
theorem dX10_clash_64 : decode cX10_clash 64 = .ok (.ireturn, 1) := by decide +kernel
set_option maxRecDepth 20000 in
theorem ggX10_clashes_X10_isBooking : GoodIn wsX10_clashes wsX10_isBooking := goodIn_r _ [9, 10, 11, 12, 8, 13, 47, 48, 49, 50, 51, 52, 53, 54, 55, 56, 57, 58, 59, 60, 61, 62, 63, 64, 65, 66, 67, 68, 69, 70, 71, 72] (by decide +kernel) (by decide +kernel)
set_option maxRecDepth 20000 in
theorem gX10_clashes_X10_isBooking : GoodIn wsX10_clashes (wsV RX10 220 RX10 yX10_isBooking wsX10_isBooking) := goodIn_app (goodIn_of _ (by decide +kernel)) ggX10_clashes_X10_isBooking
set_option maxRecDepth 20000 in
theorem ggX10_clashes_X10_isDay : GoodIn wsX10_clashes wsX10_isDay := goodIn_r _ [16, 17, 11, 12, 8, 13] (by decide +kernel) (by decide +kernel)
set_option maxRecDepth 20000 in
theorem gX10_clashes_X10_isDay : GoodIn wsX10_clashes (va_wsS RX10 223 yX10_isDay wsX10_isDay) := goodIn_app (goodIn_of _ (by decide +kernel)) ggX10_clashes_X10_isDay
set_option maxRecDepth 20000 in
theorem ggX10_clashes_X10_laysTimes : GoodIn wsX10_clashes wsX10_laysTimes := goodIn_r _ [21, 4, 22, 3, 2, 23, 24, 25, 8, 26, 17, 27, 28, 29, 30, 31, 32, 33, 34, 35, 36, 37, 38, 39, 40, 41, 42, 43, 44, 45, 46, 47, 48, 49, 50, 51, 52, 53, 54, 55, 56, 57, 58, 59, 60, 61, 62, 63, 64, 65, 66, 67, 68, 69, 70, 71, 72] (by decide +kernel) (by decide +kernel)
set_option maxRecDepth 20000 in
theorem gX10_clashes_X10_laysTimes : GoodIn wsX10_clashes (wsV RX10 255 RX10 yX10_laysTimes wsX10_laysTimes) := goodIn_app (goodIn_of _ (by decide +kernel)) ggX10_clashes_X10_laysTimes
set_option maxRecDepth 20000 in
theorem ggX10_clashes_X10_get : GoodIn wsX10_clashes wsX10_get := goodIn_r _ [30, 31, 47, 48, 49, 50, 51, 52, 53, 54, 55, 56, 57, 58, 59, 60, 61, 62, 63, 64, 65, 66, 67, 68, 69, 70, 71, 72] (by decide +kernel) (by decide +kernel)
set_option maxRecDepth 20000 in
theorem gX10_clashes_X10_get : GoodIn wsX10_clashes (wsV RX10 229 RX10 yX10_get wsX10_get) := goodIn_app (goodIn_of _ (by decide +kernel)) ggX10_clashes_X10_get
set_option maxRecDepth 20000 in
theorem ggX10_clashes_X10_within : GoodIn wsX10_clashes wsX10_within := goodIn_r _ [13] (by decide +kernel) (by decide +kernel)
set_option maxRecDepth 20000 in
theorem gX10_clashes_X10_within : GoodIn wsX10_clashes (va_wsS RX10 65 yX10_within wsX10_within) := goodIn_app (goodIn_of _ (by decide +kernel)) ggX10_clashes_X10_within
theorem dX10_clashes_0 : decode cX10_clashes 0 = .ok (.aload_n 0, 1) := by decide +kernel
theorem dX10_clashes_1 : decode cX10_clashes 1 = .ok (.iconst 0, 1) := by decide +kernel
theorem dX10_clashes_2 : decode cX10_clashes 2 = .ok (.putfield 60, 3) := by decide +kernel
theorem dX10_clashes_5 : decode cX10_clashes 5 = .ok (.aload_n 0, 1) := by decide +kernel
theorem dX10_clashes_6 : decode cX10_clashes 6 = .ok (.iload_n 1, 1) := by decide +kernel
theorem dX10_clashes_7 : decode cX10_clashes 7 = .ok (.invokevirtual 220, 3) := by decide +kernel
theorem dX10_clashes_10 : decode cX10_clashes 10 = .ok (.ifCond .eq 47, 3) := by decide +kernel
theorem dX10_clashes_13 : decode cX10_clashes 13 = .ok (.aload_n 0, 1) := by decide +kernel
theorem dX10_clashes_14 : decode cX10_clashes 14 = .ok (.iload_n 2, 1) := by decide +kernel
theorem dX10_clashes_15 : decode cX10_clashes 15 = .ok (.invokevirtual 220, 3) := by decide +kernel
theorem dX10_clashes_18 : decode cX10_clashes 18 = .ok (.ifCond .eq 39, 3) := by decide +kernel
theorem dX10_clashes_21 : decode cX10_clashes 21 = .ok (.iload_n 1, 1) := by decide +kernel
theorem dX10_clashes_22 : decode cX10_clashes 22 = .ok (.iload_n 2, 1) := by decide +kernel
theorem dX10_clashes_23 : decode cX10_clashes 23 = .ok (.if_icmp .eq 34, 3) := by decide +kernel
theorem dX10_clashes_26 : decode cX10_clashes 26 = .ok (.iload_n 3, 1) := by decide +kernel
theorem dX10_clashes_27 : decode cX10_clashes 27 = .ok (.invokestatic 223, 3) := by decide +kernel
theorem dX10_clashes_30 : decode cX10_clashes 30 = .ok (.ifCond .eq 27, 3) := by decide +kernel
theorem dX10_clashes_33 : decode cX10_clashes 33 = .ok (.iload 4, 2) := by decide +kernel
theorem dX10_clashes_35 : decode cX10_clashes 35 = .ok (.invokestatic 223, 3) := by decide +kernel
theorem dX10_clashes_38 : decode cX10_clashes 38 = .ok (.ifCond .eq 19, 3) := by decide +kernel
theorem dX10_clashes_41 : decode cX10_clashes 41 = .ok (.iload 4, 2) := by decide +kernel
theorem dX10_clashes_43 : decode cX10_clashes 43 = .ok (.iload_n 3, 1) := by decide +kernel
theorem dX10_clashes_44 : decode cX10_clashes 44 = .ok (.if_icmp .lt 13, 3) := by decide +kernel
theorem dX10_clashes_47 : decode cX10_clashes 47 = .ok (.iload 4, 2) := by decide +kernel
theorem dX10_clashes_49 : decode cX10_clashes 49 = .ok (.iload_n 3, 1) := by decide +kernel
theorem dX10_clashes_50 : decode cX10_clashes 50 = .ok (.isub, 1) := by decide +kernel
theorem dX10_clashes_51 : decode cX10_clashes 51 = .ok (.sipush 399, 3) := by decide +kernel
theorem dX10_clashes_54 : decode cX10_clashes 54 = .ok (.if_icmp .le 5, 3) := by decide +kernel
theorem dX10_clashes_57 : decode cX10_clashes 57 = .ok (.iconst (-1), 1) := by decide +kernel
theorem dX10_clashes_58 : decode cX10_clashes 58 = .ok (.ireturn, 1) := by decide +kernel
theorem dX10_clashes_59 : decode cX10_clashes 59 = .ok (.aload_n 0, 1) := by decide +kernel
theorem dX10_clashes_60 : decode cX10_clashes 60 = .ok (.iload_n 1, 1) := by decide +kernel
theorem dX10_clashes_61 : decode cX10_clashes 61 = .ok (.iconst 0, 1) := by decide +kernel
theorem dX10_clashes_62 : decode cX10_clashes 62 = .ok (.invokevirtual 255, 3) := by decide +kernel
theorem dX10_clashes_65 : decode cX10_clashes 65 = .ok (.aload_n 0, 1) := by decide +kernel
theorem dX10_clashes_66 : decode cX10_clashes 66 = .ok (.iload_n 2, 1) := by decide +kernel
theorem dX10_clashes_67 : decode cX10_clashes 67 = .ok (.iconst 1, 1) := by decide +kernel
theorem dX10_clashes_68 : decode cX10_clashes 68 = .ok (.invokevirtual 255, 3) := by decide +kernel
theorem dX10_clashes_71 : decode cX10_clashes 71 = .ok (.iconst 0, 1) := by decide +kernel
theorem dX10_clashes_72 : decode cX10_clashes 72 = .ok (.istore 5, 2) := by decide +kernel
theorem dX10_clashes_74 : decode cX10_clashes 74 = .ok (.iconst 0, 1) := by decide +kernel
theorem dX10_clashes_75 : decode cX10_clashes 75 = .ok (.istore 6, 2) := by decide +kernel
theorem dX10_clashes_77 : decode cX10_clashes 77 = .ok (.iconst 0, 1) := by decide +kernel
theorem dX10_clashes_78 : decode cX10_clashes 78 = .ok (.istore 7, 2) := by decide +kernel
theorem dX10_clashes_80 : decode cX10_clashes 80 = .ok (.iload 7, 2) := by decide +kernel
theorem dX10_clashes_82 : decode cX10_clashes 82 = .ok (.aload_n 0, 1) := by decide +kernel
theorem dX10_clashes_83 : decode cX10_clashes 83 = .ok (.getfield 42, 3) := by decide +kernel
theorem dX10_clashes_86 : decode cX10_clashes 86 = .ok (.iconst 0, 1) := by decide +kernel
theorem dX10_clashes_87 : decode cX10_clashes 87 = .ok (.iaload, 1) := by decide +kernel
theorem dX10_clashes_88 : decode cX10_clashes 88 = .ok (.if_icmp .ge 142, 3) := by decide +kernel
theorem dX10_clashes_91 : decode cX10_clashes 91 = .ok (.aload_n 0, 1) := by decide +kernel
theorem dX10_clashes_92 : decode cX10_clashes 92 = .ok (.getfield 36, 3) := by decide +kernel
theorem dX10_clashes_95 : decode cX10_clashes 95 = .ok (.iload 7, 2) := by decide +kernel
theorem dX10_clashes_97 : decode cX10_clashes 97 = .ok (.iaload, 1) := by decide +kernel
theorem dX10_clashes_98 : decode cX10_clashes 98 = .ok (.istore 8, 2) := by decide +kernel
theorem dX10_clashes_100 : decode cX10_clashes 100 = .ok (.iload 6, 2) := by decide +kernel
theorem dX10_clashes_102 : decode cX10_clashes 102 = .ok (.aload_n 0, 1) := by decide +kernel
theorem dX10_clashes_103 : decode cX10_clashes 103 = .ok (.getfield 42, 3) := by decide +kernel
theorem dX10_clashes_106 : decode cX10_clashes 106 = .ok (.iconst 1, 1) := by decide +kernel
theorem dX10_clashes_107 : decode cX10_clashes 107 = .ok (.iaload, 1) := by decide +kernel
theorem dX10_clashes_108 : decode cX10_clashes 108 = .ok (.if_icmp .ge 31, 3) := by decide +kernel
theorem dX10_clashes_111 : decode cX10_clashes 111 = .ok (.aload_n 0, 1) := by decide +kernel
theorem dX10_clashes_112 : decode cX10_clashes 112 = .ok (.getfield 36, 3) := by decide +kernel
theorem dX10_clashes_115 : decode cX10_clashes 115 = .ok (.ldc 7, 2) := by decide +kernel
theorem dX10_clashes_117 : decode cX10_clashes 117 = .ok (.iload 6, 2) := by decide +kernel
theorem dX10_clashes_119 : decode cX10_clashes 119 = .ok (.iadd, 1) := by decide +kernel
theorem dX10_clashes_120 : decode cX10_clashes 120 = .ok (.iaload, 1) := by decide +kernel
theorem dX10_clashes_121 : decode cX10_clashes 121 = .ok (.aload_n 0, 1) := by decide +kernel
theorem dX10_clashes_122 : decode cX10_clashes 122 = .ok (.iload_n 2, 1) := by decide +kernel
theorem dX10_clashes_123 : decode cX10_clashes 123 = .ok (.iconst 2, 1) := by decide +kernel
theorem dX10_clashes_124 : decode cX10_clashes 124 = .ok (.invokevirtual 229, 3) := by decide +kernel
theorem dX10_clashes_127 : decode cX10_clashes 127 = .ok (.iadd, 1) := by decide +kernel
theorem dX10_clashes_128 : decode cX10_clashes 128 = .ok (.iload 8, 2) := by decide +kernel
theorem dX10_clashes_130 : decode cX10_clashes 130 = .ok (.if_icmp .gt 9, 3) := by decide +kernel
theorem dX10_clashes_133 : decode cX10_clashes 133 = .ok (.iinc 6 1, 3) := by decide +kernel
theorem dX10_clashes_136 : decode cX10_clashes 136 = .ok (.goto (-36), 3) := by decide +kernel
theorem dX10_clashes_139 : decode cX10_clashes 139 = .ok (.iload 6, 2) := by decide +kernel
theorem dX10_clashes_141 : decode cX10_clashes 141 = .ok (.istore 9, 2) := by decide +kernel
theorem dX10_clashes_143 : decode cX10_clashes 143 = .ok (.iload 9, 2) := by decide +kernel
theorem dX10_clashes_145 : decode cX10_clashes 145 = .ok (.aload_n 0, 1) := by decide +kernel
theorem dX10_clashes_146 : decode cX10_clashes 146 = .ok (.getfield 42, 3) := by decide +kernel
theorem dX10_clashes_149 : decode cX10_clashes 149 = .ok (.iconst 1, 1) := by decide +kernel
theorem dX10_clashes_150 : decode cX10_clashes 150 = .ok (.iaload, 1) := by decide +kernel
theorem dX10_clashes_151 : decode cX10_clashes 151 = .ok (.if_icmp .ge 73, 3) := by decide +kernel
theorem dX10_clashes_154 : decode cX10_clashes 154 = .ok (.aload_n 0, 1) := by decide +kernel
theorem dX10_clashes_155 : decode cX10_clashes 155 = .ok (.getfield 36, 3) := by decide +kernel
theorem dX10_clashes_158 : decode cX10_clashes 158 = .ok (.ldc 7, 2) := by decide +kernel
theorem dX10_clashes_160 : decode cX10_clashes 160 = .ok (.iload 9, 2) := by decide +kernel
theorem dX10_clashes_162 : decode cX10_clashes 162 = .ok (.iadd, 1) := by decide +kernel
theorem dX10_clashes_163 : decode cX10_clashes 163 = .ok (.iaload, 1) := by decide +kernel
theorem dX10_clashes_164 : decode cX10_clashes 164 = .ok (.iload 8, 2) := by decide +kernel
theorem dX10_clashes_166 : decode cX10_clashes 166 = .ok (.aload_n 0, 1) := by decide +kernel
theorem dX10_clashes_167 : decode cX10_clashes 167 = .ok (.iload_n 1, 1) := by decide +kernel
theorem dX10_clashes_168 : decode cX10_clashes 168 = .ok (.iconst 2, 1) := by decide +kernel
theorem dX10_clashes_169 : decode cX10_clashes 169 = .ok (.invokevirtual 229, 3) := by decide +kernel
theorem dX10_clashes_172 : decode cX10_clashes 172 = .ok (.iadd, 1) := by decide +kernel
theorem dX10_clashes_173 : decode cX10_clashes 173 = .ok (.if_icmp .ge 51, 3) := by decide +kernel
theorem dX10_clashes_176 : decode cX10_clashes 176 = .ok (.aload_n 0, 1) := by decide +kernel
theorem dX10_clashes_177 : decode cX10_clashes 177 = .ok (.getfield 36, 3) := by decide +kernel
theorem dX10_clashes_180 : decode cX10_clashes 180 = .ok (.ldc 7, 2) := by decide +kernel
theorem dX10_clashes_182 : decode cX10_clashes 182 = .ok (.iload 9, 2) := by decide +kernel
theorem dX10_clashes_184 : decode cX10_clashes 184 = .ok (.iadd, 1) := by decide +kernel
theorem dX10_clashes_185 : decode cX10_clashes 185 = .ok (.iaload, 1) := by decide +kernel
theorem dX10_clashes_186 : decode cX10_clashes 186 = .ok (.istore 10, 2) := by decide +kernel
theorem dX10_clashes_188 : decode cX10_clashes 188 = .ok (.iload 8, 2) := by decide +kernel
theorem dX10_clashes_190 : decode cX10_clashes 190 = .ok (.iload 10, 2) := by decide +kernel
theorem dX10_clashes_192 : decode cX10_clashes 192 = .ok (.if_icmp .le 8, 3) := by decide +kernel
theorem dX10_clashes_195 : decode cX10_clashes 195 = .ok (.iload 8, 2) := by decide +kernel
theorem dX10_clashes_197 : decode cX10_clashes 197 = .ok (.goto 5, 3) := by decide +kernel
theorem dX10_clashes_200 : decode cX10_clashes 200 = .ok (.iload 10, 2) := by decide +kernel
theorem dX10_clashes_202 : decode cX10_clashes 202 = .ok (.sipush 1440, 3) := by decide +kernel
theorem dX10_clashes_205 : decode cX10_clashes 205 = .ok (.idiv, 1) := by decide +kernel
theorem dX10_clashes_206 : decode cX10_clashes 206 = .ok (.iload_n 3, 1) := by decide +kernel
theorem dX10_clashes_207 : decode cX10_clashes 207 = .ok (.iload 4, 2) := by decide +kernel
theorem dX10_clashes_209 : decode cX10_clashes 209 = .ok (.invokestatic 65, 3) := by decide +kernel
theorem dX10_clashes_212 : decode cX10_clashes 212 = .ok (.ifCond .eq 6, 3) := by decide +kernel
theorem dX10_clashes_215 : decode cX10_clashes 215 = .ok (.iinc 5 1, 3) := by decide +kernel
theorem dX10_clashes_218 : decode cX10_clashes 218 = .ok (.iinc 9 1, 3) := by decide +kernel
theorem dX10_clashes_221 : decode cX10_clashes 221 = .ok (.goto (-78), 3) := by decide +kernel
theorem dX10_clashes_224 : decode cX10_clashes 224 = .ok (.iinc 7 1, 3) := by decide +kernel
theorem dX10_clashes_227 : decode cX10_clashes 227 = .ok (.goto (-147), 3) := by decide +kernel
theorem dX10_clashes_230 : decode cX10_clashes 230 = .ok (.iload 5, 2) := by decide +kernel
theorem dX10_clashes_232 : decode cX10_clashes 232 = .ok (.ireturn, 1) := by decide +kernel
set_option maxRecDepth 20000 in
theorem ggX10_roomClash_X10_within : GoodIn wsX10_roomClash wsX10_within := goodIn_r _ [6] (by decide +kernel) (by decide +kernel)
set_option maxRecDepth 20000 in
theorem gX10_roomClash_X10_within : GoodIn wsX10_roomClash (va_wsS RX10 65 yX10_within wsX10_within) := goodIn_app (goodIn_of _ (by decide +kernel)) ggX10_roomClash_X10_within
set_option maxRecDepth 20000 in
theorem ggX10_roomClash_X10_isTime : GoodIn wsX10_roomClash wsX10_isTime := goodIn_r _ [9, 10, 3, 4, 5, 6] (by decide +kernel) (by decide +kernel)
set_option maxRecDepth 20000 in
theorem gX10_roomClash_X10_isTime : GoodIn wsX10_roomClash (va_wsS RX10 248 yX10_isTime wsX10_isTime) := goodIn_app (goodIn_of _ (by decide +kernel)) ggX10_roomClash_X10_isTime
set_option maxRecDepth 20000 in
theorem ggX10_roomClash_X10_get : GoodIn wsX10_roomClash wsX10_get := goodIn_r _ [14, 15, 48, 49, 50, 51, 52, 53, 54, 55, 56, 57, 58, 59, 60, 61, 62, 63, 64, 65, 66, 67, 68, 69, 70, 71, 72, 73] (by decide +kernel) (by decide +kernel)
set_option maxRecDepth 20000 in
theorem gX10_roomClash_X10_get : GoodIn wsX10_roomClash (wsV RX10 229 RX10 yX10_get wsX10_get) := goodIn_app (goodIn_of _ (by decide +kernel)) ggX10_roomClash_X10_get
set_option maxRecDepth 20000 in
theorem ggX10_roomClash_X10_laysTimes : GoodIn wsX10_roomClash wsX10_laysTimes := goodIn_r _ [19, 20, 21, 22, 23, 24, 25, 26, 5, 27, 28, 11, 12, 13, 14, 15, 29, 30, 31, 32, 33, 34, 35, 36, 37, 38, 39, 40, 41, 42, 43, 48, 49, 50, 51, 52, 53, 54, 55, 56, 57, 58, 59, 60, 61, 62, 63, 64, 65, 66, 67, 68, 69, 70, 71, 72, 73] (by decide +kernel) (by decide +kernel)
set_option maxRecDepth 20000 in
theorem gX10_roomClash_X10_laysTimes : GoodIn wsX10_roomClash (wsV RX10 255 RX10 yX10_laysTimes wsX10_laysTimes) := goodIn_app (goodIn_of _ (by decide +kernel)) ggX10_roomClash_X10_laysTimes
set_option maxRecDepth 20000 in
theorem ggX10_roomClash_X10_clashOf : GoodIn wsX10_roomClash wsX10_clashOf := goodIn_r _ [47, 23, 22, 20, 48, 49, 50, 51, 52, 53, 54, 55, 56, 57, 58, 59, 60, 61, 62, 63, 64, 65, 66, 67, 68, 69, 70, 71, 72, 73] (by decide +kernel) (by decide +kernel)
set_option maxRecDepth 20000 in
theorem gX10_roomClash_X10_clashOf : GoodIn wsX10_roomClash (wsV RX10 276 RX10 yX10_clashOf wsX10_clashOf) := goodIn_app (goodIn_of _ (by decide +kernel)) ggX10_roomClash_X10_clashOf
theorem dX10_roomClash_0 : decode cX10_roomClash 0 = .ok (.aload_n 0, 1) := by decide +kernel
theorem dX10_roomClash_1 : decode cX10_roomClash 1 = .ok (.iconst 0, 1) := by decide +kernel
theorem dX10_roomClash_2 : decode cX10_roomClash 2 = .ok (.putfield 60, 3) := by decide +kernel
theorem dX10_roomClash_5 : decode cX10_roomClash 5 = .ok (.iload_n 1, 1) := by decide +kernel
theorem dX10_roomClash_6 : decode cX10_roomClash 6 = .ok (.iconst 0, 1) := by decide +kernel
theorem dX10_roomClash_7 : decode cX10_roomClash 7 = .ok (.bipush 7, 2) := by decide +kernel
theorem dX10_roomClash_9 : decode cX10_roomClash 9 = .ok (.invokestatic 65, 3) := by decide +kernel
theorem dX10_roomClash_12 : decode cX10_roomClash 12 = .ok (.ifCond .eq 19, 3) := by decide +kernel
theorem dX10_roomClash_15 : decode cX10_roomClash 15 = .ok (.iload_n 2, 1) := by decide +kernel
theorem dX10_roomClash_16 : decode cX10_roomClash 16 = .ok (.invokestatic 248, 3) := by decide +kernel
theorem dX10_roomClash_19 : decode cX10_roomClash 19 = .ok (.ifCond .eq 12, 3) := by decide +kernel
theorem dX10_roomClash_22 : decode cX10_roomClash 22 = .ok (.iload_n 3, 1) := by decide +kernel
theorem dX10_roomClash_23 : decode cX10_roomClash 23 = .ok (.iconst 0, 1) := by decide +kernel
theorem dX10_roomClash_24 : decode cX10_roomClash 24 = .ok (.iconst 2, 1) := by decide +kernel
theorem dX10_roomClash_25 : decode cX10_roomClash 25 = .ok (.invokestatic 65, 3) := by decide +kernel
theorem dX10_roomClash_28 : decode cX10_roomClash 28 = .ok (.ifCond .ne 5, 3) := by decide +kernel
theorem dX10_roomClash_31 : decode cX10_roomClash 31 = .ok (.iconst (-1), 1) := by decide +kernel
theorem dX10_roomClash_32 : decode cX10_roomClash 32 = .ok (.ireturn, 1) := by decide +kernel
theorem dX10_roomClash_33 : decode cX10_roomClash 33 = .ok (.iconst (-1), 1) := by decide +kernel
theorem dX10_roomClash_34 : decode cX10_roomClash 34 = .ok (.istore 4, 2) := by decide +kernel
theorem dX10_roomClash_36 : decode cX10_roomClash 36 = .ok (.iconst (-1), 1) := by decide +kernel
theorem dX10_roomClash_37 : decode cX10_roomClash 37 = .ok (.istore 5, 2) := by decide +kernel
theorem dX10_roomClash_39 : decode cX10_roomClash 39 = .ok (.iconst (-1), 1) := by decide +kernel
theorem dX10_roomClash_40 : decode cX10_roomClash 40 = .ok (.istore 6, 2) := by decide +kernel
theorem dX10_roomClash_42 : decode cX10_roomClash 42 = .ok (.iconst 0, 1) := by decide +kernel
theorem dX10_roomClash_43 : decode cX10_roomClash 43 = .ok (.istore 7, 2) := by decide +kernel
theorem dX10_roomClash_45 : decode cX10_roomClash 45 = .ok (.iload 7, 2) := by decide +kernel
theorem dX10_roomClash_47 : decode cX10_roomClash 47 = .ok (.aload_n 0, 1) := by decide +kernel
theorem dX10_roomClash_48 : decode cX10_roomClash 48 = .ok (.getfield 70, 3) := by decide +kernel
theorem dX10_roomClash_51 : decode cX10_roomClash 51 = .ok (.if_icmp .ge 125, 3) := by decide +kernel
theorem dX10_roomClash_54 : decode cX10_roomClash 54 = .ok (.aload_n 0, 1) := by decide +kernel
theorem dX10_roomClash_55 : decode cX10_roomClash 55 = .ok (.iload 7, 2) := by decide +kernel
theorem dX10_roomClash_57 : decode cX10_roomClash 57 = .ok (.iconst 0, 1) := by decide +kernel
theorem dX10_roomClash_58 : decode cX10_roomClash 58 = .ok (.invokevirtual 229, 3) := by decide +kernel
theorem dX10_roomClash_61 : decode cX10_roomClash 61 = .ok (.iload_n 1, 1) := by decide +kernel
theorem dX10_roomClash_62 : decode cX10_roomClash 62 = .ok (.if_icmp .eq 6, 3) := by decide +kernel
theorem dX10_roomClash_65 : decode cX10_roomClash 65 = .ok (.goto 105, 3) := by decide +kernel
theorem dX10_roomClash_68 : decode cX10_roomClash 68 = .ok (.aload_n 0, 1) := by decide +kernel
theorem dX10_roomClash_69 : decode cX10_roomClash 69 = .ok (.iload 7, 2) := by decide +kernel
theorem dX10_roomClash_71 : decode cX10_roomClash 71 = .ok (.iconst 0, 1) := by decide +kernel
theorem dX10_roomClash_72 : decode cX10_roomClash 72 = .ok (.invokevirtual 255, 3) := by decide +kernel
theorem dX10_roomClash_75 : decode cX10_roomClash 75 = .ok (.iload 7, 2) := by decide +kernel
theorem dX10_roomClash_77 : decode cX10_roomClash 77 = .ok (.iconst 1, 1) := by decide +kernel
theorem dX10_roomClash_78 : decode cX10_roomClash 78 = .ok (.iadd, 1) := by decide +kernel
theorem dX10_roomClash_79 : decode cX10_roomClash 79 = .ok (.istore 8, 2) := by decide +kernel
theorem dX10_roomClash_81 : decode cX10_roomClash 81 = .ok (.iload 8, 2) := by decide +kernel
theorem dX10_roomClash_83 : decode cX10_roomClash 83 = .ok (.aload_n 0, 1) := by decide +kernel
theorem dX10_roomClash_84 : decode cX10_roomClash 84 = .ok (.getfield 70, 3) := by decide +kernel
theorem dX10_roomClash_87 : decode cX10_roomClash 87 = .ok (.if_icmp .ge 83, 3) := by decide +kernel
theorem dX10_roomClash_90 : decode cX10_roomClash 90 = .ok (.aload_n 0, 1) := by decide +kernel
theorem dX10_roomClash_91 : decode cX10_roomClash 91 = .ok (.iload 8, 2) := by decide +kernel
theorem dX10_roomClash_93 : decode cX10_roomClash 93 = .ok (.iconst 0, 1) := by decide +kernel
theorem dX10_roomClash_94 : decode cX10_roomClash 94 = .ok (.invokevirtual 229, 3) := by decide +kernel
theorem dX10_roomClash_97 : decode cX10_roomClash 97 = .ok (.iload_n 1, 1) := by decide +kernel
theorem dX10_roomClash_98 : decode cX10_roomClash 98 = .ok (.if_icmp .eq 6, 3) := by decide +kernel
theorem dX10_roomClash_101 : decode cX10_roomClash 101 = .ok (.goto 63, 3) := by decide +kernel
theorem dX10_roomClash_104 : decode cX10_roomClash 104 = .ok (.aload_n 0, 1) := by decide +kernel
theorem dX10_roomClash_105 : decode cX10_roomClash 105 = .ok (.iload 8, 2) := by decide +kernel
theorem dX10_roomClash_107 : decode cX10_roomClash 107 = .ok (.iconst 1, 1) := by decide +kernel
theorem dX10_roomClash_108 : decode cX10_roomClash 108 = .ok (.invokevirtual 255, 3) := by decide +kernel
theorem dX10_roomClash_111 : decode cX10_roomClash 111 = .ok (.aload_n 0, 1) := by decide +kernel
theorem dX10_roomClash_112 : decode cX10_roomClash 112 = .ok (.aload_n 0, 1) := by decide +kernel
theorem dX10_roomClash_113 : decode cX10_roomClash 113 = .ok (.iload 7, 2) := by decide +kernel
theorem dX10_roomClash_115 : decode cX10_roomClash 115 = .ok (.iconst 2, 1) := by decide +kernel
theorem dX10_roomClash_116 : decode cX10_roomClash 116 = .ok (.invokevirtual 229, 3) := by decide +kernel
theorem dX10_roomClash_119 : decode cX10_roomClash 119 = .ok (.aload_n 0, 1) := by decide +kernel
theorem dX10_roomClash_120 : decode cX10_roomClash 120 = .ok (.iload 8, 2) := by decide +kernel
theorem dX10_roomClash_122 : decode cX10_roomClash 122 = .ok (.iconst 2, 1) := by decide +kernel
theorem dX10_roomClash_123 : decode cX10_roomClash 123 = .ok (.invokevirtual 229, 3) := by decide +kernel
theorem dX10_roomClash_126 : decode cX10_roomClash 126 = .ok (.iload_n 2, 1) := by decide +kernel
theorem dX10_roomClash_127 : decode cX10_roomClash 127 = .ok (.invokevirtual 276, 3) := by decide +kernel
theorem dX10_roomClash_130 : decode cX10_roomClash 130 = .ok (.istore 9, 2) := by decide +kernel
theorem dX10_roomClash_132 : decode cX10_roomClash 132 = .ok (.iload 9, 2) := by decide +kernel
theorem dX10_roomClash_134 : decode cX10_roomClash 134 = .ok (.ifCond .lt 30, 3) := by decide +kernel
theorem dX10_roomClash_137 : decode cX10_roomClash 137 = .ok (.iload 4, 2) := by decide +kernel
theorem dX10_roomClash_139 : decode cX10_roomClash 139 = .ok (.ifCond .lt 13, 3) := by decide +kernel
theorem dX10_roomClash_142 : decode cX10_roomClash 142 = .ok (.iload 9, 2) := by decide +kernel
theorem dX10_roomClash_144 : decode cX10_roomClash 144 = .ok (.iload 4, 2) := by decide +kernel
theorem dX10_roomClash_146 : decode cX10_roomClash 146 = .ok (.if_icmp .lt 6, 3) := by decide +kernel
theorem dX10_roomClash_149 : decode cX10_roomClash 149 = .ok (.goto 15, 3) := by decide +kernel
theorem dX10_roomClash_152 : decode cX10_roomClash 152 = .ok (.iload 9, 2) := by decide +kernel
theorem dX10_roomClash_154 : decode cX10_roomClash 154 = .ok (.istore 4, 2) := by decide +kernel
theorem dX10_roomClash_156 : decode cX10_roomClash 156 = .ok (.iload 7, 2) := by decide +kernel
theorem dX10_roomClash_158 : decode cX10_roomClash 158 = .ok (.istore 5, 2) := by decide +kernel
theorem dX10_roomClash_160 : decode cX10_roomClash 160 = .ok (.iload 8, 2) := by decide +kernel
theorem dX10_roomClash_162 : decode cX10_roomClash 162 = .ok (.istore 6, 2) := by decide +kernel
theorem dX10_roomClash_164 : decode cX10_roomClash 164 = .ok (.iinc 8 1, 3) := by decide +kernel
theorem dX10_roomClash_167 : decode cX10_roomClash 167 = .ok (.goto (-86), 3) := by decide +kernel
theorem dX10_roomClash_170 : decode cX10_roomClash 170 = .ok (.iinc 7 1, 3) := by decide +kernel
theorem dX10_roomClash_173 : decode cX10_roomClash 173 = .ok (.goto (-128), 3) := by decide +kernel
theorem dX10_roomClash_176 : decode cX10_roomClash 176 = .ok (.iload_n 3, 1) := by decide +kernel
theorem dX10_roomClash_177 : decode cX10_roomClash 177 = .ok (.ifCond .ne 8, 3) := by decide +kernel
theorem dX10_roomClash_180 : decode cX10_roomClash 180 = .ok (.iload 4, 2) := by decide +kernel
theorem dX10_roomClash_182 : decode cX10_roomClash 182 = .ok (.goto 15, 3) := by decide +kernel
theorem dX10_roomClash_185 : decode cX10_roomClash 185 = .ok (.iload_n 3, 1) := by decide +kernel
theorem dX10_roomClash_186 : decode cX10_roomClash 186 = .ok (.iconst 1, 1) := by decide +kernel
theorem dX10_roomClash_187 : decode cX10_roomClash 187 = .ok (.if_icmp .ne 8, 3) := by decide +kernel
theorem dX10_roomClash_190 : decode cX10_roomClash 190 = .ok (.iload 5, 2) := by decide +kernel
theorem dX10_roomClash_192 : decode cX10_roomClash 192 = .ok (.goto 5, 3) := by decide +kernel
theorem dX10_roomClash_195 : decode cX10_roomClash 195 = .ok (.iload 6, 2) := by decide +kernel
theorem dX10_roomClash_197 : decode cX10_roomClash 197 = .ok (.ireturn, 1) := by decide +kernel
set_option maxRecDepth 20000 in
theorem ggX10_laysTaken_X10_get : GoodIn wsX10_laysTaken wsX10_get := goodIn_r _ [9, 10, 37, 38, 39, 40, 41, 42, 43, 44, 45, 46, 47, 48, 49, 50, 51, 52, 53, 54, 55, 56, 57, 58, 59, 60, 61, 62] (by decide +kernel) (by decide +kernel)
set_option maxRecDepth 20000 in
theorem gX10_laysTaken_X10_get : GoodIn wsX10_laysTaken (wsV RX10 229 RX10 yX10_get wsX10_get) := goodIn_app (goodIn_of _ (by decide +kernel)) ggX10_laysTaken_X10_get
set_option maxRecDepth 20000 in
theorem ggX10_laysTaken_X10_laysTimes : GoodIn wsX10_laysTaken wsX10_laysTimes := goodIn_r _ [14, 15, 16, 4, 3, 17, 18, 19, 8, 20, 21, 5, 6, 7, 9, 10, 22, 23, 24, 25, 26, 27, 28, 29, 30, 31, 32, 33, 34, 35, 36, 37, 38, 39, 40, 41, 42, 43, 44, 45, 46, 47, 48, 49, 50, 51, 52, 53, 54, 55, 56, 57, 58, 59, 60, 61, 62] (by decide +kernel) (by decide +kernel)
set_option maxRecDepth 20000 in
theorem gX10_laysTaken_X10_laysTimes : GoodIn wsX10_laysTaken (wsV RX10 255 RX10 yX10_laysTimes wsX10_laysTimes) := goodIn_app (goodIn_of _ (by decide +kernel)) ggX10_laysTaken_X10_laysTimes
theorem dX10_laysTaken_0 : decode cX10_laysTaken 0 = .ok (.iconst 0, 1) := by decide +kernel
theorem dX10_laysTaken_1 : decode cX10_laysTaken 1 = .ok (.istore 4, 2) := by decide +kernel
theorem dX10_laysTaken_3 : decode cX10_laysTaken 3 = .ok (.iload 4, 2) := by decide +kernel
theorem dX10_laysTaken_5 : decode cX10_laysTaken 5 = .ok (.iload_n 3, 1) := by decide +kernel
theorem dX10_laysTaken_6 : decode cX10_laysTaken 6 = .ok (.if_icmp .ge 17, 3) := by decide +kernel
theorem dX10_laysTaken_9 : decode cX10_laysTaken 9 = .ok (.aload_n 0, 1) := by decide +kernel
theorem dX10_laysTaken_10 : decode cX10_laysTaken 10 = .ok (.getfield 52, 3) := by decide +kernel
theorem dX10_laysTaken_13 : decode cX10_laysTaken 13 = .ok (.iload 4, 2) := by decide +kernel
theorem dX10_laysTaken_15 : decode cX10_laysTaken 15 = .ok (.iconst 0, 1) := by decide +kernel
theorem dX10_laysTaken_16 : decode cX10_laysTaken 16 = .ok (.bastore, 1) := by decide +kernel
theorem dX10_laysTaken_17 : decode cX10_laysTaken 17 = .ok (.iinc 4 1, 3) := by decide +kernel
theorem dX10_laysTaken_20 : decode cX10_laysTaken 20 = .ok (.goto (-17), 3) := by decide +kernel
theorem dX10_laysTaken_23 : decode cX10_laysTaken 23 = .ok (.iconst 0, 1) := by decide +kernel
theorem dX10_laysTaken_24 : decode cX10_laysTaken 24 = .ok (.istore 4, 2) := by decide +kernel
theorem dX10_laysTaken_26 : decode cX10_laysTaken 26 = .ok (.iload 4, 2) := by decide +kernel
theorem dX10_laysTaken_28 : decode cX10_laysTaken 28 = .ok (.aload_n 0, 1) := by decide +kernel
theorem dX10_laysTaken_29 : decode cX10_laysTaken 29 = .ok (.getfield 70, 3) := by decide +kernel
theorem dX10_laysTaken_32 : decode cX10_laysTaken 32 = .ok (.if_icmp .ge 127, 3) := by decide +kernel
theorem dX10_laysTaken_35 : decode cX10_laysTaken 35 = .ok (.aload_n 0, 1) := by decide +kernel
theorem dX10_laysTaken_36 : decode cX10_laysTaken 36 = .ok (.iload 4, 2) := by decide +kernel
theorem dX10_laysTaken_38 : decode cX10_laysTaken 38 = .ok (.iconst 0, 1) := by decide +kernel
theorem dX10_laysTaken_39 : decode cX10_laysTaken 39 = .ok (.invokevirtual 229, 3) := by decide +kernel
theorem dX10_laysTaken_42 : decode cX10_laysTaken 42 = .ok (.iload_n 1, 1) := by decide +kernel
theorem dX10_laysTaken_43 : decode cX10_laysTaken 43 = .ok (.if_icmp .eq 6, 3) := by decide +kernel
theorem dX10_laysTaken_46 : decode cX10_laysTaken 46 = .ok (.goto 107, 3) := by decide +kernel
theorem dX10_laysTaken_49 : decode cX10_laysTaken 49 = .ok (.aload_n 0, 1) := by decide +kernel
theorem dX10_laysTaken_50 : decode cX10_laysTaken 50 = .ok (.iload 4, 2) := by decide +kernel
theorem dX10_laysTaken_52 : decode cX10_laysTaken 52 = .ok (.iconst 0, 1) := by decide +kernel
theorem dX10_laysTaken_53 : decode cX10_laysTaken 53 = .ok (.invokevirtual 255, 3) := by decide +kernel
theorem dX10_laysTaken_56 : decode cX10_laysTaken 56 = .ok (.iconst 0, 1) := by decide +kernel
theorem dX10_laysTaken_57 : decode cX10_laysTaken 57 = .ok (.istore 5, 2) := by decide +kernel
theorem dX10_laysTaken_59 : decode cX10_laysTaken 59 = .ok (.iload 5, 2) := by decide +kernel
theorem dX10_laysTaken_61 : decode cX10_laysTaken 61 = .ok (.aload_n 0, 1) := by decide +kernel
theorem dX10_laysTaken_62 : decode cX10_laysTaken 62 = .ok (.getfield 42, 3) := by decide +kernel
theorem dX10_laysTaken_65 : decode cX10_laysTaken 65 = .ok (.iconst 0, 1) := by decide +kernel
theorem dX10_laysTaken_66 : decode cX10_laysTaken 66 = .ok (.iaload, 1) := by decide +kernel
theorem dX10_laysTaken_67 : decode cX10_laysTaken 67 = .ok (.if_icmp .ge 86, 3) := by decide +kernel
theorem dX10_laysTaken_70 : decode cX10_laysTaken 70 = .ok (.aload_n 0, 1) := by decide +kernel
theorem dX10_laysTaken_71 : decode cX10_laysTaken 71 = .ok (.getfield 36, 3) := by decide +kernel
theorem dX10_laysTaken_74 : decode cX10_laysTaken 74 = .ok (.iload 5, 2) := by decide +kernel
theorem dX10_laysTaken_76 : decode cX10_laysTaken 76 = .ok (.iaload, 1) := by decide +kernel
theorem dX10_laysTaken_77 : decode cX10_laysTaken 77 = .ok (.iload_n 2, 1) := by decide +kernel
theorem dX10_laysTaken_78 : decode cX10_laysTaken 78 = .ok (.isub, 1) := by decide +kernel
theorem dX10_laysTaken_79 : decode cX10_laysTaken 79 = .ok (.istore 6, 2) := by decide +kernel
theorem dX10_laysTaken_81 : decode cX10_laysTaken 81 = .ok (.iload 6, 2) := by decide +kernel
theorem dX10_laysTaken_83 : decode cX10_laysTaken 83 = .ok (.aload_n 0, 1) := by decide +kernel
theorem dX10_laysTaken_84 : decode cX10_laysTaken 84 = .ok (.iload 4, 2) := by decide +kernel
theorem dX10_laysTaken_86 : decode cX10_laysTaken 86 = .ok (.iconst 2, 1) := by decide +kernel
theorem dX10_laysTaken_87 : decode cX10_laysTaken 87 = .ok (.invokevirtual 229, 3) := by decide +kernel
theorem dX10_laysTaken_90 : decode cX10_laysTaken 90 = .ok (.iadd, 1) := by decide +kernel
theorem dX10_laysTaken_91 : decode cX10_laysTaken 91 = .ok (.istore 7, 2) := by decide +kernel
theorem dX10_laysTaken_93 : decode cX10_laysTaken 93 = .ok (.iload 6, 2) := by decide +kernel
theorem dX10_laysTaken_95 : decode cX10_laysTaken 95 = .ok (.iload_n 3, 1) := by decide +kernel
theorem dX10_laysTaken_96 : decode cX10_laysTaken 96 = .ok (.if_icmp .ge 51, 3) := by decide +kernel
theorem dX10_laysTaken_99 : decode cX10_laysTaken 99 = .ok (.iload 7, 2) := by decide +kernel
theorem dX10_laysTaken_101 : decode cX10_laysTaken 101 = .ok (.ifCond .gt 6, 3) := by decide +kernel
theorem dX10_laysTaken_104 : decode cX10_laysTaken 104 = .ok (.goto 43, 3) := by decide +kernel
theorem dX10_laysTaken_107 : decode cX10_laysTaken 107 = .ok (.iload 6, 2) := by decide +kernel
theorem dX10_laysTaken_109 : decode cX10_laysTaken 109 = .ok (.ifCond .ge 7, 3) := by decide +kernel
theorem dX10_laysTaken_112 : decode cX10_laysTaken 112 = .ok (.iconst 0, 1) := by decide +kernel
theorem dX10_laysTaken_113 : decode cX10_laysTaken 113 = .ok (.goto 5, 3) := by decide +kernel
theorem dX10_laysTaken_116 : decode cX10_laysTaken 116 = .ok (.iload 6, 2) := by decide +kernel
theorem dX10_laysTaken_118 : decode cX10_laysTaken 118 = .ok (.istore 8, 2) := by decide +kernel
theorem dX10_laysTaken_120 : decode cX10_laysTaken 120 = .ok (.iload 8, 2) := by decide +kernel
theorem dX10_laysTaken_122 : decode cX10_laysTaken 122 = .ok (.iload 7, 2) := by decide +kernel
theorem dX10_laysTaken_124 : decode cX10_laysTaken 124 = .ok (.if_icmp .ge 23, 3) := by decide +kernel
theorem dX10_laysTaken_127 : decode cX10_laysTaken 127 = .ok (.iload 8, 2) := by decide +kernel
theorem dX10_laysTaken_129 : decode cX10_laysTaken 129 = .ok (.iload_n 3, 1) := by decide +kernel
theorem dX10_laysTaken_130 : decode cX10_laysTaken 130 = .ok (.if_icmp .ge 17, 3) := by decide +kernel
theorem dX10_laysTaken_133 : decode cX10_laysTaken 133 = .ok (.aload_n 0, 1) := by decide +kernel
theorem dX10_laysTaken_134 : decode cX10_laysTaken 134 = .ok (.getfield 52, 3) := by decide +kernel
theorem dX10_laysTaken_137 : decode cX10_laysTaken 137 = .ok (.iload 8, 2) := by decide +kernel
theorem dX10_laysTaken_139 : decode cX10_laysTaken 139 = .ok (.iconst 1, 1) := by decide +kernel
theorem dX10_laysTaken_140 : decode cX10_laysTaken 140 = .ok (.bastore, 1) := by decide +kernel
theorem dX10_laysTaken_141 : decode cX10_laysTaken 141 = .ok (.iinc 8 1, 3) := by decide +kernel
theorem dX10_laysTaken_144 : decode cX10_laysTaken 144 = .ok (.goto (-24), 3) := by decide +kernel
theorem dX10_laysTaken_147 : decode cX10_laysTaken 147 = .ok (.iinc 5 1, 3) := by decide +kernel
theorem dX10_laysTaken_150 : decode cX10_laysTaken 150 = .ok (.goto (-91), 3) := by decide +kernel
theorem dX10_laysTaken_153 : decode cX10_laysTaken 153 = .ok (.iinc 4 1, 3) := by decide +kernel
theorem dX10_laysTaken_156 : decode cX10_laysTaken 156 = .ok (.goto (-130), 3) := by decide +kernel
theorem dX10_laysTaken_159 : decode cX10_laysTaken 159 = .ok (.return_, 1) := by decide +kernel
set_option maxRecDepth 20000 in
theorem ggX10_free_X10_within : GoodIn wsX10_free wsX10_within := goodIn_r _ [8] (by decide +kernel) (by decide +kernel)
set_option maxRecDepth 20000 in
theorem gX10_free_X10_within : GoodIn wsX10_free (va_wsS RX10 65 yX10_within wsX10_within) := goodIn_app (goodIn_of _ (by decide +kernel)) ggX10_free_X10_within
set_option maxRecDepth 20000 in
theorem ggX10_free_X10_isTime : GoodIn wsX10_free wsX10_isTime := goodIn_r _ [11, 12, 5, 6, 7, 8] (by decide +kernel) (by decide +kernel)
set_option maxRecDepth 20000 in
theorem gX10_free_X10_isTime : GoodIn wsX10_free (va_wsS RX10 248 yX10_isTime wsX10_isTime) := goodIn_app (goodIn_of _ (by decide +kernel)) ggX10_free_X10_isTime
set_option maxRecDepth 20000 in
theorem ggX10_free_X10_laysTaken : GoodIn wsX10_free wsX10_laysTaken := goodIn_r _ [16, 4, 17, 18, 19, 20, 21, 22, 7, 23, 24, 25, 26, 27, 28, 29, 30, 31, 32, 33, 34, 35, 36, 37, 38, 39, 40, 41, 42, 43, 44, 45, 46, 47, 48, 49, 50, 51, 52, 53, 54, 55, 56, 57, 58, 59, 60, 61, 62, 63, 64, 65, 66, 67, 68, 69, 70, 71, 72, 73, 74, 75, 76] (by decide +kernel) (by decide +kernel)
set_option maxRecDepth 20000 in
theorem gX10_free_X10_laysTaken : GoodIn wsX10_free (wsV RX10 280 RX10 yX10_laysTaken wsX10_laysTaken) := goodIn_app (goodIn_of _ (by decide +kernel)) ggX10_free_X10_laysTaken
theorem dX10_free_0 : decode cX10_free 0 = .ok (.aload_n 0, 1) := by decide +kernel
theorem dX10_free_1 : decode cX10_free 1 = .ok (.iconst 0, 1) := by decide +kernel
theorem dX10_free_2 : decode cX10_free 2 = .ok (.putfield 60, 3) := by decide +kernel
theorem dX10_free_5 : decode cX10_free 5 = .ok (.iload_n 1, 1) := by decide +kernel
theorem dX10_free_6 : decode cX10_free 6 = .ok (.iconst 0, 1) := by decide +kernel
theorem dX10_free_7 : decode cX10_free 7 = .ok (.bipush 7, 2) := by decide +kernel
theorem dX10_free_9 : decode cX10_free 9 = .ok (.invokestatic 65, 3) := by decide +kernel
theorem dX10_free_12 : decode cX10_free 12 = .ok (.ifCond .eq 21, 3) := by decide +kernel
theorem dX10_free_15 : decode cX10_free 15 = .ok (.iload_n 2, 1) := by decide +kernel
theorem dX10_free_16 : decode cX10_free 16 = .ok (.invokestatic 248, 3) := by decide +kernel
theorem dX10_free_19 : decode cX10_free 19 = .ok (.ifCond .eq 14, 3) := by decide +kernel
theorem dX10_free_22 : decode cX10_free 22 = .ok (.iload_n 3, 1) := by decide +kernel
theorem dX10_free_23 : decode cX10_free 23 = .ok (.iconst 1, 1) := by decide +kernel
theorem dX10_free_24 : decode cX10_free 24 = .ok (.sipush 4320, 3) := by decide +kernel
theorem dX10_free_27 : decode cX10_free 27 = .ok (.invokestatic 65, 3) := by decide +kernel
theorem dX10_free_30 : decode cX10_free 30 = .ok (.ifCond .ne 5, 3) := by decide +kernel
theorem dX10_free_33 : decode cX10_free 33 = .ok (.iconst (-1), 1) := by decide +kernel
theorem dX10_free_34 : decode cX10_free 34 = .ok (.ireturn, 1) := by decide +kernel
theorem dX10_free_35 : decode cX10_free 35 = .ok (.aload_n 0, 1) := by decide +kernel
theorem dX10_free_36 : decode cX10_free 36 = .ok (.iload_n 1, 1) := by decide +kernel
theorem dX10_free_37 : decode cX10_free 37 = .ok (.iload_n 2, 1) := by decide +kernel
theorem dX10_free_38 : decode cX10_free 38 = .ok (.ldc_w 279, 3) := by decide +kernel
theorem dX10_free_41 : decode cX10_free 41 = .ok (.invokevirtual 280, 3) := by decide +kernel
theorem dX10_free_44 : decode cX10_free 44 = .ok (.iconst 0, 1) := by decide +kernel
theorem dX10_free_45 : decode cX10_free 45 = .ok (.istore 4, 2) := by decide +kernel
theorem dX10_free_47 : decode cX10_free 47 = .ok (.iconst 0, 1) := by decide +kernel
theorem dX10_free_48 : decode cX10_free 48 = .ok (.istore 5, 2) := by decide +kernel
theorem dX10_free_50 : decode cX10_free 50 = .ok (.iload 5, 2) := by decide +kernel
theorem dX10_free_52 : decode cX10_free 52 = .ok (.ldc_w 269, 3) := by decide +kernel
theorem dX10_free_55 : decode cX10_free 55 = .ok (.iload_n 3, 1) := by decide +kernel
theorem dX10_free_56 : decode cX10_free 56 = .ok (.iadd, 1) := by decide +kernel
theorem dX10_free_57 : decode cX10_free 57 = .ok (.if_icmp .ge 62, 3) := by decide +kernel
theorem dX10_free_60 : decode cX10_free 60 = .ok (.aload_n 0, 1) := by decide +kernel
theorem dX10_free_61 : decode cX10_free 61 = .ok (.getfield 52, 3) := by decide +kernel
theorem dX10_free_64 : decode cX10_free 64 = .ok (.iload 5, 2) := by decide +kernel
theorem dX10_free_66 : decode cX10_free 66 = .ok (.baload, 1) := by decide +kernel
theorem dX10_free_67 : decode cX10_free 67 = .ok (.ifCond .eq 7, 3) := by decide +kernel
theorem dX10_free_70 : decode cX10_free 70 = .ok (.iconst 0, 1) := by decide +kernel
theorem dX10_free_71 : decode cX10_free 71 = .ok (.goto 7, 3) := by decide +kernel
theorem dX10_free_74 : decode cX10_free 74 = .ok (.iload 4, 2) := by decide +kernel
theorem dX10_free_76 : decode cX10_free 76 = .ok (.iconst 1, 1) := by decide +kernel
theorem dX10_free_77 : decode cX10_free 77 = .ok (.iadd, 1) := by decide +kernel
theorem dX10_free_78 : decode cX10_free 78 = .ok (.istore 4, 2) := by decide +kernel
theorem dX10_free_80 : decode cX10_free 80 = .ok (.iload 4, 2) := by decide +kernel
theorem dX10_free_82 : decode cX10_free 82 = .ok (.iload_n 3, 1) := by decide +kernel
theorem dX10_free_83 : decode cX10_free 83 = .ok (.if_icmp .ne 30, 3) := by decide +kernel
theorem dX10_free_86 : decode cX10_free 86 = .ok (.iload_n 2, 1) := by decide +kernel
theorem dX10_free_87 : decode cX10_free 87 = .ok (.iload 5, 2) := by decide +kernel
theorem dX10_free_89 : decode cX10_free 89 = .ok (.iadd, 1) := by decide +kernel
theorem dX10_free_90 : decode cX10_free 90 = .ok (.iload_n 3, 1) := by decide +kernel
theorem dX10_free_91 : decode cX10_free 91 = .ok (.isub, 1) := by decide +kernel
theorem dX10_free_92 : decode cX10_free 92 = .ok (.iconst 1, 1) := by decide +kernel
theorem dX10_free_93 : decode cX10_free 93 = .ok (.iadd, 1) := by decide +kernel
theorem dX10_free_94 : decode cX10_free 94 = .ok (.invokestatic 248, 3) := by decide +kernel
theorem dX10_free_97 : decode cX10_free 97 = .ok (.ifCond .eq 14, 3) := by decide +kernel
theorem dX10_free_100 : decode cX10_free 100 = .ok (.iload_n 2, 1) := by decide +kernel
theorem dX10_free_101 : decode cX10_free 101 = .ok (.iload 5, 2) := by decide +kernel
theorem dX10_free_103 : decode cX10_free 103 = .ok (.iadd, 1) := by decide +kernel
theorem dX10_free_104 : decode cX10_free 104 = .ok (.iload_n 3, 1) := by decide +kernel
theorem dX10_free_105 : decode cX10_free 105 = .ok (.isub, 1) := by decide +kernel
theorem dX10_free_106 : decode cX10_free 106 = .ok (.iconst 1, 1) := by decide +kernel
theorem dX10_free_107 : decode cX10_free 107 = .ok (.iadd, 1) := by decide +kernel
theorem dX10_free_108 : decode cX10_free 108 = .ok (.goto 4, 3) := by decide +kernel
theorem dX10_free_111 : decode cX10_free 111 = .ok (.iconst (-1), 1) := by decide +kernel
theorem dX10_free_112 : decode cX10_free 112 = .ok (.ireturn, 1) := by decide +kernel
theorem dX10_free_113 : decode cX10_free 113 = .ok (.iinc 5 1, 3) := by decide +kernel
theorem dX10_free_116 : decode cX10_free 116 = .ok (.goto (-66), 3) := by decide +kernel
theorem dX10_free_119 : decode cX10_free 119 = .ok (.iconst (-1), 1) := by decide +kernel
theorem dX10_free_120 : decode cX10_free 120 = .ok (.ireturn, 1) := by decide +kernel
set_option maxRecDepth 20000 in
theorem ggX10_busyOf_X10_laysTaken : GoodIn wsX10_busyOf wsX10_laysTaken := goodIn_r _ [6, 1, 7, 8, 9, 10, 11, 12, 5, 13, 14, 15, 16, 17, 18, 19, 20, 21, 22, 23, 24, 25, 26, 27, 28, 29, 30, 31, 32, 33, 34, 35, 36, 37, 38, 39, 40, 41, 42, 43, 44, 45, 46, 47, 48, 49, 50, 51, 52, 53, 54, 55, 56, 57, 58, 59, 60, 61, 62, 63, 64, 65, 66] (by decide +kernel) (by decide +kernel)
set_option maxRecDepth 20000 in
theorem gX10_busyOf_X10_laysTaken : GoodIn wsX10_busyOf (wsV RX10 280 RX10 yX10_laysTaken wsX10_laysTaken) := goodIn_app (goodIn_of _ (by decide +kernel)) ggX10_busyOf_X10_laysTaken
theorem dX10_busyOf_0 : decode cX10_busyOf 0 = .ok (.aload_n 0, 1) := by decide +kernel
theorem dX10_busyOf_1 : decode cX10_busyOf 1 = .ok (.iload_n 1, 1) := by decide +kernel
theorem dX10_busyOf_2 : decode cX10_busyOf 2 = .ok (.sipush 1440, 3) := by decide +kernel
theorem dX10_busyOf_5 : decode cX10_busyOf 5 = .ok (.iload_n 2, 1) := by decide +kernel
theorem dX10_busyOf_6 : decode cX10_busyOf 6 = .ok (.imul, 1) := by decide +kernel
theorem dX10_busyOf_7 : decode cX10_busyOf 7 = .ok (.sipush 1440, 3) := by decide +kernel
theorem dX10_busyOf_10 : decode cX10_busyOf 10 = .ok (.invokevirtual 280, 3) := by decide +kernel
theorem dX10_busyOf_13 : decode cX10_busyOf 13 = .ok (.iconst 0, 1) := by decide +kernel
theorem dX10_busyOf_14 : decode cX10_busyOf 14 = .ok (.istore_n 3, 1) := by decide +kernel
theorem dX10_busyOf_15 : decode cX10_busyOf 15 = .ok (.iconst 0, 1) := by decide +kernel
theorem dX10_busyOf_16 : decode cX10_busyOf 16 = .ok (.istore 4, 2) := by decide +kernel
theorem dX10_busyOf_18 : decode cX10_busyOf 18 = .ok (.iload 4, 2) := by decide +kernel
theorem dX10_busyOf_20 : decode cX10_busyOf 20 = .ok (.sipush 1440, 3) := by decide +kernel
theorem dX10_busyOf_23 : decode cX10_busyOf 23 = .ok (.if_icmp .ge 22, 3) := by decide +kernel
theorem dX10_busyOf_26 : decode cX10_busyOf 26 = .ok (.aload_n 0, 1) := by decide +kernel
theorem dX10_busyOf_27 : decode cX10_busyOf 27 = .ok (.getfield 52, 3) := by decide +kernel
theorem dX10_busyOf_30 : decode cX10_busyOf 30 = .ok (.iload 4, 2) := by decide +kernel
theorem dX10_busyOf_32 : decode cX10_busyOf 32 = .ok (.baload, 1) := by decide +kernel
theorem dX10_busyOf_33 : decode cX10_busyOf 33 = .ok (.ifCond .eq 6, 3) := by decide +kernel
theorem dX10_busyOf_36 : decode cX10_busyOf 36 = .ok (.iinc 3 1, 3) := by decide +kernel
theorem dX10_busyOf_39 : decode cX10_busyOf 39 = .ok (.iinc 4 1, 3) := by decide +kernel
theorem dX10_busyOf_42 : decode cX10_busyOf 42 = .ok (.goto (-24), 3) := by decide +kernel
theorem dX10_busyOf_45 : decode cX10_busyOf 45 = .ok (.iload_n 3, 1) := by decide +kernel
theorem dX10_busyOf_46 : decode cX10_busyOf 46 = .ok (.ireturn, 1) := by decide +kernel
set_option maxRecDepth 20000 in
theorem ggX10_busy_X10_within : GoodIn wsX10_busy wsX10_within := goodIn_r _ [5] (by decide +kernel) (by decide +kernel)
set_option maxRecDepth 20000 in
theorem gX10_busy_X10_within : GoodIn wsX10_busy (va_wsS RX10 65 yX10_within wsX10_within) := goodIn_app (goodIn_of _ (by decide +kernel)) ggX10_busy_X10_within
set_option maxRecDepth 20000 in
theorem ggX10_busy_X10_isDay : GoodIn wsX10_busy wsX10_isDay := goodIn_r _ [8, 9, 2, 3, 4, 5] (by decide +kernel) (by decide +kernel)
set_option maxRecDepth 20000 in
theorem gX10_busy_X10_isDay : GoodIn wsX10_busy (va_wsS RX10 223 yX10_isDay wsX10_isDay) := goodIn_app (goodIn_of _ (by decide +kernel)) ggX10_busy_X10_isDay
set_option maxRecDepth 20000 in
theorem ggX10_busy_X10_busyOf : GoodIn wsX10_busy wsX10_busyOf := goodIn_r _ [13, 14, 15, 16, 17, 4, 18, 19, 20, 21, 22, 23, 24, 25, 26, 27, 28, 29, 30, 31, 32, 33, 34, 35, 36, 9, 37, 38, 39, 40, 41, 42, 43, 44, 45, 46, 47, 48, 49, 50, 51, 52, 53, 54, 55, 56, 57, 58, 59, 60, 61, 62, 63, 64, 65, 66, 67, 68, 69, 70, 71, 72, 73, 74, 75, 76, 77] (by decide +kernel) (by decide +kernel)
set_option maxRecDepth 20000 in
theorem gX10_busy_X10_busyOf : GoodIn wsX10_busy (wsV RX10 283 RX10 yX10_busyOf wsX10_busyOf) := goodIn_app (goodIn_of _ (by decide +kernel)) ggX10_busy_X10_busyOf
theorem dX10_busy_0 : decode cX10_busy 0 = .ok (.aload_n 0, 1) := by decide +kernel
theorem dX10_busy_1 : decode cX10_busy 1 = .ok (.iconst 0, 1) := by decide +kernel
theorem dX10_busy_2 : decode cX10_busy 2 = .ok (.putfield 60, 3) := by decide +kernel
theorem dX10_busy_5 : decode cX10_busy 5 = .ok (.iload_n 1, 1) := by decide +kernel
theorem dX10_busy_6 : decode cX10_busy 6 = .ok (.iconst 0, 1) := by decide +kernel
theorem dX10_busy_7 : decode cX10_busy 7 = .ok (.bipush 7, 2) := by decide +kernel
theorem dX10_busy_9 : decode cX10_busy 9 = .ok (.invokestatic 65, 3) := by decide +kernel
theorem dX10_busy_12 : decode cX10_busy 12 = .ok (.ifCond .eq 19, 3) := by decide +kernel
theorem dX10_busy_15 : decode cX10_busy 15 = .ok (.iload_n 2, 1) := by decide +kernel
theorem dX10_busy_16 : decode cX10_busy 16 = .ok (.invokestatic 223, 3) := by decide +kernel
theorem dX10_busy_19 : decode cX10_busy 19 = .ok (.ifCond .eq 12, 3) := by decide +kernel
theorem dX10_busy_22 : decode cX10_busy 22 = .ok (.aload_n 0, 1) := by decide +kernel
theorem dX10_busy_23 : decode cX10_busy 23 = .ok (.iload_n 1, 1) := by decide +kernel
theorem dX10_busy_24 : decode cX10_busy 24 = .ok (.iload_n 2, 1) := by decide +kernel
theorem dX10_busy_25 : decode cX10_busy 25 = .ok (.invokevirtual 283, 3) := by decide +kernel
theorem dX10_busy_28 : decode cX10_busy 28 = .ok (.goto 4, 3) := by decide +kernel
theorem dX10_busy_31 : decode cX10_busy 31 = .ok (.iconst (-1), 1) := by decide +kernel
theorem dX10_busy_32 : decode cX10_busy 32 = .ok (.ireturn, 1) := by decide +kernel
set_option maxRecDepth 20000 in
theorem ggX10_busiest_X10_within : GoodIn wsX10_busiest wsX10_within := goodIn_r _ [6] (by decide +kernel) (by decide +kernel)
set_option maxRecDepth 20000 in
theorem gX10_busiest_X10_within : GoodIn wsX10_busiest (va_wsS RX10 65 yX10_within wsX10_within) := goodIn_app (goodIn_of _ (by decide +kernel)) ggX10_busiest_X10_within
set_option maxRecDepth 20000 in
theorem ggX10_busiest_X10_isDay : GoodIn wsX10_busiest wsX10_isDay := goodIn_r _ [9, 10, 3, 4, 5, 6] (by decide +kernel) (by decide +kernel)
set_option maxRecDepth 20000 in
theorem gX10_busiest_X10_isDay : GoodIn wsX10_busiest (va_wsS RX10 223 yX10_isDay wsX10_isDay) := goodIn_app (goodIn_of _ (by decide +kernel)) ggX10_busiest_X10_isDay
set_option maxRecDepth 20000 in
theorem ggX10_busiest_X10_laysTaken : GoodIn wsX10_busiest wsX10_laysTaken := goodIn_r _ [14, 2, 15, 16, 17, 18, 19, 20, 5, 21, 22, 23, 24, 25, 26, 27, 28, 29, 30, 31, 32, 10, 33, 34, 35, 36, 37, 38, 39, 40, 41, 42, 43, 44, 45, 46, 47, 48, 49, 50, 51, 52, 53, 54, 55, 56, 57, 58, 59, 60, 61, 62, 63, 64, 65, 66, 67, 68, 69, 70, 71, 72, 73] (by decide +kernel) (by decide +kernel)
set_option maxRecDepth 20000 in
theorem gX10_busiest_X10_laysTaken : GoodIn wsX10_busiest (wsV RX10 280 RX10 yX10_laysTaken wsX10_laysTaken) := goodIn_app (goodIn_of _ (by decide +kernel)) ggX10_busiest_X10_laysTaken
theorem dX10_busiest_0 : decode cX10_busiest 0 = .ok (.aload_n 0, 1) := by decide +kernel
theorem dX10_busiest_1 : decode cX10_busiest 1 = .ok (.iconst 0, 1) := by decide +kernel
theorem dX10_busiest_2 : decode cX10_busiest 2 = .ok (.putfield 60, 3) := by decide +kernel
theorem dX10_busiest_5 : decode cX10_busiest 5 = .ok (.iload_n 1, 1) := by decide +kernel
theorem dX10_busiest_6 : decode cX10_busiest 6 = .ok (.iconst 0, 1) := by decide +kernel
theorem dX10_busiest_7 : decode cX10_busiest 7 = .ok (.bipush 7, 2) := by decide +kernel
theorem dX10_busiest_9 : decode cX10_busiest 9 = .ok (.invokestatic 65, 3) := by decide +kernel
theorem dX10_busiest_12 : decode cX10_busiest 12 = .ok (.ifCond .eq 30, 3) := by decide +kernel
theorem dX10_busiest_15 : decode cX10_busiest 15 = .ok (.iload_n 2, 1) := by decide +kernel
theorem dX10_busiest_16 : decode cX10_busiest 16 = .ok (.invokestatic 223, 3) := by decide +kernel
theorem dX10_busiest_19 : decode cX10_busiest 19 = .ok (.ifCond .eq 23, 3) := by decide +kernel
theorem dX10_busiest_22 : decode cX10_busiest 22 = .ok (.iload_n 3, 1) := by decide +kernel
theorem dX10_busiest_23 : decode cX10_busiest 23 = .ok (.invokestatic 223, 3) := by decide +kernel
theorem dX10_busiest_26 : decode cX10_busiest 26 = .ok (.ifCond .eq 16, 3) := by decide +kernel
theorem dX10_busiest_29 : decode cX10_busiest 29 = .ok (.iload_n 3, 1) := by decide +kernel
theorem dX10_busiest_30 : decode cX10_busiest 30 = .ok (.iload_n 2, 1) := by decide +kernel
theorem dX10_busiest_31 : decode cX10_busiest 31 = .ok (.if_icmp .lt 11, 3) := by decide +kernel
theorem dX10_busiest_34 : decode cX10_busiest 34 = .ok (.iload_n 3, 1) := by decide +kernel
theorem dX10_busiest_35 : decode cX10_busiest 35 = .ok (.iload_n 2, 1) := by decide +kernel
theorem dX10_busiest_36 : decode cX10_busiest 36 = .ok (.isub, 1) := by decide +kernel
theorem dX10_busiest_37 : decode cX10_busiest 37 = .ok (.bipush 59, 2) := by decide +kernel
theorem dX10_busiest_39 : decode cX10_busiest 39 = .ok (.if_icmp .le 5, 3) := by decide +kernel
theorem dX10_busiest_42 : decode cX10_busiest 42 = .ok (.iconst (-1), 1) := by decide +kernel
theorem dX10_busiest_43 : decode cX10_busiest 43 = .ok (.ireturn, 1) := by decide +kernel
theorem dX10_busiest_44 : decode cX10_busiest 44 = .ok (.aload_n 0, 1) := by decide +kernel
theorem dX10_busiest_45 : decode cX10_busiest 45 = .ok (.iload_n 1, 1) := by decide +kernel
theorem dX10_busiest_46 : decode cX10_busiest 46 = .ok (.sipush 1440, 3) := by decide +kernel
theorem dX10_busiest_49 : decode cX10_busiest 49 = .ok (.iload_n 2, 1) := by decide +kernel
theorem dX10_busiest_50 : decode cX10_busiest 50 = .ok (.imul, 1) := by decide +kernel
theorem dX10_busiest_51 : decode cX10_busiest 51 = .ok (.sipush 1440, 3) := by decide +kernel
theorem dX10_busiest_54 : decode cX10_busiest 54 = .ok (.iload_n 3, 1) := by decide +kernel
theorem dX10_busiest_55 : decode cX10_busiest 55 = .ok (.iload_n 2, 1) := by decide +kernel
theorem dX10_busiest_56 : decode cX10_busiest 56 = .ok (.isub, 1) := by decide +kernel
theorem dX10_busiest_57 : decode cX10_busiest 57 = .ok (.iconst 1, 1) := by decide +kernel
theorem dX10_busiest_58 : decode cX10_busiest 58 = .ok (.iadd, 1) := by decide +kernel
theorem dX10_busiest_59 : decode cX10_busiest 59 = .ok (.imul, 1) := by decide +kernel
theorem dX10_busiest_60 : decode cX10_busiest 60 = .ok (.invokevirtual 280, 3) := by decide +kernel
theorem dX10_busiest_63 : decode cX10_busiest 63 = .ok (.iload_n 2, 1) := by decide +kernel
theorem dX10_busiest_64 : decode cX10_busiest 64 = .ok (.istore 4, 2) := by decide +kernel
theorem dX10_busiest_66 : decode cX10_busiest 66 = .ok (.iconst (-1), 1) := by decide +kernel
theorem dX10_busiest_67 : decode cX10_busiest 67 = .ok (.istore 5, 2) := by decide +kernel
theorem dX10_busiest_69 : decode cX10_busiest 69 = .ok (.iload_n 2, 1) := by decide +kernel
theorem dX10_busiest_70 : decode cX10_busiest 70 = .ok (.istore 6, 2) := by decide +kernel
theorem dX10_busiest_72 : decode cX10_busiest 72 = .ok (.iload 6, 2) := by decide +kernel
theorem dX10_busiest_74 : decode cX10_busiest 74 = .ok (.iload_n 3, 1) := by decide +kernel
theorem dX10_busiest_75 : decode cX10_busiest 75 = .ok (.if_icmp .gt 69, 3) := by decide +kernel
theorem dX10_busiest_78 : decode cX10_busiest 78 = .ok (.iconst 0, 1) := by decide +kernel
theorem dX10_busiest_79 : decode cX10_busiest 79 = .ok (.istore 7, 2) := by decide +kernel
theorem dX10_busiest_81 : decode cX10_busiest 81 = .ok (.iconst 0, 1) := by decide +kernel
theorem dX10_busiest_82 : decode cX10_busiest 82 = .ok (.istore 8, 2) := by decide +kernel
theorem dX10_busiest_84 : decode cX10_busiest 84 = .ok (.iload 8, 2) := by decide +kernel
theorem dX10_busiest_86 : decode cX10_busiest 86 = .ok (.sipush 1440, 3) := by decide +kernel
theorem dX10_busiest_89 : decode cX10_busiest 89 = .ok (.if_icmp .ge 31, 3) := by decide +kernel
theorem dX10_busiest_92 : decode cX10_busiest 92 = .ok (.aload_n 0, 1) := by decide +kernel
theorem dX10_busiest_93 : decode cX10_busiest 93 = .ok (.getfield 52, 3) := by decide +kernel
theorem dX10_busiest_96 : decode cX10_busiest 96 = .ok (.sipush 1440, 3) := by decide +kernel
theorem dX10_busiest_99 : decode cX10_busiest 99 = .ok (.iload 6, 2) := by decide +kernel
theorem dX10_busiest_101 : decode cX10_busiest 101 = .ok (.iload_n 2, 1) := by decide +kernel
theorem dX10_busiest_102 : decode cX10_busiest 102 = .ok (.isub, 1) := by decide +kernel
theorem dX10_busiest_103 : decode cX10_busiest 103 = .ok (.imul, 1) := by decide +kernel
theorem dX10_busiest_104 : decode cX10_busiest 104 = .ok (.iload 8, 2) := by decide +kernel
theorem dX10_busiest_106 : decode cX10_busiest 106 = .ok (.iadd, 1) := by decide +kernel
theorem dX10_busiest_107 : decode cX10_busiest 107 = .ok (.baload, 1) := by decide +kernel
theorem dX10_busiest_108 : decode cX10_busiest 108 = .ok (.ifCond .eq 6, 3) := by decide +kernel
theorem dX10_busiest_111 : decode cX10_busiest 111 = .ok (.iinc 7 1, 3) := by decide +kernel
theorem dX10_busiest_114 : decode cX10_busiest 114 = .ok (.iinc 8 1, 3) := by decide +kernel
theorem dX10_busiest_117 : decode cX10_busiest 117 = .ok (.goto (-33), 3) := by decide +kernel
theorem dX10_busiest_120 : decode cX10_busiest 120 = .ok (.iload 7, 2) := by decide +kernel
theorem dX10_busiest_122 : decode cX10_busiest 122 = .ok (.iload 5, 2) := by decide +kernel
theorem dX10_busiest_124 : decode cX10_busiest 124 = .ok (.if_icmp .gt 6, 3) := by decide +kernel
theorem dX10_busiest_127 : decode cX10_busiest 127 = .ok (.goto 11, 3) := by decide +kernel
theorem dX10_busiest_130 : decode cX10_busiest 130 = .ok (.iload 7, 2) := by decide +kernel
theorem dX10_busiest_132 : decode cX10_busiest 132 = .ok (.istore 5, 2) := by decide +kernel
theorem dX10_busiest_134 : decode cX10_busiest 134 = .ok (.iload 6, 2) := by decide +kernel
theorem dX10_busiest_136 : decode cX10_busiest 136 = .ok (.istore 4, 2) := by decide +kernel
theorem dX10_busiest_138 : decode cX10_busiest 138 = .ok (.iinc 6 1, 3) := by decide +kernel
theorem dX10_busiest_141 : decode cX10_busiest 141 = .ok (.goto (-69), 3) := by decide +kernel
theorem dX10_busiest_144 : decode cX10_busiest 144 = .ok (.iload 4, 2) := by decide +kernel
theorem dX10_busiest_146 : decode cX10_busiest 146 = .ok (.ireturn, 1) := by decide +kernel
set_option maxRecDepth 20000 in
theorem ggX10_split_X10_isBooking : GoodIn wsX10_split wsX10_isBooking := goodIn_r _ [9, 2, 10, 11, 8, 12, 42, 43, 44, 45, 46, 47, 48, 49, 50, 51, 52, 53, 54, 55, 56, 57, 58, 59, 60, 61, 62, 63, 64, 65, 66, 67] (by decide +kernel) (by decide +kernel)
set_option maxRecDepth 20000 in
theorem gX10_split_X10_isBooking : GoodIn wsX10_split (wsV RX10 220 RX10 yX10_isBooking wsX10_isBooking) := goodIn_app (goodIn_of _ (by decide +kernel)) ggX10_split_X10_isBooking
set_option maxRecDepth 20000 in
theorem ggX10_split_X10_isDay : GoodIn wsX10_split wsX10_isDay := goodIn_r _ [15, 16, 10, 11, 8, 12] (by decide +kernel) (by decide +kernel)
set_option maxRecDepth 20000 in
theorem gX10_split_X10_isDay : GoodIn wsX10_split (va_wsS RX10 223 yX10_isDay wsX10_isDay) := goodIn_app (goodIn_of _ (by decide +kernel)) ggX10_split_X10_isDay
set_option maxRecDepth 20000 in
theorem ggX10_split_X10_laysKeys : GoodIn wsX10_split wsX10_laysKeys := goodIn_r _ [20, 16, 3, 21, 22, 23, 24, 25, 8, 26, 4, 27, 28, 29, 30, 31, 32, 33, 34, 35, 36, 37, 42, 43, 44, 45, 46, 47, 48, 49, 50, 51, 52, 53, 54, 55, 56, 57, 58, 59, 60, 61, 62, 63, 64, 65, 66, 67] (by decide +kernel) (by decide +kernel)
set_option maxRecDepth 20000 in
theorem gX10_split_X10_laysKeys : GoodIn wsX10_split (wsV RX10 236 RX10 yX10_laysKeys wsX10_laysKeys) := goodIn_app (goodIn_of _ (by decide +kernel)) ggX10_split_X10_laysKeys
set_option maxRecDepth 20000 in
theorem ggX10_split_X10_get : GoodIn wsX10_split wsX10_get := goodIn_r _ [26, 4, 42, 43, 44, 45, 46, 47, 48, 49, 50, 51, 52, 53, 54, 55, 56, 57, 58, 59, 60, 61, 62, 63, 64, 65, 66, 67] (by decide +kernel) (by decide +kernel)
set_option maxRecDepth 20000 in
theorem gX10_split_X10_get : GoodIn wsX10_split (wsV RX10 229 RX10 yX10_get wsX10_get) := goodIn_app (goodIn_of _ (by decide +kernel)) ggX10_split_X10_get
set_option maxRecDepth 20000 in
theorem ggX10_split_X10_forgets : GoodIn wsX10_split wsX10_forgets := goodIn_r _ [41, 4, 23, 24, 25, 8, 26, 42, 43, 44, 45, 46, 47, 48, 49, 50, 51, 52, 53, 54, 55, 56, 57, 58, 59, 60, 61, 62, 63, 64, 65, 66, 67] (by decide +kernel) (by decide +kernel)
set_option maxRecDepth 20000 in
theorem gX10_split_X10_forgets : GoodIn wsX10_split (wsV RX10 251 RX10 yX10_forgets wsX10_forgets) := goodIn_app (goodIn_of _ (by decide +kernel)) ggX10_split_X10_forgets
theorem dX10_split_0 : decode cX10_split 0 = .ok (.aload_n 0, 1) := by decide +kernel
theorem dX10_split_1 : decode cX10_split 1 = .ok (.iconst 0, 1) := by decide +kernel
theorem dX10_split_2 : decode cX10_split 2 = .ok (.putfield 60, 3) := by decide +kernel
theorem dX10_split_5 : decode cX10_split 5 = .ok (.aload_n 0, 1) := by decide +kernel
theorem dX10_split_6 : decode cX10_split 6 = .ok (.iload_n 1, 1) := by decide +kernel
theorem dX10_split_7 : decode cX10_split 7 = .ok (.invokevirtual 220, 3) := by decide +kernel
theorem dX10_split_10 : decode cX10_split 10 = .ok (.ifCond .eq 19, 3) := by decide +kernel
theorem dX10_split_13 : decode cX10_split 13 = .ok (.iload_n 2, 1) := by decide +kernel
theorem dX10_split_14 : decode cX10_split 14 = .ok (.invokestatic 223, 3) := by decide +kernel
theorem dX10_split_17 : decode cX10_split 17 = .ok (.ifCond .eq 12, 3) := by decide +kernel
theorem dX10_split_20 : decode cX10_split 20 = .ok (.aload_n 0, 1) := by decide +kernel
theorem dX10_split_21 : decode cX10_split 21 = .ok (.getfield 70, 3) := by decide +kernel
theorem dX10_split_24 : decode cX10_split 24 = .ok (.bipush 12, 2) := by decide +kernel
theorem dX10_split_26 : decode cX10_split 26 = .ok (.if_icmp .ne 5, 3) := by decide +kernel
theorem dX10_split_29 : decode cX10_split 29 = .ok (.iconst (-1), 1) := by decide +kernel
theorem dX10_split_30 : decode cX10_split 30 = .ok (.ireturn, 1) := by decide +kernel
theorem dX10_split_31 : decode cX10_split 31 = .ok (.aload_n 0, 1) := by decide +kernel
theorem dX10_split_32 : decode cX10_split 32 = .ok (.iload_n 1, 1) := by decide +kernel
theorem dX10_split_33 : decode cX10_split 33 = .ok (.iconst 0, 1) := by decide +kernel
theorem dX10_split_34 : decode cX10_split 34 = .ok (.invokevirtual 236, 3) := by decide +kernel
theorem dX10_split_37 : decode cX10_split 37 = .ok (.istore_n 3, 1) := by decide +kernel
theorem dX10_split_38 : decode cX10_split 38 = .ok (.iconst 0, 1) := by decide +kernel
theorem dX10_split_39 : decode cX10_split 39 = .ok (.istore 4, 2) := by decide +kernel
theorem dX10_split_41 : decode cX10_split 41 = .ok (.iload 4, 2) := by decide +kernel
theorem dX10_split_43 : decode cX10_split 43 = .ok (.iload_n 3, 1) := by decide +kernel
theorem dX10_split_44 : decode cX10_split 44 = .ok (.if_icmp .ge 20, 3) := by decide +kernel
theorem dX10_split_47 : decode cX10_split 47 = .ok (.aload_n 0, 1) := by decide +kernel
theorem dX10_split_48 : decode cX10_split 48 = .ok (.getfield 39, 3) := by decide +kernel
theorem dX10_split_51 : decode cX10_split 51 = .ok (.iload 4, 2) := by decide +kernel
theorem dX10_split_53 : decode cX10_split 53 = .ok (.iaload, 1) := by decide +kernel
theorem dX10_split_54 : decode cX10_split 54 = .ok (.iload_n 2, 1) := by decide +kernel
theorem dX10_split_55 : decode cX10_split 55 = .ok (.if_icmp .ge 9, 3) := by decide +kernel
theorem dX10_split_58 : decode cX10_split 58 = .ok (.iinc 4 1, 3) := by decide +kernel
theorem dX10_split_61 : decode cX10_split 61 = .ok (.goto (-20), 3) := by decide +kernel
theorem dX10_split_64 : decode cX10_split 64 = .ok (.iload 4, 2) := by decide +kernel
theorem dX10_split_66 : decode cX10_split 66 = .ok (.ifCond .eq 9, 3) := by decide +kernel
theorem dX10_split_69 : decode cX10_split 69 = .ok (.iload 4, 2) := by decide +kernel
theorem dX10_split_71 : decode cX10_split 71 = .ok (.iload_n 3, 1) := by decide +kernel
theorem dX10_split_72 : decode cX10_split 72 = .ok (.if_icmp .ne 5, 3) := by decide +kernel
theorem dX10_split_75 : decode cX10_split 75 = .ok (.iconst (-1), 1) := by decide +kernel
theorem dX10_split_76 : decode cX10_split 76 = .ok (.ireturn, 1) := by decide +kernel
theorem dX10_split_77 : decode cX10_split 77 = .ok (.bipush 44, 2) := by decide +kernel
theorem dX10_split_79 : decode cX10_split 79 = .ok (.iload_n 1, 1) := by decide +kernel
theorem dX10_split_80 : decode cX10_split 80 = .ok (.imul, 1) := by decide +kernel
theorem dX10_split_81 : decode cX10_split 81 = .ok (.istore 5, 2) := by decide +kernel
theorem dX10_split_83 : decode cX10_split 83 = .ok (.bipush 44, 2) := by decide +kernel
theorem dX10_split_85 : decode cX10_split 85 = .ok (.aload_n 0, 1) := by decide +kernel
theorem dX10_split_86 : decode cX10_split 86 = .ok (.getfield 70, 3) := by decide +kernel
theorem dX10_split_89 : decode cX10_split 89 = .ok (.imul, 1) := by decide +kernel
theorem dX10_split_90 : decode cX10_split 90 = .ok (.istore 6, 2) := by decide +kernel
theorem dX10_split_92 : decode cX10_split 92 = .ok (.iconst 0, 1) := by decide +kernel
theorem dX10_split_93 : decode cX10_split 93 = .ok (.istore 7, 2) := by decide +kernel
theorem dX10_split_95 : decode cX10_split 95 = .ok (.iload 7, 2) := by decide +kernel
theorem dX10_split_97 : decode cX10_split 97 = .ok (.bipush 44, 2) := by decide +kernel
theorem dX10_split_99 : decode cX10_split 99 = .ok (.if_icmp .ge 29, 3) := by decide +kernel
theorem dX10_split_102 : decode cX10_split 102 = .ok (.aload_n 0, 1) := by decide +kernel
theorem dX10_split_103 : decode cX10_split 103 = .ok (.getfield 23, 3) := by decide +kernel
theorem dX10_split_106 : decode cX10_split 106 = .ok (.iload 6, 2) := by decide +kernel
theorem dX10_split_108 : decode cX10_split 108 = .ok (.iload 7, 2) := by decide +kernel
theorem dX10_split_110 : decode cX10_split 110 = .ok (.iadd, 1) := by decide +kernel
theorem dX10_split_111 : decode cX10_split 111 = .ok (.aload_n 0, 1) := by decide +kernel
theorem dX10_split_112 : decode cX10_split 112 = .ok (.getfield 23, 3) := by decide +kernel
theorem dX10_split_115 : decode cX10_split 115 = .ok (.iload 5, 2) := by decide +kernel
theorem dX10_split_117 : decode cX10_split 117 = .ok (.iload 7, 2) := by decide +kernel
theorem dX10_split_119 : decode cX10_split 119 = .ok (.iadd, 1) := by decide +kernel
theorem dX10_split_120 : decode cX10_split 120 = .ok (.iaload, 1) := by decide +kernel
theorem dX10_split_121 : decode cX10_split 121 = .ok (.iastore, 1) := by decide +kernel
theorem dX10_split_122 : decode cX10_split 122 = .ok (.iinc 7 1, 3) := by decide +kernel
theorem dX10_split_125 : decode cX10_split 125 = .ok (.goto (-30), 3) := by decide +kernel
theorem dX10_split_128 : decode cX10_split 128 = .ok (.aload_n 0, 1) := by decide +kernel
theorem dX10_split_129 : decode cX10_split 129 = .ok (.getfield 23, 3) := by decide +kernel
theorem dX10_split_132 : decode cX10_split 132 = .ok (.iload 6, 2) := by decide +kernel
theorem dX10_split_134 : decode cX10_split 134 = .ok (.bipush 10, 2) := by decide +kernel
theorem dX10_split_136 : decode cX10_split 136 = .ok (.iadd, 1) := by decide +kernel
theorem dX10_split_137 : decode cX10_split 137 = .ok (.iload_n 2, 1) := by decide +kernel
theorem dX10_split_138 : decode cX10_split 138 = .ok (.iastore, 1) := by decide +kernel
theorem dX10_split_139 : decode cX10_split 139 = .ok (.aload_n 0, 1) := by decide +kernel
theorem dX10_split_140 : decode cX10_split 140 = .ok (.getfield 23, 3) := by decide +kernel
theorem dX10_split_143 : decode cX10_split 143 = .ok (.iload 5, 2) := by decide +kernel
theorem dX10_split_145 : decode cX10_split 145 = .ok (.bipush 9, 2) := by decide +kernel
theorem dX10_split_147 : decode cX10_split 147 = .ok (.iadd, 1) := by decide +kernel
theorem dX10_split_148 : decode cX10_split 148 = .ok (.iaload, 1) := by decide +kernel
theorem dX10_split_149 : decode cX10_split 149 = .ok (.ifCond .lt 32, 3) := by decide +kernel
theorem dX10_split_152 : decode cX10_split 152 = .ok (.aload_n 0, 1) := by decide +kernel
theorem dX10_split_153 : decode cX10_split 153 = .ok (.getfield 23, 3) := by decide +kernel
theorem dX10_split_156 : decode cX10_split 156 = .ok (.iload 6, 2) := by decide +kernel
theorem dX10_split_158 : decode cX10_split 158 = .ok (.bipush 9, 2) := by decide +kernel
theorem dX10_split_160 : decode cX10_split 160 = .ok (.iadd, 1) := by decide +kernel
theorem dX10_split_161 : decode cX10_split 161 = .ok (.iload_n 3, 1) := by decide +kernel
theorem dX10_split_162 : decode cX10_split 162 = .ok (.iload 4, 2) := by decide +kernel
theorem dX10_split_164 : decode cX10_split 164 = .ok (.isub, 1) := by decide +kernel
theorem dX10_split_165 : decode cX10_split 165 = .ok (.iastore, 1) := by decide +kernel
theorem dX10_split_166 : decode cX10_split 166 = .ok (.aload_n 0, 1) := by decide +kernel
theorem dX10_split_167 : decode cX10_split 167 = .ok (.getfield 23, 3) := by decide +kernel
theorem dX10_split_170 : decode cX10_split 170 = .ok (.iload 5, 2) := by decide +kernel
theorem dX10_split_172 : decode cX10_split 172 = .ok (.bipush 9, 2) := by decide +kernel
theorem dX10_split_174 : decode cX10_split 174 = .ok (.iadd, 1) := by decide +kernel
theorem dX10_split_175 : decode cX10_split 175 = .ok (.iload 4, 2) := by decide +kernel
theorem dX10_split_177 : decode cX10_split 177 = .ok (.iastore, 1) := by decide +kernel
theorem dX10_split_178 : decode cX10_split 178 = .ok (.goto 16, 3) := by decide +kernel
theorem dX10_split_181 : decode cX10_split 181 = .ok (.aload_n 0, 1) := by decide +kernel
theorem dX10_split_182 : decode cX10_split 182 = .ok (.getfield 23, 3) := by decide +kernel
theorem dX10_split_185 : decode cX10_split 185 = .ok (.iload 5, 2) := by decide +kernel
theorem dX10_split_187 : decode cX10_split 187 = .ok (.bipush 8, 2) := by decide +kernel
theorem dX10_split_189 : decode cX10_split 189 = .ok (.iadd, 1) := by decide +kernel
theorem dX10_split_190 : decode cX10_split 190 = .ok (.iload_n 2, 1) := by decide +kernel
theorem dX10_split_191 : decode cX10_split 191 = .ok (.iconst 1, 1) := by decide +kernel
theorem dX10_split_192 : decode cX10_split 192 = .ok (.isub, 1) := by decide +kernel
theorem dX10_split_193 : decode cX10_split 193 = .ok (.iastore, 1) := by decide +kernel
theorem dX10_split_194 : decode cX10_split 194 = .ok (.aload_n 0, 1) := by decide +kernel
theorem dX10_split_195 : decode cX10_split 195 = .ok (.dup, 1) := by decide +kernel
theorem dX10_split_196 : decode cX10_split 196 = .ok (.getfield 70, 3) := by decide +kernel
theorem dX10_split_199 : decode cX10_split 199 = .ok (.iconst 1, 1) := by decide +kernel
theorem dX10_split_200 : decode cX10_split 200 = .ok (.iadd, 1) := by decide +kernel
theorem dX10_split_201 : decode cX10_split 201 = .ok (.putfield 70, 3) := by decide +kernel
theorem dX10_split_204 : decode cX10_split 204 = .ok (.aload_n 0, 1) := by decide +kernel
theorem dX10_split_205 : decode cX10_split 205 = .ok (.iload_n 1, 1) := by decide +kernel
theorem dX10_split_206 : decode cX10_split 206 = .ok (.bipush 11, 2) := by decide +kernel
theorem dX10_split_208 : decode cX10_split 208 = .ok (.invokevirtual 229, 3) := by decide +kernel
theorem dX10_split_211 : decode cX10_split 211 = .ok (.iconst 1, 1) := by decide +kernel
theorem dX10_split_212 : decode cX10_split 212 = .ok (.isub, 1) := by decide +kernel
theorem dX10_split_213 : decode cX10_split 213 = .ok (.istore 7, 2) := by decide +kernel
theorem dX10_split_215 : decode cX10_split 215 = .ok (.iload 7, 2) := by decide +kernel
theorem dX10_split_217 : decode cX10_split 217 = .ok (.ifCond .lt 32, 3) := by decide +kernel
theorem dX10_split_220 : decode cX10_split 220 = .ok (.aload_n 0, 1) := by decide +kernel
theorem dX10_split_221 : decode cX10_split 221 = .ok (.iload_n 1, 1) := by decide +kernel
theorem dX10_split_222 : decode cX10_split 222 = .ok (.bipush 12, 2) := by decide +kernel
theorem dX10_split_224 : decode cX10_split 224 = .ok (.iconst 2, 1) := by decide +kernel
theorem dX10_split_225 : decode cX10_split 225 = .ok (.iload 7, 2) := by decide +kernel
theorem dX10_split_227 : decode cX10_split 227 = .ok (.imul, 1) := by decide +kernel
theorem dX10_split_228 : decode cX10_split 228 = .ok (.iadd, 1) := by decide +kernel
theorem dX10_split_229 : decode cX10_split 229 = .ok (.invokevirtual 229, 3) := by decide +kernel
theorem dX10_split_232 : decode cX10_split 232 = .ok (.iload_n 2, 1) := by decide +kernel
theorem dX10_split_233 : decode cX10_split 233 = .ok (.if_icmp .lt 10, 3) := by decide +kernel
theorem dX10_split_236 : decode cX10_split 236 = .ok (.aload_n 0, 1) := by decide +kernel
theorem dX10_split_237 : decode cX10_split 237 = .ok (.iload_n 1, 1) := by decide +kernel
theorem dX10_split_238 : decode cX10_split 238 = .ok (.iload 7, 2) := by decide +kernel
theorem dX10_split_240 : decode cX10_split 240 = .ok (.invokevirtual 251, 3) := by decide +kernel
theorem dX10_split_243 : decode cX10_split 243 = .ok (.iinc 7 (-1), 3) := by decide +kernel
theorem dX10_split_246 : decode cX10_split 246 = .ok (.goto (-31), 3) := by decide +kernel
theorem dX10_split_249 : decode cX10_split 249 = .ok (.aload_n 0, 1) := by decide +kernel
theorem dX10_split_250 : decode cX10_split 250 = .ok (.aload_n 0, 1) := by decide +kernel
theorem dX10_split_251 : decode cX10_split 251 = .ok (.getfield 70, 3) := by decide +kernel
theorem dX10_split_254 : decode cX10_split 254 = .ok (.iconst 1, 1) := by decide +kernel
theorem dX10_split_255 : decode cX10_split 255 = .ok (.isub, 1) := by decide +kernel
theorem dX10_split_256 : decode cX10_split 256 = .ok (.bipush 11, 2) := by decide +kernel
theorem dX10_split_258 : decode cX10_split 258 = .ok (.invokevirtual 229, 3) := by decide +kernel
theorem dX10_split_261 : decode cX10_split 261 = .ok (.iconst 1, 1) := by decide +kernel
theorem dX10_split_262 : decode cX10_split 262 = .ok (.isub, 1) := by decide +kernel
theorem dX10_split_263 : decode cX10_split 263 = .ok (.istore 7, 2) := by decide +kernel
theorem dX10_split_265 : decode cX10_split 265 = .ok (.iload 7, 2) := by decide +kernel
theorem dX10_split_267 : decode cX10_split 267 = .ok (.ifCond .lt 42, 3) := by decide +kernel
theorem dX10_split_270 : decode cX10_split 270 = .ok (.aload_n 0, 1) := by decide +kernel
theorem dX10_split_271 : decode cX10_split 271 = .ok (.aload_n 0, 1) := by decide +kernel
theorem dX10_split_272 : decode cX10_split 272 = .ok (.getfield 70, 3) := by decide +kernel
theorem dX10_split_275 : decode cX10_split 275 = .ok (.iconst 1, 1) := by decide +kernel
theorem dX10_split_276 : decode cX10_split 276 = .ok (.isub, 1) := by decide +kernel
theorem dX10_split_277 : decode cX10_split 277 = .ok (.bipush 12, 2) := by decide +kernel
theorem dX10_split_279 : decode cX10_split 279 = .ok (.iconst 2, 1) := by decide +kernel
theorem dX10_split_280 : decode cX10_split 280 = .ok (.iload 7, 2) := by decide +kernel
theorem dX10_split_282 : decode cX10_split 282 = .ok (.imul, 1) := by decide +kernel
theorem dX10_split_283 : decode cX10_split 283 = .ok (.iadd, 1) := by decide +kernel
theorem dX10_split_284 : decode cX10_split 284 = .ok (.invokevirtual 229, 3) := by decide +kernel
theorem dX10_split_287 : decode cX10_split 287 = .ok (.iload_n 2, 1) := by decide +kernel
theorem dX10_split_288 : decode cX10_split 288 = .ok (.if_icmp .ge 15, 3) := by decide +kernel
theorem dX10_split_291 : decode cX10_split 291 = .ok (.aload_n 0, 1) := by decide +kernel
theorem dX10_split_292 : decode cX10_split 292 = .ok (.aload_n 0, 1) := by decide +kernel
theorem dX10_split_293 : decode cX10_split 293 = .ok (.getfield 70, 3) := by decide +kernel
theorem dX10_split_296 : decode cX10_split 296 = .ok (.iconst 1, 1) := by decide +kernel
theorem dX10_split_297 : decode cX10_split 297 = .ok (.isub, 1) := by decide +kernel
theorem dX10_split_298 : decode cX10_split 298 = .ok (.iload 7, 2) := by decide +kernel
theorem dX10_split_300 : decode cX10_split 300 = .ok (.invokevirtual 251, 3) := by decide +kernel
theorem dX10_split_303 : decode cX10_split 303 = .ok (.iinc 7 (-1), 3) := by decide +kernel
theorem dX10_split_306 : decode cX10_split 306 = .ok (.goto (-41), 3) := by decide +kernel
theorem dX10_split_309 : decode cX10_split 309 = .ok (.aload_n 0, 1) := by decide +kernel
theorem dX10_split_310 : decode cX10_split 310 = .ok (.getfield 70, 3) := by decide +kernel
theorem dX10_split_313 : decode cX10_split 313 = .ok (.iconst 1, 1) := by decide +kernel
theorem dX10_split_314 : decode cX10_split 314 = .ok (.isub, 1) := by decide +kernel
