theorem dX10_init_0 : decode cX10_init 0 = .ok (.aload_n 0, 1) := by decide +kernel
theorem dX10_init_1 : decode cX10_init 1 = .ok (.invokespecial 1, 3) := by decide +kernel
theorem dX10_init_4 : decode cX10_init 4 = .ok (.aload_n 0, 1) := by decide +kernel
theorem dX10_init_5 : decode cX10_init 5 = .ok (.ldc 7, 2) := by decide +kernel
theorem dX10_init_7 : decode cX10_init 7 = .ok (.newarray .int, 2) := by decide +kernel
theorem dX10_init_9 : decode cX10_init 9 = .ok (.putfield 8, 3) := by decide +kernel
theorem dX10_init_12 : decode cX10_init 12 = .ok (.aload_n 0, 1) := by decide +kernel
theorem dX10_init_13 : decode cX10_init 13 = .ok (.ldc 7, 2) := by decide +kernel
theorem dX10_init_15 : decode cX10_init 15 = .ok (.newarray .int, 2) := by decide +kernel
theorem dX10_init_17 : decode cX10_init 17 = .ok (.putfield 14, 3) := by decide +kernel
theorem dX10_init_20 : decode cX10_init 20 = .ok (.aload_n 0, 1) := by decide +kernel
theorem dX10_init_21 : decode cX10_init 21 = .ok (.ldc 7, 2) := by decide +kernel
theorem dX10_init_23 : decode cX10_init 23 = .ok (.newarray .int, 2) := by decide +kernel
theorem dX10_init_25 : decode cX10_init 25 = .ok (.putfield 17, 3) := by decide +kernel
theorem dX10_init_28 : decode cX10_init 28 = .ok (.aload_n 0, 1) := by decide +kernel
theorem dX10_init_29 : decode cX10_init 29 = .ok (.ldc 7, 2) := by decide +kernel
theorem dX10_init_31 : decode cX10_init 31 = .ok (.newarray .int, 2) := by decide +kernel
theorem dX10_init_33 : decode cX10_init 33 = .ok (.putfield 20, 3) := by decide +kernel
theorem dX10_init_36 : decode cX10_init 36 = .ok (.aload_n 0, 1) := by decide +kernel
theorem dX10_init_37 : decode cX10_init 37 = .ok (.sipush 528, 3) := by decide +kernel
theorem dX10_init_40 : decode cX10_init 40 = .ok (.newarray .int, 2) := by decide +kernel
theorem dX10_init_42 : decode cX10_init 42 = .ok (.putfield 23, 3) := by decide +kernel
theorem dX10_init_45 : decode cX10_init 45 = .ok (.aload_n 0, 1) := by decide +kernel
theorem dX10_init_46 : decode cX10_init 46 = .ok (.sipush 1056, 3) := by decide +kernel
theorem dX10_init_49 : decode cX10_init 49 = .ok (.newarray .int, 2) := by decide +kernel
theorem dX10_init_51 : decode cX10_init 51 = .ok (.putfield 26, 3) := by decide +kernel
theorem dX10_init_54 : decode cX10_init 54 = .ok (.aload_n 0, 1) := by decide +kernel
theorem dX10_init_55 : decode cX10_init 55 = .ok (.iconst 2, 1) := by decide +kernel
theorem dX10_init_56 : decode cX10_init 56 = .ok (.newarray .int, 2) := by decide +kernel
theorem dX10_init_58 : decode cX10_init 58 = .ok (.dup, 1) := by decide +kernel
theorem dX10_init_59 : decode cX10_init 59 = .ok (.iconst 0, 1) := by decide +kernel
theorem dX10_init_60 : decode cX10_init 60 = .ok (.iconst (-1), 1) := by decide +kernel
theorem dX10_init_61 : decode cX10_init 61 = .ok (.iastore, 1) := by decide +kernel
theorem dX10_init_62 : decode cX10_init 62 = .ok (.dup, 1) := by decide +kernel
theorem dX10_init_63 : decode cX10_init 63 = .ok (.iconst 1, 1) := by decide +kernel
theorem dX10_init_64 : decode cX10_init 64 = .ok (.iconst (-1), 1) := by decide +kernel
theorem dX10_init_65 : decode cX10_init 65 = .ok (.iastore, 1) := by decide +kernel
theorem dX10_init_66 : decode cX10_init 66 = .ok (.putfield 29, 3) := by decide +kernel
theorem dX10_init_69 : decode cX10_init 69 = .ok (.aload_n 0, 1) := by decide +kernel
theorem dX10_init_70 : decode cX10_init 70 = .ok (.sipush 168, 3) := by decide +kernel
theorem dX10_init_73 : decode cX10_init 73 = .ok (.newarray .int, 2) := by decide +kernel
theorem dX10_init_75 : decode cX10_init 75 = .ok (.putfield 32, 3) := by decide +kernel
theorem dX10_init_78 : decode cX10_init 78 = .ok (.aload_n 0, 1) := by decide +kernel
theorem dX10_init_79 : decode cX10_init 79 = .ok (.ldc 35, 2) := by decide +kernel
theorem dX10_init_81 : decode cX10_init 81 = .ok (.newarray .int, 2) := by decide +kernel
theorem dX10_init_83 : decode cX10_init 83 = .ok (.putfield 36, 3) := by decide +kernel
theorem dX10_init_86 : decode cX10_init 86 = .ok (.aload_n 0, 1) := by decide +kernel
theorem dX10_init_87 : decode cX10_init 87 = .ok (.ldc 35, 2) := by decide +kernel
theorem dX10_init_89 : decode cX10_init 89 = .ok (.newarray .int, 2) := by decide +kernel
theorem dX10_init_91 : decode cX10_init 91 = .ok (.putfield 39, 3) := by decide +kernel
theorem dX10_init_94 : decode cX10_init 94 = .ok (.aload_n 0, 1) := by decide +kernel
theorem dX10_init_95 : decode cX10_init 95 = .ok (.iconst 2, 1) := by decide +kernel
theorem dX10_init_96 : decode cX10_init 96 = .ok (.newarray .int, 2) := by decide +kernel
theorem dX10_init_98 : decode cX10_init 98 = .ok (.putfield 42, 3) := by decide +kernel
theorem dX10_init_101 : decode cX10_init 101 = .ok (.aload_n 0, 1) := by decide +kernel
theorem dX10_init_102 : decode cX10_init 102 = .ok (.bipush 44, 2) := by decide +kernel
theorem dX10_init_104 : decode cX10_init 104 = .ok (.newarray .int, 2) := by decide +kernel
theorem dX10_init_106 : decode cX10_init 106 = .ok (.putfield 45, 3) := by decide +kernel
theorem dX10_init_109 : decode cX10_init 109 = .ok (.aload_n 0, 1) := by decide +kernel
theorem dX10_init_110 : decode cX10_init 110 = .ok (.sipush 3300, 3) := by decide +kernel
theorem dX10_init_113 : decode cX10_init 113 = .ok (.newarray .int, 2) := by decide +kernel
theorem dX10_init_115 : decode cX10_init 115 = .ok (.putfield 48, 3) := by decide +kernel
theorem dX10_init_118 : decode cX10_init 118 = .ok (.aload_n 0, 1) := by decide +kernel
theorem dX10_init_119 : decode cX10_init 119 = .ok (.ldc 51, 2) := by decide +kernel
theorem dX10_init_121 : decode cX10_init 121 = .ok (.newarray .boolean, 2) := by decide +kernel
theorem dX10_init_123 : decode cX10_init 123 = .ok (.putfield 52, 3) := by decide +kernel
theorem dX10_init_126 : decode cX10_init 126 = .ok (.iconst 0, 1) := by decide +kernel
theorem dX10_init_127 : decode cX10_init 127 = .ok (.istore_n 1, 1) := by decide +kernel
theorem dX10_init_128 : decode cX10_init 128 = .ok (.sipush 2000, 3) := by decide +kernel
theorem dX10_init_131 : decode cX10_init 131 = .ok (.istore_n 2, 1) := by decide +kernel
theorem dX10_init_132 : decode cX10_init 132 = .ok (.iload_n 2, 1) := by decide +kernel
theorem dX10_init_133 : decode cX10_init 133 = .ok (.sipush 2100, 3) := by decide +kernel
theorem dX10_init_136 : decode cX10_init 136 = .ok (.if_icmp .ge 79, 3) := by decide +kernel
theorem dX10_init_139 : decode cX10_init 139 = .ok (.iconst 1, 1) := by decide +kernel
theorem dX10_init_140 : decode cX10_init 140 = .ok (.istore_n 3, 1) := by decide +kernel
theorem dX10_init_141 : decode cX10_init 141 = .ok (.iload_n 3, 1) := by decide +kernel
theorem dX10_init_142 : decode cX10_init 142 = .ok (.bipush 13, 2) := by decide +kernel
theorem dX10_init_144 : decode cX10_init 144 = .ok (.if_icmp .ge 65, 3) := by decide +kernel
theorem dX10_init_147 : decode cX10_init 147 = .ok (.iload_n 2, 1) := by decide +kernel
theorem dX10_init_148 : decode cX10_init 148 = .ok (.iload_n 3, 1) := by decide +kernel
theorem dX10_init_149 : decode cX10_init 149 = .ok (.invokestatic 56, 3) := by decide +kernel
theorem dX10_init_152 : decode cX10_init 152 = .ok (.istore 4, 2) := by decide +kernel
theorem dX10_init_154 : decode cX10_init 154 = .ok (.iconst 1, 1) := by decide +kernel
theorem dX10_init_155 : decode cX10_init 155 = .ok (.istore 5, 2) := by decide +kernel
theorem dX10_init_157 : decode cX10_init 157 = .ok (.iload 5, 2) := by decide +kernel
theorem dX10_init_159 : decode cX10_init 159 = .ok (.iload 4, 2) := by decide +kernel
theorem dX10_init_161 : decode cX10_init 161 = .ok (.if_icmp .gt 42, 3) := by decide +kernel
theorem dX10_init_164 : decode cX10_init 164 = .ok (.aload_n 0, 1) := by decide +kernel
theorem dX10_init_165 : decode cX10_init 165 = .ok (.getfield 8, 3) := by decide +kernel
theorem dX10_init_168 : decode cX10_init 168 = .ok (.iload_n 1, 1) := by decide +kernel
theorem dX10_init_169 : decode cX10_init 169 = .ok (.iload_n 2, 1) := by decide +kernel
theorem dX10_init_170 : decode cX10_init 170 = .ok (.iastore, 1) := by decide +kernel
theorem dX10_init_171 : decode cX10_init 171 = .ok (.aload_n 0, 1) := by decide +kernel
theorem dX10_init_172 : decode cX10_init 172 = .ok (.getfield 14, 3) := by decide +kernel
theorem dX10_init_175 : decode cX10_init 175 = .ok (.iload_n 1, 1) := by decide +kernel
theorem dX10_init_176 : decode cX10_init 176 = .ok (.iload_n 3, 1) := by decide +kernel
theorem dX10_init_177 : decode cX10_init 177 = .ok (.iastore, 1) := by decide +kernel
theorem dX10_init_178 : decode cX10_init 178 = .ok (.aload_n 0, 1) := by decide +kernel
theorem dX10_init_179 : decode cX10_init 179 = .ok (.getfield 17, 3) := by decide +kernel
theorem dX10_init_182 : decode cX10_init 182 = .ok (.iload_n 1, 1) := by decide +kernel
theorem dX10_init_183 : decode cX10_init 183 = .ok (.iload 5, 2) := by decide +kernel
theorem dX10_init_185 : decode cX10_init 185 = .ok (.iastore, 1) := by decide +kernel
theorem dX10_init_186 : decode cX10_init 186 = .ok (.aload_n 0, 1) := by decide +kernel
theorem dX10_init_187 : decode cX10_init 187 = .ok (.getfield 20, 3) := by decide +kernel
theorem dX10_init_190 : decode cX10_init 190 = .ok (.iload_n 1, 1) := by decide +kernel
theorem dX10_init_191 : decode cX10_init 191 = .ok (.iload 4, 2) := by decide +kernel
theorem dX10_init_193 : decode cX10_init 193 = .ok (.iastore, 1) := by decide +kernel
theorem dX10_init_194 : decode cX10_init 194 = .ok (.iinc 1 1, 3) := by decide +kernel
theorem dX10_init_197 : decode cX10_init 197 = .ok (.iinc 5 1, 3) := by decide +kernel
theorem dX10_init_200 : decode cX10_init 200 = .ok (.goto (-43), 3) := by decide +kernel
theorem dX10_init_203 : decode cX10_init 203 = .ok (.iinc 3 1, 3) := by decide +kernel
theorem dX10_init_206 : decode cX10_init 206 = .ok (.goto (-65), 3) := by decide +kernel
theorem dX10_init_209 : decode cX10_init 209 = .ok (.iinc 2 1, 3) := by decide +kernel
theorem dX10_init_212 : decode cX10_init 212 = .ok (.goto (-80), 3) := by decide +kernel
theorem dX10_init_215 : decode cX10_init 215 = .ok (.return_, 1) := by decide +kernel
theorem dX10_within_0 : decode cX10_within 0 = .ok (.iload_n 0, 1) := by decide +kernel
theorem dX10_within_1 : decode cX10_within 1 = .ok (.iload_n 1, 1) := by decide +kernel
theorem dX10_within_2 : decode cX10_within 2 = .ok (.if_icmp .lt 12, 3) := by decide +kernel
theorem dX10_within_5 : decode cX10_within 5 = .ok (.iload_n 0, 1) := by decide +kernel
theorem dX10_within_6 : decode cX10_within 6 = .ok (.iload_n 2, 1) := by decide +kernel
theorem dX10_within_7 : decode cX10_within 7 = .ok (.if_icmp .gt 7, 3) := by decide +kernel
theorem dX10_within_10 : decode cX10_within 10 = .ok (.iconst 1, 1) := by decide +kernel
theorem dX10_within_11 : decode cX10_within 11 = .ok (.goto 4, 3) := by decide +kernel
theorem dX10_within_14 : decode cX10_within 14 = .ok (.iconst 0, 1) := by decide +kernel
theorem dX10_within_15 : decode cX10_within 15 = .ok (.ireturn, 1) := by decide +kernel
theorem dX10_daysIn_0 : decode cX10_daysIn 0 = .ok (.iload_n 1, 1) := by decide +kernel
theorem dX10_daysIn_1 : decode cX10_daysIn 1 = .ok (.iconst 2, 1) := by decide +kernel
theorem dX10_daysIn_2 : decode cX10_daysIn 2 = .ok (.if_icmp .ne 17, 3) := by decide +kernel
theorem dX10_daysIn_5 : decode cX10_daysIn 5 = .ok (.iload_n 0, 1) := by decide +kernel
theorem dX10_daysIn_6 : decode cX10_daysIn 6 = .ok (.iconst 4, 1) := by decide +kernel
theorem dX10_daysIn_7 : decode cX10_daysIn 7 = .ok (.irem, 1) := by decide +kernel
theorem dX10_daysIn_8 : decode cX10_daysIn 8 = .ok (.ifCond .ne 8, 3) := by decide +kernel
theorem dX10_daysIn_11 : decode cX10_daysIn 11 = .ok (.bipush 29, 2) := by decide +kernel
theorem dX10_daysIn_13 : decode cX10_daysIn 13 = .ok (.goto 5, 3) := by decide +kernel
theorem dX10_daysIn_16 : decode cX10_daysIn 16 = .ok (.bipush 28, 2) := by decide +kernel
theorem dX10_daysIn_18 : decode cX10_daysIn 18 = .ok (.ireturn, 1) := by decide +kernel
theorem dX10_daysIn_19 : decode cX10_daysIn 19 = .ok (.iload_n 1, 1) := by decide +kernel
theorem dX10_daysIn_20 : decode cX10_daysIn 20 = .ok (.iconst 4, 1) := by decide +kernel
theorem dX10_daysIn_21 : decode cX10_daysIn 21 = .ok (.if_icmp .eq 21, 3) := by decide +kernel
theorem dX10_daysIn_24 : decode cX10_daysIn 24 = .ok (.iload_n 1, 1) := by decide +kernel
theorem dX10_daysIn_25 : decode cX10_daysIn 25 = .ok (.bipush 6, 2) := by decide +kernel
theorem dX10_daysIn_27 : decode cX10_daysIn 27 = .ok (.if_icmp .eq 15, 3) := by decide +kernel
theorem dX10_daysIn_30 : decode cX10_daysIn 30 = .ok (.iload_n 1, 1) := by decide +kernel
theorem dX10_daysIn_31 : decode cX10_daysIn 31 = .ok (.bipush 9, 2) := by decide +kernel
theorem dX10_daysIn_33 : decode cX10_daysIn 33 = .ok (.if_icmp .eq 9, 3) := by decide +kernel
theorem dX10_daysIn_36 : decode cX10_daysIn 36 = .ok (.iload_n 1, 1) := by decide +kernel
theorem dX10_daysIn_37 : decode cX10_daysIn 37 = .ok (.bipush 11, 2) := by decide +kernel
theorem dX10_daysIn_39 : decode cX10_daysIn 39 = .ok (.if_icmp .ne 8, 3) := by decide +kernel
theorem dX10_daysIn_42 : decode cX10_daysIn 42 = .ok (.bipush 30, 2) := by decide +kernel
theorem dX10_daysIn_44 : decode cX10_daysIn 44 = .ok (.goto 5, 3) := by decide +kernel
theorem dX10_daysIn_47 : decode cX10_daysIn 47 = .ok (.bipush 31, 2) := by decide +kernel
theorem dX10_daysIn_49 : decode cX10_daysIn 49 = .ok (.ireturn, 1) := by decide +kernel
theorem dX10_isDay_0 : decode cX10_isDay 0 = .ok (.iload_n 0, 1) := by decide +kernel
theorem dX10_isDay_1 : decode cX10_isDay 1 = .ok (.iconst 0, 1) := by decide +kernel
theorem dX10_isDay_2 : decode cX10_isDay 2 = .ok (.ldc 64, 2) := by decide +kernel
theorem dX10_isDay_4 : decode cX10_isDay 4 = .ok (.invokestatic 65, 3) := by decide +kernel
theorem dX10_isDay_7 : decode cX10_isDay 7 = .ok (.ireturn, 1) := by decide +kernel
theorem dX10_isTime_0 : decode cX10_isTime 0 = .ok (.iload_n 0, 1) := by decide +kernel
theorem dX10_isTime_1 : decode cX10_isTime 1 = .ok (.iconst 0, 1) := by decide +kernel
theorem dX10_isTime_2 : decode cX10_isTime 2 = .ok (.ldc 69, 2) := by decide +kernel
theorem dX10_isTime_4 : decode cX10_isTime 4 = .ok (.invokestatic 65, 3) := by decide +kernel
theorem dX10_isTime_7 : decode cX10_isTime 7 = .ok (.ireturn, 1) := by decide +kernel
theorem dX10_weekdayOf_0 : decode cX10_weekdayOf 0 = .ok (.iload_n 0, 1) := by decide +kernel
theorem dX10_weekdayOf_1 : decode cX10_weekdayOf 1 = .ok (.iconst 5, 1) := by decide +kernel
theorem dX10_weekdayOf_2 : decode cX10_weekdayOf 2 = .ok (.iadd, 1) := by decide +kernel
theorem dX10_weekdayOf_3 : decode cX10_weekdayOf 3 = .ok (.bipush 7, 2) := by decide +kernel
theorem dX10_weekdayOf_5 : decode cX10_weekdayOf 5 = .ok (.irem, 1) := by decide +kernel
theorem dX10_weekdayOf_6 : decode cX10_weekdayOf 6 = .ok (.ireturn, 1) := by decide +kernel
theorem dX10_dayOf_0 : decode cX10_dayOf 0 = .ok (.iload_n 1, 1) := by decide +kernel
theorem dX10_dayOf_1 : decode cX10_dayOf 1 = .ok (.sipush 2000, 3) := by decide +kernel
theorem dX10_dayOf_4 : decode cX10_dayOf 4 = .ok (.isub, 1) := by decide +kernel
theorem dX10_dayOf_5 : decode cX10_dayOf 5 = .ok (.sipush 365, 3) := by decide +kernel
theorem dX10_dayOf_8 : decode cX10_dayOf 8 = .ok (.imul, 1) := by decide +kernel
theorem dX10_dayOf_9 : decode cX10_dayOf 9 = .ok (.istore 4, 2) := by decide +kernel
theorem dX10_dayOf_11 : decode cX10_dayOf 11 = .ok (.iload 4, 2) := by decide +kernel
theorem dX10_dayOf_13 : decode cX10_dayOf 13 = .ok (.ldc 7, 2) := by decide +kernel
theorem dX10_dayOf_15 : decode cX10_dayOf 15 = .ok (.if_icmp .ge 45, 3) := by decide +kernel
theorem dX10_dayOf_18 : decode cX10_dayOf 18 = .ok (.aload_n 0, 1) := by decide +kernel
theorem dX10_dayOf_19 : decode cX10_dayOf 19 = .ok (.getfield 8, 3) := by decide +kernel
theorem dX10_dayOf_22 : decode cX10_dayOf 22 = .ok (.iload 4, 2) := by decide +kernel
theorem dX10_dayOf_24 : decode cX10_dayOf 24 = .ok (.iaload, 1) := by decide +kernel
theorem dX10_dayOf_25 : decode cX10_dayOf 25 = .ok (.iload_n 1, 1) := by decide +kernel
theorem dX10_dayOf_26 : decode cX10_dayOf 26 = .ok (.if_icmp .ne 28, 3) := by decide +kernel
theorem dX10_dayOf_29 : decode cX10_dayOf 29 = .ok (.aload_n 0, 1) := by decide +kernel
theorem dX10_dayOf_30 : decode cX10_dayOf 30 = .ok (.getfield 14, 3) := by decide +kernel
theorem dX10_dayOf_33 : decode cX10_dayOf 33 = .ok (.iload 4, 2) := by decide +kernel
theorem dX10_dayOf_35 : decode cX10_dayOf 35 = .ok (.iaload, 1) := by decide +kernel
theorem dX10_dayOf_36 : decode cX10_dayOf 36 = .ok (.iload_n 2, 1) := by decide +kernel
theorem dX10_dayOf_37 : decode cX10_dayOf 37 = .ok (.if_icmp .ne 17, 3) := by decide +kernel
theorem dX10_dayOf_40 : decode cX10_dayOf 40 = .ok (.aload_n 0, 1) := by decide +kernel
theorem dX10_dayOf_41 : decode cX10_dayOf 41 = .ok (.getfield 17, 3) := by decide +kernel
theorem dX10_dayOf_44 : decode cX10_dayOf 44 = .ok (.iload 4, 2) := by decide +kernel
theorem dX10_dayOf_46 : decode cX10_dayOf 46 = .ok (.iaload, 1) := by decide +kernel
theorem dX10_dayOf_47 : decode cX10_dayOf 47 = .ok (.iload_n 3, 1) := by decide +kernel
theorem dX10_dayOf_48 : decode cX10_dayOf 48 = .ok (.if_icmp .ne 6, 3) := by decide +kernel
theorem dX10_dayOf_51 : decode cX10_dayOf 51 = .ok (.iload 4, 2) := by decide +kernel
theorem dX10_dayOf_53 : decode cX10_dayOf 53 = .ok (.ireturn, 1) := by decide +kernel
theorem dX10_dayOf_54 : decode cX10_dayOf 54 = .ok (.iinc 4 1, 3) := by decide +kernel
theorem dX10_dayOf_57 : decode cX10_dayOf 57 = .ok (.goto (-46), 3) := by decide +kernel
theorem dX10_dayOf_60 : decode cX10_dayOf 60 = .ok (.iconst (-1), 1) := by decide +kernel
theorem dX10_dayOf_61 : decode cX10_dayOf 61 = .ok (.ireturn, 1) := by decide +kernel
theorem dX10_isBooking_0 : decode cX10_isBooking 0 = .ok (.iload_n 1, 1) := by decide +kernel
theorem dX10_isBooking_1 : decode cX10_isBooking 1 = .ok (.iconst 0, 1) := by decide +kernel
theorem dX10_isBooking_2 : decode cX10_isBooking 2 = .ok (.aload_n 0, 1) := by decide +kernel
theorem dX10_isBooking_3 : decode cX10_isBooking 3 = .ok (.getfield 70, 3) := by decide +kernel
theorem dX10_isBooking_6 : decode cX10_isBooking 6 = .ok (.iconst 1, 1) := by decide +kernel
theorem dX10_isBooking_7 : decode cX10_isBooking 7 = .ok (.isub, 1) := by decide +kernel
theorem dX10_isBooking_8 : decode cX10_isBooking 8 = .ok (.invokestatic 65, 3) := by decide +kernel
theorem dX10_isBooking_11 : decode cX10_isBooking 11 = .ok (.ireturn, 1) := by decide +kernel
theorem dX10_get_0 : decode cX10_get 0 = .ok (.aload_n 0, 1) := by decide +kernel
theorem dX10_get_1 : decode cX10_get 1 = .ok (.getfield 23, 3) := by decide +kernel
theorem dX10_get_4 : decode cX10_get 4 = .ok (.bipush 44, 2) := by decide +kernel
theorem dX10_get_6 : decode cX10_get 6 = .ok (.iload_n 1, 1) := by decide +kernel
theorem dX10_get_7 : decode cX10_get 7 = .ok (.imul, 1) := by decide +kernel
theorem dX10_get_8 : decode cX10_get 8 = .ok (.iload_n 2, 1) := by decide +kernel
theorem dX10_get_9 : decode cX10_get 9 = .ok (.iadd, 1) := by decide +kernel
theorem dX10_get_10 : decode cX10_get 10 = .ok (.iaload, 1) := by decide +kernel
theorem dX10_get_11 : decode cX10_get 11 = .ok (.ireturn, 1) := by decide +kernel
theorem dX10_eight_0 : decode cX10_eight 0 = .ok (.bipush 56, 2) := by decide +kernel
theorem dX10_eight_2 : decode cX10_eight 2 = .ok (.istore_n 3, 1) := by decide +kernel
theorem dX10_eight_3 : decode cX10_eight 3 = .ok (.iload_n 3, 1) := by decide +kernel
theorem dX10_eight_4 : decode cX10_eight 4 = .ok (.ifCond .lt 36, 3) := by decide +kernel
theorem dX10_eight_7 : decode cX10_eight 7 = .ok (.aload_n 0, 1) := by decide +kernel
theorem dX10_eight_8 : decode cX10_eight 8 = .ok (.getfield 32, 3) := by decide +kernel
theorem dX10_eight_11 : decode cX10_eight 11 = .ok (.aload_n 0, 1) := by decide +kernel
theorem dX10_eight_12 : decode cX10_eight 12 = .ok (.getfield 73, 3) := by decide +kernel
theorem dX10_eight_15 : decode cX10_eight 15 = .ok (.lload_n 1, 1) := by decide +kernel
theorem dX10_eight_16 : decode cX10_eight 16 = .ok (.iload_n 3, 1) := by decide +kernel
theorem dX10_eight_17 : decode cX10_eight 17 = .ok (.lshr, 1) := by decide +kernel
theorem dX10_eight_18 : decode cX10_eight 18 = .ok (.l2i, 1) := by decide +kernel
theorem dX10_eight_19 : decode cX10_eight 19 = .ok (.sipush 255, 3) := by decide +kernel
theorem dX10_eight_22 : decode cX10_eight 22 = .ok (.iand, 1) := by decide +kernel
theorem dX10_eight_23 : decode cX10_eight 23 = .ok (.iastore, 1) := by decide +kernel
theorem dX10_eight_24 : decode cX10_eight 24 = .ok (.aload_n 0, 1) := by decide +kernel
theorem dX10_eight_25 : decode cX10_eight 25 = .ok (.dup, 1) := by decide +kernel
theorem dX10_eight_26 : decode cX10_eight 26 = .ok (.getfield 73, 3) := by decide +kernel
theorem dX10_eight_29 : decode cX10_eight 29 = .ok (.iconst 1, 1) := by decide +kernel
theorem dX10_eight_30 : decode cX10_eight 30 = .ok (.iadd, 1) := by decide +kernel
theorem dX10_eight_31 : decode cX10_eight 31 = .ok (.putfield 73, 3) := by decide +kernel
theorem dX10_eight_34 : decode cX10_eight 34 = .ok (.iinc 3 (-8), 3) := by decide +kernel
theorem dX10_eight_37 : decode cX10_eight 37 = .ok (.goto (-34), 3) := by decide +kernel
theorem dX10_eight_40 : decode cX10_eight 40 = .ok (.return_, 1) := by decide +kernel
theorem dX10_feed_0 : decode cX10_feed 0 = .ok (.aload_n 0, 1) := by decide +kernel
theorem dX10_feed_1 : decode cX10_feed 1 = .ok (.iconst 0, 1) := by decide +kernel
theorem dX10_feed_2 : decode cX10_feed 2 = .ok (.putfield 60, 3) := by decide +kernel
theorem dX10_feed_5 : decode cX10_feed 5 = .ok (.aload_n 0, 1) := by decide +kernel
theorem dX10_feed_6 : decode cX10_feed 6 = .ok (.getfield 73, 3) := by decide +kernel
theorem dX10_feed_9 : decode cX10_feed 9 = .ok (.bipush 24, 2) := by decide +kernel
theorem dX10_feed_11 : decode cX10_feed 11 = .ok (.iadd, 1) := by decide +kernel
theorem dX10_feed_12 : decode cX10_feed 12 = .ok (.sipush 168, 3) := by decide +kernel
theorem dX10_feed_15 : decode cX10_feed 15 = .ok (.if_icmp .le 5, 3) := by decide +kernel
theorem dX10_feed_18 : decode cX10_feed 18 = .ok (.iconst (-1), 1) := by decide +kernel
theorem dX10_feed_19 : decode cX10_feed 19 = .ok (.ireturn, 1) := by decide +kernel
theorem dX10_feed_20 : decode cX10_feed 20 = .ok (.aload_n 0, 1) := by decide +kernel
theorem dX10_feed_21 : decode cX10_feed 21 = .ok (.lload_n 1, 1) := by decide +kernel
theorem dX10_feed_22 : decode cX10_feed 22 = .ok (.invokevirtual 76, 3) := by decide +kernel
theorem dX10_feed_25 : decode cX10_feed 25 = .ok (.aload_n 0, 1) := by decide +kernel
theorem dX10_feed_26 : decode cX10_feed 26 = .ok (.lload_n 3, 1) := by decide +kernel
theorem dX10_feed_27 : decode cX10_feed 27 = .ok (.invokevirtual 76, 3) := by decide +kernel
theorem dX10_feed_30 : decode cX10_feed 30 = .ok (.aload_n 0, 1) := by decide +kernel
theorem dX10_feed_31 : decode cX10_feed 31 = .ok (.lload 5, 2) := by decide +kernel
theorem dX10_feed_33 : decode cX10_feed 33 = .ok (.invokevirtual 76, 3) := by decide +kernel
theorem dX10_feed_36 : decode cX10_feed 36 = .ok (.aload_n 0, 1) := by decide +kernel
theorem dX10_feed_37 : decode cX10_feed 37 = .ok (.getfield 73, 3) := by decide +kernel
theorem dX10_feed_40 : decode cX10_feed 40 = .ok (.ireturn, 1) := by decide +kernel
theorem dX10_end_0 : decode cX10_end 0 = .ok (.aload_n 0, 1) := by decide +kernel
theorem dX10_end_1 : decode cX10_end 1 = .ok (.iconst 0, 1) := by decide +kernel
theorem dX10_end_2 : decode cX10_end 2 = .ok (.putfield 60, 3) := by decide +kernel
theorem dX10_end_5 : decode cX10_end 5 = .ok (.iload_n 1, 1) := by decide +kernel
theorem dX10_end_6 : decode cX10_end 6 = .ok (.iconst 0, 1) := by decide +kernel
theorem dX10_end_7 : decode cX10_end 7 = .ok (.aload_n 0, 1) := by decide +kernel
theorem dX10_end_8 : decode cX10_end 8 = .ok (.getfield 73, 3) := by decide +kernel
theorem dX10_end_11 : decode cX10_end 11 = .ok (.invokestatic 65, 3) := by decide +kernel
theorem dX10_end_14 : decode cX10_end 14 = .ok (.ifCond .ne 5, 3) := by decide +kernel
theorem dX10_end_17 : decode cX10_end 17 = .ok (.iconst (-1), 1) := by decide +kernel
theorem dX10_end_18 : decode cX10_end 18 = .ok (.ireturn, 1) := by decide +kernel
theorem dX10_end_19 : decode cX10_end 19 = .ok (.aload_n 0, 1) := by decide +kernel
theorem dX10_end_20 : decode cX10_end 20 = .ok (.iload_n 1, 1) := by decide +kernel
theorem dX10_end_21 : decode cX10_end 21 = .ok (.putfield 73, 3) := by decide +kernel
theorem dX10_end_24 : decode cX10_end 24 = .ok (.iload_n 1, 1) := by decide +kernel
theorem dX10_end_25 : decode cX10_end 25 = .ok (.ireturn, 1) := by decide +kernel
theorem dX10_byteAt_0 : decode cX10_byteAt 0 = .ok (.iload_n 1, 1) := by decide +kernel
theorem dX10_byteAt_1 : decode cX10_byteAt 1 = .ok (.aload_n 0, 1) := by decide +kernel
theorem dX10_byteAt_2 : decode cX10_byteAt 2 = .ok (.getfield 80, 3) := by decide +kernel
theorem dX10_byteAt_5 : decode cX10_byteAt 5 = .ok (.if_icmp .ge 12, 3) := by decide +kernel
theorem dX10_byteAt_8 : decode cX10_byteAt 8 = .ok (.aload_n 0, 1) := by decide +kernel
theorem dX10_byteAt_9 : decode cX10_byteAt 9 = .ok (.getfield 32, 3) := by decide +kernel
theorem dX10_byteAt_12 : decode cX10_byteAt 12 = .ok (.iload_n 1, 1) := by decide +kernel
theorem dX10_byteAt_13 : decode cX10_byteAt 13 = .ok (.iaload, 1) := by decide +kernel
theorem dX10_byteAt_14 : decode cX10_byteAt 14 = .ok (.goto 4, 3) := by decide +kernel
theorem dX10_byteAt_17 : decode cX10_byteAt 17 = .ok (.iconst (-1), 1) := by decide +kernel
theorem dX10_byteAt_18 : decode cX10_byteAt 18 = .ok (.ireturn, 1) := by decide +kernel
theorem dX10_isSmall_0 : decode cX10_isSmall 0 = .ok (.iload_n 0, 1) := by decide +kernel
theorem dX10_isSmall_1 : decode cX10_isSmall 1 = .ok (.bipush 97, 2) := by decide +kernel
theorem dX10_isSmall_3 : decode cX10_isSmall 3 = .ok (.if_icmp .lt 13, 3) := by decide +kernel
theorem dX10_isSmall_6 : decode cX10_isSmall 6 = .ok (.iload_n 0, 1) := by decide +kernel
theorem dX10_isSmall_7 : decode cX10_isSmall 7 = .ok (.bipush 122, 2) := by decide +kernel
theorem dX10_isSmall_9 : decode cX10_isSmall 9 = .ok (.if_icmp .gt 7, 3) := by decide +kernel
theorem dX10_isSmall_12 : decode cX10_isSmall 12 = .ok (.iconst 1, 1) := by decide +kernel
theorem dX10_isSmall_13 : decode cX10_isSmall 13 = .ok (.goto 4, 3) := by decide +kernel
theorem dX10_isSmall_16 : decode cX10_isSmall 16 = .ok (.iconst 0, 1) := by decide +kernel
theorem dX10_isSmall_17 : decode cX10_isSmall 17 = .ok (.ireturn, 1) := by decide +kernel
theorem dX10_isDigit_0 : decode cX10_isDigit 0 = .ok (.iload_n 0, 1) := by decide +kernel
theorem dX10_isDigit_1 : decode cX10_isDigit 1 = .ok (.bipush 48, 2) := by decide +kernel
theorem dX10_isDigit_3 : decode cX10_isDigit 3 = .ok (.if_icmp .lt 13, 3) := by decide +kernel
theorem dX10_isDigit_6 : decode cX10_isDigit 6 = .ok (.iload_n 0, 1) := by decide +kernel
theorem dX10_isDigit_7 : decode cX10_isDigit 7 = .ok (.bipush 57, 2) := by decide +kernel
theorem dX10_isDigit_9 : decode cX10_isDigit 9 = .ok (.if_icmp .gt 7, 3) := by decide +kernel
theorem dX10_isDigit_12 : decode cX10_isDigit 12 = .ok (.iconst 1, 1) := by decide +kernel
theorem dX10_isDigit_13 : decode cX10_isDigit 13 = .ok (.goto 4, 3) := by decide +kernel
theorem dX10_isDigit_16 : decode cX10_isDigit 16 = .ok (.iconst 0, 1) := by decide +kernel
theorem dX10_isDigit_17 : decode cX10_isDigit 17 = .ok (.ireturn, 1) := by decide +kernel
theorem dX10_next_0 : decode cX10_next 0 = .ok (.aload_n 0, 1) := by decide +kernel
theorem dX10_next_1 : decode cX10_next 1 = .ok (.getfield 83, 3) := by decide +kernel
theorem dX10_next_4 : decode cX10_next 4 = .ok (.ifCond .le 4, 3) := by decide +kernel
theorem dX10_next_7 : decode cX10_next 7 = .ok (.return_, 1) := by decide +kernel
theorem dX10_next_8 : decode cX10_next 8 = .ok (.aload_n 0, 1) := by decide +kernel
theorem dX10_next_9 : decode cX10_next 9 = .ok (.getfield 86, 3) := by decide +kernel
theorem dX10_next_12 : decode cX10_next 12 = .ok (.istore_n 1, 1) := by decide +kernel
theorem dX10_next_13 : decode cX10_next 13 = .ok (.aload_n 0, 1) := by decide +kernel
theorem dX10_next_14 : decode cX10_next 14 = .ok (.iload_n 1, 1) := by decide +kernel
theorem dX10_next_15 : decode cX10_next 15 = .ok (.invokevirtual 89, 3) := by decide +kernel
theorem dX10_next_18 : decode cX10_next 18 = .ok (.bipush 32, 2) := by decide +kernel
theorem dX10_next_20 : decode cX10_next 20 = .ok (.if_icmp .ne 9, 3) := by decide +kernel
theorem dX10_next_23 : decode cX10_next 23 = .ok (.iinc 1 1, 3) := by decide +kernel
theorem dX10_next_26 : decode cX10_next 26 = .ok (.goto (-13), 3) := by decide +kernel
theorem dX10_next_29 : decode cX10_next 29 = .ok (.aload_n 0, 1) := by decide +kernel
theorem dX10_next_30 : decode cX10_next 30 = .ok (.iload_n 1, 1) := by decide +kernel
theorem dX10_next_31 : decode cX10_next 31 = .ok (.putfield 93, 3) := by decide +kernel
theorem dX10_next_34 : decode cX10_next 34 = .ok (.aload_n 0, 1) := by decide +kernel
theorem dX10_next_35 : decode cX10_next 35 = .ok (.iload_n 1, 1) := by decide +kernel
theorem dX10_next_36 : decode cX10_next 36 = .ok (.iconst 1, 1) := by decide +kernel
theorem dX10_next_37 : decode cX10_next 37 = .ok (.iadd, 1) := by decide +kernel
theorem dX10_next_38 : decode cX10_next 38 = .ok (.putfield 86, 3) := by decide +kernel
theorem dX10_next_41 : decode cX10_next 41 = .ok (.aload_n 0, 1) := by decide +kernel
theorem dX10_next_42 : decode cX10_next 42 = .ok (.iload_n 1, 1) := by decide +kernel
theorem dX10_next_43 : decode cX10_next 43 = .ok (.invokevirtual 89, 3) := by decide +kernel
theorem dX10_next_46 : decode cX10_next 46 = .ok (.istore_n 2, 1) := by decide +kernel
theorem dX10_next_47 : decode cX10_next 47 = .ok (.aload_n 0, 1) := by decide +kernel
theorem dX10_next_48 : decode cX10_next 48 = .ok (.iconst 3, 1) := by decide +kernel
theorem dX10_next_49 : decode cX10_next 49 = .ok (.putfield 96, 3) := by decide +kernel
theorem dX10_next_52 : decode cX10_next 52 = .ok (.aload_n 0, 1) := by decide +kernel
theorem dX10_next_53 : decode cX10_next 53 = .ok (.lconst 0, 1) := by decide +kernel
theorem dX10_next_54 : decode cX10_next 54 = .ok (.putfield 99, 3) := by decide +kernel
theorem dX10_next_57 : decode cX10_next 57 = .ok (.aload_n 0, 1) := by decide +kernel
theorem dX10_next_58 : decode cX10_next 58 = .ok (.iconst 0, 1) := by decide +kernel
theorem dX10_next_59 : decode cX10_next 59 = .ok (.putfield 103, 3) := by decide +kernel
theorem dX10_next_62 : decode cX10_next 62 = .ok (.iload_n 2, 1) := by decide +kernel
theorem dX10_next_63 : decode cX10_next 63 = .ok (.iconst (-1), 1) := by decide +kernel
theorem dX10_next_64 : decode cX10_next 64 = .ok (.if_icmp .ne 16, 3) := by decide +kernel
theorem dX10_next_67 : decode cX10_next 67 = .ok (.aload_n 0, 1) := by decide +kernel
theorem dX10_next_68 : decode cX10_next 68 = .ok (.iconst 0, 1) := by decide +kernel
theorem dX10_next_69 : decode cX10_next 69 = .ok (.putfield 96, 3) := by decide +kernel
theorem dX10_next_72 : decode cX10_next 72 = .ok (.aload_n 0, 1) := by decide +kernel
theorem dX10_next_73 : decode cX10_next 73 = .ok (.iload_n 1, 1) := by decide +kernel
theorem dX10_next_74 : decode cX10_next 74 = .ok (.putfield 86, 3) := by decide +kernel
theorem dX10_next_77 : decode cX10_next 77 = .ok (.goto 175, 3) := by decide +kernel
theorem dX10_next_80 : decode cX10_next 80 = .ok (.iload_n 2, 1) := by decide +kernel
theorem dX10_next_81 : decode cX10_next 81 = .ok (.invokestatic 106, 3) := by decide +kernel
theorem dX10_next_84 : decode cX10_next 84 = .ok (.ifCond .eq 77, 3) := by decide +kernel
theorem dX10_next_87 : decode cX10_next 87 = .ok (.aload_n 0, 1) := by decide +kernel
theorem dX10_next_88 : decode cX10_next 88 = .ok (.iconst 1, 1) := by decide +kernel
theorem dX10_next_89 : decode cX10_next 89 = .ok (.putfield 96, 3) := by decide +kernel
theorem dX10_next_92 : decode cX10_next 92 = .ok (.aload_n 0, 1) := by decide +kernel
theorem dX10_next_93 : decode cX10_next 93 = .ok (.iload_n 1, 1) := by decide +kernel
theorem dX10_next_94 : decode cX10_next 94 = .ok (.putfield 86, 3) := by decide +kernel
theorem dX10_next_97 : decode cX10_next 97 = .ok (.aload_n 0, 1) := by decide +kernel
theorem dX10_next_98 : decode cX10_next 98 = .ok (.aload_n 0, 1) := by decide +kernel
theorem dX10_next_99 : decode cX10_next 99 = .ok (.getfield 86, 3) := by decide +kernel
theorem dX10_next_102 : decode cX10_next 102 = .ok (.invokevirtual 89, 3) := by decide +kernel
theorem dX10_next_105 : decode cX10_next 105 = .ok (.invokestatic 106, 3) := by decide +kernel
theorem dX10_next_108 : decode cX10_next 108 = .ok (.ifCond .eq 144, 3) := by decide +kernel
theorem dX10_next_111 : decode cX10_next 111 = .ok (.aload_n 0, 1) := by decide +kernel
theorem dX10_next_112 : decode cX10_next 112 = .ok (.aload_n 0, 1) := by decide +kernel
theorem dX10_next_113 : decode cX10_next 113 = .ok (.getfield 86, 3) := by decide +kernel
theorem dX10_next_116 : decode cX10_next 116 = .ok (.iload_n 1, 1) := by decide +kernel
theorem dX10_next_117 : decode cX10_next 117 = .ok (.isub, 1) := by decide +kernel
theorem dX10_next_118 : decode cX10_next 118 = .ok (.bipush 7, 2) := by decide +kernel
theorem dX10_next_120 : decode cX10_next 120 = .ok (.if_icmp .ge 24, 3) := by decide +kernel
theorem dX10_next_123 : decode cX10_next 123 = .ok (.ldc2_w 110, 3) := by decide +kernel
theorem dX10_next_126 : decode cX10_next 126 = .ok (.aload_n 0, 1) := by decide +kernel
theorem dX10_next_127 : decode cX10_next 127 = .ok (.getfield 99, 3) := by decide +kernel
theorem dX10_next_130 : decode cX10_next 130 = .ok (.lmul, 1) := by decide +kernel
theorem dX10_next_131 : decode cX10_next 131 = .ok (.aload_n 0, 1) := by decide +kernel
theorem dX10_next_132 : decode cX10_next 132 = .ok (.aload_n 0, 1) := by decide +kernel
theorem dX10_next_133 : decode cX10_next 133 = .ok (.getfield 86, 3) := by decide +kernel
theorem dX10_next_136 : decode cX10_next 136 = .ok (.invokevirtual 89, 3) := by decide +kernel
theorem dX10_next_139 : decode cX10_next 139 = .ok (.i2l, 1) := by decide +kernel
theorem dX10_next_140 : decode cX10_next 140 = .ok (.ladd, 1) := by decide +kernel
theorem dX10_next_141 : decode cX10_next 141 = .ok (.goto 4, 3) := by decide +kernel
theorem dX10_next_144 : decode cX10_next 144 = .ok (.lconst 0, 1) := by decide +kernel
theorem dX10_next_145 : decode cX10_next 145 = .ok (.putfield 99, 3) := by decide +kernel
theorem dX10_next_148 : decode cX10_next 148 = .ok (.aload_n 0, 1) := by decide +kernel
theorem dX10_next_149 : decode cX10_next 149 = .ok (.dup, 1) := by decide +kernel
theorem dX10_next_150 : decode cX10_next 150 = .ok (.getfield 86, 3) := by decide +kernel
theorem dX10_next_153 : decode cX10_next 153 = .ok (.iconst 1, 1) := by decide +kernel
theorem dX10_next_154 : decode cX10_next 154 = .ok (.iadd, 1) := by decide +kernel
theorem dX10_next_155 : decode cX10_next 155 = .ok (.putfield 86, 3) := by decide +kernel
theorem dX10_next_158 : decode cX10_next 158 = .ok (.goto (-61), 3) := by decide +kernel
theorem dX10_next_161 : decode cX10_next 161 = .ok (.iload_n 2, 1) := by decide +kernel
theorem dX10_next_162 : decode cX10_next 162 = .ok (.invokestatic 112, 3) := by decide +kernel
theorem dX10_next_165 : decode cX10_next 165 = .ok (.ifCond .eq 87, 3) := by decide +kernel
theorem dX10_next_168 : decode cX10_next 168 = .ok (.aload_n 0, 1) := by decide +kernel
theorem dX10_next_169 : decode cX10_next 169 = .ok (.iload_n 1, 1) := by decide +kernel
theorem dX10_next_170 : decode cX10_next 170 = .ok (.putfield 86, 3) := by decide +kernel
theorem dX10_next_173 : decode cX10_next 173 = .ok (.aload_n 0, 1) := by decide +kernel
theorem dX10_next_174 : decode cX10_next 174 = .ok (.aload_n 0, 1) := by decide +kernel
theorem dX10_next_175 : decode cX10_next 175 = .ok (.getfield 86, 3) := by decide +kernel
theorem dX10_next_178 : decode cX10_next 178 = .ok (.invokevirtual 89, 3) := by decide +kernel
theorem dX10_next_181 : decode cX10_next 181 = .ok (.invokestatic 112, 3) := by decide +kernel
theorem dX10_next_184 : decode cX10_next 184 = .ok (.ifCond .eq 49, 3) := by decide +kernel
theorem dX10_next_187 : decode cX10_next 187 = .ok (.aload_n 0, 1) := by decide +kernel
theorem dX10_next_188 : decode cX10_next 188 = .ok (.getfield 86, 3) := by decide +kernel
theorem dX10_next_191 : decode cX10_next 191 = .ok (.iload_n 1, 1) := by decide +kernel
theorem dX10_next_192 : decode cX10_next 192 = .ok (.isub, 1) := by decide +kernel
theorem dX10_next_193 : decode cX10_next 193 = .ok (.iconst 4, 1) := by decide +kernel
theorem dX10_next_194 : decode cX10_next 194 = .ok (.if_icmp .ge 26, 3) := by decide +kernel
theorem dX10_next_197 : decode cX10_next 197 = .ok (.aload_n 0, 1) := by decide +kernel
theorem dX10_next_198 : decode cX10_next 198 = .ok (.bipush 10, 2) := by decide +kernel
theorem dX10_next_200 : decode cX10_next 200 = .ok (.aload_n 0, 1) := by decide +kernel
theorem dX10_next_201 : decode cX10_next 201 = .ok (.getfield 103, 3) := by decide +kernel
theorem dX10_next_204 : decode cX10_next 204 = .ok (.imul, 1) := by decide +kernel
theorem dX10_next_205 : decode cX10_next 205 = .ok (.aload_n 0, 1) := by decide +kernel
theorem dX10_next_206 : decode cX10_next 206 = .ok (.aload_n 0, 1) := by decide +kernel
theorem dX10_next_207 : decode cX10_next 207 = .ok (.getfield 86, 3) := by decide +kernel
theorem dX10_next_210 : decode cX10_next 210 = .ok (.invokevirtual 89, 3) := by decide +kernel
theorem dX10_next_213 : decode cX10_next 213 = .ok (.iadd, 1) := by decide +kernel
theorem dX10_next_214 : decode cX10_next 214 = .ok (.bipush 48, 2) := by decide +kernel
theorem dX10_next_216 : decode cX10_next 216 = .ok (.isub, 1) := by decide +kernel
theorem dX10_next_217 : decode cX10_next 217 = .ok (.putfield 103, 3) := by decide +kernel
theorem dX10_next_220 : decode cX10_next 220 = .ok (.aload_n 0, 1) := by decide +kernel
theorem dX10_next_221 : decode cX10_next 221 = .ok (.dup, 1) := by decide +kernel
theorem dX10_next_222 : decode cX10_next 222 = .ok (.getfield 86, 3) := by decide +kernel
theorem dX10_next_225 : decode cX10_next 225 = .ok (.iconst 1, 1) := by decide +kernel
theorem dX10_next_226 : decode cX10_next 226 = .ok (.iadd, 1) := by decide +kernel
theorem dX10_next_227 : decode cX10_next 227 = .ok (.putfield 86, 3) := by decide +kernel
theorem dX10_next_230 : decode cX10_next 230 = .ok (.goto (-57), 3) := by decide +kernel
theorem dX10_next_233 : decode cX10_next 233 = .ok (.aload_n 0, 1) := by decide +kernel
theorem dX10_next_234 : decode cX10_next 234 = .ok (.aload_n 0, 1) := by decide +kernel
theorem dX10_next_235 : decode cX10_next 235 = .ok (.getfield 86, 3) := by decide +kernel
theorem dX10_next_238 : decode cX10_next 238 = .ok (.iload_n 1, 1) := by decide +kernel
theorem dX10_next_239 : decode cX10_next 239 = .ok (.isub, 1) := by decide +kernel
theorem dX10_next_240 : decode cX10_next 240 = .ok (.iconst 5, 1) := by decide +kernel
theorem dX10_next_241 : decode cX10_next 241 = .ok (.if_icmp .ge 7, 3) := by decide +kernel
theorem dX10_next_244 : decode cX10_next 244 = .ok (.iconst 2, 1) := by decide +kernel
theorem dX10_next_245 : decode cX10_next 245 = .ok (.goto 4, 3) := by decide +kernel
theorem dX10_next_248 : decode cX10_next 248 = .ok (.iconst 3, 1) := by decide +kernel
theorem dX10_next_249 : decode cX10_next 249 = .ok (.putfield 96, 3) := by decide +kernel
theorem dX10_next_252 : decode cX10_next 252 = .ok (.return_, 1) := by decide +kernel
theorem dX10_wrong_0 : decode cX10_wrong 0 = .ok (.aload_n 0, 1) := by decide +kernel
theorem dX10_wrong_1 : decode cX10_wrong 1 = .ok (.getfield 83, 3) := by decide +kernel
theorem dX10_wrong_4 : decode cX10_wrong 4 = .ok (.ifCond .ne 16, 3) := by decide +kernel
theorem dX10_wrong_7 : decode cX10_wrong 7 = .ok (.aload_n 0, 1) := by decide +kernel
theorem dX10_wrong_8 : decode cX10_wrong 8 = .ok (.bipush 8, 2) := by decide +kernel
theorem dX10_wrong_10 : decode cX10_wrong 10 = .ok (.aload_n 0, 1) := by decide +kernel
theorem dX10_wrong_11 : decode cX10_wrong 11 = .ok (.getfield 93, 3) := by decide +kernel
theorem dX10_wrong_14 : decode cX10_wrong 14 = .ok (.imul, 1) := by decide +kernel
theorem dX10_wrong_15 : decode cX10_wrong 15 = .ok (.iload_n 1, 1) := by decide +kernel
theorem dX10_wrong_16 : decode cX10_wrong 16 = .ok (.iadd, 1) := by decide +kernel
theorem dX10_wrong_17 : decode cX10_wrong 17 = .ok (.putfield 83, 3) := by decide +kernel
theorem dX10_wrong_20 : decode cX10_wrong 20 = .ok (.return_, 1) := by decide +kernel
theorem dX10_packed_0 : decode cX10_packed 0 = .ok (.lconst 0, 1) := by decide +kernel
theorem dX10_packed_1 : decode cX10_packed 1 = .ok (.lstore_n 1, 1) := by decide +kernel
theorem dX10_packed_2 : decode cX10_packed 2 = .ok (.iconst 0, 1) := by decide +kernel
theorem dX10_packed_3 : decode cX10_packed 3 = .ok (.istore_n 3, 1) := by decide +kernel
theorem dX10_packed_4 : decode cX10_packed 4 = .ok (.iload_n 3, 1) := by decide +kernel
theorem dX10_packed_5 : decode cX10_packed 5 = .ok (.aload_n 0, 1) := by decide +kernel
theorem dX10_packed_6 : decode cX10_packed 6 = .ok (.invokevirtual 115, 3) := by decide +kernel
theorem dX10_packed_9 : decode cX10_packed 9 = .ok (.if_icmp .ge 22, 3) := by decide +kernel
theorem dX10_packed_12 : decode cX10_packed 12 = .ok (.ldc2_w 110, 3) := by decide +kernel
theorem dX10_packed_15 : decode cX10_packed 15 = .ok (.lload_n 1, 1) := by decide +kernel
theorem dX10_packed_16 : decode cX10_packed 16 = .ok (.lmul, 1) := by decide +kernel
theorem dX10_packed_17 : decode cX10_packed 17 = .ok (.aload_n 0, 1) := by decide +kernel
theorem dX10_packed_18 : decode cX10_packed 18 = .ok (.iload_n 3, 1) := by decide +kernel
theorem dX10_packed_19 : decode cX10_packed 19 = .ok (.invokevirtual 121, 3) := by decide +kernel
theorem dX10_packed_22 : decode cX10_packed 22 = .ok (.i2l, 1) := by decide +kernel
theorem dX10_packed_23 : decode cX10_packed 23 = .ok (.ladd, 1) := by decide +kernel
theorem dX10_packed_24 : decode cX10_packed 24 = .ok (.lstore_n 1, 1) := by decide +kernel
theorem dX10_packed_25 : decode cX10_packed 25 = .ok (.iinc 3 1, 3) := by decide +kernel
theorem dX10_packed_28 : decode cX10_packed 28 = .ok (.goto (-24), 3) := by decide +kernel
theorem dX10_packed_31 : decode cX10_packed 31 = .ok (.lload_n 1, 1) := by decide +kernel
theorem dX10_packed_32 : decode cX10_packed 32 = .ok (.lreturn, 1) := by decide +kernel
theorem dX10_isWord_0 : decode cX10_isWord 0 = .ok (.aload_n 0, 1) := by decide +kernel
theorem dX10_isWord_1 : decode cX10_isWord 1 = .ok (.getfield 83, 3) := by decide +kernel
theorem dX10_isWord_4 : decode cX10_isWord 4 = .ok (.ifCond .ne 27, 3) := by decide +kernel
theorem dX10_isWord_7 : decode cX10_isWord 7 = .ok (.aload_n 0, 1) := by decide +kernel
theorem dX10_isWord_8 : decode cX10_isWord 8 = .ok (.getfield 96, 3) := by decide +kernel
theorem dX10_isWord_11 : decode cX10_isWord 11 = .ok (.iconst 1, 1) := by decide +kernel
theorem dX10_isWord_12 : decode cX10_isWord 12 = .ok (.if_icmp .ne 19, 3) := by decide +kernel
theorem dX10_isWord_15 : decode cX10_isWord 15 = .ok (.aload_n 0, 1) := by decide +kernel
theorem dX10_isWord_16 : decode cX10_isWord 16 = .ok (.getfield 99, 3) := by decide +kernel
theorem dX10_isWord_19 : decode cX10_isWord 19 = .ok (.aload_n 1, 1) := by decide +kernel
theorem dX10_isWord_20 : decode cX10_isWord 20 = .ok (.invokestatic 125, 3) := by decide +kernel
theorem dX10_isWord_23 : decode cX10_isWord 23 = .ok (.lcmp, 1) := by decide +kernel
theorem dX10_isWord_24 : decode cX10_isWord 24 = .ok (.ifCond .ne 7, 3) := by decide +kernel
theorem dX10_isWord_27 : decode cX10_isWord 27 = .ok (.iconst 1, 1) := by decide +kernel
theorem dX10_isWord_28 : decode cX10_isWord 28 = .ok (.goto 4, 3) := by decide +kernel
theorem dX10_isWord_31 : decode cX10_isWord 31 = .ok (.iconst 0, 1) := by decide +kernel
theorem dX10_isWord_32 : decode cX10_isWord 32 = .ok (.ireturn, 1) := by decide +kernel
theorem dX10_must_0 : decode cX10_must 0 = .ok (.aload_n 0, 1) := by decide +kernel
theorem dX10_must_1 : decode cX10_must 1 = .ok (.getfield 83, 3) := by decide +kernel
theorem dX10_must_4 : decode cX10_must 4 = .ok (.ifCond .ne 16, 3) := by decide +kernel
theorem dX10_must_7 : decode cX10_must 7 = .ok (.aload_n 0, 1) := by decide +kernel
theorem dX10_must_8 : decode cX10_must 8 = .ok (.aload_n 1, 1) := by decide +kernel
theorem dX10_must_9 : decode cX10_must 9 = .ok (.invokevirtual 129, 3) := by decide +kernel
theorem dX10_must_12 : decode cX10_must 12 = .ok (.ifCond .ne 8, 3) := by decide +kernel
theorem dX10_must_15 : decode cX10_must 15 = .ok (.aload_n 0, 1) := by decide +kernel
theorem dX10_must_16 : decode cX10_must 16 = .ok (.iconst 1, 1) := by decide +kernel
theorem dX10_must_17 : decode cX10_must 17 = .ok (.invokevirtual 133, 3) := by decide +kernel
theorem dX10_must_20 : decode cX10_must 20 = .ok (.aload_n 0, 1) := by decide +kernel
theorem dX10_must_21 : decode cX10_must 21 = .ok (.invokevirtual 137, 3) := by decide +kernel
theorem dX10_must_24 : decode cX10_must 24 = .ok (.return_, 1) := by decide +kernel
theorem dX10_numberTold_0 : decode cX10_numberTold 0 = .ok (.aload_n 0, 1) := by decide +kernel
theorem dX10_numberTold_1 : decode cX10_numberTold 1 = .ok (.getfield 83, 3) := by decide +kernel
theorem dX10_numberTold_4 : decode cX10_numberTold 4 = .ok (.ifCond .ne 16, 3) := by decide +kernel
theorem dX10_numberTold_7 : decode cX10_numberTold 7 = .ok (.aload_n 0, 1) := by decide +kernel
theorem dX10_numberTold_8 : decode cX10_numberTold 8 = .ok (.getfield 96, 3) := by decide +kernel
theorem dX10_numberTold_11 : decode cX10_numberTold 11 = .ok (.iconst 2, 1) := by decide +kernel
theorem dX10_numberTold_12 : decode cX10_numberTold 12 = .ok (.if_icmp .eq 8, 3) := by decide +kernel
theorem dX10_numberTold_15 : decode cX10_numberTold 15 = .ok (.aload_n 0, 1) := by decide +kernel
theorem dX10_numberTold_16 : decode cX10_numberTold 16 = .ok (.iconst 1, 1) := by decide +kernel
theorem dX10_numberTold_17 : decode cX10_numberTold 17 = .ok (.invokevirtual 133, 3) := by decide +kernel
theorem dX10_numberTold_20 : decode cX10_numberTold 20 = .ok (.aload_n 0, 1) := by decide +kernel
theorem dX10_numberTold_21 : decode cX10_numberTold 21 = .ok (.getfield 83, 3) := by decide +kernel
theorem dX10_numberTold_24 : decode cX10_numberTold 24 = .ok (.ifCond .ne 20, 3) := by decide +kernel
theorem dX10_numberTold_27 : decode cX10_numberTold 27 = .ok (.aload_n 0, 1) := by decide +kernel
theorem dX10_numberTold_28 : decode cX10_numberTold 28 = .ok (.getfield 103, 3) := by decide +kernel
theorem dX10_numberTold_31 : decode cX10_numberTold 31 = .ok (.iload_n 1, 1) := by decide +kernel
theorem dX10_numberTold_32 : decode cX10_numberTold 32 = .ok (.iload_n 2, 1) := by decide +kernel
theorem dX10_numberTold_33 : decode cX10_numberTold 33 = .ok (.invokestatic 65, 3) := by decide +kernel
theorem dX10_numberTold_36 : decode cX10_numberTold 36 = .ok (.ifCond .ne 8, 3) := by decide +kernel
theorem dX10_numberTold_39 : decode cX10_numberTold 39 = .ok (.aload_n 0, 1) := by decide +kernel
theorem dX10_numberTold_40 : decode cX10_numberTold 40 = .ok (.iconst 2, 1) := by decide +kernel
theorem dX10_numberTold_41 : decode cX10_numberTold 41 = .ok (.invokevirtual 133, 3) := by decide +kernel
theorem dX10_numberTold_44 : decode cX10_numberTold 44 = .ok (.aload_n 0, 1) := by decide +kernel
theorem dX10_numberTold_45 : decode cX10_numberTold 45 = .ok (.getfield 103, 3) := by decide +kernel
theorem dX10_numberTold_48 : decode cX10_numberTold 48 = .ok (.istore_n 3, 1) := by decide +kernel
theorem dX10_numberTold_49 : decode cX10_numberTold 49 = .ok (.aload_n 0, 1) := by decide +kernel
theorem dX10_numberTold_50 : decode cX10_numberTold 50 = .ok (.invokevirtual 137, 3) := by decide +kernel
theorem dX10_numberTold_53 : decode cX10_numberTold 53 = .ok (.iload_n 3, 1) := by decide +kernel
theorem dX10_numberTold_54 : decode cX10_numberTold 54 = .ok (.ireturn, 1) := by decide +kernel
theorem dX10_weekdayHere_0 : decode cX10_weekdayHere 0 = .ok (.aload_n 0, 1) := by decide +kernel
theorem dX10_weekdayHere_1 : decode cX10_weekdayHere 1 = .ok (.ldc 140, 2) := by decide +kernel
theorem dX10_weekdayHere_3 : decode cX10_weekdayHere 3 = .ok (.invokevirtual 129, 3) := by decide +kernel
theorem dX10_weekdayHere_6 : decode cX10_weekdayHere 6 = .ok (.ifCond .eq 5, 3) := by decide +kernel
theorem dX10_weekdayHere_9 : decode cX10_weekdayHere 9 = .ok (.iconst 0, 1) := by decide +kernel
theorem dX10_weekdayHere_10 : decode cX10_weekdayHere 10 = .ok (.ireturn, 1) := by decide +kernel
theorem dX10_weekdayHere_11 : decode cX10_weekdayHere 11 = .ok (.aload_n 0, 1) := by decide +kernel
theorem dX10_weekdayHere_12 : decode cX10_weekdayHere 12 = .ok (.ldc 142, 2) := by decide +kernel
theorem dX10_weekdayHere_14 : decode cX10_weekdayHere 14 = .ok (.invokevirtual 129, 3) := by decide +kernel
theorem dX10_weekdayHere_17 : decode cX10_weekdayHere 17 = .ok (.ifCond .eq 5, 3) := by decide +kernel
theorem dX10_weekdayHere_20 : decode cX10_weekdayHere 20 = .ok (.iconst 1, 1) := by decide +kernel
theorem dX10_weekdayHere_21 : decode cX10_weekdayHere 21 = .ok (.ireturn, 1) := by decide +kernel
theorem dX10_weekdayHere_22 : decode cX10_weekdayHere 22 = .ok (.aload_n 0, 1) := by decide +kernel
theorem dX10_weekdayHere_23 : decode cX10_weekdayHere 23 = .ok (.ldc 144, 2) := by decide +kernel
theorem dX10_weekdayHere_25 : decode cX10_weekdayHere 25 = .ok (.invokevirtual 129, 3) := by decide +kernel
theorem dX10_weekdayHere_28 : decode cX10_weekdayHere 28 = .ok (.ifCond .eq 5, 3) := by decide +kernel
theorem dX10_weekdayHere_31 : decode cX10_weekdayHere 31 = .ok (.iconst 2, 1) := by decide +kernel
theorem dX10_weekdayHere_32 : decode cX10_weekdayHere 32 = .ok (.ireturn, 1) := by decide +kernel
theorem dX10_weekdayHere_33 : decode cX10_weekdayHere 33 = .ok (.aload_n 0, 1) := by decide +kernel
theorem dX10_weekdayHere_34 : decode cX10_weekdayHere 34 = .ok (.ldc 146, 2) := by decide +kernel
theorem dX10_weekdayHere_36 : decode cX10_weekdayHere 36 = .ok (.invokevirtual 129, 3) := by decide +kernel
theorem dX10_weekdayHere_39 : decode cX10_weekdayHere 39 = .ok (.ifCond .eq 5, 3) := by decide +kernel
theorem dX10_weekdayHere_42 : decode cX10_weekdayHere 42 = .ok (.iconst 3, 1) := by decide +kernel
theorem dX10_weekdayHere_43 : decode cX10_weekdayHere 43 = .ok (.ireturn, 1) := by decide +kernel
theorem dX10_weekdayHere_44 : decode cX10_weekdayHere 44 = .ok (.aload_n 0, 1) := by decide +kernel
theorem dX10_weekdayHere_45 : decode cX10_weekdayHere 45 = .ok (.ldc 148, 2) := by decide +kernel
theorem dX10_weekdayHere_47 : decode cX10_weekdayHere 47 = .ok (.invokevirtual 129, 3) := by decide +kernel
theorem dX10_weekdayHere_50 : decode cX10_weekdayHere 50 = .ok (.ifCond .eq 5, 3) := by decide +kernel
theorem dX10_weekdayHere_53 : decode cX10_weekdayHere 53 = .ok (.iconst 4, 1) := by decide +kernel
theorem dX10_weekdayHere_54 : decode cX10_weekdayHere 54 = .ok (.ireturn, 1) := by decide +kernel
theorem dX10_weekdayHere_55 : decode cX10_weekdayHere 55 = .ok (.aload_n 0, 1) := by decide +kernel
theorem dX10_weekdayHere_56 : decode cX10_weekdayHere 56 = .ok (.ldc 150, 2) := by decide +kernel
theorem dX10_weekdayHere_58 : decode cX10_weekdayHere 58 = .ok (.invokevirtual 129, 3) := by decide +kernel
theorem dX10_weekdayHere_61 : decode cX10_weekdayHere 61 = .ok (.ifCond .eq 5, 3) := by decide +kernel
theorem dX10_weekdayHere_64 : decode cX10_weekdayHere 64 = .ok (.iconst 5, 1) := by decide +kernel
theorem dX10_weekdayHere_65 : decode cX10_weekdayHere 65 = .ok (.ireturn, 1) := by decide +kernel
theorem dX10_weekdayHere_66 : decode cX10_weekdayHere 66 = .ok (.aload_n 0, 1) := by decide +kernel
theorem dX10_weekdayHere_67 : decode cX10_weekdayHere 67 = .ok (.ldc 152, 2) := by decide +kernel
theorem dX10_weekdayHere_69 : decode cX10_weekdayHere 69 = .ok (.invokevirtual 129, 3) := by decide +kernel
theorem dX10_weekdayHere_72 : decode cX10_weekdayHere 72 = .ok (.ifCond .eq 8, 3) := by decide +kernel
theorem dX10_weekdayHere_75 : decode cX10_weekdayHere 75 = .ok (.bipush 6, 2) := by decide +kernel
theorem dX10_weekdayHere_77 : decode cX10_weekdayHere 77 = .ok (.goto 4, 3) := by decide +kernel
theorem dX10_weekdayHere_80 : decode cX10_weekdayHere 80 = .ok (.iconst (-1), 1) := by decide +kernel
theorem dX10_weekdayHere_81 : decode cX10_weekdayHere 81 = .ok (.ireturn, 1) := by decide +kernel
theorem dX10_weekdayTold_0 : decode cX10_weekdayTold 0 = .ok (.aload_n 0, 1) := by decide +kernel
theorem dX10_weekdayTold_1 : decode cX10_weekdayTold 1 = .ok (.invokevirtual 154, 3) := by decide +kernel
theorem dX10_weekdayTold_4 : decode cX10_weekdayTold 4 = .ok (.istore_n 1, 1) := by decide +kernel
theorem dX10_weekdayTold_5 : decode cX10_weekdayTold 5 = .ok (.iload_n 1, 1) := by decide +kernel
theorem dX10_weekdayTold_6 : decode cX10_weekdayTold 6 = .ok (.ifCond .ge 8, 3) := by decide +kernel
theorem dX10_weekdayTold_9 : decode cX10_weekdayTold 9 = .ok (.aload_n 0, 1) := by decide +kernel
theorem dX10_weekdayTold_10 : decode cX10_weekdayTold 10 = .ok (.iconst 1, 1) := by decide +kernel
theorem dX10_weekdayTold_11 : decode cX10_weekdayTold 11 = .ok (.invokevirtual 133, 3) := by decide +kernel
theorem dX10_weekdayTold_14 : decode cX10_weekdayTold 14 = .ok (.aload_n 0, 1) := by decide +kernel
theorem dX10_weekdayTold_15 : decode cX10_weekdayTold 15 = .ok (.invokevirtual 137, 3) := by decide +kernel
theorem dX10_weekdayTold_18 : decode cX10_weekdayTold 18 = .ok (.iload_n 1, 1) := by decide +kernel
theorem dX10_weekdayTold_19 : decode cX10_weekdayTold 19 = .ok (.ifCond .ge 7, 3) := by decide +kernel
theorem dX10_weekdayTold_22 : decode cX10_weekdayTold 22 = .ok (.iconst 0, 1) := by decide +kernel
theorem dX10_weekdayTold_23 : decode cX10_weekdayTold 23 = .ok (.goto 4, 3) := by decide +kernel
theorem dX10_weekdayTold_26 : decode cX10_weekdayTold 26 = .ok (.iload_n 1, 1) := by decide +kernel
theorem dX10_weekdayTold_27 : decode cX10_weekdayTold 27 = .ok (.ireturn, 1) := by decide +kernel
theorem dX10_dateTold_0 : decode cX10_dateTold 0 = .ok (.aload_n 0, 1) := by decide +kernel
theorem dX10_dateTold_1 : decode cX10_dateTold 1 = .ok (.aload_n 0, 1) := by decide +kernel
theorem dX10_dateTold_2 : decode cX10_dateTold 2 = .ok (.getfield 93, 3) := by decide +kernel
theorem dX10_dateTold_5 : decode cX10_dateTold 5 = .ok (.putfield 157, 3) := by decide +kernel
theorem dX10_dateTold_8 : decode cX10_dateTold 8 = .ok (.aload_n 0, 1) := by decide +kernel
theorem dX10_dateTold_9 : decode cX10_dateTold 9 = .ok (.sipush 2000, 3) := by decide +kernel
theorem dX10_dateTold_12 : decode cX10_dateTold 12 = .ok (.sipush 2099, 3) := by decide +kernel
theorem dX10_dateTold_15 : decode cX10_dateTold 15 = .ok (.invokevirtual 160, 3) := by decide +kernel
theorem dX10_dateTold_18 : decode cX10_dateTold 18 = .ok (.istore_n 1, 1) := by decide +kernel
theorem dX10_dateTold_19 : decode cX10_dateTold 19 = .ok (.aload_n 0, 1) := by decide +kernel
theorem dX10_dateTold_20 : decode cX10_dateTold 20 = .ok (.iconst 1, 1) := by decide +kernel
theorem dX10_dateTold_21 : decode cX10_dateTold 21 = .ok (.bipush 12, 2) := by decide +kernel
theorem dX10_dateTold_23 : decode cX10_dateTold 23 = .ok (.invokevirtual 160, 3) := by decide +kernel
theorem dX10_dateTold_26 : decode cX10_dateTold 26 = .ok (.istore_n 2, 1) := by decide +kernel
theorem dX10_dateTold_27 : decode cX10_dateTold 27 = .ok (.aload_n 0, 1) := by decide +kernel
theorem dX10_dateTold_28 : decode cX10_dateTold 28 = .ok (.iconst 1, 1) := by decide +kernel
theorem dX10_dateTold_29 : decode cX10_dateTold 29 = .ok (.aload_n 0, 1) := by decide +kernel
theorem dX10_dateTold_30 : decode cX10_dateTold 30 = .ok (.getfield 83, 3) := by decide +kernel
theorem dX10_dateTold_33 : decode cX10_dateTold 33 = .ok (.ifCond .le 8, 3) := by decide +kernel
theorem dX10_dateTold_36 : decode cX10_dateTold 36 = .ok (.bipush 31, 2) := by decide +kernel
theorem dX10_dateTold_38 : decode cX10_dateTold 38 = .ok (.goto 8, 3) := by decide +kernel
theorem dX10_dateTold_41 : decode cX10_dateTold 41 = .ok (.iload_n 1, 1) := by decide +kernel
theorem dX10_dateTold_42 : decode cX10_dateTold 42 = .ok (.iload_n 2, 1) := by decide +kernel
theorem dX10_dateTold_43 : decode cX10_dateTold 43 = .ok (.invokestatic 56, 3) := by decide +kernel
theorem dX10_dateTold_46 : decode cX10_dateTold 46 = .ok (.invokevirtual 160, 3) := by decide +kernel
theorem dX10_dateTold_49 : decode cX10_dateTold 49 = .ok (.istore_n 3, 1) := by decide +kernel
theorem dX10_dateTold_50 : decode cX10_dateTold 50 = .ok (.aload_n 0, 1) := by decide +kernel
theorem dX10_dateTold_51 : decode cX10_dateTold 51 = .ok (.getfield 83, 3) := by decide +kernel
theorem dX10_dateTold_54 : decode cX10_dateTold 54 = .ok (.ifCond .le 7, 3) := by decide +kernel
theorem dX10_dateTold_57 : decode cX10_dateTold 57 = .ok (.iconst 0, 1) := by decide +kernel
theorem dX10_dateTold_58 : decode cX10_dateTold 58 = .ok (.goto 10, 3) := by decide +kernel
theorem dX10_dateTold_61 : decode cX10_dateTold 61 = .ok (.aload_n 0, 1) := by decide +kernel
theorem dX10_dateTold_62 : decode cX10_dateTold 62 = .ok (.iload_n 1, 1) := by decide +kernel
theorem dX10_dateTold_63 : decode cX10_dateTold 63 = .ok (.iload_n 2, 1) := by decide +kernel
theorem dX10_dateTold_64 : decode cX10_dateTold 64 = .ok (.iload_n 3, 1) := by decide +kernel
theorem dX10_dateTold_65 : decode cX10_dateTold 65 = .ok (.invokevirtual 163, 3) := by decide +kernel
theorem dX10_dateTold_68 : decode cX10_dateTold 68 = .ok (.ireturn, 1) := by decide +kernel
theorem dX10_ruleTold_0 : decode cX10_ruleTold 0 = .ok (.aload_n 0, 1) := by decide +kernel
theorem dX10_ruleTold_1 : decode cX10_ruleTold 1 = .ok (.getfield 45, 3) := by decide +kernel
theorem dX10_ruleTold_4 : decode cX10_ruleTold 4 = .ok (.bipush 6, 2) := by decide +kernel
theorem dX10_ruleTold_6 : decode cX10_ruleTold 6 = .ok (.iconst 0, 1) := by decide +kernel
theorem dX10_ruleTold_7 : decode cX10_ruleTold 7 = .ok (.iastore, 1) := by decide +kernel
theorem dX10_ruleTold_8 : decode cX10_ruleTold 8 = .ok (.aload_n 0, 1) := by decide +kernel
theorem dX10_ruleTold_9 : decode cX10_ruleTold 9 = .ok (.getfield 45, 3) := by decide +kernel
theorem dX10_ruleTold_12 : decode cX10_ruleTold 12 = .ok (.bipush 7, 2) := by decide +kernel
theorem dX10_ruleTold_14 : decode cX10_ruleTold 14 = .ok (.iconst (-1), 1) := by decide +kernel
theorem dX10_ruleTold_15 : decode cX10_ruleTold 15 = .ok (.iastore, 1) := by decide +kernel
theorem dX10_ruleTold_16 : decode cX10_ruleTold 16 = .ok (.aload_n 0, 1) := by decide +kernel
theorem dX10_ruleTold_17 : decode cX10_ruleTold 17 = .ok (.ldc 167, 2) := by decide +kernel
theorem dX10_ruleTold_19 : decode cX10_ruleTold 19 = .ok (.invokevirtual 129, 3) := by decide +kernel
theorem dX10_ruleTold_22 : decode cX10_ruleTold 22 = .ok (.ifCond .eq 22, 3) := by decide +kernel
theorem dX10_ruleTold_25 : decode cX10_ruleTold 25 = .ok (.aload_n 0, 1) := by decide +kernel
theorem dX10_ruleTold_26 : decode cX10_ruleTold 26 = .ok (.invokevirtual 137, 3) := by decide +kernel
theorem dX10_ruleTold_29 : decode cX10_ruleTold 29 = .ok (.aload_n 0, 1) := by decide +kernel
theorem dX10_ruleTold_30 : decode cX10_ruleTold 30 = .ok (.getfield 45, 3) := by decide +kernel
theorem dX10_ruleTold_33 : decode cX10_ruleTold 33 = .ok (.iconst 3, 1) := by decide +kernel
theorem dX10_ruleTold_34 : decode cX10_ruleTold 34 = .ok (.iconst 0, 1) := by decide +kernel
theorem dX10_ruleTold_35 : decode cX10_ruleTold 35 = .ok (.iastore, 1) := by decide +kernel
theorem dX10_ruleTold_36 : decode cX10_ruleTold 36 = .ok (.aload_n 0, 1) := by decide +kernel
theorem dX10_ruleTold_37 : decode cX10_ruleTold 37 = .ok (.getfield 45, 3) := by decide +kernel
theorem dX10_ruleTold_40 : decode cX10_ruleTold 40 = .ok (.iconst 4, 1) := by decide +kernel
theorem dX10_ruleTold_41 : decode cX10_ruleTold 41 = .ok (.iconst 0, 1) := by decide +kernel
theorem dX10_ruleTold_42 : decode cX10_ruleTold 42 = .ok (.iastore, 1) := by decide +kernel
theorem dX10_ruleTold_43 : decode cX10_ruleTold 43 = .ok (.return_, 1) := by decide +kernel
theorem dX10_ruleTold_44 : decode cX10_ruleTold 44 = .ok (.aload_n 0, 1) := by decide +kernel
theorem dX10_ruleTold_45 : decode cX10_ruleTold 45 = .ok (.ldc 169, 2) := by decide +kernel
theorem dX10_ruleTold_47 : decode cX10_ruleTold 47 = .ok (.invokevirtual 171, 3) := by decide +kernel
theorem dX10_ruleTold_50 : decode cX10_ruleTold 50 = .ok (.aload_n 0, 1) := by decide +kernel
theorem dX10_ruleTold_51 : decode cX10_ruleTold 51 = .ok (.getfield 45, 3) := by decide +kernel
theorem dX10_ruleTold_54 : decode cX10_ruleTold 54 = .ok (.iconst 4, 1) := by decide +kernel
theorem dX10_ruleTold_55 : decode cX10_ruleTold 55 = .ok (.aload_n 0, 1) := by decide +kernel
theorem dX10_ruleTold_56 : decode cX10_ruleTold 56 = .ok (.iconst 1, 1) := by decide +kernel
theorem dX10_ruleTold_57 : decode cX10_ruleTold 57 = .ok (.sipush 999, 3) := by decide +kernel
theorem dX10_ruleTold_60 : decode cX10_ruleTold 60 = .ok (.invokevirtual 160, 3) := by decide +kernel
theorem dX10_ruleTold_63 : decode cX10_ruleTold 63 = .ok (.iastore, 1) := by decide +kernel
theorem dX10_ruleTold_64 : decode cX10_ruleTold 64 = .ok (.aload_n 0, 1) := by decide +kernel
theorem dX10_ruleTold_65 : decode cX10_ruleTold 65 = .ok (.ldc 175, 2) := by decide +kernel
theorem dX10_ruleTold_67 : decode cX10_ruleTold 67 = .ok (.invokevirtual 129, 3) := by decide +kernel
theorem dX10_ruleTold_70 : decode cX10_ruleTold 70 = .ok (.ifCond .eq 17, 3) := by decide +kernel
theorem dX10_ruleTold_73 : decode cX10_ruleTold 73 = .ok (.aload_n 0, 1) := by decide +kernel
theorem dX10_ruleTold_74 : decode cX10_ruleTold 74 = .ok (.invokevirtual 137, 3) := by decide +kernel
theorem dX10_ruleTold_77 : decode cX10_ruleTold 77 = .ok (.aload_n 0, 1) := by decide +kernel
theorem dX10_ruleTold_78 : decode cX10_ruleTold 78 = .ok (.getfield 45, 3) := by decide +kernel
theorem dX10_ruleTold_81 : decode cX10_ruleTold 81 = .ok (.iconst 3, 1) := by decide +kernel
theorem dX10_ruleTold_82 : decode cX10_ruleTold 82 = .ok (.iconst 1, 1) := by decide +kernel
theorem dX10_ruleTold_83 : decode cX10_ruleTold 83 = .ok (.iastore, 1) := by decide +kernel
theorem dX10_ruleTold_84 : decode cX10_ruleTold 84 = .ok (.goto 72, 3) := by decide +kernel
theorem dX10_ruleTold_87 : decode cX10_ruleTold 87 = .ok (.aload_n 0, 1) := by decide +kernel
theorem dX10_ruleTold_88 : decode cX10_ruleTold 88 = .ok (.ldc 177, 2) := by decide +kernel
theorem dX10_ruleTold_90 : decode cX10_ruleTold 90 = .ok (.invokevirtual 129, 3) := by decide +kernel
theorem dX10_ruleTold_93 : decode cX10_ruleTold 93 = .ok (.ifCond .eq 14, 3) := by decide +kernel
theorem dX10_ruleTold_96 : decode cX10_ruleTold 96 = .ok (.aload_n 0, 1) := by decide +kernel
theorem dX10_ruleTold_97 : decode cX10_ruleTold 97 = .ok (.invokevirtual 137, 3) := by decide +kernel
theorem dX10_ruleTold_100 : decode cX10_ruleTold 100 = .ok (.aload_n 0, 1) := by decide +kernel
theorem dX10_ruleTold_101 : decode cX10_ruleTold 101 = .ok (.invokevirtual 179, 3) := by decide +kernel
theorem dX10_ruleTold_104 : decode cX10_ruleTold 104 = .ok (.goto 52, 3) := by decide +kernel
theorem dX10_ruleTold_107 : decode cX10_ruleTold 107 = .ok (.aload_n 0, 1) := by decide +kernel
theorem dX10_ruleTold_108 : decode cX10_ruleTold 108 = .ok (.ldc 182, 2) := by decide +kernel
theorem dX10_ruleTold_110 : decode cX10_ruleTold 110 = .ok (.invokevirtual 129, 3) := by decide +kernel
theorem dX10_ruleTold_113 : decode cX10_ruleTold 113 = .ok (.ifCond .eq 14, 3) := by decide +kernel
theorem dX10_ruleTold_116 : decode cX10_ruleTold 116 = .ok (.aload_n 0, 1) := by decide +kernel
theorem dX10_ruleTold_117 : decode cX10_ruleTold 117 = .ok (.invokevirtual 137, 3) := by decide +kernel
theorem dX10_ruleTold_120 : decode cX10_ruleTold 120 = .ok (.aload_n 0, 1) := by decide +kernel
theorem dX10_ruleTold_121 : decode cX10_ruleTold 121 = .ok (.invokevirtual 184, 3) := by decide +kernel
theorem dX10_ruleTold_124 : decode cX10_ruleTold 124 = .ok (.goto 32, 3) := by decide +kernel
theorem dX10_ruleTold_127 : decode cX10_ruleTold 127 = .ok (.aload_n 0, 1) := by decide +kernel
theorem dX10_ruleTold_128 : decode cX10_ruleTold 128 = .ok (.ldc 187, 2) := by decide +kernel
theorem dX10_ruleTold_130 : decode cX10_ruleTold 130 = .ok (.invokevirtual 129, 3) := by decide +kernel
theorem dX10_ruleTold_133 : decode cX10_ruleTold 133 = .ok (.ifCond .eq 18, 3) := by decide +kernel
theorem dX10_ruleTold_136 : decode cX10_ruleTold 136 = .ok (.aload_n 0, 1) := by decide +kernel
theorem dX10_ruleTold_137 : decode cX10_ruleTold 137 = .ok (.invokevirtual 137, 3) := by decide +kernel
theorem dX10_ruleTold_140 : decode cX10_ruleTold 140 = .ok (.aload_n 0, 1) := by decide +kernel
theorem dX10_ruleTold_141 : decode cX10_ruleTold 141 = .ok (.getfield 45, 3) := by decide +kernel
theorem dX10_ruleTold_144 : decode cX10_ruleTold 144 = .ok (.iconst 3, 1) := by decide +kernel
theorem dX10_ruleTold_145 : decode cX10_ruleTold 145 = .ok (.bipush 7, 2) := by decide +kernel
theorem dX10_ruleTold_147 : decode cX10_ruleTold 147 = .ok (.iastore, 1) := by decide +kernel
theorem dX10_ruleTold_148 : decode cX10_ruleTold 148 = .ok (.goto 8, 3) := by decide +kernel
theorem dX10_ruleTold_151 : decode cX10_ruleTold 151 = .ok (.aload_n 0, 1) := by decide +kernel
theorem dX10_ruleTold_152 : decode cX10_ruleTold 152 = .ok (.iconst 1, 1) := by decide +kernel
theorem dX10_ruleTold_153 : decode cX10_ruleTold 153 = .ok (.invokevirtual 133, 3) := by decide +kernel
theorem dX10_ruleTold_156 : decode cX10_ruleTold 156 = .ok (.return_, 1) := by decide +kernel
theorem dX10_weeksTold_0 : decode cX10_weeksTold 0 = .ok (.aload_n 0, 1) := by decide +kernel
theorem dX10_weeksTold_1 : decode cX10_weeksTold 1 = .ok (.getfield 45, 3) := by decide +kernel
theorem dX10_weeksTold_4 : decode cX10_weeksTold 4 = .ok (.iconst 3, 1) := by decide +kernel
theorem dX10_weeksTold_5 : decode cX10_weeksTold 5 = .ok (.iconst 2, 1) := by decide +kernel
theorem dX10_weeksTold_6 : decode cX10_weeksTold 6 = .ok (.iastore, 1) := by decide +kernel
theorem dX10_weeksTold_7 : decode cX10_weeksTold 7 = .ok (.iconst 0, 1) := by decide +kernel
theorem dX10_weeksTold_8 : decode cX10_weeksTold 8 = .ok (.istore_n 1, 1) := by decide +kernel
theorem dX10_weeksTold_9 : decode cX10_weeksTold 9 = .ok (.aload_n 0, 1) := by decide +kernel
theorem dX10_weeksTold_10 : decode cX10_weeksTold 10 = .ok (.invokevirtual 154, 3) := by decide +kernel
theorem dX10_weeksTold_13 : decode cX10_weeksTold 13 = .ok (.ifCond .ge 8, 3) := by decide +kernel
theorem dX10_weeksTold_16 : decode cX10_weeksTold 16 = .ok (.aload_n 0, 1) := by decide +kernel
theorem dX10_weeksTold_17 : decode cX10_weeksTold 17 = .ok (.iconst 1, 1) := by decide +kernel
theorem dX10_weeksTold_18 : decode cX10_weeksTold 18 = .ok (.invokevirtual 133, 3) := by decide +kernel
theorem dX10_weeksTold_21 : decode cX10_weeksTold 21 = .ok (.aload_n 0, 1) := by decide +kernel
theorem dX10_weeksTold_22 : decode cX10_weeksTold 22 = .ok (.invokevirtual 154, 3) := by decide +kernel
theorem dX10_weeksTold_25 : decode cX10_weeksTold 25 = .ok (.ifCond .lt 35, 3) := by decide +kernel
theorem dX10_weeksTold_28 : decode cX10_weeksTold 28 = .ok (.aload_n 0, 1) := by decide +kernel
theorem dX10_weeksTold_29 : decode cX10_weeksTold 29 = .ok (.invokevirtual 154, 3) := by decide +kernel
theorem dX10_weeksTold_32 : decode cX10_weeksTold 32 = .ok (.istore_n 2, 1) := by decide +kernel
theorem dX10_weeksTold_33 : decode cX10_weeksTold 33 = .ok (.iload_n 1, 1) := by decide +kernel
theorem dX10_weeksTold_34 : decode cX10_weeksTold 34 = .ok (.iload_n 2, 1) := by decide +kernel
theorem dX10_weeksTold_35 : decode cX10_weeksTold 35 = .ok (.ishr, 1) := by decide +kernel
theorem dX10_weeksTold_36 : decode cX10_weeksTold 36 = .ok (.iconst 1, 1) := by decide +kernel
theorem dX10_weeksTold_37 : decode cX10_weeksTold 37 = .ok (.iand, 1) := by decide +kernel
theorem dX10_weeksTold_38 : decode cX10_weeksTold 38 = .ok (.iconst 1, 1) := by decide +kernel
theorem dX10_weeksTold_39 : decode cX10_weeksTold 39 = .ok (.if_icmp .ne 8, 3) := by decide +kernel
theorem dX10_weeksTold_42 : decode cX10_weeksTold 42 = .ok (.aload_n 0, 1) := by decide +kernel
theorem dX10_weeksTold_43 : decode cX10_weeksTold 43 = .ok (.iconst 2, 1) := by decide +kernel
theorem dX10_weeksTold_44 : decode cX10_weeksTold 44 = .ok (.invokevirtual 133, 3) := by decide +kernel
theorem dX10_weeksTold_47 : decode cX10_weeksTold 47 = .ok (.iload_n 1, 1) := by decide +kernel
theorem dX10_weeksTold_48 : decode cX10_weeksTold 48 = .ok (.iconst 1, 1) := by decide +kernel
theorem dX10_weeksTold_49 : decode cX10_weeksTold 49 = .ok (.iload_n 2, 1) := by decide +kernel
theorem dX10_weeksTold_50 : decode cX10_weeksTold 50 = .ok (.ishl, 1) := by decide +kernel
theorem dX10_weeksTold_51 : decode cX10_weeksTold 51 = .ok (.ior, 1) := by decide +kernel
theorem dX10_weeksTold_52 : decode cX10_weeksTold 52 = .ok (.istore_n 1, 1) := by decide +kernel
theorem dX10_weeksTold_53 : decode cX10_weeksTold 53 = .ok (.aload_n 0, 1) := by decide +kernel
theorem dX10_weeksTold_54 : decode cX10_weeksTold 54 = .ok (.invokevirtual 137, 3) := by decide +kernel
theorem dX10_weeksTold_57 : decode cX10_weeksTold 57 = .ok (.goto (-36), 3) := by decide +kernel
theorem dX10_weeksTold_60 : decode cX10_weeksTold 60 = .ok (.aload_n 0, 1) := by decide +kernel
theorem dX10_weeksTold_61 : decode cX10_weeksTold 61 = .ok (.getfield 45, 3) := by decide +kernel
theorem dX10_weeksTold_64 : decode cX10_weeksTold 64 = .ok (.bipush 6, 2) := by decide +kernel
theorem dX10_weeksTold_66 : decode cX10_weeksTold 66 = .ok (.iload_n 1, 1) := by decide +kernel
theorem dX10_weeksTold_67 : decode cX10_weeksTold 67 = .ok (.iastore, 1) := by decide +kernel
theorem dX10_weeksTold_68 : decode cX10_weeksTold 68 = .ok (.return_, 1) := by decide +kernel
theorem dX10_monthsTold_0 : decode cX10_monthsTold 0 = .ok (.aload_n 0, 1) := by decide +kernel
theorem dX10_monthsTold_1 : decode cX10_monthsTold 1 = .ok (.ldc 189, 2) := by decide +kernel
theorem dX10_monthsTold_3 : decode cX10_monthsTold 3 = .ok (.invokevirtual 129, 3) := by decide +kernel
theorem dX10_monthsTold_6 : decode cX10_monthsTold 6 = .ok (.ifCond .eq 31, 3) := by decide +kernel
theorem dX10_monthsTold_9 : decode cX10_monthsTold 9 = .ok (.aload_n 0, 1) := by decide +kernel
theorem dX10_monthsTold_10 : decode cX10_monthsTold 10 = .ok (.invokevirtual 137, 3) := by decide +kernel
theorem dX10_monthsTold_13 : decode cX10_monthsTold 13 = .ok (.aload_n 0, 1) := by decide +kernel
theorem dX10_monthsTold_14 : decode cX10_monthsTold 14 = .ok (.getfield 45, 3) := by decide +kernel
theorem dX10_monthsTold_17 : decode cX10_monthsTold 17 = .ok (.iconst 3, 1) := by decide +kernel
theorem dX10_monthsTold_18 : decode cX10_monthsTold 18 = .ok (.iconst 3, 1) := by decide +kernel
theorem dX10_monthsTold_19 : decode cX10_monthsTold 19 = .ok (.iastore, 1) := by decide +kernel
theorem dX10_monthsTold_20 : decode cX10_monthsTold 20 = .ok (.aload_n 0, 1) := by decide +kernel
theorem dX10_monthsTold_21 : decode cX10_monthsTold 21 = .ok (.getfield 45, 3) := by decide +kernel
theorem dX10_monthsTold_24 : decode cX10_monthsTold 24 = .ok (.bipush 6, 2) := by decide +kernel
theorem dX10_monthsTold_26 : decode cX10_monthsTold 26 = .ok (.aload_n 0, 1) := by decide +kernel
theorem dX10_monthsTold_27 : decode cX10_monthsTold 27 = .ok (.iconst 1, 1) := by decide +kernel
theorem dX10_monthsTold_28 : decode cX10_monthsTold 28 = .ok (.bipush 31, 2) := by decide +kernel
theorem dX10_monthsTold_30 : decode cX10_monthsTold 30 = .ok (.invokevirtual 160, 3) := by decide +kernel
theorem dX10_monthsTold_33 : decode cX10_monthsTold 33 = .ok (.iastore, 1) := by decide +kernel
theorem dX10_monthsTold_34 : decode cX10_monthsTold 34 = .ok (.goto 127, 3) := by decide +kernel
theorem dX10_monthsTold_37 : decode cX10_monthsTold 37 = .ok (.aload_n 0, 1) := by decide +kernel
theorem dX10_monthsTold_38 : decode cX10_monthsTold 38 = .ok (.ldc 191, 2) := by decide +kernel
theorem dX10_monthsTold_40 : decode cX10_monthsTold 40 = .ok (.invokevirtual 129, 3) := by decide +kernel
theorem dX10_monthsTold_43 : decode cX10_monthsTold 43 = .ok (.ifCond .eq 31, 3) := by decide +kernel
theorem dX10_monthsTold_46 : decode cX10_monthsTold 46 = .ok (.aload_n 0, 1) := by decide +kernel
theorem dX10_monthsTold_47 : decode cX10_monthsTold 47 = .ok (.invokevirtual 137, 3) := by decide +kernel
theorem dX10_monthsTold_50 : decode cX10_monthsTold 50 = .ok (.aload_n 0, 1) := by decide +kernel
theorem dX10_monthsTold_51 : decode cX10_monthsTold 51 = .ok (.getfield 45, 3) := by decide +kernel
theorem dX10_monthsTold_54 : decode cX10_monthsTold 54 = .ok (.iconst 3, 1) := by decide +kernel
theorem dX10_monthsTold_55 : decode cX10_monthsTold 55 = .ok (.iconst 4, 1) := by decide +kernel
theorem dX10_monthsTold_56 : decode cX10_monthsTold 56 = .ok (.iastore, 1) := by decide +kernel
theorem dX10_monthsTold_57 : decode cX10_monthsTold 57 = .ok (.aload_n 0, 1) := by decide +kernel
theorem dX10_monthsTold_58 : decode cX10_monthsTold 58 = .ok (.getfield 45, 3) := by decide +kernel
theorem dX10_monthsTold_61 : decode cX10_monthsTold 61 = .ok (.bipush 6, 2) := by decide +kernel
theorem dX10_monthsTold_63 : decode cX10_monthsTold 63 = .ok (.aload_n 0, 1) := by decide +kernel
theorem dX10_monthsTold_64 : decode cX10_monthsTold 64 = .ok (.iconst 1, 1) := by decide +kernel
theorem dX10_monthsTold_65 : decode cX10_monthsTold 65 = .ok (.bipush 28, 2) := by decide +kernel
theorem dX10_monthsTold_67 : decode cX10_monthsTold 67 = .ok (.invokevirtual 160, 3) := by decide +kernel
theorem dX10_monthsTold_70 : decode cX10_monthsTold 70 = .ok (.iastore, 1) := by decide +kernel
theorem dX10_monthsTold_71 : decode cX10_monthsTold 71 = .ok (.goto 90, 3) := by decide +kernel
theorem dX10_monthsTold_74 : decode cX10_monthsTold 74 = .ok (.aload_n 0, 1) := by decide +kernel
theorem dX10_monthsTold_75 : decode cX10_monthsTold 75 = .ok (.ldc 193, 2) := by decide +kernel
theorem dX10_monthsTold_77 : decode cX10_monthsTold 77 = .ok (.invokevirtual 129, 3) := by decide +kernel
theorem dX10_monthsTold_80 : decode cX10_monthsTold 80 = .ok (.ifCond .eq 41, 3) := by decide +kernel
theorem dX10_monthsTold_83 : decode cX10_monthsTold 83 = .ok (.aload_n 0, 1) := by decide +kernel
theorem dX10_monthsTold_84 : decode cX10_monthsTold 84 = .ok (.invokevirtual 137, 3) := by decide +kernel
theorem dX10_monthsTold_87 : decode cX10_monthsTold 87 = .ok (.aload_n 0, 1) := by decide +kernel
theorem dX10_monthsTold_88 : decode cX10_monthsTold 88 = .ok (.getfield 45, 3) := by decide +kernel
theorem dX10_monthsTold_91 : decode cX10_monthsTold 91 = .ok (.iconst 3, 1) := by decide +kernel
theorem dX10_monthsTold_92 : decode cX10_monthsTold 92 = .ok (.iconst 5, 1) := by decide +kernel
theorem dX10_monthsTold_93 : decode cX10_monthsTold 93 = .ok (.iastore, 1) := by decide +kernel
theorem dX10_monthsTold_94 : decode cX10_monthsTold 94 = .ok (.aload_n 0, 1) := by decide +kernel
theorem dX10_monthsTold_95 : decode cX10_monthsTold 95 = .ok (.getfield 45, 3) := by decide +kernel
theorem dX10_monthsTold_98 : decode cX10_monthsTold 98 = .ok (.bipush 6, 2) := by decide +kernel
theorem dX10_monthsTold_100 : decode cX10_monthsTold 100 = .ok (.aload_n 0, 1) := by decide +kernel
theorem dX10_monthsTold_101 : decode cX10_monthsTold 101 = .ok (.iconst 1, 1) := by decide +kernel
theorem dX10_monthsTold_102 : decode cX10_monthsTold 102 = .ok (.iconst 5, 1) := by decide +kernel
theorem dX10_monthsTold_103 : decode cX10_monthsTold 103 = .ok (.invokevirtual 160, 3) := by decide +kernel
theorem dX10_monthsTold_106 : decode cX10_monthsTold 106 = .ok (.iastore, 1) := by decide +kernel
theorem dX10_monthsTold_107 : decode cX10_monthsTold 107 = .ok (.aload_n 0, 1) := by decide +kernel
theorem dX10_monthsTold_108 : decode cX10_monthsTold 108 = .ok (.getfield 45, 3) := by decide +kernel
theorem dX10_monthsTold_111 : decode cX10_monthsTold 111 = .ok (.bipush 7, 2) := by decide +kernel
theorem dX10_monthsTold_113 : decode cX10_monthsTold 113 = .ok (.aload_n 0, 1) := by decide +kernel
theorem dX10_monthsTold_114 : decode cX10_monthsTold 114 = .ok (.invokevirtual 195, 3) := by decide +kernel
theorem dX10_monthsTold_117 : decode cX10_monthsTold 117 = .ok (.iastore, 1) := by decide +kernel
theorem dX10_monthsTold_118 : decode cX10_monthsTold 118 = .ok (.goto 43, 3) := by decide +kernel
theorem dX10_monthsTold_121 : decode cX10_monthsTold 121 = .ok (.aload_n 0, 1) := by decide +kernel
theorem dX10_monthsTold_122 : decode cX10_monthsTold 122 = .ok (.ldc 198, 2) := by decide +kernel
theorem dX10_monthsTold_124 : decode cX10_monthsTold 124 = .ok (.invokevirtual 129, 3) := by decide +kernel
theorem dX10_monthsTold_127 : decode cX10_monthsTold 127 = .ok (.ifCond .eq 29, 3) := by decide +kernel
theorem dX10_monthsTold_130 : decode cX10_monthsTold 130 = .ok (.aload_n 0, 1) := by decide +kernel
theorem dX10_monthsTold_131 : decode cX10_monthsTold 131 = .ok (.invokevirtual 137, 3) := by decide +kernel
theorem dX10_monthsTold_134 : decode cX10_monthsTold 134 = .ok (.aload_n 0, 1) := by decide +kernel
theorem dX10_monthsTold_135 : decode cX10_monthsTold 135 = .ok (.getfield 45, 3) := by decide +kernel
theorem dX10_monthsTold_138 : decode cX10_monthsTold 138 = .ok (.iconst 3, 1) := by decide +kernel
theorem dX10_monthsTold_139 : decode cX10_monthsTold 139 = .ok (.bipush 6, 2) := by decide +kernel
theorem dX10_monthsTold_141 : decode cX10_monthsTold 141 = .ok (.iastore, 1) := by decide +kernel
theorem dX10_monthsTold_142 : decode cX10_monthsTold 142 = .ok (.aload_n 0, 1) := by decide +kernel
theorem dX10_monthsTold_143 : decode cX10_monthsTold 143 = .ok (.getfield 45, 3) := by decide +kernel
theorem dX10_monthsTold_146 : decode cX10_monthsTold 146 = .ok (.bipush 6, 2) := by decide +kernel
theorem dX10_monthsTold_148 : decode cX10_monthsTold 148 = .ok (.aload_n 0, 1) := by decide +kernel
theorem dX10_monthsTold_149 : decode cX10_monthsTold 149 = .ok (.invokevirtual 195, 3) := by decide +kernel
theorem dX10_monthsTold_152 : decode cX10_monthsTold 152 = .ok (.iastore, 1) := by decide +kernel
theorem dX10_monthsTold_153 : decode cX10_monthsTold 153 = .ok (.goto 8, 3) := by decide +kernel
theorem dX10_monthsTold_156 : decode cX10_monthsTold 156 = .ok (.aload_n 0, 1) := by decide +kernel
theorem dX10_monthsTold_157 : decode cX10_monthsTold 157 = .ok (.iconst 1, 1) := by decide +kernel
theorem dX10_monthsTold_158 : decode cX10_monthsTold 158 = .ok (.invokevirtual 133, 3) := by decide +kernel
theorem dX10_monthsTold_161 : decode cX10_monthsTold 161 = .ok (.return_, 1) := by decide +kernel
theorem dX10_endTold_0 : decode cX10_endTold 0 = .ok (.aload_n 0, 1) := by decide +kernel
theorem dX10_endTold_1 : decode cX10_endTold 1 = .ok (.getfield 45, 3) := by decide +kernel
theorem dX10_endTold_4 : decode cX10_endTold 4 = .ok (.bipush 8, 2) := by decide +kernel
theorem dX10_endTold_6 : decode cX10_endTold 6 = .ok (.iconst (-1), 1) := by decide +kernel
theorem dX10_endTold_7 : decode cX10_endTold 7 = .ok (.iastore, 1) := by decide +kernel
theorem dX10_endTold_8 : decode cX10_endTold 8 = .ok (.aload_n 0, 1) := by decide +kernel
theorem dX10_endTold_9 : decode cX10_endTold 9 = .ok (.getfield 45, 3) := by decide +kernel
theorem dX10_endTold_12 : decode cX10_endTold 12 = .ok (.bipush 9, 2) := by decide +kernel
theorem dX10_endTold_14 : decode cX10_endTold 14 = .ok (.iconst (-1), 1) := by decide +kernel
theorem dX10_endTold_15 : decode cX10_endTold 15 = .ok (.iastore, 1) := by decide +kernel
theorem dX10_endTold_16 : decode cX10_endTold 16 = .ok (.aload_n 0, 1) := by decide +kernel
theorem dX10_endTold_17 : decode cX10_endTold 17 = .ok (.ldc 200, 2) := by decide +kernel
theorem dX10_endTold_19 : decode cX10_endTold 19 = .ok (.invokevirtual 129, 3) := by decide +kernel
theorem dX10_endTold_22 : decode cX10_endTold 22 = .ok (.ifCond .eq 57, 3) := by decide +kernel
theorem dX10_endTold_25 : decode cX10_endTold 25 = .ok (.aload_n 0, 1) := by decide +kernel
theorem dX10_endTold_26 : decode cX10_endTold 26 = .ok (.invokevirtual 137, 3) := by decide +kernel
theorem dX10_endTold_29 : decode cX10_endTold 29 = .ok (.aload_n 0, 1) := by decide +kernel
theorem dX10_endTold_30 : decode cX10_endTold 30 = .ok (.getfield 45, 3) := by decide +kernel
theorem dX10_endTold_33 : decode cX10_endTold 33 = .ok (.bipush 8, 2) := by decide +kernel
theorem dX10_endTold_35 : decode cX10_endTold 35 = .ok (.aload_n 0, 1) := by decide +kernel
theorem dX10_endTold_36 : decode cX10_endTold 36 = .ok (.invokevirtual 202, 3) := by decide +kernel
theorem dX10_endTold_39 : decode cX10_endTold 39 = .ok (.iastore, 1) := by decide +kernel
theorem dX10_endTold_40 : decode cX10_endTold 40 = .ok (.aload_n 0, 1) := by decide +kernel
theorem dX10_endTold_41 : decode cX10_endTold 41 = .ok (.getfield 83, 3) := by decide +kernel
theorem dX10_endTold_44 : decode cX10_endTold 44 = .ok (.ifCond .ne 63, 3) := by decide +kernel
theorem dX10_endTold_47 : decode cX10_endTold 47 = .ok (.aload_n 0, 1) := by decide +kernel
theorem dX10_endTold_48 : decode cX10_endTold 48 = .ok (.getfield 45, 3) := by decide +kernel
theorem dX10_endTold_51 : decode cX10_endTold 51 = .ok (.bipush 8, 2) := by decide +kernel
theorem dX10_endTold_53 : decode cX10_endTold 53 = .ok (.iaload, 1) := by decide +kernel
theorem dX10_endTold_54 : decode cX10_endTold 54 = .ok (.aload_n 0, 1) := by decide +kernel
theorem dX10_endTold_55 : decode cX10_endTold 55 = .ok (.getfield 45, 3) := by decide +kernel
theorem dX10_endTold_58 : decode cX10_endTold 58 = .ok (.iconst 5, 1) := by decide +kernel
theorem dX10_endTold_59 : decode cX10_endTold 59 = .ok (.iaload, 1) := by decide +kernel
theorem dX10_endTold_60 : decode cX10_endTold 60 = .ok (.if_icmp .ge 47, 3) := by decide +kernel
theorem dX10_endTold_63 : decode cX10_endTold 63 = .ok (.aload_n 0, 1) := by decide +kernel
theorem dX10_endTold_64 : decode cX10_endTold 64 = .ok (.bipush 8, 2) := by decide +kernel
theorem dX10_endTold_66 : decode cX10_endTold 66 = .ok (.aload_n 0, 1) := by decide +kernel
theorem dX10_endTold_67 : decode cX10_endTold 67 = .ok (.getfield 157, 3) := by decide +kernel
theorem dX10_endTold_70 : decode cX10_endTold 70 = .ok (.imul, 1) := by decide +kernel
theorem dX10_endTold_71 : decode cX10_endTold 71 = .ok (.iconst 3, 1) := by decide +kernel
theorem dX10_endTold_72 : decode cX10_endTold 72 = .ok (.iadd, 1) := by decide +kernel
theorem dX10_endTold_73 : decode cX10_endTold 73 = .ok (.putfield 83, 3) := by decide +kernel
theorem dX10_endTold_76 : decode cX10_endTold 76 = .ok (.goto 31, 3) := by decide +kernel
theorem dX10_endTold_79 : decode cX10_endTold 79 = .ok (.aload_n 0, 1) := by decide +kernel
theorem dX10_endTold_80 : decode cX10_endTold 80 = .ok (.ldc 205, 2) := by decide +kernel
theorem dX10_endTold_82 : decode cX10_endTold 82 = .ok (.invokevirtual 129, 3) := by decide +kernel
theorem dX10_endTold_85 : decode cX10_endTold 85 = .ok (.ifCond .eq 22, 3) := by decide +kernel
theorem dX10_endTold_88 : decode cX10_endTold 88 = .ok (.aload_n 0, 1) := by decide +kernel
theorem dX10_endTold_89 : decode cX10_endTold 89 = .ok (.invokevirtual 137, 3) := by decide +kernel
theorem dX10_endTold_92 : decode cX10_endTold 92 = .ok (.aload_n 0, 1) := by decide +kernel
theorem dX10_endTold_93 : decode cX10_endTold 93 = .ok (.getfield 45, 3) := by decide +kernel
theorem dX10_endTold_96 : decode cX10_endTold 96 = .ok (.bipush 9, 2) := by decide +kernel
theorem dX10_endTold_98 : decode cX10_endTold 98 = .ok (.aload_n 0, 1) := by decide +kernel
theorem dX10_endTold_99 : decode cX10_endTold 99 = .ok (.iconst 1, 1) := by decide +kernel
theorem dX10_endTold_100 : decode cX10_endTold 100 = .ok (.sipush 999, 3) := by decide +kernel
theorem dX10_endTold_103 : decode cX10_endTold 103 = .ok (.invokevirtual 160, 3) := by decide +kernel
theorem dX10_endTold_106 : decode cX10_endTold 106 = .ok (.iastore, 1) := by decide +kernel
theorem dX10_endTold_107 : decode cX10_endTold 107 = .ok (.aload_n 0, 1) := by decide +kernel
theorem dX10_endTold_108 : decode cX10_endTold 108 = .ok (.getfield 83, 3) := by decide +kernel
theorem dX10_endTold_111 : decode cX10_endTold 111 = .ok (.ifCond .ne 15, 3) := by decide +kernel
theorem dX10_endTold_114 : decode cX10_endTold 114 = .ok (.aload_n 0, 1) := by decide +kernel
theorem dX10_endTold_115 : decode cX10_endTold 115 = .ok (.getfield 96, 3) := by decide +kernel
theorem dX10_endTold_118 : decode cX10_endTold 118 = .ok (.ifCond .eq 8, 3) := by decide +kernel
theorem dX10_endTold_121 : decode cX10_endTold 121 = .ok (.aload_n 0, 1) := by decide +kernel
theorem dX10_endTold_122 : decode cX10_endTold 122 = .ok (.iconst 1, 1) := by decide +kernel
theorem dX10_endTold_123 : decode cX10_endTold 123 = .ok (.invokevirtual 133, 3) := by decide +kernel
theorem dX10_endTold_126 : decode cX10_endTold 126 = .ok (.return_, 1) := by decide +kernel
theorem dX10_book_0 : decode cX10_book 0 = .ok (.aload_n 0, 1) := by decide +kernel
theorem dX10_book_1 : decode cX10_book 1 = .ok (.iconst 0, 1) := by decide +kernel
theorem dX10_book_2 : decode cX10_book 2 = .ok (.putfield 60, 3) := by decide +kernel
theorem dX10_book_5 : decode cX10_book 5 = .ok (.aload_n 0, 1) := by decide +kernel
theorem dX10_book_6 : decode cX10_book 6 = .ok (.aload_n 0, 1) := by decide +kernel
theorem dX10_book_7 : decode cX10_book 7 = .ok (.getfield 73, 3) := by decide +kernel
theorem dX10_book_10 : decode cX10_book 10 = .ok (.putfield 80, 3) := by decide +kernel
theorem dX10_book_13 : decode cX10_book 13 = .ok (.aload_n 0, 1) := by decide +kernel
theorem dX10_book_14 : decode cX10_book 14 = .ok (.iconst 0, 1) := by decide +kernel
theorem dX10_book_15 : decode cX10_book 15 = .ok (.putfield 73, 3) := by decide +kernel
theorem dX10_book_18 : decode cX10_book 18 = .ok (.aload_n 0, 1) := by decide +kernel
theorem dX10_book_19 : decode cX10_book 19 = .ok (.getfield 80, 3) := by decide +kernel
theorem dX10_book_22 : decode cX10_book 22 = .ok (.sipush 160, 3) := by decide +kernel
theorem dX10_book_25 : decode cX10_book 25 = .ok (.if_icmp .gt 12, 3) := by decide +kernel
theorem dX10_book_28 : decode cX10_book 28 = .ok (.aload_n 0, 1) := by decide +kernel
theorem dX10_book_29 : decode cX10_book 29 = .ok (.getfield 70, 3) := by decide +kernel
theorem dX10_book_32 : decode cX10_book 32 = .ok (.bipush 12, 2) := by decide +kernel
theorem dX10_book_34 : decode cX10_book 34 = .ok (.if_icmp .ne 5, 3) := by decide +kernel
theorem dX10_book_37 : decode cX10_book 37 = .ok (.iconst (-1), 1) := by decide +kernel
theorem dX10_book_38 : decode cX10_book 38 = .ok (.ireturn, 1) := by decide +kernel
theorem dX10_book_39 : decode cX10_book 39 = .ok (.aload_n 0, 1) := by decide +kernel
theorem dX10_book_40 : decode cX10_book 40 = .ok (.iconst 0, 1) := by decide +kernel
theorem dX10_book_41 : decode cX10_book 41 = .ok (.putfield 83, 3) := by decide +kernel
theorem dX10_book_44 : decode cX10_book 44 = .ok (.aload_n 0, 1) := by decide +kernel
theorem dX10_book_45 : decode cX10_book 45 = .ok (.iconst 0, 1) := by decide +kernel
theorem dX10_book_46 : decode cX10_book 46 = .ok (.putfield 86, 3) := by decide +kernel
theorem dX10_book_49 : decode cX10_book 49 = .ok (.aload_n 0, 1) := by decide +kernel
theorem dX10_book_50 : decode cX10_book 50 = .ok (.invokevirtual 137, 3) := by decide +kernel
theorem dX10_book_53 : decode cX10_book 53 = .ok (.aload_n 0, 1) := by decide +kernel
theorem dX10_book_54 : decode cX10_book 54 = .ok (.ldc 206, 2) := by decide +kernel
theorem dX10_book_56 : decode cX10_book 56 = .ok (.invokevirtual 171, 3) := by decide +kernel
theorem dX10_book_59 : decode cX10_book 59 = .ok (.aload_n 0, 1) := by decide +kernel
theorem dX10_book_60 : decode cX10_book 60 = .ok (.getfield 45, 3) := by decide +kernel
theorem dX10_book_63 : decode cX10_book 63 = .ok (.iconst 0, 1) := by decide +kernel
theorem dX10_book_64 : decode cX10_book 64 = .ok (.aload_n 0, 1) := by decide +kernel
theorem dX10_book_65 : decode cX10_book 65 = .ok (.iconst 0, 1) := by decide +kernel
theorem dX10_book_66 : decode cX10_book 66 = .ok (.bipush 7, 2) := by decide +kernel
theorem dX10_book_68 : decode cX10_book 68 = .ok (.invokevirtual 160, 3) := by decide +kernel
theorem dX10_book_71 : decode cX10_book 71 = .ok (.iastore, 1) := by decide +kernel
theorem dX10_book_72 : decode cX10_book 72 = .ok (.aload_n 0, 1) := by decide +kernel
theorem dX10_book_73 : decode cX10_book 73 = .ok (.ldc 208, 2) := by decide +kernel
theorem dX10_book_75 : decode cX10_book 75 = .ok (.invokevirtual 171, 3) := by decide +kernel
theorem dX10_book_78 : decode cX10_book 78 = .ok (.aload_n 0, 1) := by decide +kernel
theorem dX10_book_79 : decode cX10_book 79 = .ok (.getfield 45, 3) := by decide +kernel
theorem dX10_book_82 : decode cX10_book 82 = .ok (.iconst 1, 1) := by decide +kernel
theorem dX10_book_83 : decode cX10_book 83 = .ok (.aload_n 0, 1) := by decide +kernel
theorem dX10_book_84 : decode cX10_book 84 = .ok (.iconst 0, 1) := by decide +kernel
theorem dX10_book_85 : decode cX10_book 85 = .ok (.sipush 1439, 3) := by decide +kernel
theorem dX10_book_88 : decode cX10_book 88 = .ok (.invokevirtual 160, 3) := by decide +kernel
theorem dX10_book_91 : decode cX10_book 91 = .ok (.iastore, 1) := by decide +kernel
theorem dX10_book_92 : decode cX10_book 92 = .ok (.aload_n 0, 1) := by decide +kernel
theorem dX10_book_93 : decode cX10_book 93 = .ok (.ldc 210, 2) := by decide +kernel
theorem dX10_book_95 : decode cX10_book 95 = .ok (.invokevirtual 171, 3) := by decide +kernel
theorem dX10_book_98 : decode cX10_book 98 = .ok (.aload_n 0, 1) := by decide +kernel
theorem dX10_book_99 : decode cX10_book 99 = .ok (.getfield 45, 3) := by decide +kernel
theorem dX10_book_102 : decode cX10_book 102 = .ok (.iconst 2, 1) := by decide +kernel
theorem dX10_book_103 : decode cX10_book 103 = .ok (.aload_n 0, 1) := by decide +kernel
theorem dX10_book_104 : decode cX10_book 104 = .ok (.iconst 1, 1) := by decide +kernel
theorem dX10_book_105 : decode cX10_book 105 = .ok (.sipush 4320, 3) := by decide +kernel
theorem dX10_book_108 : decode cX10_book 108 = .ok (.invokevirtual 160, 3) := by decide +kernel
theorem dX10_book_111 : decode cX10_book 111 = .ok (.iastore, 1) := by decide +kernel
theorem dX10_book_112 : decode cX10_book 112 = .ok (.aload_n 0, 1) := by decide +kernel
theorem dX10_book_113 : decode cX10_book 113 = .ok (.getfield 83, 3) := by decide +kernel
theorem dX10_book_116 : decode cX10_book 116 = .ok (.ifCond .ne 7, 3) := by decide +kernel
theorem dX10_book_119 : decode cX10_book 119 = .ok (.aload_n 0, 1) := by decide +kernel
theorem dX10_book_120 : decode cX10_book 120 = .ok (.invokevirtual 212, 3) := by decide +kernel
theorem dX10_book_123 : decode cX10_book 123 = .ok (.aload_n 0, 1) := by decide +kernel
theorem dX10_book_124 : decode cX10_book 124 = .ok (.ldc 215, 2) := by decide +kernel
theorem dX10_book_126 : decode cX10_book 126 = .ok (.invokevirtual 171, 3) := by decide +kernel
theorem dX10_book_129 : decode cX10_book 129 = .ok (.aload_n 0, 1) := by decide +kernel
theorem dX10_book_130 : decode cX10_book 130 = .ok (.getfield 45, 3) := by decide +kernel
theorem dX10_book_133 : decode cX10_book 133 = .ok (.iconst 5, 1) := by decide +kernel
theorem dX10_book_134 : decode cX10_book 134 = .ok (.aload_n 0, 1) := by decide +kernel
theorem dX10_book_135 : decode cX10_book 135 = .ok (.invokevirtual 202, 3) := by decide +kernel
theorem dX10_book_138 : decode cX10_book 138 = .ok (.iastore, 1) := by decide +kernel
theorem dX10_book_139 : decode cX10_book 139 = .ok (.aload_n 0, 1) := by decide +kernel
theorem dX10_book_140 : decode cX10_book 140 = .ok (.invokevirtual 217, 3) := by decide +kernel
theorem dX10_book_143 : decode cX10_book 143 = .ok (.aload_n 0, 1) := by decide +kernel
theorem dX10_book_144 : decode cX10_book 144 = .ok (.getfield 83, 3) := by decide +kernel
theorem dX10_book_147 : decode cX10_book 147 = .ok (.ifCond .le 11, 3) := by decide +kernel
theorem dX10_book_150 : decode cX10_book 150 = .ok (.bipush (-2), 2) := by decide +kernel
theorem dX10_book_152 : decode cX10_book 152 = .ok (.aload_n 0, 1) := by decide +kernel
theorem dX10_book_153 : decode cX10_book 153 = .ok (.getfield 83, 3) := by decide +kernel
theorem dX10_book_156 : decode cX10_book 156 = .ok (.isub, 1) := by decide +kernel
theorem dX10_book_157 : decode cX10_book 157 = .ok (.ireturn, 1) := by decide +kernel
theorem dX10_book_158 : decode cX10_book 158 = .ok (.aload_n 0, 1) := by decide +kernel
theorem dX10_book_159 : decode cX10_book 159 = .ok (.getfield 45, 3) := by decide +kernel
theorem dX10_book_162 : decode cX10_book 162 = .ok (.bipush 10, 2) := by decide +kernel
theorem dX10_book_164 : decode cX10_book 164 = .ok (.aload_n 0, 1) := by decide +kernel
theorem dX10_book_165 : decode cX10_book 165 = .ok (.getfield 45, 3) := by decide +kernel
theorem dX10_book_168 : decode cX10_book 168 = .ok (.iconst 5, 1) := by decide +kernel
theorem dX10_book_169 : decode cX10_book 169 = .ok (.iaload, 1) := by decide +kernel
theorem dX10_book_170 : decode cX10_book 170 = .ok (.iastore, 1) := by decide +kernel
theorem dX10_book_171 : decode cX10_book 171 = .ok (.aload_n 0, 1) := by decide +kernel
theorem dX10_book_172 : decode cX10_book 172 = .ok (.getfield 45, 3) := by decide +kernel
theorem dX10_book_175 : decode cX10_book 175 = .ok (.bipush 11, 2) := by decide +kernel
theorem dX10_book_177 : decode cX10_book 177 = .ok (.iconst 0, 1) := by decide +kernel
theorem dX10_book_178 : decode cX10_book 178 = .ok (.iastore, 1) := by decide +kernel
theorem dX10_book_179 : decode cX10_book 179 = .ok (.iconst 0, 1) := by decide +kernel
theorem dX10_book_180 : decode cX10_book 180 = .ok (.istore_n 1, 1) := by decide +kernel
theorem dX10_book_181 : decode cX10_book 181 = .ok (.iload_n 1, 1) := by decide +kernel
theorem dX10_book_182 : decode cX10_book 182 = .ok (.bipush 44, 2) := by decide +kernel
theorem dX10_book_184 : decode cX10_book 184 = .ok (.if_icmp .ge 29, 3) := by decide +kernel
theorem dX10_book_187 : decode cX10_book 187 = .ok (.aload_n 0, 1) := by decide +kernel
theorem dX10_book_188 : decode cX10_book 188 = .ok (.getfield 23, 3) := by decide +kernel
theorem dX10_book_191 : decode cX10_book 191 = .ok (.bipush 44, 2) := by decide +kernel
theorem dX10_book_193 : decode cX10_book 193 = .ok (.aload_n 0, 1) := by decide +kernel
theorem dX10_book_194 : decode cX10_book 194 = .ok (.getfield 70, 3) := by decide +kernel
theorem dX10_book_197 : decode cX10_book 197 = .ok (.imul, 1) := by decide +kernel
theorem dX10_book_198 : decode cX10_book 198 = .ok (.iload_n 1, 1) := by decide +kernel
theorem dX10_book_199 : decode cX10_book 199 = .ok (.iadd, 1) := by decide +kernel
theorem dX10_book_200 : decode cX10_book 200 = .ok (.aload_n 0, 1) := by decide +kernel
theorem dX10_book_201 : decode cX10_book 201 = .ok (.getfield 45, 3) := by decide +kernel
theorem dX10_book_204 : decode cX10_book 204 = .ok (.iload_n 1, 1) := by decide +kernel
theorem dX10_book_205 : decode cX10_book 205 = .ok (.iaload, 1) := by decide +kernel
theorem dX10_book_206 : decode cX10_book 206 = .ok (.iastore, 1) := by decide +kernel
theorem dX10_book_207 : decode cX10_book 207 = .ok (.iinc 1 1, 3) := by decide +kernel
theorem dX10_book_210 : decode cX10_book 210 = .ok (.goto (-29), 3) := by decide +kernel
theorem dX10_book_213 : decode cX10_book 213 = .ok (.aload_n 0, 1) := by decide +kernel
theorem dX10_book_214 : decode cX10_book 214 = .ok (.dup, 1) := by decide +kernel
theorem dX10_book_215 : decode cX10_book 215 = .ok (.getfield 70, 3) := by decide +kernel
theorem dX10_book_218 : decode cX10_book 218 = .ok (.iconst 1, 1) := by decide +kernel
theorem dX10_book_219 : decode cX10_book 219 = .ok (.iadd, 1) := by decide +kernel
theorem dX10_book_220 : decode cX10_book 220 = .ok (.putfield 70, 3) := by decide +kernel
theorem dX10_book_223 : decode cX10_book 223 = .ok (.aload_n 0, 1) := by decide +kernel
theorem dX10_book_224 : decode cX10_book 224 = .ok (.getfield 70, 3) := by decide +kernel
theorem dX10_book_227 : decode cX10_book 227 = .ok (.iconst 1, 1) := by decide +kernel
theorem dX10_book_228 : decode cX10_book 228 = .ok (.isub, 1) := by decide +kernel
theorem dX10_book_229 : decode cX10_book 229 = .ok (.ireturn, 1) := by decide +kernel
theorem dX10_cancel_0 : decode cX10_cancel 0 = .ok (.aload_n 0, 1) := by decide +kernel
theorem dX10_cancel_1 : decode cX10_cancel 1 = .ok (.iconst 0, 1) := by decide +kernel
theorem dX10_cancel_2 : decode cX10_cancel 2 = .ok (.putfield 60, 3) := by decide +kernel
theorem dX10_cancel_5 : decode cX10_cancel 5 = .ok (.aload_n 0, 1) := by decide +kernel
theorem dX10_cancel_6 : decode cX10_cancel 6 = .ok (.iload_n 1, 1) := by decide +kernel
theorem dX10_cancel_7 : decode cX10_cancel 7 = .ok (.invokevirtual 220, 3) := by decide +kernel
theorem dX10_cancel_10 : decode cX10_cancel 10 = .ok (.ifCond .ne 5, 3) := by decide +kernel
theorem dX10_cancel_13 : decode cX10_cancel 13 = .ok (.iconst 0, 1) := by decide +kernel
theorem dX10_cancel_14 : decode cX10_cancel 14 = .ok (.ireturn, 1) := by decide +kernel
theorem dX10_cancel_15 : decode cX10_cancel 15 = .ok (.aload_n 0, 1) := by decide +kernel
theorem dX10_cancel_16 : decode cX10_cancel 16 = .ok (.dup, 1) := by decide +kernel
theorem dX10_cancel_17 : decode cX10_cancel 17 = .ok (.getfield 70, 3) := by decide +kernel
theorem dX10_cancel_20 : decode cX10_cancel 20 = .ok (.iconst 1, 1) := by decide +kernel
theorem dX10_cancel_21 : decode cX10_cancel 21 = .ok (.isub, 1) := by decide +kernel
theorem dX10_cancel_22 : decode cX10_cancel 22 = .ok (.putfield 70, 3) := by decide +kernel
theorem dX10_cancel_25 : decode cX10_cancel 25 = .ok (.bipush 44, 2) := by decide +kernel
theorem dX10_cancel_27 : decode cX10_cancel 27 = .ok (.iload_n 1, 1) := by decide +kernel
theorem dX10_cancel_28 : decode cX10_cancel 28 = .ok (.imul, 1) := by decide +kernel
theorem dX10_cancel_29 : decode cX10_cancel 29 = .ok (.istore_n 2, 1) := by decide +kernel
theorem dX10_cancel_30 : decode cX10_cancel 30 = .ok (.iload_n 2, 1) := by decide +kernel
theorem dX10_cancel_31 : decode cX10_cancel 31 = .ok (.bipush 44, 2) := by decide +kernel
theorem dX10_cancel_33 : decode cX10_cancel 33 = .ok (.aload_n 0, 1) := by decide +kernel
theorem dX10_cancel_34 : decode cX10_cancel 34 = .ok (.getfield 70, 3) := by decide +kernel
theorem dX10_cancel_37 : decode cX10_cancel 37 = .ok (.imul, 1) := by decide +kernel
theorem dX10_cancel_38 : decode cX10_cancel 38 = .ok (.if_icmp .ge 24, 3) := by decide +kernel
theorem dX10_cancel_41 : decode cX10_cancel 41 = .ok (.aload_n 0, 1) := by decide +kernel
theorem dX10_cancel_42 : decode cX10_cancel 42 = .ok (.getfield 23, 3) := by decide +kernel
theorem dX10_cancel_45 : decode cX10_cancel 45 = .ok (.iload_n 2, 1) := by decide +kernel
theorem dX10_cancel_46 : decode cX10_cancel 46 = .ok (.aload_n 0, 1) := by decide +kernel
theorem dX10_cancel_47 : decode cX10_cancel 47 = .ok (.getfield 23, 3) := by decide +kernel
theorem dX10_cancel_50 : decode cX10_cancel 50 = .ok (.iload_n 2, 1) := by decide +kernel
theorem dX10_cancel_51 : decode cX10_cancel 51 = .ok (.bipush 44, 2) := by decide +kernel
theorem dX10_cancel_53 : decode cX10_cancel 53 = .ok (.iadd, 1) := by decide +kernel
theorem dX10_cancel_54 : decode cX10_cancel 54 = .ok (.iaload, 1) := by decide +kernel
theorem dX10_cancel_55 : decode cX10_cancel 55 = .ok (.iastore, 1) := by decide +kernel
theorem dX10_cancel_56 : decode cX10_cancel 56 = .ok (.iinc 2 1, 3) := by decide +kernel
theorem dX10_cancel_59 : decode cX10_cancel 59 = .ok (.goto (-29), 3) := by decide +kernel
theorem dX10_cancel_62 : decode cX10_cancel 62 = .ok (.iconst 1, 1) := by decide +kernel
theorem dX10_cancel_63 : decode cX10_cancel 63 = .ok (.ireturn, 1) := by decide +kernel
theorem dX10_day_0 : decode cX10_day 0 = .ok (.aload_n 0, 1) := by decide +kernel
theorem dX10_day_1 : decode cX10_day 1 = .ok (.iconst 0, 1) := by decide +kernel
theorem dX10_day_2 : decode cX10_day 2 = .ok (.putfield 60, 3) := by decide +kernel
theorem dX10_day_5 : decode cX10_day 5 = .ok (.iload_n 1, 1) := by decide +kernel
theorem dX10_day_6 : decode cX10_day 6 = .ok (.sipush 2000, 3) := by decide +kernel
theorem dX10_day_9 : decode cX10_day 9 = .ok (.sipush 2099, 3) := by decide +kernel
theorem dX10_day_12 : decode cX10_day 12 = .ok (.invokestatic 65, 3) := by decide +kernel
theorem dX10_day_15 : decode cX10_day 15 = .ok (.ifCond .eq 36, 3) := by decide +kernel
theorem dX10_day_18 : decode cX10_day 18 = .ok (.iload_n 2, 1) := by decide +kernel
theorem dX10_day_19 : decode cX10_day 19 = .ok (.iconst 1, 1) := by decide +kernel
theorem dX10_day_20 : decode cX10_day 20 = .ok (.bipush 12, 2) := by decide +kernel
theorem dX10_day_22 : decode cX10_day 22 = .ok (.invokestatic 65, 3) := by decide +kernel
theorem dX10_day_25 : decode cX10_day 25 = .ok (.ifCond .eq 26, 3) := by decide +kernel
theorem dX10_day_28 : decode cX10_day 28 = .ok (.iload_n 3, 1) := by decide +kernel
theorem dX10_day_29 : decode cX10_day 29 = .ok (.iconst 1, 1) := by decide +kernel
theorem dX10_day_30 : decode cX10_day 30 = .ok (.iload_n 1, 1) := by decide +kernel
theorem dX10_day_31 : decode cX10_day 31 = .ok (.iload_n 2, 1) := by decide +kernel
theorem dX10_day_32 : decode cX10_day 32 = .ok (.invokestatic 56, 3) := by decide +kernel
theorem dX10_day_35 : decode cX10_day 35 = .ok (.invokestatic 65, 3) := by decide +kernel
theorem dX10_day_38 : decode cX10_day 38 = .ok (.ifCond .eq 13, 3) := by decide +kernel
theorem dX10_day_41 : decode cX10_day 41 = .ok (.aload_n 0, 1) := by decide +kernel
theorem dX10_day_42 : decode cX10_day 42 = .ok (.iload_n 1, 1) := by decide +kernel
theorem dX10_day_43 : decode cX10_day 43 = .ok (.iload_n 2, 1) := by decide +kernel
theorem dX10_day_44 : decode cX10_day 44 = .ok (.iload_n 3, 1) := by decide +kernel
theorem dX10_day_45 : decode cX10_day 45 = .ok (.invokevirtual 163, 3) := by decide +kernel
theorem dX10_day_48 : decode cX10_day 48 = .ok (.goto 4, 3) := by decide +kernel
theorem dX10_day_51 : decode cX10_day 51 = .ok (.iconst (-1), 1) := by decide +kernel
theorem dX10_day_52 : decode cX10_day 52 = .ok (.ireturn, 1) := by decide +kernel
theorem dX10_date_0 : decode cX10_date 0 = .ok (.aload_n 0, 1) := by decide +kernel
theorem dX10_date_1 : decode cX10_date 1 = .ok (.iconst 0, 1) := by decide +kernel
theorem dX10_date_2 : decode cX10_date 2 = .ok (.putfield 60, 3) := by decide +kernel
theorem dX10_date_5 : decode cX10_date 5 = .ok (.iload_n 1, 1) := by decide +kernel
theorem dX10_date_6 : decode cX10_date 6 = .ok (.invokestatic 223, 3) := by decide +kernel
theorem dX10_date_9 : decode cX10_date 9 = .ok (.ifCond .ne 5, 3) := by decide +kernel
theorem dX10_date_12 : decode cX10_date 12 = .ok (.iconst (-1), 1) := by decide +kernel
theorem dX10_date_13 : decode cX10_date 13 = .ok (.ireturn, 1) := by decide +kernel
theorem dX10_date_14 : decode cX10_date 14 = .ok (.iload_n 2, 1) := by decide +kernel
theorem dX10_date_15 : decode cX10_date 15 = .ok (.tableswitch 66 0 4 #[33, 40, 47, 54, 59], 33) := by decide +kernel
theorem dX10_date_48 : decode cX10_date 48 = .ok (.aload_n 0, 1) := by decide +kernel
theorem dX10_date_49 : decode cX10_date 49 = .ok (.getfield 8, 3) := by decide +kernel
theorem dX10_date_52 : decode cX10_date 52 = .ok (.iload_n 1, 1) := by decide +kernel
theorem dX10_date_53 : decode cX10_date 53 = .ok (.iaload, 1) := by decide +kernel
theorem dX10_date_54 : decode cX10_date 54 = .ok (.ireturn, 1) := by decide +kernel
theorem dX10_date_55 : decode cX10_date 55 = .ok (.aload_n 0, 1) := by decide +kernel
theorem dX10_date_56 : decode cX10_date 56 = .ok (.getfield 14, 3) := by decide +kernel
theorem dX10_date_59 : decode cX10_date 59 = .ok (.iload_n 1, 1) := by decide +kernel
theorem dX10_date_60 : decode cX10_date 60 = .ok (.iaload, 1) := by decide +kernel
theorem dX10_date_61 : decode cX10_date 61 = .ok (.ireturn, 1) := by decide +kernel
theorem dX10_date_62 : decode cX10_date 62 = .ok (.aload_n 0, 1) := by decide +kernel
theorem dX10_date_63 : decode cX10_date 63 = .ok (.getfield 17, 3) := by decide +kernel
theorem dX10_date_66 : decode cX10_date 66 = .ok (.iload_n 1, 1) := by decide +kernel
theorem dX10_date_67 : decode cX10_date 67 = .ok (.iaload, 1) := by decide +kernel
theorem dX10_date_68 : decode cX10_date 68 = .ok (.ireturn, 1) := by decide +kernel
theorem dX10_date_69 : decode cX10_date 69 = .ok (.iload_n 1, 1) := by decide +kernel
theorem dX10_date_70 : decode cX10_date 70 = .ok (.invokestatic 226, 3) := by decide +kernel
theorem dX10_date_73 : decode cX10_date 73 = .ok (.ireturn, 1) := by decide +kernel
theorem dX10_date_74 : decode cX10_date 74 = .ok (.aload_n 0, 1) := by decide +kernel
theorem dX10_date_75 : decode cX10_date 75 = .ok (.getfield 20, 3) := by decide +kernel
theorem dX10_date_78 : decode cX10_date 78 = .ok (.iload_n 1, 1) := by decide +kernel
theorem dX10_date_79 : decode cX10_date 79 = .ok (.iaload, 1) := by decide +kernel
theorem dX10_date_80 : decode cX10_date 80 = .ok (.ireturn, 1) := by decide +kernel
theorem dX10_date_81 : decode cX10_date 81 = .ok (.iconst (-1), 1) := by decide +kernel
theorem dX10_date_82 : decode cX10_date 82 = .ok (.ireturn, 1) := by decide +kernel
theorem dX10_isOn_0 : decode cX10_isOn 0 = .ok (.aload_n 0, 1) := by decide +kernel
theorem dX10_isOn_1 : decode cX10_isOn 1 = .ok (.iload_n 1, 1) := by decide +kernel
theorem dX10_isOn_2 : decode cX10_isOn 2 = .ok (.iconst 5, 1) := by decide +kernel
theorem dX10_isOn_3 : decode cX10_isOn 3 = .ok (.invokevirtual 229, 3) := by decide +kernel
theorem dX10_isOn_6 : decode cX10_isOn 6 = .ok (.istore_n 3, 1) := by decide +kernel
theorem dX10_isOn_7 : decode cX10_isOn 7 = .ok (.aload_n 0, 1) := by decide +kernel
theorem dX10_isOn_8 : decode cX10_isOn 8 = .ok (.iload_n 1, 1) := by decide +kernel
theorem dX10_isOn_9 : decode cX10_isOn 9 = .ok (.iconst 4, 1) := by decide +kernel
theorem dX10_isOn_10 : decode cX10_isOn 10 = .ok (.invokevirtual 229, 3) := by decide +kernel
theorem dX10_isOn_13 : decode cX10_isOn 13 = .ok (.istore 4, 2) := by decide +kernel
theorem dX10_isOn_15 : decode cX10_isOn 15 = .ok (.aload_n 0, 1) := by decide +kernel
theorem dX10_isOn_16 : decode cX10_isOn 16 = .ok (.iload_n 1, 1) := by decide +kernel
theorem dX10_isOn_17 : decode cX10_isOn 17 = .ok (.bipush 6, 2) := by decide +kernel
theorem dX10_isOn_19 : decode cX10_isOn 19 = .ok (.invokevirtual 229, 3) := by decide +kernel
theorem dX10_isOn_22 : decode cX10_isOn 22 = .ok (.istore 5, 2) := by decide +kernel
theorem dX10_isOn_24 : decode cX10_isOn 24 = .ok (.iload_n 2, 1) := by decide +kernel
theorem dX10_isOn_25 : decode cX10_isOn 25 = .ok (.iload_n 3, 1) := by decide +kernel
theorem dX10_isOn_26 : decode cX10_isOn 26 = .ok (.if_icmp .ge 5, 3) := by decide +kernel
theorem dX10_isOn_29 : decode cX10_isOn 29 = .ok (.iconst 0, 1) := by decide +kernel
theorem dX10_isOn_30 : decode cX10_isOn 30 = .ok (.ireturn, 1) := by decide +kernel
theorem dX10_isOn_31 : decode cX10_isOn 31 = .ok (.bipush 12, 2) := by decide +kernel
theorem dX10_isOn_33 : decode cX10_isOn 33 = .ok (.aload_n 0, 1) := by decide +kernel
theorem dX10_isOn_34 : decode cX10_isOn 34 = .ok (.getfield 8, 3) := by decide +kernel
theorem dX10_isOn_37 : decode cX10_isOn 37 = .ok (.iload_n 2, 1) := by decide +kernel
theorem dX10_isOn_38 : decode cX10_isOn 38 = .ok (.iaload, 1) := by decide +kernel
theorem dX10_isOn_39 : decode cX10_isOn 39 = .ok (.aload_n 0, 1) := by decide +kernel
theorem dX10_isOn_40 : decode cX10_isOn 40 = .ok (.getfield 8, 3) := by decide +kernel
theorem dX10_isOn_43 : decode cX10_isOn 43 = .ok (.iload_n 3, 1) := by decide +kernel
theorem dX10_isOn_44 : decode cX10_isOn 44 = .ok (.iaload, 1) := by decide +kernel
theorem dX10_isOn_45 : decode cX10_isOn 45 = .ok (.isub, 1) := by decide +kernel
theorem dX10_isOn_46 : decode cX10_isOn 46 = .ok (.imul, 1) := by decide +kernel
theorem dX10_isOn_47 : decode cX10_isOn 47 = .ok (.aload_n 0, 1) := by decide +kernel
theorem dX10_isOn_48 : decode cX10_isOn 48 = .ok (.getfield 14, 3) := by decide +kernel
theorem dX10_isOn_51 : decode cX10_isOn 51 = .ok (.iload_n 2, 1) := by decide +kernel
theorem dX10_isOn_52 : decode cX10_isOn 52 = .ok (.iaload, 1) := by decide +kernel
theorem dX10_isOn_53 : decode cX10_isOn 53 = .ok (.iadd, 1) := by decide +kernel
theorem dX10_isOn_54 : decode cX10_isOn 54 = .ok (.aload_n 0, 1) := by decide +kernel
theorem dX10_isOn_55 : decode cX10_isOn 55 = .ok (.getfield 14, 3) := by decide +kernel
theorem dX10_isOn_58 : decode cX10_isOn 58 = .ok (.iload_n 3, 1) := by decide +kernel
theorem dX10_isOn_59 : decode cX10_isOn 59 = .ok (.iaload, 1) := by decide +kernel
theorem dX10_isOn_60 : decode cX10_isOn 60 = .ok (.isub, 1) := by decide +kernel
theorem dX10_isOn_61 : decode cX10_isOn 61 = .ok (.istore 6, 2) := by decide +kernel
theorem dX10_isOn_63 : decode cX10_isOn 63 = .ok (.aload_n 0, 1) := by decide +kernel
theorem dX10_isOn_64 : decode cX10_isOn 64 = .ok (.iload_n 1, 1) := by decide +kernel
theorem dX10_isOn_65 : decode cX10_isOn 65 = .ok (.iconst 3, 1) := by decide +kernel
theorem dX10_isOn_66 : decode cX10_isOn 66 = .ok (.invokevirtual 229, 3) := by decide +kernel
theorem dX10_isOn_69 : decode cX10_isOn 69 = .ok (.tableswitch 253 0 6 #[43, 54, 69, 107, 132, 166, 212], 43) := by decide +kernel
theorem dX10_isOn_112 : decode cX10_isOn 112 = .ok (.iload_n 2, 1) := by decide +kernel
theorem dX10_isOn_113 : decode cX10_isOn 113 = .ok (.iload_n 3, 1) := by decide +kernel
theorem dX10_isOn_114 : decode cX10_isOn 114 = .ok (.if_icmp .ne 7, 3) := by decide +kernel
theorem dX10_isOn_117 : decode cX10_isOn 117 = .ok (.iconst 1, 1) := by decide +kernel
theorem dX10_isOn_118 : decode cX10_isOn 118 = .ok (.goto 4, 3) := by decide +kernel
theorem dX10_isOn_121 : decode cX10_isOn 121 = .ok (.iconst 0, 1) := by decide +kernel
theorem dX10_isOn_122 : decode cX10_isOn 122 = .ok (.ireturn, 1) := by decide +kernel
theorem dX10_isOn_123 : decode cX10_isOn 123 = .ok (.iload_n 2, 1) := by decide +kernel
theorem dX10_isOn_124 : decode cX10_isOn 124 = .ok (.iload_n 3, 1) := by decide +kernel
theorem dX10_isOn_125 : decode cX10_isOn 125 = .ok (.isub, 1) := by decide +kernel
theorem dX10_isOn_126 : decode cX10_isOn 126 = .ok (.iload 4, 2) := by decide +kernel
theorem dX10_isOn_128 : decode cX10_isOn 128 = .ok (.irem, 1) := by decide +kernel
theorem dX10_isOn_129 : decode cX10_isOn 129 = .ok (.ifCond .ne 7, 3) := by decide +kernel
theorem dX10_isOn_132 : decode cX10_isOn 132 = .ok (.iconst 1, 1) := by decide +kernel
theorem dX10_isOn_133 : decode cX10_isOn 133 = .ok (.goto 4, 3) := by decide +kernel
theorem dX10_isOn_136 : decode cX10_isOn 136 = .ok (.iconst 0, 1) := by decide +kernel
theorem dX10_isOn_137 : decode cX10_isOn 137 = .ok (.ireturn, 1) := by decide +kernel
theorem dX10_isOn_138 : decode cX10_isOn 138 = .ok (.iload 5, 2) := by decide +kernel
theorem dX10_isOn_140 : decode cX10_isOn 140 = .ok (.iload_n 2, 1) := by decide +kernel
theorem dX10_isOn_141 : decode cX10_isOn 141 = .ok (.invokestatic 226, 3) := by decide +kernel
theorem dX10_isOn_144 : decode cX10_isOn 144 = .ok (.ishr, 1) := by decide +kernel
theorem dX10_isOn_145 : decode cX10_isOn 145 = .ok (.iconst 1, 1) := by decide +kernel
theorem dX10_isOn_146 : decode cX10_isOn 146 = .ok (.iand, 1) := by decide +kernel
theorem dX10_isOn_147 : decode cX10_isOn 147 = .ok (.iconst 1, 1) := by decide +kernel
theorem dX10_isOn_148 : decode cX10_isOn 148 = .ok (.if_icmp .ne 26, 3) := by decide +kernel
theorem dX10_isOn_151 : decode cX10_isOn 151 = .ok (.iload_n 2, 1) := by decide +kernel
theorem dX10_isOn_152 : decode cX10_isOn 152 = .ok (.iconst 5, 1) := by decide +kernel
theorem dX10_isOn_153 : decode cX10_isOn 153 = .ok (.iadd, 1) := by decide +kernel
theorem dX10_isOn_154 : decode cX10_isOn 154 = .ok (.bipush 7, 2) := by decide +kernel
theorem dX10_isOn_156 : decode cX10_isOn 156 = .ok (.idiv, 1) := by decide +kernel
theorem dX10_isOn_157 : decode cX10_isOn 157 = .ok (.iload_n 3, 1) := by decide +kernel
theorem dX10_isOn_158 : decode cX10_isOn 158 = .ok (.iconst 5, 1) := by decide +kernel
theorem dX10_isOn_159 : decode cX10_isOn 159 = .ok (.iadd, 1) := by decide +kernel
theorem dX10_isOn_160 : decode cX10_isOn 160 = .ok (.bipush 7, 2) := by decide +kernel
theorem dX10_isOn_162 : decode cX10_isOn 162 = .ok (.idiv, 1) := by decide +kernel
theorem dX10_isOn_163 : decode cX10_isOn 163 = .ok (.isub, 1) := by decide +kernel
theorem dX10_isOn_164 : decode cX10_isOn 164 = .ok (.iload 4, 2) := by decide +kernel
theorem dX10_isOn_166 : decode cX10_isOn 166 = .ok (.irem, 1) := by decide +kernel
theorem dX10_isOn_167 : decode cX10_isOn 167 = .ok (.ifCond .ne 7, 3) := by decide +kernel
theorem dX10_isOn_170 : decode cX10_isOn 170 = .ok (.iconst 1, 1) := by decide +kernel
theorem dX10_isOn_171 : decode cX10_isOn 171 = .ok (.goto 4, 3) := by decide +kernel
theorem dX10_isOn_174 : decode cX10_isOn 174 = .ok (.iconst 0, 1) := by decide +kernel
theorem dX10_isOn_175 : decode cX10_isOn 175 = .ok (.ireturn, 1) := by decide +kernel
theorem dX10_isOn_176 : decode cX10_isOn 176 = .ok (.iload 6, 2) := by decide +kernel
theorem dX10_isOn_178 : decode cX10_isOn 178 = .ok (.iload 4, 2) := by decide +kernel
theorem dX10_isOn_180 : decode cX10_isOn 180 = .ok (.irem, 1) := by decide +kernel
theorem dX10_isOn_181 : decode cX10_isOn 181 = .ok (.ifCond .ne 18, 3) := by decide +kernel
theorem dX10_isOn_184 : decode cX10_isOn 184 = .ok (.aload_n 0, 1) := by decide +kernel
theorem dX10_isOn_185 : decode cX10_isOn 185 = .ok (.getfield 17, 3) := by decide +kernel
theorem dX10_isOn_188 : decode cX10_isOn 188 = .ok (.iload_n 2, 1) := by decide +kernel
theorem dX10_isOn_189 : decode cX10_isOn 189 = .ok (.iaload, 1) := by decide +kernel
theorem dX10_isOn_190 : decode cX10_isOn 190 = .ok (.iload 5, 2) := by decide +kernel
theorem dX10_isOn_192 : decode cX10_isOn 192 = .ok (.if_icmp .ne 7, 3) := by decide +kernel
theorem dX10_isOn_195 : decode cX10_isOn 195 = .ok (.iconst 1, 1) := by decide +kernel
theorem dX10_isOn_196 : decode cX10_isOn 196 = .ok (.goto 4, 3) := by decide +kernel
theorem dX10_isOn_199 : decode cX10_isOn 199 = .ok (.iconst 0, 1) := by decide +kernel
theorem dX10_isOn_200 : decode cX10_isOn 200 = .ok (.ireturn, 1) := by decide +kernel
theorem dX10_isOn_201 : decode cX10_isOn 201 = .ok (.iload 6, 2) := by decide +kernel
theorem dX10_isOn_203 : decode cX10_isOn 203 = .ok (.iload 4, 2) := by decide +kernel
theorem dX10_isOn_205 : decode cX10_isOn 205 = .ok (.irem, 1) := by decide +kernel
theorem dX10_isOn_206 : decode cX10_isOn 206 = .ok (.ifCond .ne 27, 3) := by decide +kernel
theorem dX10_isOn_209 : decode cX10_isOn 209 = .ok (.aload_n 0, 1) := by decide +kernel
theorem dX10_isOn_210 : decode cX10_isOn 210 = .ok (.getfield 17, 3) := by decide +kernel
theorem dX10_isOn_213 : decode cX10_isOn 213 = .ok (.iload_n 2, 1) := by decide +kernel
theorem dX10_isOn_214 : decode cX10_isOn 214 = .ok (.iaload, 1) := by decide +kernel
theorem dX10_isOn_215 : decode cX10_isOn 215 = .ok (.aload_n 0, 1) := by decide +kernel
theorem dX10_isOn_216 : decode cX10_isOn 216 = .ok (.getfield 20, 3) := by decide +kernel
theorem dX10_isOn_219 : decode cX10_isOn 219 = .ok (.iload_n 2, 1) := by decide +kernel
theorem dX10_isOn_220 : decode cX10_isOn 220 = .ok (.iaload, 1) := by decide +kernel
theorem dX10_isOn_221 : decode cX10_isOn 221 = .ok (.iload 5, 2) := by decide +kernel
theorem dX10_isOn_223 : decode cX10_isOn 223 = .ok (.isub, 1) := by decide +kernel
theorem dX10_isOn_224 : decode cX10_isOn 224 = .ok (.iconst 1, 1) := by decide +kernel
theorem dX10_isOn_225 : decode cX10_isOn 225 = .ok (.iadd, 1) := by decide +kernel
theorem dX10_isOn_226 : decode cX10_isOn 226 = .ok (.if_icmp .ne 7, 3) := by decide +kernel
theorem dX10_isOn_229 : decode cX10_isOn 229 = .ok (.iconst 1, 1) := by decide +kernel
theorem dX10_isOn_230 : decode cX10_isOn 230 = .ok (.goto 4, 3) := by decide +kernel
theorem dX10_isOn_233 : decode cX10_isOn 233 = .ok (.iconst 0, 1) := by decide +kernel
theorem dX10_isOn_234 : decode cX10_isOn 234 = .ok (.ireturn, 1) := by decide +kernel
theorem dX10_isOn_235 : decode cX10_isOn 235 = .ok (.iload 6, 2) := by decide +kernel
theorem dX10_isOn_237 : decode cX10_isOn 237 = .ok (.iload 4, 2) := by decide +kernel
theorem dX10_isOn_239 : decode cX10_isOn 239 = .ok (.irem, 1) := by decide +kernel
theorem dX10_isOn_240 : decode cX10_isOn 240 = .ok (.ifCond .ne 39, 3) := by decide +kernel
theorem dX10_isOn_243 : decode cX10_isOn 243 = .ok (.iload_n 2, 1) := by decide +kernel
theorem dX10_isOn_244 : decode cX10_isOn 244 = .ok (.invokestatic 226, 3) := by decide +kernel
theorem dX10_isOn_247 : decode cX10_isOn 247 = .ok (.aload_n 0, 1) := by decide +kernel
theorem dX10_isOn_248 : decode cX10_isOn 248 = .ok (.iload_n 1, 1) := by decide +kernel
theorem dX10_isOn_249 : decode cX10_isOn 249 = .ok (.bipush 7, 2) := by decide +kernel
theorem dX10_isOn_251 : decode cX10_isOn 251 = .ok (.invokevirtual 229, 3) := by decide +kernel
theorem dX10_isOn_254 : decode cX10_isOn 254 = .ok (.if_icmp .ne 25, 3) := by decide +kernel
theorem dX10_isOn_257 : decode cX10_isOn 257 = .ok (.aload_n 0, 1) := by decide +kernel
theorem dX10_isOn_258 : decode cX10_isOn 258 = .ok (.getfield 17, 3) := by decide +kernel
theorem dX10_isOn_261 : decode cX10_isOn 261 = .ok (.iload_n 2, 1) := by decide +kernel
theorem dX10_isOn_262 : decode cX10_isOn 262 = .ok (.iaload, 1) := by decide +kernel
theorem dX10_isOn_263 : decode cX10_isOn 263 = .ok (.iconst 1, 1) := by decide +kernel
theorem dX10_isOn_264 : decode cX10_isOn 264 = .ok (.isub, 1) := by decide +kernel
theorem dX10_isOn_265 : decode cX10_isOn 265 = .ok (.bipush 7, 2) := by decide +kernel
theorem dX10_isOn_267 : decode cX10_isOn 267 = .ok (.idiv, 1) := by decide +kernel
theorem dX10_isOn_268 : decode cX10_isOn 268 = .ok (.iconst 1, 1) := by decide +kernel
theorem dX10_isOn_269 : decode cX10_isOn 269 = .ok (.iadd, 1) := by decide +kernel
theorem dX10_isOn_270 : decode cX10_isOn 270 = .ok (.iload 5, 2) := by decide +kernel
theorem dX10_isOn_272 : decode cX10_isOn 272 = .ok (.if_icmp .ne 7, 3) := by decide +kernel
theorem dX10_isOn_275 : decode cX10_isOn 275 = .ok (.iconst 1, 1) := by decide +kernel
theorem dX10_isOn_276 : decode cX10_isOn 276 = .ok (.goto 4, 3) := by decide +kernel
theorem dX10_isOn_279 : decode cX10_isOn 279 = .ok (.iconst 0, 1) := by decide +kernel
theorem dX10_isOn_280 : decode cX10_isOn 280 = .ok (.ireturn, 1) := by decide +kernel
theorem dX10_isOn_281 : decode cX10_isOn 281 = .ok (.iload 6, 2) := by decide +kernel
theorem dX10_isOn_283 : decode cX10_isOn 283 = .ok (.iload 4, 2) := by decide +kernel
theorem dX10_isOn_285 : decode cX10_isOn 285 = .ok (.irem, 1) := by decide +kernel
theorem dX10_isOn_286 : decode cX10_isOn 286 = .ok (.ifCond .ne 34, 3) := by decide +kernel
theorem dX10_isOn_289 : decode cX10_isOn 289 = .ok (.iload_n 2, 1) := by decide +kernel
theorem dX10_isOn_290 : decode cX10_isOn 290 = .ok (.invokestatic 226, 3) := by decide +kernel
theorem dX10_isOn_293 : decode cX10_isOn 293 = .ok (.iload 5, 2) := by decide +kernel
theorem dX10_isOn_295 : decode cX10_isOn 295 = .ok (.if_icmp .ne 25, 3) := by decide +kernel
theorem dX10_isOn_298 : decode cX10_isOn 298 = .ok (.aload_n 0, 1) := by decide +kernel
theorem dX10_isOn_299 : decode cX10_isOn 299 = .ok (.getfield 17, 3) := by decide +kernel
theorem dX10_isOn_302 : decode cX10_isOn 302 = .ok (.iload_n 2, 1) := by decide +kernel
theorem dX10_isOn_303 : decode cX10_isOn 303 = .ok (.iaload, 1) := by decide +kernel
theorem dX10_isOn_304 : decode cX10_isOn 304 = .ok (.bipush 7, 2) := by decide +kernel
theorem dX10_isOn_306 : decode cX10_isOn 306 = .ok (.iadd, 1) := by decide +kernel
theorem dX10_isOn_307 : decode cX10_isOn 307 = .ok (.aload_n 0, 1) := by decide +kernel
theorem dX10_isOn_308 : decode cX10_isOn 308 = .ok (.getfield 20, 3) := by decide +kernel
theorem dX10_isOn_311 : decode cX10_isOn 311 = .ok (.iload_n 2, 1) := by decide +kernel
theorem dX10_isOn_312 : decode cX10_isOn 312 = .ok (.iaload, 1) := by decide +kernel
theorem dX10_isOn_313 : decode cX10_isOn 313 = .ok (.if_icmp .le 7, 3) := by decide +kernel
theorem dX10_isOn_316 : decode cX10_isOn 316 = .ok (.iconst 1, 1) := by decide +kernel
theorem dX10_isOn_317 : decode cX10_isOn 317 = .ok (.goto 4, 3) := by decide +kernel
theorem dX10_isOn_320 : decode cX10_isOn 320 = .ok (.iconst 0, 1) := by decide +kernel
theorem dX10_isOn_321 : decode cX10_isOn 321 = .ok (.ireturn, 1) := by decide +kernel
theorem dX10_isOn_322 : decode cX10_isOn 322 = .ok (.aload_n 0, 1) := by decide +kernel
theorem dX10_isOn_323 : decode cX10_isOn 323 = .ok (.getfield 8, 3) := by decide +kernel
theorem dX10_isOn_326 : decode cX10_isOn 326 = .ok (.iload_n 2, 1) := by decide +kernel
theorem dX10_isOn_327 : decode cX10_isOn 327 = .ok (.iaload, 1) := by decide +kernel
theorem dX10_isOn_328 : decode cX10_isOn 328 = .ok (.aload_n 0, 1) := by decide +kernel
theorem dX10_isOn_329 : decode cX10_isOn 329 = .ok (.getfield 8, 3) := by decide +kernel
theorem dX10_isOn_332 : decode cX10_isOn 332 = .ok (.iload_n 3, 1) := by decide +kernel
theorem dX10_isOn_333 : decode cX10_isOn 333 = .ok (.iaload, 1) := by decide +kernel
theorem dX10_isOn_334 : decode cX10_isOn 334 = .ok (.isub, 1) := by decide +kernel
theorem dX10_isOn_335 : decode cX10_isOn 335 = .ok (.iload 4, 2) := by decide +kernel
theorem dX10_isOn_337 : decode cX10_isOn 337 = .ok (.irem, 1) := by decide +kernel
theorem dX10_isOn_338 : decode cX10_isOn 338 = .ok (.ifCond .ne 37, 3) := by decide +kernel
theorem dX10_isOn_341 : decode cX10_isOn 341 = .ok (.aload_n 0, 1) := by decide +kernel
theorem dX10_isOn_342 : decode cX10_isOn 342 = .ok (.getfield 14, 3) := by decide +kernel
theorem dX10_isOn_345 : decode cX10_isOn 345 = .ok (.iload_n 2, 1) := by decide +kernel
theorem dX10_isOn_346 : decode cX10_isOn 346 = .ok (.iaload, 1) := by decide +kernel
theorem dX10_isOn_347 : decode cX10_isOn 347 = .ok (.aload_n 0, 1) := by decide +kernel
theorem dX10_isOn_348 : decode cX10_isOn 348 = .ok (.getfield 14, 3) := by decide +kernel
theorem dX10_isOn_351 : decode cX10_isOn 351 = .ok (.iload_n 3, 1) := by decide +kernel
theorem dX10_isOn_352 : decode cX10_isOn 352 = .ok (.iaload, 1) := by decide +kernel
theorem dX10_isOn_353 : decode cX10_isOn 353 = .ok (.if_icmp .ne 22, 3) := by decide +kernel
theorem dX10_isOn_356 : decode cX10_isOn 356 = .ok (.aload_n 0, 1) := by decide +kernel
theorem dX10_isOn_357 : decode cX10_isOn 357 = .ok (.getfield 17, 3) := by decide +kernel
theorem dX10_isOn_360 : decode cX10_isOn 360 = .ok (.iload_n 2, 1) := by decide +kernel
theorem dX10_isOn_361 : decode cX10_isOn 361 = .ok (.iaload, 1) := by decide +kernel
theorem dX10_isOn_362 : decode cX10_isOn 362 = .ok (.aload_n 0, 1) := by decide +kernel
theorem dX10_isOn_363 : decode cX10_isOn 363 = .ok (.getfield 17, 3) := by decide +kernel
theorem dX10_isOn_366 : decode cX10_isOn 366 = .ok (.iload_n 3, 1) := by decide +kernel
theorem dX10_isOn_367 : decode cX10_isOn 367 = .ok (.iaload, 1) := by decide +kernel
theorem dX10_isOn_368 : decode cX10_isOn 368 = .ok (.if_icmp .ne 7, 3) := by decide +kernel
theorem dX10_isOn_371 : decode cX10_isOn 371 = .ok (.iconst 1, 1) := by decide +kernel
theorem dX10_isOn_372 : decode cX10_isOn 372 = .ok (.goto 4, 3) := by decide +kernel
theorem dX10_isOn_375 : decode cX10_isOn 375 = .ok (.iconst 0, 1) := by decide +kernel
theorem dX10_isOn_376 : decode cX10_isOn 376 = .ok (.ireturn, 1) := by decide +kernel
theorem dX10_laysKeys_0 : decode cX10_laysKeys 0 = .ok (.iconst 0, 1) := by decide +kernel
theorem dX10_laysKeys_1 : decode cX10_laysKeys 1 = .ok (.istore_n 3, 1) := by decide +kernel
theorem dX10_laysKeys_2 : decode cX10_laysKeys 2 = .ok (.aload_n 0, 1) := by decide +kernel
theorem dX10_laysKeys_3 : decode cX10_laysKeys 3 = .ok (.iload_n 1, 1) := by decide +kernel
theorem dX10_laysKeys_4 : decode cX10_laysKeys 4 = .ok (.bipush 9, 2) := by decide +kernel
theorem dX10_laysKeys_6 : decode cX10_laysKeys 6 = .ok (.invokevirtual 229, 3) := by decide +kernel
theorem dX10_laysKeys_9 : decode cX10_laysKeys 9 = .ok (.istore 4, 2) := by decide +kernel
theorem dX10_laysKeys_11 : decode cX10_laysKeys 11 = .ok (.aload_n 0, 1) := by decide +kernel
theorem dX10_laysKeys_12 : decode cX10_laysKeys 12 = .ok (.iload_n 1, 1) := by decide +kernel
theorem dX10_laysKeys_13 : decode cX10_laysKeys 13 = .ok (.bipush 8, 2) := by decide +kernel
theorem dX10_laysKeys_15 : decode cX10_laysKeys 15 = .ok (.invokevirtual 229, 3) := by decide +kernel
theorem dX10_laysKeys_18 : decode cX10_laysKeys 18 = .ok (.ifCond .ge 8, 3) := by decide +kernel
theorem dX10_laysKeys_21 : decode cX10_laysKeys 21 = .ok (.ldc 64, 2) := by decide +kernel
theorem dX10_laysKeys_23 : decode cX10_laysKeys 23 = .ok (.goto 10, 3) := by decide +kernel
theorem dX10_laysKeys_26 : decode cX10_laysKeys 26 = .ok (.aload_n 0, 1) := by decide +kernel
theorem dX10_laysKeys_27 : decode cX10_laysKeys 27 = .ok (.iload_n 1, 1) := by decide +kernel
theorem dX10_laysKeys_28 : decode cX10_laysKeys 28 = .ok (.bipush 8, 2) := by decide +kernel
theorem dX10_laysKeys_30 : decode cX10_laysKeys 30 = .ok (.invokevirtual 229, 3) := by decide +kernel
theorem dX10_laysKeys_33 : decode cX10_laysKeys 33 = .ok (.istore 5, 2) := by decide +kernel
theorem dX10_laysKeys_35 : decode cX10_laysKeys 35 = .ok (.aload_n 0, 1) := by decide +kernel
theorem dX10_laysKeys_36 : decode cX10_laysKeys 36 = .ok (.iload_n 1, 1) := by decide +kernel
theorem dX10_laysKeys_37 : decode cX10_laysKeys 37 = .ok (.bipush 10, 2) := by decide +kernel
theorem dX10_laysKeys_39 : decode cX10_laysKeys 39 = .ok (.invokevirtual 229, 3) := by decide +kernel
theorem dX10_laysKeys_42 : decode cX10_laysKeys 42 = .ok (.istore 6, 2) := by decide +kernel
theorem dX10_laysKeys_44 : decode cX10_laysKeys 44 = .ok (.iload 6, 2) := by decide +kernel
theorem dX10_laysKeys_46 : decode cX10_laysKeys 46 = .ok (.iload 5, 2) := by decide +kernel
theorem dX10_laysKeys_48 : decode cX10_laysKeys 48 = .ok (.if_icmp .gt 49, 3) := by decide +kernel
theorem dX10_laysKeys_51 : decode cX10_laysKeys 51 = .ok (.iload 4, 2) := by decide +kernel
theorem dX10_laysKeys_53 : decode cX10_laysKeys 53 = .ok (.ifCond .lt 9, 3) := by decide +kernel
theorem dX10_laysKeys_56 : decode cX10_laysKeys 56 = .ok (.iload_n 3, 1) := by decide +kernel
theorem dX10_laysKeys_57 : decode cX10_laysKeys 57 = .ok (.iload 4, 2) := by decide +kernel
theorem dX10_laysKeys_59 : decode cX10_laysKeys 59 = .ok (.if_icmp .ge 38, 3) := by decide +kernel
theorem dX10_laysKeys_62 : decode cX10_laysKeys 62 = .ok (.aload_n 0, 1) := by decide +kernel
theorem dX10_laysKeys_63 : decode cX10_laysKeys 63 = .ok (.iload_n 1, 1) := by decide +kernel
theorem dX10_laysKeys_64 : decode cX10_laysKeys 64 = .ok (.iload 6, 2) := by decide +kernel
theorem dX10_laysKeys_66 : decode cX10_laysKeys 66 = .ok (.invokevirtual 232, 3) := by decide +kernel
theorem dX10_laysKeys_69 : decode cX10_laysKeys 69 = .ok (.ifCond .ne 6, 3) := by decide +kernel
theorem dX10_laysKeys_72 : decode cX10_laysKeys 72 = .ok (.goto 19, 3) := by decide +kernel
theorem dX10_laysKeys_75 : decode cX10_laysKeys 75 = .ok (.aload_n 0, 1) := by decide +kernel
theorem dX10_laysKeys_76 : decode cX10_laysKeys 76 = .ok (.getfield 39, 3) := by decide +kernel
theorem dX10_laysKeys_79 : decode cX10_laysKeys 79 = .ok (.ldc 7, 2) := by decide +kernel
theorem dX10_laysKeys_81 : decode cX10_laysKeys 81 = .ok (.iload_n 2, 1) := by decide +kernel
theorem dX10_laysKeys_82 : decode cX10_laysKeys 82 = .ok (.imul, 1) := by decide +kernel
theorem dX10_laysKeys_83 : decode cX10_laysKeys 83 = .ok (.iload_n 3, 1) := by decide +kernel
theorem dX10_laysKeys_84 : decode cX10_laysKeys 84 = .ok (.iadd, 1) := by decide +kernel
theorem dX10_laysKeys_85 : decode cX10_laysKeys 85 = .ok (.iload 6, 2) := by decide +kernel
theorem dX10_laysKeys_87 : decode cX10_laysKeys 87 = .ok (.iastore, 1) := by decide +kernel
theorem dX10_laysKeys_88 : decode cX10_laysKeys 88 = .ok (.iinc 3 1, 3) := by decide +kernel
theorem dX10_laysKeys_91 : decode cX10_laysKeys 91 = .ok (.iinc 6 1, 3) := by decide +kernel
theorem dX10_laysKeys_94 : decode cX10_laysKeys 94 = .ok (.goto (-50), 3) := by decide +kernel
theorem dX10_laysKeys_97 : decode cX10_laysKeys 97 = .ok (.aload_n 0, 1) := by decide +kernel
theorem dX10_laysKeys_98 : decode cX10_laysKeys 98 = .ok (.getfield 42, 3) := by decide +kernel
theorem dX10_laysKeys_101 : decode cX10_laysKeys 101 = .ok (.iload_n 2, 1) := by decide +kernel
theorem dX10_laysKeys_102 : decode cX10_laysKeys 102 = .ok (.iload_n 3, 1) := by decide +kernel
theorem dX10_laysKeys_103 : decode cX10_laysKeys 103 = .ok (.iastore, 1) := by decide +kernel
theorem dX10_laysKeys_104 : decode cX10_laysKeys 104 = .ok (.iload_n 3, 1) := by decide +kernel
theorem dX10_laysKeys_105 : decode cX10_laysKeys 105 = .ok (.ireturn, 1) := by decide +kernel
theorem dX10_oddOf_0 : decode cX10_oddOf 0 = .ok (.iconst 0, 1) := by decide +kernel
theorem dX10_oddOf_1 : decode cX10_oddOf 1 = .ok (.istore_n 3, 1) := by decide +kernel
theorem dX10_oddOf_2 : decode cX10_oddOf 2 = .ok (.iload_n 3, 1) := by decide +kernel
theorem dX10_oddOf_3 : decode cX10_oddOf 3 = .ok (.aload_n 0, 1) := by decide +kernel
theorem dX10_oddOf_4 : decode cX10_oddOf 4 = .ok (.iload_n 1, 1) := by decide +kernel
theorem dX10_oddOf_5 : decode cX10_oddOf 5 = .ok (.bipush 11, 2) := by decide +kernel
theorem dX10_oddOf_7 : decode cX10_oddOf 7 = .ok (.invokevirtual 229, 3) := by decide +kernel
theorem dX10_oddOf_10 : decode cX10_oddOf 10 = .ok (.if_icmp .ge 26, 3) := by decide +kernel
theorem dX10_oddOf_13 : decode cX10_oddOf 13 = .ok (.aload_n 0, 1) := by decide +kernel
theorem dX10_oddOf_14 : decode cX10_oddOf 14 = .ok (.iload_n 1, 1) := by decide +kernel
theorem dX10_oddOf_15 : decode cX10_oddOf 15 = .ok (.bipush 12, 2) := by decide +kernel
theorem dX10_oddOf_17 : decode cX10_oddOf 17 = .ok (.iconst 2, 1) := by decide +kernel
theorem dX10_oddOf_18 : decode cX10_oddOf 18 = .ok (.iload_n 3, 1) := by decide +kernel
theorem dX10_oddOf_19 : decode cX10_oddOf 19 = .ok (.imul, 1) := by decide +kernel
theorem dX10_oddOf_20 : decode cX10_oddOf 20 = .ok (.iadd, 1) := by decide +kernel
theorem dX10_oddOf_21 : decode cX10_oddOf 21 = .ok (.invokevirtual 229, 3) := by decide +kernel
theorem dX10_oddOf_24 : decode cX10_oddOf 24 = .ok (.iload_n 2, 1) := by decide +kernel
theorem dX10_oddOf_25 : decode cX10_oddOf 25 = .ok (.if_icmp .ne 5, 3) := by decide +kernel
theorem dX10_oddOf_28 : decode cX10_oddOf 28 = .ok (.iload_n 3, 1) := by decide +kernel
theorem dX10_oddOf_29 : decode cX10_oddOf 29 = .ok (.ireturn, 1) := by decide +kernel
theorem dX10_oddOf_30 : decode cX10_oddOf 30 = .ok (.iinc 3 1, 3) := by decide +kernel
theorem dX10_oddOf_33 : decode cX10_oddOf 33 = .ok (.goto (-31), 3) := by decide +kernel
theorem dX10_oddOf_36 : decode cX10_oddOf 36 = .ok (.iconst (-1), 1) := by decide +kernel
theorem dX10_oddOf_37 : decode cX10_oddOf 37 = .ok (.ireturn, 1) := by decide +kernel
theorem dX10_laysTimes_0 : decode cX10_laysTimes 0 = .ok (.aload_n 0, 1) := by decide +kernel
theorem dX10_laysTimes_1 : decode cX10_laysTimes 1 = .ok (.iload_n 1, 1) := by decide +kernel
theorem dX10_laysTimes_2 : decode cX10_laysTimes 2 = .ok (.iload_n 2, 1) := by decide +kernel
theorem dX10_laysTimes_3 : decode cX10_laysTimes 3 = .ok (.invokevirtual 236, 3) := by decide +kernel
theorem dX10_laysTimes_6 : decode cX10_laysTimes 6 = .ok (.istore_n 3, 1) := by decide +kernel
theorem dX10_laysTimes_7 : decode cX10_laysTimes 7 = .ok (.ldc 7, 2) := by decide +kernel
theorem dX10_laysTimes_9 : decode cX10_laysTimes 9 = .ok (.iload_n 2, 1) := by decide +kernel
theorem dX10_laysTimes_10 : decode cX10_laysTimes 10 = .ok (.imul, 1) := by decide +kernel
theorem dX10_laysTimes_11 : decode cX10_laysTimes 11 = .ok (.istore 4, 2) := by decide +kernel
theorem dX10_laysTimes_13 : decode cX10_laysTimes 13 = .ok (.iconst 0, 1) := by decide +kernel
theorem dX10_laysTimes_14 : decode cX10_laysTimes 14 = .ok (.istore 5, 2) := by decide +kernel
theorem dX10_laysTimes_16 : decode cX10_laysTimes 16 = .ok (.iconst 0, 1) := by decide +kernel
theorem dX10_laysTimes_17 : decode cX10_laysTimes 17 = .ok (.istore 6, 2) := by decide +kernel
theorem dX10_laysTimes_19 : decode cX10_laysTimes 19 = .ok (.iload 6, 2) := by decide +kernel
theorem dX10_laysTimes_21 : decode cX10_laysTimes 21 = .ok (.iload_n 3, 1) := by decide +kernel
theorem dX10_laysTimes_22 : decode cX10_laysTimes 22 = .ok (.if_icmp .ge 72, 3) := by decide +kernel
theorem dX10_laysTimes_25 : decode cX10_laysTimes 25 = .ok (.aload_n 0, 1) := by decide +kernel
theorem dX10_laysTimes_26 : decode cX10_laysTimes 26 = .ok (.getfield 39, 3) := by decide +kernel
theorem dX10_laysTimes_29 : decode cX10_laysTimes 29 = .ok (.iload 4, 2) := by decide +kernel
theorem dX10_laysTimes_31 : decode cX10_laysTimes 31 = .ok (.iload 6, 2) := by decide +kernel
theorem dX10_laysTimes_33 : decode cX10_laysTimes 33 = .ok (.iadd, 1) := by decide +kernel
theorem dX10_laysTimes_34 : decode cX10_laysTimes 34 = .ok (.iaload, 1) := by decide +kernel
theorem dX10_laysTimes_35 : decode cX10_laysTimes 35 = .ok (.istore 7, 2) := by decide +kernel
theorem dX10_laysTimes_37 : decode cX10_laysTimes 37 = .ok (.aload_n 0, 1) := by decide +kernel
theorem dX10_laysTimes_38 : decode cX10_laysTimes 38 = .ok (.iload_n 1, 1) := by decide +kernel
theorem dX10_laysTimes_39 : decode cX10_laysTimes 39 = .ok (.iload 7, 2) := by decide +kernel
theorem dX10_laysTimes_41 : decode cX10_laysTimes 41 = .ok (.invokevirtual 239, 3) := by decide +kernel
theorem dX10_laysTimes_44 : decode cX10_laysTimes 44 = .ok (.ifCond .lt 6, 3) := by decide +kernel
theorem dX10_laysTimes_47 : decode cX10_laysTimes 47 = .ok (.goto 41, 3) := by decide +kernel
theorem dX10_laysTimes_50 : decode cX10_laysTimes 50 = .ok (.aload_n 0, 1) := by decide +kernel
theorem dX10_laysTimes_51 : decode cX10_laysTimes 51 = .ok (.getfield 39, 3) := by decide +kernel
theorem dX10_laysTimes_54 : decode cX10_laysTimes 54 = .ok (.iload 4, 2) := by decide +kernel
theorem dX10_laysTimes_56 : decode cX10_laysTimes 56 = .ok (.iload 5, 2) := by decide +kernel
theorem dX10_laysTimes_58 : decode cX10_laysTimes 58 = .ok (.iadd, 1) := by decide +kernel
theorem dX10_laysTimes_59 : decode cX10_laysTimes 59 = .ok (.iload 7, 2) := by decide +kernel
theorem dX10_laysTimes_61 : decode cX10_laysTimes 61 = .ok (.iastore, 1) := by decide +kernel
theorem dX10_laysTimes_62 : decode cX10_laysTimes 62 = .ok (.aload_n 0, 1) := by decide +kernel
theorem dX10_laysTimes_63 : decode cX10_laysTimes 63 = .ok (.getfield 36, 3) := by decide +kernel
theorem dX10_laysTimes_66 : decode cX10_laysTimes 66 = .ok (.iload 4, 2) := by decide +kernel
theorem dX10_laysTimes_68 : decode cX10_laysTimes 68 = .ok (.iload 5, 2) := by decide +kernel
theorem dX10_laysTimes_70 : decode cX10_laysTimes 70 = .ok (.iadd, 1) := by decide +kernel
theorem dX10_laysTimes_71 : decode cX10_laysTimes 71 = .ok (.sipush 1440, 3) := by decide +kernel
theorem dX10_laysTimes_74 : decode cX10_laysTimes 74 = .ok (.iload 7, 2) := by decide +kernel
theorem dX10_laysTimes_76 : decode cX10_laysTimes 76 = .ok (.imul, 1) := by decide +kernel
theorem dX10_laysTimes_77 : decode cX10_laysTimes 77 = .ok (.aload_n 0, 1) := by decide +kernel
theorem dX10_laysTimes_78 : decode cX10_laysTimes 78 = .ok (.iload_n 1, 1) := by decide +kernel
theorem dX10_laysTimes_79 : decode cX10_laysTimes 79 = .ok (.iconst 1, 1) := by decide +kernel
theorem dX10_laysTimes_80 : decode cX10_laysTimes 80 = .ok (.invokevirtual 229, 3) := by decide +kernel
theorem dX10_laysTimes_83 : decode cX10_laysTimes 83 = .ok (.iadd, 1) := by decide +kernel
theorem dX10_laysTimes_84 : decode cX10_laysTimes 84 = .ok (.iastore, 1) := by decide +kernel
theorem dX10_laysTimes_85 : decode cX10_laysTimes 85 = .ok (.iinc 5 1, 3) := by decide +kernel
theorem dX10_laysTimes_88 : decode cX10_laysTimes 88 = .ok (.iinc 6 1, 3) := by decide +kernel
theorem dX10_laysTimes_91 : decode cX10_laysTimes 91 = .ok (.goto (-72), 3) := by decide +kernel
theorem dX10_laysTimes_94 : decode cX10_laysTimes 94 = .ok (.iconst 0, 1) := by decide +kernel
theorem dX10_laysTimes_95 : decode cX10_laysTimes 95 = .ok (.istore 6, 2) := by decide +kernel
theorem dX10_laysTimes_97 : decode cX10_laysTimes 97 = .ok (.iload 6, 2) := by decide +kernel
theorem dX10_laysTimes_99 : decode cX10_laysTimes 99 = .ok (.aload_n 0, 1) := by decide +kernel
theorem dX10_laysTimes_100 : decode cX10_laysTimes 100 = .ok (.iload_n 1, 1) := by decide +kernel
theorem dX10_laysTimes_101 : decode cX10_laysTimes 101 = .ok (.bipush 11, 2) := by decide +kernel
theorem dX10_laysTimes_103 : decode cX10_laysTimes 103 = .ok (.invokevirtual 229, 3) := by decide +kernel
theorem dX10_laysTimes_106 : decode cX10_laysTimes 106 = .ok (.if_icmp .ge 184, 3) := by decide +kernel
theorem dX10_laysTimes_109 : decode cX10_laysTimes 109 = .ok (.aload_n 0, 1) := by decide +kernel
theorem dX10_laysTimes_110 : decode cX10_laysTimes 110 = .ok (.iload_n 1, 1) := by decide +kernel
theorem dX10_laysTimes_111 : decode cX10_laysTimes 111 = .ok (.bipush 12, 2) := by decide +kernel
theorem dX10_laysTimes_113 : decode cX10_laysTimes 113 = .ok (.iconst 2, 1) := by decide +kernel
theorem dX10_laysTimes_114 : decode cX10_laysTimes 114 = .ok (.iload 6, 2) := by decide +kernel
theorem dX10_laysTimes_116 : decode cX10_laysTimes 116 = .ok (.imul, 1) := by decide +kernel
theorem dX10_laysTimes_117 : decode cX10_laysTimes 117 = .ok (.iadd, 1) := by decide +kernel
theorem dX10_laysTimes_118 : decode cX10_laysTimes 118 = .ok (.iconst 1, 1) := by decide +kernel
theorem dX10_laysTimes_119 : decode cX10_laysTimes 119 = .ok (.iadd, 1) := by decide +kernel
theorem dX10_laysTimes_120 : decode cX10_laysTimes 120 = .ok (.invokevirtual 229, 3) := by decide +kernel
theorem dX10_laysTimes_123 : decode cX10_laysTimes 123 = .ok (.istore 7, 2) := by decide +kernel
theorem dX10_laysTimes_125 : decode cX10_laysTimes 125 = .ok (.aload_n 0, 1) := by decide +kernel
theorem dX10_laysTimes_126 : decode cX10_laysTimes 126 = .ok (.iload_n 1, 1) := by decide +kernel
theorem dX10_laysTimes_127 : decode cX10_laysTimes 127 = .ok (.bipush 12, 2) := by decide +kernel
theorem dX10_laysTimes_129 : decode cX10_laysTimes 129 = .ok (.iconst 2, 1) := by decide +kernel
theorem dX10_laysTimes_130 : decode cX10_laysTimes 130 = .ok (.iload 6, 2) := by decide +kernel
theorem dX10_laysTimes_132 : decode cX10_laysTimes 132 = .ok (.imul, 1) := by decide +kernel
theorem dX10_laysTimes_133 : decode cX10_laysTimes 133 = .ok (.iadd, 1) := by decide +kernel
theorem dX10_laysTimes_134 : decode cX10_laysTimes 134 = .ok (.invokevirtual 229, 3) := by decide +kernel
theorem dX10_laysTimes_137 : decode cX10_laysTimes 137 = .ok (.istore 8, 2) := by decide +kernel
theorem dX10_laysTimes_139 : decode cX10_laysTimes 139 = .ok (.iload 7, 2) := by decide +kernel
theorem dX10_laysTimes_141 : decode cX10_laysTimes 141 = .ok (.ifCond .ge 6, 3) := by decide +kernel
theorem dX10_laysTimes_144 : decode cX10_laysTimes 144 = .ok (.goto 140, 3) := by decide +kernel
theorem dX10_laysTimes_147 : decode cX10_laysTimes 147 = .ok (.iload 5, 2) := by decide +kernel
theorem dX10_laysTimes_149 : decode cX10_laysTimes 149 = .ok (.istore 9, 2) := by decide +kernel
theorem dX10_laysTimes_151 : decode cX10_laysTimes 151 = .ok (.iload 9, 2) := by decide +kernel
theorem dX10_laysTimes_153 : decode cX10_laysTimes 153 = .ok (.ifCond .le 104, 3) := by decide +kernel
theorem dX10_laysTimes_156 : decode cX10_laysTimes 156 = .ok (.aload_n 0, 1) := by decide +kernel
theorem dX10_laysTimes_157 : decode cX10_laysTimes 157 = .ok (.getfield 36, 3) := by decide +kernel
theorem dX10_laysTimes_160 : decode cX10_laysTimes 160 = .ok (.iload 4, 2) := by decide +kernel
theorem dX10_laysTimes_162 : decode cX10_laysTimes 162 = .ok (.iload 9, 2) := by decide +kernel
theorem dX10_laysTimes_164 : decode cX10_laysTimes 164 = .ok (.iadd, 1) := by decide +kernel
theorem dX10_laysTimes_165 : decode cX10_laysTimes 165 = .ok (.iconst 1, 1) := by decide +kernel
theorem dX10_laysTimes_166 : decode cX10_laysTimes 166 = .ok (.isub, 1) := by decide +kernel
theorem dX10_laysTimes_167 : decode cX10_laysTimes 167 = .ok (.iaload, 1) := by decide +kernel
theorem dX10_laysTimes_168 : decode cX10_laysTimes 168 = .ok (.iload 7, 2) := by decide +kernel
theorem dX10_laysTimes_170 : decode cX10_laysTimes 170 = .ok (.if_icmp .gt 37, 3) := by decide +kernel
theorem dX10_laysTimes_173 : decode cX10_laysTimes 173 = .ok (.aload_n 0, 1) := by decide +kernel
theorem dX10_laysTimes_174 : decode cX10_laysTimes 174 = .ok (.getfield 36, 3) := by decide +kernel
theorem dX10_laysTimes_177 : decode cX10_laysTimes 177 = .ok (.iload 4, 2) := by decide +kernel
theorem dX10_laysTimes_179 : decode cX10_laysTimes 179 = .ok (.iload 9, 2) := by decide +kernel
theorem dX10_laysTimes_181 : decode cX10_laysTimes 181 = .ok (.iadd, 1) := by decide +kernel
theorem dX10_laysTimes_182 : decode cX10_laysTimes 182 = .ok (.iconst 1, 1) := by decide +kernel
theorem dX10_laysTimes_183 : decode cX10_laysTimes 183 = .ok (.isub, 1) := by decide +kernel
theorem dX10_laysTimes_184 : decode cX10_laysTimes 184 = .ok (.iaload, 1) := by decide +kernel
theorem dX10_laysTimes_185 : decode cX10_laysTimes 185 = .ok (.iload 7, 2) := by decide +kernel
theorem dX10_laysTimes_187 : decode cX10_laysTimes 187 = .ok (.if_icmp .ne 70, 3) := by decide +kernel
theorem dX10_laysTimes_190 : decode cX10_laysTimes 190 = .ok (.aload_n 0, 1) := by decide +kernel
theorem dX10_laysTimes_191 : decode cX10_laysTimes 191 = .ok (.getfield 39, 3) := by decide +kernel
theorem dX10_laysTimes_194 : decode cX10_laysTimes 194 = .ok (.iload 4, 2) := by decide +kernel
theorem dX10_laysTimes_196 : decode cX10_laysTimes 196 = .ok (.iload 9, 2) := by decide +kernel
theorem dX10_laysTimes_198 : decode cX10_laysTimes 198 = .ok (.iadd, 1) := by decide +kernel
theorem dX10_laysTimes_199 : decode cX10_laysTimes 199 = .ok (.iconst 1, 1) := by decide +kernel
theorem dX10_laysTimes_200 : decode cX10_laysTimes 200 = .ok (.isub, 1) := by decide +kernel
theorem dX10_laysTimes_201 : decode cX10_laysTimes 201 = .ok (.iaload, 1) := by decide +kernel
theorem dX10_laysTimes_202 : decode cX10_laysTimes 202 = .ok (.iload 8, 2) := by decide +kernel
theorem dX10_laysTimes_204 : decode cX10_laysTimes 204 = .ok (.if_icmp .le 53, 3) := by decide +kernel
theorem dX10_laysTimes_207 : decode cX10_laysTimes 207 = .ok (.aload_n 0, 1) := by decide +kernel
theorem dX10_laysTimes_208 : decode cX10_laysTimes 208 = .ok (.getfield 36, 3) := by decide +kernel
theorem dX10_laysTimes_211 : decode cX10_laysTimes 211 = .ok (.iload 4, 2) := by decide +kernel
theorem dX10_laysTimes_213 : decode cX10_laysTimes 213 = .ok (.iload 9, 2) := by decide +kernel
theorem dX10_laysTimes_215 : decode cX10_laysTimes 215 = .ok (.iadd, 1) := by decide +kernel
theorem dX10_laysTimes_216 : decode cX10_laysTimes 216 = .ok (.aload_n 0, 1) := by decide +kernel
theorem dX10_laysTimes_217 : decode cX10_laysTimes 217 = .ok (.getfield 36, 3) := by decide +kernel
theorem dX10_laysTimes_220 : decode cX10_laysTimes 220 = .ok (.iload 4, 2) := by decide +kernel
theorem dX10_laysTimes_222 : decode cX10_laysTimes 222 = .ok (.iload 9, 2) := by decide +kernel
theorem dX10_laysTimes_224 : decode cX10_laysTimes 224 = .ok (.iadd, 1) := by decide +kernel
theorem dX10_laysTimes_225 : decode cX10_laysTimes 225 = .ok (.iconst 1, 1) := by decide +kernel
theorem dX10_laysTimes_226 : decode cX10_laysTimes 226 = .ok (.isub, 1) := by decide +kernel
theorem dX10_laysTimes_227 : decode cX10_laysTimes 227 = .ok (.iaload, 1) := by decide +kernel
theorem dX10_laysTimes_228 : decode cX10_laysTimes 228 = .ok (.iastore, 1) := by decide +kernel
theorem dX10_laysTimes_229 : decode cX10_laysTimes 229 = .ok (.aload_n 0, 1) := by decide +kernel
theorem dX10_laysTimes_230 : decode cX10_laysTimes 230 = .ok (.getfield 39, 3) := by decide +kernel
theorem dX10_laysTimes_233 : decode cX10_laysTimes 233 = .ok (.iload 4, 2) := by decide +kernel
theorem dX10_laysTimes_235 : decode cX10_laysTimes 235 = .ok (.iload 9, 2) := by decide +kernel
theorem dX10_laysTimes_237 : decode cX10_laysTimes 237 = .ok (.iadd, 1) := by decide +kernel
theorem dX10_laysTimes_238 : decode cX10_laysTimes 238 = .ok (.aload_n 0, 1) := by decide +kernel
theorem dX10_laysTimes_239 : decode cX10_laysTimes 239 = .ok (.getfield 39, 3) := by decide +kernel
theorem dX10_laysTimes_242 : decode cX10_laysTimes 242 = .ok (.iload 4, 2) := by decide +kernel
theorem dX10_laysTimes_244 : decode cX10_laysTimes 244 = .ok (.iload 9, 2) := by decide +kernel
theorem dX10_laysTimes_246 : decode cX10_laysTimes 246 = .ok (.iadd, 1) := by decide +kernel
theorem dX10_laysTimes_247 : decode cX10_laysTimes 247 = .ok (.iconst 1, 1) := by decide +kernel
theorem dX10_laysTimes_248 : decode cX10_laysTimes 248 = .ok (.isub, 1) := by decide +kernel
theorem dX10_laysTimes_249 : decode cX10_laysTimes 249 = .ok (.iaload, 1) := by decide +kernel
theorem dX10_laysTimes_250 : decode cX10_laysTimes 250 = .ok (.iastore, 1) := by decide +kernel
theorem dX10_laysTimes_251 : decode cX10_laysTimes 251 = .ok (.iinc 9 (-1), 3) := by decide +kernel
theorem dX10_laysTimes_254 : decode cX10_laysTimes 254 = .ok (.goto (-103), 3) := by decide +kernel
theorem dX10_laysTimes_257 : decode cX10_laysTimes 257 = .ok (.aload_n 0, 1) := by decide +kernel
theorem dX10_laysTimes_258 : decode cX10_laysTimes 258 = .ok (.getfield 36, 3) := by decide +kernel
theorem dX10_laysTimes_261 : decode cX10_laysTimes 261 = .ok (.iload 4, 2) := by decide +kernel
theorem dX10_laysTimes_263 : decode cX10_laysTimes 263 = .ok (.iload 9, 2) := by decide +kernel
theorem dX10_laysTimes_265 : decode cX10_laysTimes 265 = .ok (.iadd, 1) := by decide +kernel
theorem dX10_laysTimes_266 : decode cX10_laysTimes 266 = .ok (.iload 7, 2) := by decide +kernel
theorem dX10_laysTimes_268 : decode cX10_laysTimes 268 = .ok (.iastore, 1) := by decide +kernel
theorem dX10_laysTimes_269 : decode cX10_laysTimes 269 = .ok (.aload_n 0, 1) := by decide +kernel
theorem dX10_laysTimes_270 : decode cX10_laysTimes 270 = .ok (.getfield 39, 3) := by decide +kernel
theorem dX10_laysTimes_273 : decode cX10_laysTimes 273 = .ok (.iload 4, 2) := by decide +kernel
theorem dX10_laysTimes_275 : decode cX10_laysTimes 275 = .ok (.iload 9, 2) := by decide +kernel
theorem dX10_laysTimes_277 : decode cX10_laysTimes 277 = .ok (.iadd, 1) := by decide +kernel
theorem dX10_laysTimes_278 : decode cX10_laysTimes 278 = .ok (.iload 8, 2) := by decide +kernel
theorem dX10_laysTimes_280 : decode cX10_laysTimes 280 = .ok (.iastore, 1) := by decide +kernel
theorem dX10_laysTimes_281 : decode cX10_laysTimes 281 = .ok (.iinc 5 1, 3) := by decide +kernel
theorem dX10_laysTimes_284 : decode cX10_laysTimes 284 = .ok (.iinc 6 1, 3) := by decide +kernel
theorem dX10_laysTimes_287 : decode cX10_laysTimes 287 = .ok (.goto (-190), 3) := by decide +kernel
theorem dX10_laysTimes_290 : decode cX10_laysTimes 290 = .ok (.aload_n 0, 1) := by decide +kernel
theorem dX10_laysTimes_291 : decode cX10_laysTimes 291 = .ok (.getfield 42, 3) := by decide +kernel
theorem dX10_laysTimes_294 : decode cX10_laysTimes 294 = .ok (.iload_n 2, 1) := by decide +kernel
theorem dX10_laysTimes_295 : decode cX10_laysTimes 295 = .ok (.iload 5, 2) := by decide +kernel
theorem dX10_laysTimes_297 : decode cX10_laysTimes 297 = .ok (.iastore, 1) := by decide +kernel
theorem dX10_laysTimes_298 : decode cX10_laysTimes 298 = .ok (.return_, 1) := by decide +kernel
theorem dX10_isKey_0 : decode cX10_isKey 0 = .ok (.aload_n 0, 1) := by decide +kernel
theorem dX10_isKey_1 : decode cX10_isKey 1 = .ok (.iload_n 1, 1) := by decide +kernel
theorem dX10_isKey_2 : decode cX10_isKey 2 = .ok (.invokevirtual 220, 3) := by decide +kernel
theorem dX10_isKey_5 : decode cX10_isKey 5 = .ok (.ifCond .eq 10, 3) := by decide +kernel
theorem dX10_isKey_8 : decode cX10_isKey 8 = .ok (.iload_n 2, 1) := by decide +kernel
theorem dX10_isKey_9 : decode cX10_isKey 9 = .ok (.invokestatic 223, 3) := by decide +kernel
theorem dX10_isKey_12 : decode cX10_isKey 12 = .ok (.ifCond .ne 5, 3) := by decide +kernel
theorem dX10_isKey_15 : decode cX10_isKey 15 = .ok (.iconst 0, 1) := by decide +kernel
theorem dX10_isKey_16 : decode cX10_isKey 16 = .ok (.ireturn, 1) := by decide +kernel
theorem dX10_isKey_17 : decode cX10_isKey 17 = .ok (.aload_n 0, 1) := by decide +kernel
theorem dX10_isKey_18 : decode cX10_isKey 18 = .ok (.iload_n 1, 1) := by decide +kernel
theorem dX10_isKey_19 : decode cX10_isKey 19 = .ok (.iconst 0, 1) := by decide +kernel
theorem dX10_isKey_20 : decode cX10_isKey 20 = .ok (.invokevirtual 236, 3) := by decide +kernel
theorem dX10_isKey_23 : decode cX10_isKey 23 = .ok (.istore_n 3, 1) := by decide +kernel
theorem dX10_isKey_24 : decode cX10_isKey 24 = .ok (.iconst 0, 1) := by decide +kernel
theorem dX10_isKey_25 : decode cX10_isKey 25 = .ok (.istore 4, 2) := by decide +kernel
theorem dX10_isKey_27 : decode cX10_isKey 27 = .ok (.iload 4, 2) := by decide +kernel
theorem dX10_isKey_29 : decode cX10_isKey 29 = .ok (.iload_n 3, 1) := by decide +kernel
theorem dX10_isKey_30 : decode cX10_isKey 30 = .ok (.if_icmp .ge 22, 3) := by decide +kernel
theorem dX10_isKey_33 : decode cX10_isKey 33 = .ok (.aload_n 0, 1) := by decide +kernel
theorem dX10_isKey_34 : decode cX10_isKey 34 = .ok (.getfield 39, 3) := by decide +kernel
theorem dX10_isKey_37 : decode cX10_isKey 37 = .ok (.iload 4, 2) := by decide +kernel
theorem dX10_isKey_39 : decode cX10_isKey 39 = .ok (.iaload, 1) := by decide +kernel
theorem dX10_isKey_40 : decode cX10_isKey 40 = .ok (.iload_n 2, 1) := by decide +kernel
theorem dX10_isKey_41 : decode cX10_isKey 41 = .ok (.if_icmp .ne 5, 3) := by decide +kernel
theorem dX10_isKey_44 : decode cX10_isKey 44 = .ok (.iconst 1, 1) := by decide +kernel
theorem dX10_isKey_45 : decode cX10_isKey 45 = .ok (.ireturn, 1) := by decide +kernel
theorem dX10_isKey_46 : decode cX10_isKey 46 = .ok (.iinc 4 1, 3) := by decide +kernel
theorem dX10_isKey_49 : decode cX10_isKey 49 = .ok (.goto (-22), 3) := by decide +kernel
theorem dX10_isKey_52 : decode cX10_isKey 52 = .ok (.iconst 0, 1) := by decide +kernel
theorem dX10_isKey_53 : decode cX10_isKey 53 = .ok (.ireturn, 1) := by decide +kernel
theorem dX10_key_0 : decode cX10_key 0 = .ok (.aload_n 0, 1) := by decide +kernel
theorem dX10_key_1 : decode cX10_key 1 = .ok (.iconst 0, 1) := by decide +kernel
theorem dX10_key_2 : decode cX10_key 2 = .ok (.putfield 60, 3) := by decide +kernel
theorem dX10_key_5 : decode cX10_key 5 = .ok (.aload_n 0, 1) := by decide +kernel
theorem dX10_key_6 : decode cX10_key 6 = .ok (.iload_n 1, 1) := by decide +kernel
theorem dX10_key_7 : decode cX10_key 7 = .ok (.invokevirtual 220, 3) := by decide +kernel
theorem dX10_key_10 : decode cX10_key 10 = .ok (.ifCond .eq 10, 3) := by decide +kernel
theorem dX10_key_13 : decode cX10_key 13 = .ok (.iload_n 2, 1) := by decide +kernel
theorem dX10_key_14 : decode cX10_key 14 = .ok (.invokestatic 223, 3) := by decide +kernel
theorem dX10_key_17 : decode cX10_key 17 = .ok (.ifCond .ne 5, 3) := by decide +kernel
theorem dX10_key_20 : decode cX10_key 20 = .ok (.iconst (-1), 1) := by decide +kernel
theorem dX10_key_21 : decode cX10_key 21 = .ok (.ireturn, 1) := by decide +kernel
theorem dX10_key_22 : decode cX10_key 22 = .ok (.aload_n 0, 1) := by decide +kernel
theorem dX10_key_23 : decode cX10_key 23 = .ok (.iload_n 1, 1) := by decide +kernel
theorem dX10_key_24 : decode cX10_key 24 = .ok (.iconst 0, 1) := by decide +kernel
theorem dX10_key_25 : decode cX10_key 25 = .ok (.invokevirtual 236, 3) := by decide +kernel
theorem dX10_key_28 : decode cX10_key 28 = .ok (.istore_n 3, 1) := by decide +kernel
theorem dX10_key_29 : decode cX10_key 29 = .ok (.iconst 0, 1) := by decide +kernel
theorem dX10_key_30 : decode cX10_key 30 = .ok (.istore 4, 2) := by decide +kernel
theorem dX10_key_32 : decode cX10_key 32 = .ok (.iload 4, 2) := by decide +kernel
theorem dX10_key_34 : decode cX10_key 34 = .ok (.iload_n 3, 1) := by decide +kernel
theorem dX10_key_35 : decode cX10_key 35 = .ok (.if_icmp .ge 28, 3) := by decide +kernel
theorem dX10_key_38 : decode cX10_key 38 = .ok (.aload_n 0, 1) := by decide +kernel
theorem dX10_key_39 : decode cX10_key 39 = .ok (.getfield 39, 3) := by decide +kernel
theorem dX10_key_42 : decode cX10_key 42 = .ok (.iload 4, 2) := by decide +kernel
theorem dX10_key_44 : decode cX10_key 44 = .ok (.iaload, 1) := by decide +kernel
theorem dX10_key_45 : decode cX10_key 45 = .ok (.iload_n 2, 1) := by decide +kernel
theorem dX10_key_46 : decode cX10_key 46 = .ok (.if_icmp .lt 11, 3) := by decide +kernel
theorem dX10_key_49 : decode cX10_key 49 = .ok (.aload_n 0, 1) := by decide +kernel
theorem dX10_key_50 : decode cX10_key 50 = .ok (.getfield 39, 3) := by decide +kernel
theorem dX10_key_53 : decode cX10_key 53 = .ok (.iload 4, 2) := by decide +kernel
theorem dX10_key_55 : decode cX10_key 55 = .ok (.iaload, 1) := by decide +kernel
theorem dX10_key_56 : decode cX10_key 56 = .ok (.ireturn, 1) := by decide +kernel
theorem dX10_key_57 : decode cX10_key 57 = .ok (.iinc 4 1, 3) := by decide +kernel
theorem dX10_key_60 : decode cX10_key 60 = .ok (.goto (-28), 3) := by decide +kernel
theorem dX10_key_63 : decode cX10_key 63 = .ok (.iconst (-1), 1) := by decide +kernel
theorem dX10_key_64 : decode cX10_key 64 = .ok (.ireturn, 1) := by decide +kernel
theorem dX10_keys_0 : decode cX10_keys 0 = .ok (.aload_n 0, 1) := by decide +kernel
theorem dX10_keys_1 : decode cX10_keys 1 = .ok (.iconst 0, 1) := by decide +kernel
theorem dX10_keys_2 : decode cX10_keys 2 = .ok (.putfield 60, 3) := by decide +kernel
theorem dX10_keys_5 : decode cX10_keys 5 = .ok (.aload_n 0, 1) := by decide +kernel
theorem dX10_keys_6 : decode cX10_keys 6 = .ok (.iload_n 1, 1) := by decide +kernel
theorem dX10_keys_7 : decode cX10_keys 7 = .ok (.invokevirtual 220, 3) := by decide +kernel
theorem dX10_keys_10 : decode cX10_keys 10 = .ok (.ifCond .eq 22, 3) := by decide +kernel
theorem dX10_keys_13 : decode cX10_keys 13 = .ok (.iload_n 2, 1) := by decide +kernel
theorem dX10_keys_14 : decode cX10_keys 14 = .ok (.invokestatic 223, 3) := by decide +kernel
theorem dX10_keys_17 : decode cX10_keys 17 = .ok (.ifCond .eq 15, 3) := by decide +kernel
theorem dX10_keys_20 : decode cX10_keys 20 = .ok (.iload_n 3, 1) := by decide +kernel
theorem dX10_keys_21 : decode cX10_keys 21 = .ok (.invokestatic 223, 3) := by decide +kernel
theorem dX10_keys_24 : decode cX10_keys 24 = .ok (.ifCond .eq 8, 3) := by decide +kernel
theorem dX10_keys_27 : decode cX10_keys 27 = .ok (.iload_n 3, 1) := by decide +kernel
theorem dX10_keys_28 : decode cX10_keys 28 = .ok (.iload_n 2, 1) := by decide +kernel
theorem dX10_keys_29 : decode cX10_keys 29 = .ok (.if_icmp .ge 5, 3) := by decide +kernel
theorem dX10_keys_32 : decode cX10_keys 32 = .ok (.iconst (-1), 1) := by decide +kernel
theorem dX10_keys_33 : decode cX10_keys 33 = .ok (.ireturn, 1) := by decide +kernel
theorem dX10_keys_34 : decode cX10_keys 34 = .ok (.aload_n 0, 1) := by decide +kernel
theorem dX10_keys_35 : decode cX10_keys 35 = .ok (.iload_n 1, 1) := by decide +kernel
theorem dX10_keys_36 : decode cX10_keys 36 = .ok (.iconst 0, 1) := by decide +kernel
theorem dX10_keys_37 : decode cX10_keys 37 = .ok (.invokevirtual 236, 3) := by decide +kernel
theorem dX10_keys_40 : decode cX10_keys 40 = .ok (.istore 4, 2) := by decide +kernel
theorem dX10_keys_42 : decode cX10_keys 42 = .ok (.iconst 0, 1) := by decide +kernel
theorem dX10_keys_43 : decode cX10_keys 43 = .ok (.istore 5, 2) := by decide +kernel
theorem dX10_keys_45 : decode cX10_keys 45 = .ok (.iconst 0, 1) := by decide +kernel
theorem dX10_keys_46 : decode cX10_keys 46 = .ok (.istore 6, 2) := by decide +kernel
theorem dX10_keys_48 : decode cX10_keys 48 = .ok (.iload 6, 2) := by decide +kernel
theorem dX10_keys_50 : decode cX10_keys 50 = .ok (.iload 4, 2) := by decide +kernel
theorem dX10_keys_52 : decode cX10_keys 52 = .ok (.if_icmp .ge 27, 3) := by decide +kernel
theorem dX10_keys_55 : decode cX10_keys 55 = .ok (.aload_n 0, 1) := by decide +kernel
theorem dX10_keys_56 : decode cX10_keys 56 = .ok (.getfield 39, 3) := by decide +kernel
theorem dX10_keys_59 : decode cX10_keys 59 = .ok (.iload 6, 2) := by decide +kernel
theorem dX10_keys_61 : decode cX10_keys 61 = .ok (.iaload, 1) := by decide +kernel
theorem dX10_keys_62 : decode cX10_keys 62 = .ok (.iload_n 2, 1) := by decide +kernel
theorem dX10_keys_63 : decode cX10_keys 63 = .ok (.iload_n 3, 1) := by decide +kernel
theorem dX10_keys_64 : decode cX10_keys 64 = .ok (.invokestatic 65, 3) := by decide +kernel
theorem dX10_keys_67 : decode cX10_keys 67 = .ok (.ifCond .eq 6, 3) := by decide +kernel
theorem dX10_keys_70 : decode cX10_keys 70 = .ok (.iinc 5 1, 3) := by decide +kernel
theorem dX10_keys_73 : decode cX10_keys 73 = .ok (.iinc 6 1, 3) := by decide +kernel
theorem dX10_keys_76 : decode cX10_keys 76 = .ok (.goto (-28), 3) := by decide +kernel
theorem dX10_keys_79 : decode cX10_keys 79 = .ok (.iload 5, 2) := by decide +kernel
theorem dX10_keys_81 : decode cX10_keys 81 = .ok (.ireturn, 1) := by decide +kernel
theorem dX10_tellsOdd_0 : decode cX10_tellsOdd 0 = .ok (.aload_n 0, 1) := by decide +kernel
theorem dX10_tellsOdd_1 : decode cX10_tellsOdd 1 = .ok (.iload_n 1, 1) := by decide +kernel
theorem dX10_tellsOdd_2 : decode cX10_tellsOdd 2 = .ok (.iload_n 2, 1) := by decide +kernel
theorem dX10_tellsOdd_3 : decode cX10_tellsOdd 3 = .ok (.invokevirtual 239, 3) := by decide +kernel
theorem dX10_tellsOdd_6 : decode cX10_tellsOdd 6 = .ok (.istore 4, 2) := by decide +kernel
theorem dX10_tellsOdd_8 : decode cX10_tellsOdd 8 = .ok (.iload 4, 2) := by decide +kernel
theorem dX10_tellsOdd_10 : decode cX10_tellsOdd 10 = .ok (.ifCond .ge 17, 3) := by decide +kernel
theorem dX10_tellsOdd_13 : decode cX10_tellsOdd 13 = .ok (.aload_n 0, 1) := by decide +kernel
theorem dX10_tellsOdd_14 : decode cX10_tellsOdd 14 = .ok (.iload_n 1, 1) := by decide +kernel
theorem dX10_tellsOdd_15 : decode cX10_tellsOdd 15 = .ok (.bipush 11, 2) := by decide +kernel
theorem dX10_tellsOdd_17 : decode cX10_tellsOdd 17 = .ok (.invokevirtual 229, 3) := by decide +kernel
theorem dX10_tellsOdd_20 : decode cX10_tellsOdd 20 = .ok (.bipush 16, 2) := by decide +kernel
theorem dX10_tellsOdd_22 : decode cX10_tellsOdd 22 = .ok (.if_icmp .ne 5, 3) := by decide +kernel
theorem dX10_tellsOdd_25 : decode cX10_tellsOdd 25 = .ok (.iconst 0, 1) := by decide +kernel
theorem dX10_tellsOdd_26 : decode cX10_tellsOdd 26 = .ok (.ireturn, 1) := by decide +kernel
theorem dX10_tellsOdd_27 : decode cX10_tellsOdd 27 = .ok (.iload 4, 2) := by decide +kernel
theorem dX10_tellsOdd_29 : decode cX10_tellsOdd 29 = .ok (.ifCond .ge 28, 3) := by decide +kernel
theorem dX10_tellsOdd_32 : decode cX10_tellsOdd 32 = .ok (.aload_n 0, 1) := by decide +kernel
theorem dX10_tellsOdd_33 : decode cX10_tellsOdd 33 = .ok (.iload_n 1, 1) := by decide +kernel
theorem dX10_tellsOdd_34 : decode cX10_tellsOdd 34 = .ok (.bipush 11, 2) := by decide +kernel
theorem dX10_tellsOdd_36 : decode cX10_tellsOdd 36 = .ok (.invokevirtual 229, 3) := by decide +kernel
theorem dX10_tellsOdd_39 : decode cX10_tellsOdd 39 = .ok (.istore 4, 2) := by decide +kernel
theorem dX10_tellsOdd_41 : decode cX10_tellsOdd 41 = .ok (.aload_n 0, 1) := by decide +kernel
theorem dX10_tellsOdd_42 : decode cX10_tellsOdd 42 = .ok (.getfield 23, 3) := by decide +kernel
theorem dX10_tellsOdd_45 : decode cX10_tellsOdd 45 = .ok (.bipush 44, 2) := by decide +kernel
theorem dX10_tellsOdd_47 : decode cX10_tellsOdd 47 = .ok (.iload_n 1, 1) := by decide +kernel
theorem dX10_tellsOdd_48 : decode cX10_tellsOdd 48 = .ok (.imul, 1) := by decide +kernel
theorem dX10_tellsOdd_49 : decode cX10_tellsOdd 49 = .ok (.bipush 11, 2) := by decide +kernel
theorem dX10_tellsOdd_51 : decode cX10_tellsOdd 51 = .ok (.iadd, 1) := by decide +kernel
theorem dX10_tellsOdd_52 : decode cX10_tellsOdd 52 = .ok (.dup2, 1) := by decide +kernel
theorem dX10_tellsOdd_53 : decode cX10_tellsOdd 53 = .ok (.iaload, 1) := by decide +kernel
theorem dX10_tellsOdd_54 : decode cX10_tellsOdd 54 = .ok (.iconst 1, 1) := by decide +kernel
theorem dX10_tellsOdd_55 : decode cX10_tellsOdd 55 = .ok (.iadd, 1) := by decide +kernel
theorem dX10_tellsOdd_56 : decode cX10_tellsOdd 56 = .ok (.iastore, 1) := by decide +kernel
theorem dX10_tellsOdd_57 : decode cX10_tellsOdd 57 = .ok (.aload_n 0, 1) := by decide +kernel
theorem dX10_tellsOdd_58 : decode cX10_tellsOdd 58 = .ok (.getfield 23, 3) := by decide +kernel
theorem dX10_tellsOdd_61 : decode cX10_tellsOdd 61 = .ok (.bipush 44, 2) := by decide +kernel
theorem dX10_tellsOdd_63 : decode cX10_tellsOdd 63 = .ok (.iload_n 1, 1) := by decide +kernel
theorem dX10_tellsOdd_64 : decode cX10_tellsOdd 64 = .ok (.imul, 1) := by decide +kernel
theorem dX10_tellsOdd_65 : decode cX10_tellsOdd 65 = .ok (.bipush 12, 2) := by decide +kernel
theorem dX10_tellsOdd_67 : decode cX10_tellsOdd 67 = .ok (.iadd, 1) := by decide +kernel
theorem dX10_tellsOdd_68 : decode cX10_tellsOdd 68 = .ok (.iconst 2, 1) := by decide +kernel
theorem dX10_tellsOdd_69 : decode cX10_tellsOdd 69 = .ok (.iload 4, 2) := by decide +kernel
theorem dX10_tellsOdd_71 : decode cX10_tellsOdd 71 = .ok (.imul, 1) := by decide +kernel
theorem dX10_tellsOdd_72 : decode cX10_tellsOdd 72 = .ok (.iadd, 1) := by decide +kernel
theorem dX10_tellsOdd_73 : decode cX10_tellsOdd 73 = .ok (.iload_n 2, 1) := by decide +kernel
theorem dX10_tellsOdd_74 : decode cX10_tellsOdd 74 = .ok (.iastore, 1) := by decide +kernel
theorem dX10_tellsOdd_75 : decode cX10_tellsOdd 75 = .ok (.aload_n 0, 1) := by decide +kernel
theorem dX10_tellsOdd_76 : decode cX10_tellsOdd 76 = .ok (.getfield 23, 3) := by decide +kernel
theorem dX10_tellsOdd_79 : decode cX10_tellsOdd 79 = .ok (.bipush 44, 2) := by decide +kernel
theorem dX10_tellsOdd_81 : decode cX10_tellsOdd 81 = .ok (.iload_n 1, 1) := by decide +kernel
theorem dX10_tellsOdd_82 : decode cX10_tellsOdd 82 = .ok (.imul, 1) := by decide +kernel
theorem dX10_tellsOdd_83 : decode cX10_tellsOdd 83 = .ok (.bipush 12, 2) := by decide +kernel
theorem dX10_tellsOdd_85 : decode cX10_tellsOdd 85 = .ok (.iadd, 1) := by decide +kernel
theorem dX10_tellsOdd_86 : decode cX10_tellsOdd 86 = .ok (.iconst 2, 1) := by decide +kernel
theorem dX10_tellsOdd_87 : decode cX10_tellsOdd 87 = .ok (.iload 4, 2) := by decide +kernel
theorem dX10_tellsOdd_89 : decode cX10_tellsOdd 89 = .ok (.imul, 1) := by decide +kernel
theorem dX10_tellsOdd_90 : decode cX10_tellsOdd 90 = .ok (.iadd, 1) := by decide +kernel
theorem dX10_tellsOdd_91 : decode cX10_tellsOdd 91 = .ok (.iconst 1, 1) := by decide +kernel
theorem dX10_tellsOdd_92 : decode cX10_tellsOdd 92 = .ok (.iadd, 1) := by decide +kernel
theorem dX10_tellsOdd_93 : decode cX10_tellsOdd 93 = .ok (.iload_n 3, 1) := by decide +kernel
theorem dX10_tellsOdd_94 : decode cX10_tellsOdd 94 = .ok (.iastore, 1) := by decide +kernel
theorem dX10_tellsOdd_95 : decode cX10_tellsOdd 95 = .ok (.iconst 1, 1) := by decide +kernel
theorem dX10_tellsOdd_96 : decode cX10_tellsOdd 96 = .ok (.ireturn, 1) := by decide +kernel
theorem dX10_drop_0 : decode cX10_drop 0 = .ok (.aload_n 0, 1) := by decide +kernel
theorem dX10_drop_1 : decode cX10_drop 1 = .ok (.iconst 0, 1) := by decide +kernel
theorem dX10_drop_2 : decode cX10_drop 2 = .ok (.putfield 60, 3) := by decide +kernel
theorem dX10_drop_5 : decode cX10_drop 5 = .ok (.aload_n 0, 1) := by decide +kernel
theorem dX10_drop_6 : decode cX10_drop 6 = .ok (.iload_n 1, 1) := by decide +kernel
theorem dX10_drop_7 : decode cX10_drop 7 = .ok (.iload_n 2, 1) := by decide +kernel
theorem dX10_drop_8 : decode cX10_drop 8 = .ok (.invokevirtual 242, 3) := by decide +kernel
theorem dX10_drop_11 : decode cX10_drop 11 = .ok (.ifCond .ne 5, 3) := by decide +kernel
theorem dX10_drop_14 : decode cX10_drop 14 = .ok (.iconst 0, 1) := by decide +kernel
theorem dX10_drop_15 : decode cX10_drop 15 = .ok (.ireturn, 1) := by decide +kernel
theorem dX10_drop_16 : decode cX10_drop 16 = .ok (.aload_n 0, 1) := by decide +kernel
theorem dX10_drop_17 : decode cX10_drop 17 = .ok (.iload_n 1, 1) := by decide +kernel
