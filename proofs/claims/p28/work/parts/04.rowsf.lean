theorem dX9_ruledClash_224 : decode cX9_ruledClash 224 = .ok (.invokevirtual 87, 3) := by decide +kernel
theorem dX9_ruledClash_227 : decode cX9_ruledClash 227 = .ok (.istore 8, 2) := by decide +kernel
theorem dX9_ruledClash_229 : decode cX9_ruledClash 229 = .ok (.iinc 9 1, 3) := by decide +kernel
theorem dX9_ruledClash_232 : decode cX9_ruledClash 232 = .ok (.goto (-158), 3) := by decide +kernel
theorem dX9_ruledClash_235 : decode cX9_ruledClash 235 = .ok (.iload 6, 2) := by decide +kernel
theorem dX9_ruledClash_237 : decode cX9_ruledClash 237 = .ok (.ireturn, 1) := by decide +kernel
set_option maxRecDepth 20000 in
theorem ggX9_lastKeyToTry_X2_cycle : GoodIn wsX9_lastKeyToTry wsX2_cycle := goodIn_r _ [18, 19, 59, 60, 61, 62] (by decide +kernel) (by decide +kernel)
set_option maxRecDepth 20000 in
theorem gX9_lastKeyToTry_X2_cycle_u194X2 : GoodIn wsX9_lastKeyToTry (va_wsU RX9 194 RX2 "BookIndex$Rule" ⟨"BookIndex$Rule", "cycle", "()J"⟩ yX2_cycle wsX2_cycle) := goodIn_app (goodIn_of _ (by decide +kernel)) ggX9_lastKeyToTry_X2_cycle
set_option maxRecDepth 20000 in
theorem ggX9_lastKeyToTry_X3_cycle : GoodIn wsX9_lastKeyToTry wsX3_cycle := goodIn_r _ [23, 24, 25, 26, 27, 28, 29, 30, 31, 32, 63, 64, 65, 66, 67, 68, 69] (by decide +kernel) (by decide +kernel)
set_option maxRecDepth 20000 in
theorem gX9_lastKeyToTry_X3_cycle_u194X3 : GoodIn wsX9_lastKeyToTry (va_wsU RX9 194 RX3 "BookIndex$Rule" ⟨"BookIndex$Rule", "cycle", "()J"⟩ yX3_cycle wsX3_cycle) := goodIn_app (goodIn_of _ (by decide +kernel)) ggX9_lastKeyToTry_X3_cycle
set_option maxRecDepth 20000 in
theorem ggX9_lastKeyToTry_X4_cycle : GoodIn wsX9_lastKeyToTry wsX4_cycle := goodIn_r _ [36] (by decide +kernel) (by decide +kernel)
set_option maxRecDepth 20000 in
theorem gX9_lastKeyToTry_X4_cycle_u194X4 : GoodIn wsX9_lastKeyToTry (va_wsU RX9 194 RX4 "BookIndex$Rule" ⟨"BookIndex$Rule", "cycle", "()J"⟩ yX4_cycle wsX4_cycle) := goodIn_app (goodIn_of _ (by decide +kernel)) ggX9_lastKeyToTry_X4_cycle
set_option maxRecDepth 20000 in
theorem ggX9_lastKeyToTry_X8_cycle : GoodIn wsX9_lastKeyToTry wsX8_cycle := goodIn_r _ [40, 41, 42, 70, 71, 72, 73, 74, 75] (by decide +kernel) (by decide +kernel)
set_option maxRecDepth 20000 in
theorem gX9_lastKeyToTry_X8_cycle_u194X8 : GoodIn wsX9_lastKeyToTry (va_wsU RX9 194 RX8 "BookIndex$Rule" ⟨"BookIndex$Rule", "cycle", "()J"⟩ yX8_cycle wsX8_cycle) := goodIn_app (goodIn_of _ (by decide +kernel)) ggX9_lastKeyToTry_X8_cycle
set_option maxRecDepth 20000 in
theorem ggX9_lastKeyToTry_X9_commonMultiple : GoodIn wsX9_lastKeyToTry wsX9_commonMultiple := goodIn_r _ [29, 30, 31, 28, 32] (by decide +kernel) (by decide +kernel)
set_option maxRecDepth 20000 in
theorem gX9_lastKeyToTry_X9_commonMultiple : GoodIn wsX9_lastKeyToTry (va_wsS RX9 204 yX9_commonMultiple wsX9_commonMultiple) := goodIn_app (goodIn_of _ (by decide +kernel)) ggX9_lastKeyToTry_X9_commonMultiple
theorem dX9_lastKeyToTry_0 : decode cX9_lastKeyToTry 0 = .ok (.aload_n 0, 1) := by decide +kernel
theorem dX9_lastKeyToTry_1 : decode cX9_lastKeyToTry 1 = .ok (.getfield 190, 3) := by decide +kernel
theorem dX9_lastKeyToTry_4 : decode cX9_lastKeyToTry 4 = .ok (.invokevirtual 194, 3) := by decide +kernel
theorem dX9_lastKeyToTry_7 : decode cX9_lastKeyToTry 7 = .ok (.aload_n 1, 1) := by decide +kernel
theorem dX9_lastKeyToTry_8 : decode cX9_lastKeyToTry 8 = .ok (.getfield 190, 3) := by decide +kernel
theorem dX9_lastKeyToTry_11 : decode cX9_lastKeyToTry 11 = .ok (.invokevirtual 194, 3) := by decide +kernel
theorem dX9_lastKeyToTry_14 : decode cX9_lastKeyToTry 14 = .ok (.invokestatic 204, 3) := by decide +kernel
theorem dX9_lastKeyToTry_17 : decode cX9_lastKeyToTry 17 = .ok (.lstore_n 3, 1) := by decide +kernel
theorem dX9_lastKeyToTry_18 : decode cX9_lastKeyToTry 18 = .ok (.lload_n 3, 1) := by decide +kernel
theorem dX9_lastKeyToTry_19 : decode cX9_lastKeyToTry 19 = .ok (.lconst 0, 1) := by decide +kernel
theorem dX9_lastKeyToTry_20 : decode cX9_lastKeyToTry 20 = .ok (.lcmp, 1) := by decide +kernel
theorem dX9_lastKeyToTry_21 : decode cX9_lastKeyToTry 21 = .ok (.ifCond .ne 6, 3) := by decide +kernel
theorem dX9_lastKeyToTry_24 : decode cX9_lastKeyToTry 24 = .ok (.ldc 185, 2) := by decide +kernel
theorem dX9_lastKeyToTry_26 : decode cX9_lastKeyToTry 26 = .ok (.ireturn, 1) := by decide +kernel
theorem dX9_lastKeyToTry_27 : decode cX9_lastKeyToTry 27 = .ok (.aload_n 0, 1) := by decide +kernel
theorem dX9_lastKeyToTry_28 : decode cX9_lastKeyToTry 28 = .ok (.getfield 251, 3) := by decide +kernel
theorem dX9_lastKeyToTry_31 : decode cX9_lastKeyToTry 31 = .ok (.aload_n 1, 1) := by decide +kernel
theorem dX9_lastKeyToTry_32 : decode cX9_lastKeyToTry 32 = .ok (.getfield 251, 3) := by decide +kernel
theorem dX9_lastKeyToTry_35 : decode cX9_lastKeyToTry 35 = .ok (.invokestatic 254, 3) := by decide +kernel
theorem dX9_lastKeyToTry_38 : decode cX9_lastKeyToTry 38 = .ok (.iload_n 2, 1) := by decide +kernel
theorem dX9_lastKeyToTry_39 : decode cX9_lastKeyToTry 39 = .ok (.sipush 1440, 3) := by decide +kernel
theorem dX9_lastKeyToTry_42 : decode cX9_lastKeyToTry 42 = .ok (.idiv, 1) := by decide +kernel
theorem dX9_lastKeyToTry_43 : decode cX9_lastKeyToTry 43 = .ok (.iconst 1, 1) := by decide +kernel
theorem dX9_lastKeyToTry_44 : decode cX9_lastKeyToTry 44 = .ok (.iadd, 1) := by decide +kernel
theorem dX9_lastKeyToTry_45 : decode cX9_lastKeyToTry 45 = .ok (.invokestatic 254, 3) := by decide +kernel
theorem dX9_lastKeyToTry_48 : decode cX9_lastKeyToTry 48 = .ok (.iconst 4, 1) := by decide +kernel
theorem dX9_lastKeyToTry_49 : decode cX9_lastKeyToTry 49 = .ok (.iadd, 1) := by decide +kernel
theorem dX9_lastKeyToTry_50 : decode cX9_lastKeyToTry 50 = .ok (.istore 5, 2) := by decide +kernel
theorem dX9_lastKeyToTry_52 : decode cX9_lastKeyToTry 52 = .ok (.iload 5, 2) := by decide +kernel
theorem dX9_lastKeyToTry_54 : decode cX9_lastKeyToTry 54 = .ok (.i2l, 1) := by decide +kernel
theorem dX9_lastKeyToTry_55 : decode cX9_lastKeyToTry 55 = .ok (.aload_n 0, 1) := by decide +kernel
theorem dX9_lastKeyToTry_56 : decode cX9_lastKeyToTry 56 = .ok (.getfield 234, 3) := by decide +kernel
theorem dX9_lastKeyToTry_59 : decode cX9_lastKeyToTry 59 = .ok (.aload_n 1, 1) := by decide +kernel
theorem dX9_lastKeyToTry_60 : decode cX9_lastKeyToTry 60 = .ok (.getfield 234, 3) := by decide +kernel
theorem dX9_lastKeyToTry_63 : decode cX9_lastKeyToTry 63 = .ok (.iadd, 1) := by decide +kernel
theorem dX9_lastKeyToTry_64 : decode cX9_lastKeyToTry 64 = .ok (.iconst 1, 1) := by decide +kernel
theorem dX9_lastKeyToTry_65 : decode cX9_lastKeyToTry 65 = .ok (.iadd, 1) := by decide +kernel
theorem dX9_lastKeyToTry_66 : decode cX9_lastKeyToTry 66 = .ok (.i2l, 1) := by decide +kernel
theorem dX9_lastKeyToTry_67 : decode cX9_lastKeyToTry 67 = .ok (.lload_n 3, 1) := by decide +kernel
theorem dX9_lastKeyToTry_68 : decode cX9_lastKeyToTry 68 = .ok (.lmul, 1) := by decide +kernel
theorem dX9_lastKeyToTry_69 : decode cX9_lastKeyToTry 69 = .ok (.ladd, 1) := by decide +kernel
theorem dX9_lastKeyToTry_70 : decode cX9_lastKeyToTry 70 = .ok (.ldc2_w 266, 3) := by decide +kernel
theorem dX9_lastKeyToTry_73 : decode cX9_lastKeyToTry 73 = .ok (.invokestatic 268, 3) := by decide +kernel
theorem dX9_lastKeyToTry_76 : decode cX9_lastKeyToTry 76 = .ok (.l2i, 1) := by decide +kernel
theorem dX9_lastKeyToTry_77 : decode cX9_lastKeyToTry 77 = .ok (.ireturn, 1) := by decide +kernel
set_option maxRecDepth 20000 in
theorem ggX9_countMet_X0_seek : GoodIn wsX9_countMet wsX0_seek := goodIn_r _ [9, 10, 11, 12, 13, 14, 15, 16, 17, 18, 8, 19, 20, 21, 22, 23, 24, 25, 26, 27, 28, 29, 30, 31, 32, 33, 34, 35, 36, 37, 38, 39, 40, 41, 42, 43, 44, 45, 46, 47, 48, 49, 50, 51, 52, 53, 54, 55, 56, 57, 58, 59, 60, 61, 62, 63, 64, 65, 66, 67, 68, 69, 70, 71, 72, 73, 74, 75, 76, 77, 78, 79, 80, 81, 82, 83, 84, 85, 86, 87, 88, 89, 90, 91, 92, 93, 94, 95, 96, 97, 98, 99, 100, 101, 102, 148, 149, 150, 151, 152, 153, 154, 155, 156, 157, 158, 159, 160, 161, 162, 163, 164, 165, 166, 167, 168, 169, 170, 171, 172, 173, 174, 175, 176, 177, 178, 179, 180, 181, 182] (by decide +kernel) (by decide +kernel)
set_option maxRecDepth 20000 in
theorem gX9_countMet_X0_seek : GoodIn wsX9_countMet (wsV RX9 116 RX0 yX0_seek wsX0_seek) := goodIn_app (goodIn_of _ (by decide +kernel)) ggX9_countMet_X0_seek
set_option maxRecDepth 20000 in
theorem ggX9_countMet_X0_beginsIn : GoodIn wsX9_countMet wsX0_beginsIn := goodIn_r _ [106, 10, 15, 14, 16, 17, 18, 8, 19, 20, 21, 22, 23, 24, 107, 108, 109, 110, 111, 112, 113, 114, 29, 115, 49, 50, 51, 30, 116, 117, 118, 31, 119, 120, 121, 122, 36, 123, 124, 125, 126, 127, 38, 39, 40, 128, 129, 44, 130, 46, 47, 48, 52, 58, 59, 60, 61, 53, 54, 55, 56, 57, 62, 63, 64, 65, 66, 67, 68, 69, 70, 71, 72, 73, 131, 132, 76, 133, 78, 79, 134, 135, 82, 136, 84, 85, 86, 137, 138, 139, 140, 87, 88, 94, 141, 142, 143, 144, 145, 146, 147, 148, 149, 150, 151, 152, 153, 154, 155, 156, 157, 158, 159, 160, 161, 162, 163, 164, 165, 166, 167, 168, 169, 170, 171, 172, 173, 174, 175, 176, 177, 178, 179, 180, 181, 182] (by decide +kernel) (by decide +kernel)
set_option maxRecDepth 20000 in
theorem gX9_countMet_X0_beginsIn : GoodIn wsX9_countMet (wsV RX9 125 RX0 yX0_beginsIn wsX0_beginsIn) := goodIn_app (goodIn_of _ (by decide +kernel)) ggX9_countMet_X0_beginsIn
theorem dX9_countMet_0 : decode cX9_countMet 0 = .ok (.iconst 0, 1) := by decide +kernel
theorem dX9_countMet_1 : decode cX9_countMet 1 = .ok (.istore 5, 2) := by decide +kernel
theorem dX9_countMet_3 : decode cX9_countMet 3 = .ok (.aload_n 0, 1) := by decide +kernel
theorem dX9_countMet_4 : decode cX9_countMet 4 = .ok (.iload_n 2, 1) := by decide +kernel
theorem dX9_countMet_5 : decode cX9_countMet 5 = .ok (.iconst 0, 1) := by decide +kernel
theorem dX9_countMet_6 : decode cX9_countMet 6 = .ok (.invokevirtual 116, 3) := by decide +kernel
theorem dX9_countMet_9 : decode cX9_countMet 9 = .ok (.istore 6, 2) := by decide +kernel
theorem dX9_countMet_11 : decode cX9_countMet 11 = .ok (.iconst 0, 1) := by decide +kernel
theorem dX9_countMet_12 : decode cX9_countMet 12 = .ok (.istore 7, 2) := by decide +kernel
theorem dX9_countMet_14 : decode cX9_countMet 14 = .ok (.iload 7, 2) := by decide +kernel
theorem dX9_countMet_16 : decode cX9_countMet 16 = .ok (.ldc 185, 2) := by decide +kernel
theorem dX9_countMet_18 : decode cX9_countMet 18 = .ok (.if_icmp .gt 65, 3) := by decide +kernel
theorem dX9_countMet_21 : decode cX9_countMet 21 = .ok (.iload 6, 2) := by decide +kernel
theorem dX9_countMet_23 : decode cX9_countMet 23 = .ok (.ifCond .eq 60, 3) := by decide +kernel
theorem dX9_countMet_26 : decode cX9_countMet 26 = .ok (.aload_n 0, 1) := by decide +kernel
theorem dX9_countMet_27 : decode cX9_countMet 27 = .ok (.getfield 145, 3) := by decide +kernel
theorem dX9_countMet_30 : decode cX9_countMet 30 = .ok (.iload_n 3, 1) := by decide +kernel
theorem dX9_countMet_31 : decode cX9_countMet 31 = .ok (.if_icmp .gt 52, 3) := by decide +kernel
theorem dX9_countMet_34 : decode cX9_countMet 34 = .ok (.iload 5, 2) := by decide +kernel
theorem dX9_countMet_36 : decode cX9_countMet 36 = .ok (.aload_n 1, 1) := by decide +kernel
theorem dX9_countMet_37 : decode cX9_countMet 37 = .ok (.aload_n 0, 1) := by decide +kernel
theorem dX9_countMet_38 : decode cX9_countMet 38 = .ok (.getfield 145, 3) := by decide +kernel
theorem dX9_countMet_41 : decode cX9_countMet 41 = .ok (.aload_n 1, 1) := by decide +kernel
theorem dX9_countMet_42 : decode cX9_countMet 42 = .ok (.getfield 228, 3) := by decide +kernel
theorem dX9_countMet_45 : decode cX9_countMet 45 = .ok (.isub, 1) := by decide +kernel
theorem dX9_countMet_46 : decode cX9_countMet 46 = .ok (.iconst 1, 1) := by decide +kernel
theorem dX9_countMet_47 : decode cX9_countMet 47 = .ok (.iadd, 1) := by decide +kernel
theorem dX9_countMet_48 : decode cX9_countMet 48 = .ok (.aload_n 0, 1) := by decide +kernel
theorem dX9_countMet_49 : decode cX9_countMet 49 = .ok (.getfield 145, 3) := by decide +kernel
theorem dX9_countMet_52 : decode cX9_countMet 52 = .ok (.iload 4, 2) := by decide +kernel
theorem dX9_countMet_54 : decode cX9_countMet 54 = .ok (.isub, 1) := by decide +kernel
theorem dX9_countMet_55 : decode cX9_countMet 55 = .ok (.invokevirtual 125, 3) := by decide +kernel
theorem dX9_countMet_58 : decode cX9_countMet 58 = .ok (.iadd, 1) := by decide +kernel
theorem dX9_countMet_59 : decode cX9_countMet 59 = .ok (.istore 5, 2) := by decide +kernel
theorem dX9_countMet_61 : decode cX9_countMet 61 = .ok (.aload_n 0, 1) := by decide +kernel
theorem dX9_countMet_62 : decode cX9_countMet 62 = .ok (.aload_n 0, 1) := by decide +kernel
theorem dX9_countMet_63 : decode cX9_countMet 63 = .ok (.getfield 145, 3) := by decide +kernel
theorem dX9_countMet_66 : decode cX9_countMet 66 = .ok (.aload_n 0, 1) := by decide +kernel
theorem dX9_countMet_67 : decode cX9_countMet 67 = .ok (.getfield 142, 3) := by decide +kernel
theorem dX9_countMet_70 : decode cX9_countMet 70 = .ok (.iconst 1, 1) := by decide +kernel
theorem dX9_countMet_71 : decode cX9_countMet 71 = .ok (.iadd, 1) := by decide +kernel
theorem dX9_countMet_72 : decode cX9_countMet 72 = .ok (.invokevirtual 116, 3) := by decide +kernel
theorem dX9_countMet_75 : decode cX9_countMet 75 = .ok (.istore 6, 2) := by decide +kernel
theorem dX9_countMet_77 : decode cX9_countMet 77 = .ok (.iinc 7 1, 3) := by decide +kernel
theorem dX9_countMet_80 : decode cX9_countMet 80 = .ok (.goto (-66), 3) := by decide +kernel
theorem dX9_countMet_83 : decode cX9_countMet 83 = .ok (.iload 5, 2) := by decide +kernel
theorem dX9_countMet_85 : decode cX9_countMet 85 = .ok (.ireturn, 1) := by decide +kernel
set_option maxRecDepth 20000 in
theorem ggX9_takenTill_X7_at : GoodIn wsX9_takenTill wsX7_at := goodIn_r _ [12, 13, 109, 110] (by decide +kernel) (by decide +kernel)
set_option maxRecDepth 20000 in
theorem gX9_takenTill_X7_at : GoodIn wsX9_takenTill (wsV RX9 83 RX7 yX7_at wsX7_at) := goodIn_app (goodIn_of _ (by decide +kernel)) ggX9_takenTill_X7_at
set_option maxRecDepth 20000 in
theorem ggX9_takenTill_X7_isOf : GoodIn wsX9_takenTill wsX7_isOf := goodIn_r _ [17, 13, 18, 109, 110, 111, 112, 113, 114, 115, 116, 117, 118, 119, 120, 121, 122, 123, 124, 125] (by decide +kernel) (by decide +kernel)
set_option maxRecDepth 20000 in
theorem gX9_takenTill_X7_isOf : GoodIn wsX9_takenTill (wsV RX9 169 RX7 yX7_isOf wsX7_isOf) := goodIn_app (goodIn_of _ (by decide +kernel)) ggX9_takenTill_X7_isOf
set_option maxRecDepth 20000 in
theorem ggX9_takenTill_X0_seekAhead : GoodIn wsX9_takenTill wsX0_seekAhead := goodIn_r _ [23, 24, 25, 26, 27, 28, 29, 30, 31, 22, 32, 33, 34, 35, 36, 37, 38, 39, 40, 41, 42, 43, 44, 45, 46, 47, 48, 49, 50, 51, 52, 53, 54, 55, 56, 57, 58, 59, 60, 61, 62, 63, 64, 65, 66, 67, 68, 69, 70, 71, 72, 73, 74, 75, 76, 77, 78, 79, 80, 81, 82, 83, 84, 85, 86, 87, 88, 89, 90, 91, 92, 93, 94, 95, 96, 97, 98, 99, 100, 101, 102, 103, 104, 111, 112, 113, 114, 115, 116, 117, 118, 119, 120, 121, 122, 123, 124, 125, 126, 127, 128, 129, 130, 131, 132, 133, 134, 135, 136, 137, 138, 139, 140, 141, 142, 143, 144, 145] (by decide +kernel) (by decide +kernel)
set_option maxRecDepth 20000 in
theorem gX9_takenTill_X0_seekAhead : GoodIn wsX9_takenTill (wsV RX9 122 RX0 yX0_seekAhead wsX0_seekAhead) := goodIn_app (goodIn_of _ (by decide +kernel)) ggX9_takenTill_X0_seekAhead
theorem dX9_takenTill_0 : decode cX9_takenTill 0 = .ok (.iload_n 2, 1) := by decide +kernel
theorem dX9_takenTill_1 : decode cX9_takenTill 1 = .ok (.istore 4, 2) := by decide +kernel
theorem dX9_takenTill_3 : decode cX9_takenTill 3 = .ok (.iconst 0, 1) := by decide +kernel
theorem dX9_takenTill_4 : decode cX9_takenTill 4 = .ok (.istore 5, 2) := by decide +kernel
theorem dX9_takenTill_6 : decode cX9_takenTill 6 = .ok (.iload 5, 2) := by decide +kernel
theorem dX9_takenTill_8 : decode cX9_takenTill 8 = .ok (.aload_n 0, 1) := by decide +kernel
theorem dX9_takenTill_9 : decode cX9_takenTill 9 = .ok (.getfield 20, 3) := by decide +kernel
theorem dX9_takenTill_12 : decode cX9_takenTill 12 = .ok (.getfield 166, 3) := by decide +kernel
theorem dX9_takenTill_15 : decode cX9_takenTill 15 = .ok (.if_icmp .ge 62, 3) := by decide +kernel
theorem dX9_takenTill_18 : decode cX9_takenTill 18 = .ok (.aload_n 0, 1) := by decide +kernel
theorem dX9_takenTill_19 : decode cX9_takenTill 19 = .ok (.getfield 20, 3) := by decide +kernel
theorem dX9_takenTill_22 : decode cX9_takenTill 22 = .ok (.iload 5, 2) := by decide +kernel
theorem dX9_takenTill_24 : decode cX9_takenTill 24 = .ok (.invokevirtual 83, 3) := by decide +kernel
theorem dX9_takenTill_27 : decode cX9_takenTill 27 = .ok (.astore 6, 2) := by decide +kernel
theorem dX9_takenTill_29 : decode cX9_takenTill 29 = .ok (.aload_n 0, 1) := by decide +kernel
theorem dX9_takenTill_30 : decode cX9_takenTill 30 = .ok (.getfield 20, 3) := by decide +kernel
theorem dX9_takenTill_33 : decode cX9_takenTill 33 = .ok (.iload 5, 2) := by decide +kernel
theorem dX9_takenTill_35 : decode cX9_takenTill 35 = .ok (.iload_n 1, 1) := by decide +kernel
theorem dX9_takenTill_36 : decode cX9_takenTill 36 = .ok (.invokevirtual 169, 3) := by decide +kernel
theorem dX9_takenTill_39 : decode cX9_takenTill 39 = .ok (.ifCond .eq 32, 3) := by decide +kernel
theorem dX9_takenTill_42 : decode cX9_takenTill 42 = .ok (.aload 6, 2) := by decide +kernel
theorem dX9_takenTill_44 : decode cX9_takenTill 44 = .ok (.iload_n 2, 1) := by decide +kernel
theorem dX9_takenTill_45 : decode cX9_takenTill 45 = .ok (.iload_n 3, 1) := by decide +kernel
theorem dX9_takenTill_46 : decode cX9_takenTill 46 = .ok (.iadd, 1) := by decide +kernel
theorem dX9_takenTill_47 : decode cX9_takenTill 47 = .ok (.invokevirtual 122, 3) := by decide +kernel
theorem dX9_takenTill_50 : decode cX9_takenTill 50 = .ok (.ifCond .eq 21, 3) := by decide +kernel
theorem dX9_takenTill_53 : decode cX9_takenTill 53 = .ok (.iload 4, 2) := by decide +kernel
theorem dX9_takenTill_55 : decode cX9_takenTill 55 = .ok (.aload 6, 2) := by decide +kernel
theorem dX9_takenTill_57 : decode cX9_takenTill 57 = .ok (.getfield 145, 3) := by decide +kernel
theorem dX9_takenTill_60 : decode cX9_takenTill 60 = .ok (.aload 6, 2) := by decide +kernel
theorem dX9_takenTill_62 : decode cX9_takenTill 62 = .ok (.getfield 228, 3) := by decide +kernel
theorem dX9_takenTill_65 : decode cX9_takenTill 65 = .ok (.iadd, 1) := by decide +kernel
theorem dX9_takenTill_66 : decode cX9_takenTill 66 = .ok (.invokestatic 254, 3) := by decide +kernel
theorem dX9_takenTill_69 : decode cX9_takenTill 69 = .ok (.istore 4, 2) := by decide +kernel
theorem dX9_takenTill_71 : decode cX9_takenTill 71 = .ok (.iinc 5 1, 3) := by decide +kernel
theorem dX9_takenTill_74 : decode cX9_takenTill 74 = .ok (.goto (-68), 3) := by decide +kernel
theorem dX9_takenTill_77 : decode cX9_takenTill 77 = .ok (.iload 4, 2) := by decide +kernel
theorem dX9_takenTill_79 : decode cX9_takenTill 79 = .ok (.ireturn, 1) := by decide +kernel
set_option maxRecDepth 20000 in
theorem ggX9_firstBegin_X7_at : GoodIn wsX9_firstBegin wsX7_at := goodIn_r _ [12, 13, 120, 121] (by decide +kernel) (by decide +kernel)
set_option maxRecDepth 20000 in
theorem gX9_firstBegin_X7_at : GoodIn wsX9_firstBegin (wsV RX9 83 RX7 yX7_at wsX7_at) := goodIn_app (goodIn_of _ (by decide +kernel)) ggX9_firstBegin_X7_at
set_option maxRecDepth 20000 in
theorem ggX9_firstBegin_X7_isOf : GoodIn wsX9_firstBegin wsX7_isOf := goodIn_r _ [17, 13, 18, 120, 121, 122, 123, 124, 125, 126, 127, 128, 129, 130, 131, 132, 133, 134, 135, 136] (by decide +kernel) (by decide +kernel)
set_option maxRecDepth 20000 in
theorem gX9_firstBegin_X7_isOf : GoodIn wsX9_firstBegin (wsV RX9 169 RX7 yX7_isOf wsX7_isOf) := goodIn_app (goodIn_of _ (by decide +kernel)) ggX9_firstBegin_X7_isOf
set_option maxRecDepth 20000 in
theorem ggX9_firstBegin_X0_seek : GoodIn wsX9_firstBegin wsX0_seek := goodIn_r _ [23, 24, 25, 26, 27, 28, 29, 30, 31, 32, 22, 33, 34, 35, 36, 37, 38, 39, 40, 41, 42, 43, 44, 45, 46, 47, 48, 49, 50, 51, 52, 53, 54, 55, 56, 57, 58, 59, 60, 61, 62, 63, 6, 64, 65, 66, 67, 68, 69, 70, 71, 72, 73, 74, 75, 76, 77, 78, 79, 80, 81, 82, 83, 84, 85, 86, 87, 88, 89, 90, 91, 92, 93, 94, 95, 96, 97, 98, 99, 100, 101, 102, 103, 104, 105, 106, 107, 108, 109, 110, 111, 112, 113, 114, 115, 122, 123, 124, 125, 126, 127, 128, 129, 130, 131, 132, 133, 134, 135, 136, 137, 138, 139, 140, 141, 142, 143, 144, 145, 146, 147, 148, 149, 150, 151, 152, 153, 154, 155, 156] (by decide +kernel) (by decide +kernel)
set_option maxRecDepth 20000 in
theorem gX9_firstBegin_X0_seek : GoodIn wsX9_firstBegin (wsV RX9 116 RX0 yX0_seek wsX0_seek) := goodIn_app (goodIn_of _ (by decide +kernel)) ggX9_firstBegin_X0_seek
theorem dX9_firstBegin_0 : decode cX9_firstBegin 0 = .ok (.ldc 151, 2) := by decide +kernel
theorem dX9_firstBegin_2 : decode cX9_firstBegin 2 = .ok (.istore_n 3, 1) := by decide +kernel
theorem dX9_firstBegin_3 : decode cX9_firstBegin 3 = .ok (.iconst 0, 1) := by decide +kernel
theorem dX9_firstBegin_4 : decode cX9_firstBegin 4 = .ok (.istore 4, 2) := by decide +kernel
theorem dX9_firstBegin_6 : decode cX9_firstBegin 6 = .ok (.iload 4, 2) := by decide +kernel
theorem dX9_firstBegin_8 : decode cX9_firstBegin 8 = .ok (.aload_n 0, 1) := by decide +kernel
theorem dX9_firstBegin_9 : decode cX9_firstBegin 9 = .ok (.getfield 20, 3) := by decide +kernel
theorem dX9_firstBegin_12 : decode cX9_firstBegin 12 = .ok (.getfield 166, 3) := by decide +kernel
theorem dX9_firstBegin_15 : decode cX9_firstBegin 15 = .ok (.if_icmp .ge 53, 3) := by decide +kernel
theorem dX9_firstBegin_18 : decode cX9_firstBegin 18 = .ok (.aload_n 0, 1) := by decide +kernel
theorem dX9_firstBegin_19 : decode cX9_firstBegin 19 = .ok (.getfield 20, 3) := by decide +kernel
theorem dX9_firstBegin_22 : decode cX9_firstBegin 22 = .ok (.iload 4, 2) := by decide +kernel
theorem dX9_firstBegin_24 : decode cX9_firstBegin 24 = .ok (.invokevirtual 83, 3) := by decide +kernel
theorem dX9_firstBegin_27 : decode cX9_firstBegin 27 = .ok (.astore 5, 2) := by decide +kernel
theorem dX9_firstBegin_29 : decode cX9_firstBegin 29 = .ok (.aload_n 0, 1) := by decide +kernel
theorem dX9_firstBegin_30 : decode cX9_firstBegin 30 = .ok (.getfield 20, 3) := by decide +kernel
theorem dX9_firstBegin_33 : decode cX9_firstBegin 33 = .ok (.iload 4, 2) := by decide +kernel
theorem dX9_firstBegin_35 : decode cX9_firstBegin 35 = .ok (.iload_n 1, 1) := by decide +kernel
theorem dX9_firstBegin_36 : decode cX9_firstBegin 36 = .ok (.invokevirtual 169, 3) := by decide +kernel
theorem dX9_firstBegin_39 : decode cX9_firstBegin 39 = .ok (.ifCond .eq 23, 3) := by decide +kernel
theorem dX9_firstBegin_42 : decode cX9_firstBegin 42 = .ok (.aload 5, 2) := by decide +kernel
theorem dX9_firstBegin_44 : decode cX9_firstBegin 44 = .ok (.iload_n 2, 1) := by decide +kernel
theorem dX9_firstBegin_45 : decode cX9_firstBegin 45 = .ok (.iconst 0, 1) := by decide +kernel
theorem dX9_firstBegin_46 : decode cX9_firstBegin 46 = .ok (.invokevirtual 116, 3) := by decide +kernel
theorem dX9_firstBegin_49 : decode cX9_firstBegin 49 = .ok (.ifCond .eq 13, 3) := by decide +kernel
theorem dX9_firstBegin_52 : decode cX9_firstBegin 52 = .ok (.iload_n 3, 1) := by decide +kernel
theorem dX9_firstBegin_53 : decode cX9_firstBegin 53 = .ok (.aload 5, 2) := by decide +kernel
theorem dX9_firstBegin_55 : decode cX9_firstBegin 55 = .ok (.getfield 145, 3) := by decide +kernel
theorem dX9_firstBegin_58 : decode cX9_firstBegin 58 = .ok (.invokestatic 174, 3) := by decide +kernel
theorem dX9_firstBegin_61 : decode cX9_firstBegin 61 = .ok (.istore_n 3, 1) := by decide +kernel
theorem dX9_firstBegin_62 : decode cX9_firstBegin 62 = .ok (.iinc 4 1, 3) := by decide +kernel
theorem dX9_firstBegin_65 : decode cX9_firstBegin 65 = .ok (.goto (-59), 3) := by decide +kernel
theorem dX9_firstBegin_68 : decode cX9_firstBegin 68 = .ok (.iload_n 3, 1) := by decide +kernel
theorem dX9_firstBegin_69 : decode cX9_firstBegin 69 = .ok (.ireturn, 1) := by decide +kernel
set_option maxRecDepth 20000 in
theorem ggX9_takenMinutes_X9_takenTill : GoodIn wsX9_takenMinutes wsX9_takenTill := goodIn_r _ [9, 10, 11, 12, 13, 14, 3, 15, 16, 17, 18, 19, 20, 21, 22, 23, 24, 25, 26, 27, 28, 29, 30, 31, 32, 33, 34, 35, 36, 37, 38, 39, 40, 41, 42, 43, 44, 45, 46, 47, 48, 49, 50, 51, 52, 53, 54, 55, 56, 57, 58, 59, 60, 61, 62, 63, 64, 65, 66, 67, 68, 69, 70, 71, 72, 73, 74, 75, 76, 77, 78, 79, 80, 81, 82, 83, 84, 85, 86, 87, 88, 89, 90, 91, 92, 93, 94, 95, 96, 97, 98, 99, 100, 101, 102, 103, 104, 105, 106, 107, 108, 109, 110, 111, 112, 157, 158, 159, 160, 161, 162, 163, 164, 165, 166, 167, 168, 169, 170, 171, 172, 173, 174, 175, 176, 177, 178, 179, 180, 181, 182, 183, 184, 185, 186, 187, 188, 189, 190, 191, 192, 193, 194, 195, 196, 197] (by decide +kernel) (by decide +kernel)
set_option maxRecDepth 20000 in
theorem gX9_takenMinutes_X9_takenTill : GoodIn wsX9_takenMinutes (wsV RX9 179 RX9 yX9_takenTill wsX9_takenTill) := goodIn_app (goodIn_of _ (by decide +kernel)) ggX9_takenMinutes_X9_takenTill
set_option maxRecDepth 20000 in
theorem ggX9_takenMinutes_X9_firstBegin : GoodIn wsX9_takenMinutes wsX9_firstBegin := goodIn_r _ [116, 117, 10, 11, 1, 2, 3, 4, 16, 17, 18, 19, 20, 21, 22, 23, 24, 25, 26, 118, 119, 120, 30, 121, 32, 33, 122, 34, 35, 36, 123, 124, 125, 126, 41, 42, 43, 44, 45, 127, 128, 129, 130, 50, 51, 52, 131, 132, 133, 134, 57, 135, 59, 60, 61, 136, 137, 138, 64, 139, 68, 69, 140, 14, 15, 67, 141, 142, 143, 144, 66, 70, 71, 72, 73, 74, 75, 76, 77, 78, 79, 80, 81, 82, 83, 84, 85, 145, 146, 88, 147, 90, 91, 148, 149, 94, 150, 96, 97, 151, 98, 99, 152, 153, 154, 155, 156, 104, 109, 110, 111, 112, 105, 106, 107, 108, 157, 158, 159, 160, 161, 162, 163, 164, 165, 166, 167, 168, 169, 170, 171, 172, 173, 174, 175, 176, 177, 178, 179, 180, 181, 182, 183, 184, 185, 186, 187, 188, 189, 190, 191, 192, 193, 194, 195, 196, 197] (by decide +kernel) (by decide +kernel)
set_option maxRecDepth 20000 in
theorem gX9_takenMinutes_X9_firstBegin : GoodIn wsX9_takenMinutes (wsV RX9 270 RX9 yX9_firstBegin wsX9_firstBegin) := goodIn_app (goodIn_of _ (by decide +kernel)) ggX9_takenMinutes_X9_firstBegin
theorem dX9_takenMinutes_0 : decode cX9_takenMinutes 0 = .ok (.iload_n 2, 1) := by decide +kernel
theorem dX9_takenMinutes_1 : decode cX9_takenMinutes 1 = .ok (.sipush 1440, 3) := by decide +kernel
theorem dX9_takenMinutes_4 : decode cX9_takenMinutes 4 = .ok (.imul, 1) := by decide +kernel
theorem dX9_takenMinutes_5 : decode cX9_takenMinutes 5 = .ok (.istore_n 3, 1) := by decide +kernel
theorem dX9_takenMinutes_6 : decode cX9_takenMinutes 6 = .ok (.iload_n 3, 1) := by decide +kernel
theorem dX9_takenMinutes_7 : decode cX9_takenMinutes 7 = .ok (.sipush 1440, 3) := by decide +kernel
theorem dX9_takenMinutes_10 : decode cX9_takenMinutes 10 = .ok (.iadd, 1) := by decide +kernel
theorem dX9_takenMinutes_11 : decode cX9_takenMinutes 11 = .ok (.istore 4, 2) := by decide +kernel
theorem dX9_takenMinutes_13 : decode cX9_takenMinutes 13 = .ok (.iconst 0, 1) := by decide +kernel
theorem dX9_takenMinutes_14 : decode cX9_takenMinutes 14 = .ok (.istore 5, 2) := by decide +kernel
theorem dX9_takenMinutes_16 : decode cX9_takenMinutes 16 = .ok (.iconst 0, 1) := by decide +kernel
theorem dX9_takenMinutes_17 : decode cX9_takenMinutes 17 = .ok (.istore 6, 2) := by decide +kernel
theorem dX9_takenMinutes_19 : decode cX9_takenMinutes 19 = .ok (.iload 6, 2) := by decide +kernel
theorem dX9_takenMinutes_21 : decode cX9_takenMinutes 21 = .ok (.sipush 1440, 3) := by decide +kernel
theorem dX9_takenMinutes_24 : decode cX9_takenMinutes 24 = .ok (.if_icmp .ge 61, 3) := by decide +kernel
theorem dX9_takenMinutes_27 : decode cX9_takenMinutes 27 = .ok (.iload_n 3, 1) := by decide +kernel
theorem dX9_takenMinutes_28 : decode cX9_takenMinutes 28 = .ok (.iload 4, 2) := by decide +kernel
theorem dX9_takenMinutes_30 : decode cX9_takenMinutes 30 = .ok (.if_icmp .ge 55, 3) := by decide +kernel
theorem dX9_takenMinutes_33 : decode cX9_takenMinutes 33 = .ok (.aload_n 0, 1) := by decide +kernel
theorem dX9_takenMinutes_34 : decode cX9_takenMinutes 34 = .ok (.iload_n 1, 1) := by decide +kernel
theorem dX9_takenMinutes_35 : decode cX9_takenMinutes 35 = .ok (.iload_n 3, 1) := by decide +kernel
theorem dX9_takenMinutes_36 : decode cX9_takenMinutes 36 = .ok (.iconst 1, 1) := by decide +kernel
theorem dX9_takenMinutes_37 : decode cX9_takenMinutes 37 = .ok (.invokevirtual 179, 3) := by decide +kernel
theorem dX9_takenMinutes_40 : decode cX9_takenMinutes 40 = .ok (.iload 4, 2) := by decide +kernel
theorem dX9_takenMinutes_42 : decode cX9_takenMinutes 42 = .ok (.invokestatic 174, 3) := by decide +kernel
theorem dX9_takenMinutes_45 : decode cX9_takenMinutes 45 = .ok (.istore 7, 2) := by decide +kernel
theorem dX9_takenMinutes_47 : decode cX9_takenMinutes 47 = .ok (.iload 5, 2) := by decide +kernel
theorem dX9_takenMinutes_49 : decode cX9_takenMinutes 49 = .ok (.iload 7, 2) := by decide +kernel
theorem dX9_takenMinutes_51 : decode cX9_takenMinutes 51 = .ok (.iload_n 3, 1) := by decide +kernel
theorem dX9_takenMinutes_52 : decode cX9_takenMinutes 52 = .ok (.isub, 1) := by decide +kernel
theorem dX9_takenMinutes_53 : decode cX9_takenMinutes 53 = .ok (.iadd, 1) := by decide +kernel
theorem dX9_takenMinutes_54 : decode cX9_takenMinutes 54 = .ok (.istore 5, 2) := by decide +kernel
theorem dX9_takenMinutes_56 : decode cX9_takenMinutes 56 = .ok (.iload 7, 2) := by decide +kernel
theorem dX9_takenMinutes_58 : decode cX9_takenMinutes 58 = .ok (.iload_n 3, 1) := by decide +kernel
theorem dX9_takenMinutes_59 : decode cX9_takenMinutes 59 = .ok (.if_icmp .le 8, 3) := by decide +kernel
theorem dX9_takenMinutes_62 : decode cX9_takenMinutes 62 = .ok (.iload 7, 2) := by decide +kernel
theorem dX9_takenMinutes_64 : decode cX9_takenMinutes 64 = .ok (.goto 14, 3) := by decide +kernel
theorem dX9_takenMinutes_67 : decode cX9_takenMinutes 67 = .ok (.aload_n 0, 1) := by decide +kernel
theorem dX9_takenMinutes_68 : decode cX9_takenMinutes 68 = .ok (.iload_n 1, 1) := by decide +kernel
theorem dX9_takenMinutes_69 : decode cX9_takenMinutes 69 = .ok (.iload_n 3, 1) := by decide +kernel
theorem dX9_takenMinutes_70 : decode cX9_takenMinutes 70 = .ok (.invokevirtual 270, 3) := by decide +kernel
theorem dX9_takenMinutes_73 : decode cX9_takenMinutes 73 = .ok (.iload 4, 2) := by decide +kernel
theorem dX9_takenMinutes_75 : decode cX9_takenMinutes 75 = .ok (.invokestatic 174, 3) := by decide +kernel
theorem dX9_takenMinutes_78 : decode cX9_takenMinutes 78 = .ok (.istore_n 3, 1) := by decide +kernel
theorem dX9_takenMinutes_79 : decode cX9_takenMinutes 79 = .ok (.iinc 6 1, 3) := by decide +kernel
theorem dX9_takenMinutes_82 : decode cX9_takenMinutes 82 = .ok (.goto (-63), 3) := by decide +kernel
theorem dX9_takenMinutes_85 : decode cX9_takenMinutes 85 = .ok (.iload 5, 2) := by decide +kernel
theorem dX9_takenMinutes_87 : decode cX9_takenMinutes 87 = .ok (.ireturn, 1) := by decide +kernel
set_option maxRecDepth 20000 in
theorem ggX10_init_X10_daysIn : GoodIn wsX10_init wsX10_daysIn := goodIn_r _ [26] (by decide +kernel) (by decide +kernel)
set_option maxRecDepth 20000 in
theorem gX10_init_X10_daysIn : GoodIn wsX10_init (va_wsS RX10 56 yX10_daysIn wsX10_daysIn) := goodIn_app (goodIn_of _ (by decide +kernel)) ggX10_init_X10_daysIn
theorem dX10_init_0 : decode cX10_init 0 = .ok (.aload_n 0, 1) := by decide +kernel
theorem dX10_init_1 : decode cX10_init 1 = .ok (.invokespecial 1, 3) := by decide +kernel
theorem dX10_init_4 : decode cX10_init 4 = .ok (.aload_n 0, 1) := by decide +kernel
theorem dX10_init_5 : decode cX10_init 5 = .ok (.ldc 7, 2) := by decide +kernel
theorem dX10_init_7 : decode cX10_init 7 = .ok (.newarray .int, 2) := by decide +kernel
theorem dX10_init_9 : decode cX10_init 9 = .ok (.putfield 8, 3) := by decide +kernel
theorem dX10_init_12 : decode cX10_init 12 = .ok (.aload_n 0, 1) := by decide +kernel
theorem dX10_init_13 : decode cX10_init 13 = .ok (.ldc 7, 2) := by decide +kernel
theorem dX10_init_15 : decode cX10_init 15 = .ok (.newarray .int, 2) := by decide +kernel
theorem dX10_init_17 : decode cX10_init 17 = .ok (.putfield 14, 3) := by decide +kernel
theorem dX10_init_20 : decode cX10_init 20 = .ok (.aload_n 0, 1) := by decide +kernel
theorem dX10_init_21 : decode cX10_init 21 = .ok (.ldc 7, 2) := by decide +kernel
theorem dX10_init_23 : decode cX10_init 23 = .ok (.newarray .int, 2) := by decide +kernel
theorem dX10_init_25 : decode cX10_init 25 = .ok (.putfield 17, 3) := by decide +kernel
theorem dX10_init_28 : decode cX10_init 28 = .ok (.aload_n 0, 1) := by decide +kernel
theorem dX10_init_29 : decode cX10_init 29 = .ok (.ldc 7, 2) := by decide +kernel
theorem dX10_init_31 : decode cX10_init 31 = .ok (.newarray .int, 2) := by decide +kernel
theorem dX10_init_33 : decode cX10_init 33 = .ok (.putfield 20, 3) := by decide +kernel
theorem dX10_init_36 : decode cX10_init 36 = .ok (.aload_n 0, 1) := by decide +kernel
theorem dX10_init_37 : decode cX10_init 37 = .ok (.sipush 528, 3) := by decide +kernel
theorem dX10_init_40 : decode cX10_init 40 = .ok (.newarray .int, 2) := by decide +kernel
theorem dX10_init_42 : decode cX10_init 42 = .ok (.putfield 23, 3) := by decide +kernel
theorem dX10_init_45 : decode cX10_init 45 = .ok (.aload_n 0, 1) := by decide +kernel
theorem dX10_init_46 : decode cX10_init 46 = .ok (.sipush 1056, 3) := by decide +kernel
theorem dX10_init_49 : decode cX10_init 49 = .ok (.newarray .int, 2) := by decide +kernel
theorem dX10_init_51 : decode cX10_init 51 = .ok (.putfield 26, 3) := by decide +kernel
theorem dX10_init_54 : decode cX10_init 54 = .ok (.aload_n 0, 1) := by decide +kernel
theorem dX10_init_55 : decode cX10_init 55 = .ok (.iconst 2, 1) := by decide +kernel
theorem dX10_init_56 : decode cX10_init 56 = .ok (.newarray .int, 2) := by decide +kernel
theorem dX10_init_58 : decode cX10_init 58 = .ok (.dup, 1) := by decide +kernel
theorem dX10_init_59 : decode cX10_init 59 = .ok (.iconst 0, 1) := by decide +kernel
theorem dX10_init_60 : decode cX10_init 60 = .ok (.iconst (-1), 1) := by decide +kernel
theorem dX10_init_61 : decode cX10_init 61 = .ok (.iastore, 1) := by decide +kernel
theorem dX10_init_62 : decode cX10_init 62 = .ok (.dup, 1) := by decide +kernel
theorem dX10_init_63 : decode cX10_init 63 = .ok (.iconst 1, 1) := by decide +kernel
theorem dX10_init_64 : decode cX10_init 64 = .ok (.iconst (-1), 1) := by decide +kernel
theorem dX10_init_65 : decode cX10_init 65 = .ok (.iastore, 1) := by decide +kernel
theorem dX10_init_66 : decode cX10_init 66 = .ok (.putfield 29, 3) := by decide +kernel
theorem dX10_init_69 : decode cX10_init 69 = .ok (.aload_n 0, 1) := by decide +kernel
theorem dX10_init_70 : decode cX10_init 70 = .ok (.sipush 168, 3) := by decide +kernel
theorem dX10_init_73 : decode cX10_init 73 = .ok (.newarray .int, 2) := by decide +kernel
theorem dX10_init_75 : decode cX10_init 75 = .ok (.putfield 32, 3) := by decide +kernel
theorem dX10_init_78 : decode cX10_init 78 = .ok (.aload_n 0, 1) := by decide +kernel
theorem dX10_init_79 : decode cX10_init 79 = .ok (.ldc 35, 2) := by decide +kernel
theorem dX10_init_81 : decode cX10_init 81 = .ok (.newarray .int, 2) := by decide +kernel
theorem dX10_init_83 : decode cX10_init 83 = .ok (.putfield 36, 3) := by decide +kernel
theorem dX10_init_86 : decode cX10_init 86 = .ok (.aload_n 0, 1) := by decide +kernel
theorem dX10_init_87 : decode cX10_init 87 = .ok (.ldc 35, 2) := by decide +kernel
theorem dX10_init_89 : decode cX10_init 89 = .ok (.newarray .int, 2) := by decide +kernel
theorem dX10_init_91 : decode cX10_init 91 = .ok (.putfield 39, 3) := by decide +kernel
theorem dX10_init_94 : decode cX10_init 94 = .ok (.aload_n 0, 1) := by decide +kernel
theorem dX10_init_95 : decode cX10_init 95 = .ok (.iconst 2, 1) := by decide +kernel
theorem dX10_init_96 : decode cX10_init 96 = .ok (.newarray .int, 2) := by decide +kernel
theorem dX10_init_98 : decode cX10_init 98 = .ok (.putfield 42, 3) := by decide +kernel
theorem dX10_init_101 : decode cX10_init 101 = .ok (.aload_n 0, 1) := by decide +kernel
theorem dX10_init_102 : decode cX10_init 102 = .ok (.bipush 44, 2) := by decide +kernel
theorem dX10_init_104 : decode cX10_init 104 = .ok (.newarray .int, 2) := by decide +kernel
theorem dX10_init_106 : decode cX10_init 106 = .ok (.putfield 45, 3) := by decide +kernel
theorem dX10_init_109 : decode cX10_init 109 = .ok (.aload_n 0, 1) := by decide +kernel
theorem dX10_init_110 : decode cX10_init 110 = .ok (.sipush 3300, 3) := by decide +kernel
theorem dX10_init_113 : decode cX10_init 113 = .ok (.newarray .int, 2) := by decide +kernel
theorem dX10_init_115 : decode cX10_init 115 = .ok (.putfield 48, 3) := by decide +kernel
theorem dX10_init_118 : decode cX10_init 118 = .ok (.aload_n 0, 1) := by decide +kernel
theorem dX10_init_119 : decode cX10_init 119 = .ok (.ldc 51, 2) := by decide +kernel
theorem dX10_init_121 : decode cX10_init 121 = .ok (.newarray .boolean, 2) := by decide +kernel
theorem dX10_init_123 : decode cX10_init 123 = .ok (.putfield 52, 3) := by decide +kernel
theorem dX10_init_126 : decode cX10_init 126 = .ok (.iconst 0, 1) := by decide +kernel
theorem dX10_init_127 : decode cX10_init 127 = .ok (.istore_n 1, 1) := by decide +kernel
theorem dX10_init_128 : decode cX10_init 128 = .ok (.sipush 2000, 3) := by decide +kernel
theorem dX10_init_131 : decode cX10_init 131 = .ok (.istore_n 2, 1) := by decide +kernel
theorem dX10_init_132 : decode cX10_init 132 = .ok (.iload_n 2, 1) := by decide +kernel
theorem dX10_init_133 : decode cX10_init 133 = .ok (.sipush 2100, 3) := by decide +kernel
theorem dX10_init_136 : decode cX10_init 136 = .ok (.if_icmp .ge 79, 3) := by decide +kernel
theorem dX10_init_139 : decode cX10_init 139 = .ok (.iconst 1, 1) := by decide +kernel
theorem dX10_init_140 : decode cX10_init 140 = .ok (.istore_n 3, 1) := by decide +kernel
theorem dX10_init_141 : decode cX10_init 141 = .ok (.iload_n 3, 1) := by decide +kernel
theorem dX10_init_142 : decode cX10_init 142 = .ok (.bipush 13, 2) := by decide +kernel
theorem dX10_init_144 : decode cX10_init 144 = .ok (.if_icmp .ge 65, 3) := by decide +kernel
theorem dX10_init_147 : decode cX10_init 147 = .ok (.iload_n 2, 1) := by decide +kernel
theorem dX10_init_148 : decode cX10_init 148 = .ok (.iload_n 3, 1) := by decide +kernel
theorem dX10_init_149 : decode cX10_init 149 = .ok (.invokestatic 56, 3) := by decide +kernel
theorem dX10_init_152 : decode cX10_init 152 = .ok (.istore 4, 2) := by decide +kernel
theorem dX10_init_154 : decode cX10_init 154 = .ok (.iconst 1, 1) := by decide +kernel
theorem dX10_init_155 : decode cX10_init 155 = .ok (.istore 5, 2) := by decide +kernel
theorem dX10_init_157 : decode cX10_init 157 = .ok (.iload 5, 2) := by decide +kernel
theorem dX10_init_159 : decode cX10_init 159 = .ok (.iload 4, 2) := by decide +kernel
theorem dX10_init_161 : decode cX10_init 161 = .ok (.if_icmp .gt 42, 3) := by decide +kernel
theorem dX10_init_164 : decode cX10_init 164 = .ok (.aload_n 0, 1) := by decide +kernel
theorem dX10_init_165 : decode cX10_init 165 = .ok (.getfield 8, 3) := by decide +kernel
theorem dX10_init_168 : decode cX10_init 168 = .ok (.iload_n 1, 1) := by decide +kernel
theorem dX10_init_169 : decode cX10_init 169 = .ok (.iload_n 2, 1) := by decide +kernel
theorem dX10_init_170 : decode cX10_init 170 = .ok (.iastore, 1) := by decide +kernel
theorem dX10_init_171 : decode cX10_init 171 = .ok (.aload_n 0, 1) := by decide +kernel
theorem dX10_init_172 : decode cX10_init 172 = .ok (.getfield 14, 3) := by decide +kernel
theorem dX10_init_175 : decode cX10_init 175 = .ok (.iload_n 1, 1) := by decide +kernel
theorem dX10_init_176 : decode cX10_init 176 = .ok (.iload_n 3, 1) := by decide +kernel
theorem dX10_init_177 : decode cX10_init 177 = .ok (.iastore, 1) := by decide +kernel
theorem dX10_init_178 : decode cX10_init 178 = .ok (.aload_n 0, 1) := by decide +kernel
theorem dX10_init_179 : decode cX10_init 179 = .ok (.getfield 17, 3) := by decide +kernel
theorem dX10_init_182 : decode cX10_init 182 = .ok (.iload_n 1, 1) := by decide +kernel
theorem dX10_init_183 : decode cX10_init 183 = .ok (.iload 5, 2) := by decide +kernel
theorem dX10_init_185 : decode cX10_init 185 = .ok (.iastore, 1) := by decide +kernel
theorem dX10_init_186 : decode cX10_init 186 = .ok (.aload_n 0, 1) := by decide +kernel
theorem dX10_init_187 : decode cX10_init 187 = .ok (.getfield 20, 3) := by decide +kernel
theorem dX10_init_190 : decode cX10_init 190 = .ok (.iload_n 1, 1) := by decide +kernel
theorem dX10_init_191 : decode cX10_init 191 = .ok (.iload 4, 2) := by decide +kernel
theorem dX10_init_193 : decode cX10_init 193 = .ok (.iastore, 1) := by decide +kernel
theorem dX10_init_194 : decode cX10_init 194 = .ok (.iinc 1 1, 3) := by decide +kernel
theorem dX10_init_197 : decode cX10_init 197 = .ok (.iinc 5 1, 3) := by decide +kernel
theorem dX10_init_200 : decode cX10_init 200 = .ok (.goto (-43), 3) := by decide +kernel
theorem dX10_init_203 : decode cX10_init 203 = .ok (.iinc 3 1, 3) := by decide +kernel
theorem dX10_init_206 : decode cX10_init 206 = .ok (.goto (-65), 3) := by decide +kernel
theorem dX10_init_209 : decode cX10_init 209 = .ok (.iinc 2 1, 3) := by decide +kernel
theorem dX10_init_212 : decode cX10_init 212 = .ok (.goto (-80), 3) := by decide +kernel
theorem dX10_init_215 : decode cX10_init 215 = .ok (.return_, 1) := by decide +kernel
theorem dX10_within_0 : decode cX10_within 0 = .ok (.iload_n 0, 1) := by decide +kernel
theorem dX10_within_1 : decode cX10_within 1 = .ok (.iload_n 1, 1) := by decide +kernel
theorem dX10_within_2 : decode cX10_within 2 = .ok (.if_icmp .lt 12, 3) := by decide +kernel
theorem dX10_within_5 : decode cX10_within 5 = .ok (.iload_n 0, 1) := by decide +kernel
theorem dX10_within_6 : decode cX10_within 6 = .ok (.iload_n 2, 1) := by decide +kernel
theorem dX10_within_7 : decode cX10_within 7 = .ok (.if_icmp .gt 7, 3) := by decide +kernel
theorem dX10_within_10 : decode cX10_within 10 = .ok (.iconst 1, 1) := by decide +kernel
theorem dX10_within_11 : decode cX10_within 11 = .ok (.goto 4, 3) := by decide +kernel
theorem dX10_within_14 : decode cX10_within 14 = .ok (.iconst 0, 1) := by decide +kernel
theorem dX10_within_15 : decode cX10_within 15 = .ok (.ireturn, 1) := by decide +kernel
theorem dX10_daysIn_0 : decode cX10_daysIn 0 = .ok (.iload_n 1, 1) := by decide +kernel
theorem dX10_daysIn_1 : decode cX10_daysIn 1 = .ok (.iconst 2, 1) := by decide +kernel
theorem dX10_daysIn_2 : decode cX10_daysIn 2 = .ok (.if_icmp .ne 17, 3) := by decide +kernel
theorem dX10_daysIn_5 : decode cX10_daysIn 5 = .ok (.iload_n 0, 1) := by decide +kernel
theorem dX10_daysIn_6 : decode cX10_daysIn 6 = .ok (.iconst 4, 1) := by decide +kernel
theorem dX10_daysIn_7 : decode cX10_daysIn 7 = .ok (.irem, 1) := by decide +kernel
theorem dX10_daysIn_8 : decode cX10_daysIn 8 = .ok (.ifCond .ne 8, 3) := by decide +kernel
theorem dX10_daysIn_11 : decode cX10_daysIn 11 = .ok (.bipush 29, 2) := by decide +kernel
theorem dX10_daysIn_13 : decode cX10_daysIn 13 = .ok (.goto 5, 3) := by decide +kernel
theorem dX10_daysIn_16 : decode cX10_daysIn 16 = .ok (.bipush 28, 2) := by decide +kernel
theorem dX10_daysIn_18 : decode cX10_daysIn 18 = .ok (.ireturn, 1) := by decide +kernel
theorem dX10_daysIn_19 : decode cX10_daysIn 19 = .ok (.iload_n 1, 1) := by decide +kernel
theorem dX10_daysIn_20 : decode cX10_daysIn 20 = .ok (.iconst 4, 1) := by decide +kernel
theorem dX10_daysIn_21 : decode cX10_daysIn 21 = .ok (.if_icmp .eq 21, 3) := by decide +kernel
theorem dX10_daysIn_24 : decode cX10_daysIn 24 = .ok (.iload_n 1, 1) := by decide +kernel
theorem dX10_daysIn_25 : decode cX10_daysIn 25 = .ok (.bipush 6, 2) := by decide +kernel
theorem dX10_daysIn_27 : decode cX10_daysIn 27 = .ok (.if_icmp .eq 15, 3) := by decide +kernel
theorem dX10_daysIn_30 : decode cX10_daysIn 30 = .ok (.iload_n 1, 1) := by decide +kernel
theorem dX10_daysIn_31 : decode cX10_daysIn 31 = .ok (.bipush 9, 2) := by decide +kernel
theorem dX10_daysIn_33 : decode cX10_daysIn 33 = .ok (.if_icmp .eq 9, 3) := by decide +kernel
theorem dX10_daysIn_36 : decode cX10_daysIn 36 = .ok (.iload_n 1, 1) := by decide +kernel
theorem dX10_daysIn_37 : decode cX10_daysIn 37 = .ok (.bipush 11, 2) := by decide +kernel
theorem dX10_daysIn_39 : decode cX10_daysIn 39 = .ok (.if_icmp .ne 8, 3) := by decide +kernel
theorem dX10_daysIn_42 : decode cX10_daysIn 42 = .ok (.bipush 30, 2) := by decide +kernel
theorem dX10_daysIn_44 : decode cX10_daysIn 44 = .ok (.goto 5, 3) := by decide +kernel
theorem dX10_daysIn_47 : decode cX10_daysIn 47 = .ok (.bipush 31, 2) := by decide +kernel
theorem dX10_daysIn_49 : decode cX10_daysIn 49 = .ok (.ireturn, 1) := by decide +kernel
set_option maxRecDepth 20000 in
theorem ggX10_isDay_X10_within : GoodIn wsX10_isDay wsX10_within := goodIn_r _ [5] (by decide +kernel) (by decide +kernel)
set_option maxRecDepth 20000 in
theorem gX10_isDay_X10_within : GoodIn wsX10_isDay (va_wsS RX10 65 yX10_within wsX10_within) := goodIn_app (goodIn_of _ (by decide +kernel)) ggX10_isDay_X10_within
theorem dX10_isDay_0 : decode cX10_isDay 0 = .ok (.iload_n 0, 1) := by decide +kernel
theorem dX10_isDay_1 : decode cX10_isDay 1 = .ok (.iconst 0, 1) := by decide +kernel
theorem dX10_isDay_2 : decode cX10_isDay 2 = .ok (.ldc 64, 2) := by decide +kernel
theorem dX10_isDay_4 : decode cX10_isDay 4 = .ok (.invokestatic 65, 3) := by decide +kernel
theorem dX10_isDay_7 : decode cX10_isDay 7 = .ok (.ireturn, 1) := by decide +kernel
set_option maxRecDepth 20000 in
theorem ggX10_isTime_X10_within : GoodIn wsX10_isTime wsX10_within := goodIn_r _ [5] (by decide +kernel) (by decide +kernel)
set_option maxRecDepth 20000 in
theorem gX10_isTime_X10_within : GoodIn wsX10_isTime (va_wsS RX10 65 yX10_within wsX10_within) := goodIn_app (goodIn_of _ (by decide +kernel)) ggX10_isTime_X10_within
theorem dX10_isTime_0 : decode cX10_isTime 0 = .ok (.iload_n 0, 1) := by decide +kernel
theorem dX10_isTime_1 : decode cX10_isTime 1 = .ok (.iconst 0, 1) := by decide +kernel
theorem dX10_isTime_2 : decode cX10_isTime 2 = .ok (.ldc 69, 2) := by decide +kernel
theorem dX10_isTime_4 : decode cX10_isTime 4 = .ok (.invokestatic 65, 3) := by decide +kernel
theorem dX10_isTime_7 : decode cX10_isTime 7 = .ok (.ireturn, 1) := by decide +kernel
theorem dX10_weekdayOf_0 : decode cX10_weekdayOf 0 = .ok (.iload_n 0, 1) := by decide +kernel
theorem dX10_weekdayOf_1 : decode cX10_weekdayOf 1 = .ok (.iconst 5, 1) := by decide +kernel
theorem dX10_weekdayOf_2 : decode cX10_weekdayOf 2 = .ok (.iadd, 1) := by decide +kernel
theorem dX10_weekdayOf_3 : decode cX10_weekdayOf 3 = .ok (.bipush 7, 2) := by decide +kernel
theorem dX10_weekdayOf_5 : decode cX10_weekdayOf 5 = .ok (.irem, 1) := by decide +kernel
theorem dX10_weekdayOf_6 : decode cX10_weekdayOf 6 = .ok (.ireturn, 1) := by decide +kernel
theorem dX10_dayOf_0 : decode cX10_dayOf 0 = .ok (.iload_n 1, 1) := by decide +kernel
theorem dX10_dayOf_1 : decode cX10_dayOf 1 = .ok (.sipush 2000, 3) := by decide +kernel
theorem dX10_dayOf_4 : decode cX10_dayOf 4 = .ok (.isub, 1) := by decide +kernel
theorem dX10_dayOf_5 : decode cX10_dayOf 5 = .ok (.sipush 365, 3) := by decide +kernel
theorem dX10_dayOf_8 : decode cX10_dayOf 8 = .ok (.imul, 1) := by decide +kernel
theorem dX10_dayOf_9 : decode cX10_dayOf 9 = .ok (.istore 4, 2) := by decide +kernel
theorem dX10_dayOf_11 : decode cX10_dayOf 11 = .ok (.iload 4, 2) := by decide +kernel
theorem dX10_dayOf_13 : decode cX10_dayOf 13 = .ok (.ldc 7, 2) := by decide +kernel
theorem dX10_dayOf_15 : decode cX10_dayOf 15 = .ok (.if_icmp .ge 45, 3) := by decide +kernel
theorem dX10_dayOf_18 : decode cX10_dayOf 18 = .ok (.aload_n 0, 1) := by decide +kernel
theorem dX10_dayOf_19 : decode cX10_dayOf 19 = .ok (.getfield 8, 3) := by decide +kernel
theorem dX10_dayOf_22 : decode cX10_dayOf 22 = .ok (.iload 4, 2) := by decide +kernel
theorem dX10_dayOf_24 : decode cX10_dayOf 24 = .ok (.iaload, 1) := by decide +kernel
theorem dX10_dayOf_25 : decode cX10_dayOf 25 = .ok (.iload_n 1, 1) := by decide +kernel
theorem dX10_dayOf_26 : decode cX10_dayOf 26 = .ok (.if_icmp .ne 28, 3) := by decide +kernel
theorem dX10_dayOf_29 : decode cX10_dayOf 29 = .ok (.aload_n 0, 1) := by decide +kernel
theorem dX10_dayOf_30 : decode cX10_dayOf 30 = .ok (.getfield 14, 3) := by decide +kernel
theorem dX10_dayOf_33 : decode cX10_dayOf 33 = .ok (.iload 4, 2) := by decide +kernel
theorem dX10_dayOf_35 : decode cX10_dayOf 35 = .ok (.iaload, 1) := by decide +kernel
theorem dX10_dayOf_36 : decode cX10_dayOf 36 = .ok (.iload_n 2, 1) := by decide +kernel
theorem dX10_dayOf_37 : decode cX10_dayOf 37 = .ok (.if_icmp .ne 17, 3) := by decide +kernel
theorem dX10_dayOf_40 : decode cX10_dayOf 40 = .ok (.aload_n 0, 1) := by decide +kernel
theorem dX10_dayOf_41 : decode cX10_dayOf 41 = .ok (.getfield 17, 3) := by decide +kernel
theorem dX10_dayOf_44 : decode cX10_dayOf 44 = .ok (.iload 4, 2) := by decide +kernel
theorem dX10_dayOf_46 : decode cX10_dayOf 46 = .ok (.iaload, 1) := by decide +kernel
theorem dX10_dayOf_47 : decode cX10_dayOf 47 = .ok (.iload_n 3, 1) := by decide +kernel
theorem dX10_dayOf_48 : decode cX10_dayOf 48 = .ok (.if_icmp .ne 6, 3) := by decide +kernel
theorem dX10_dayOf_51 : decode cX10_dayOf 51 = .ok (.iload 4, 2) := by decide +kernel
theorem dX10_dayOf_53 : decode cX10_dayOf 53 = .ok (.ireturn, 1) := by decide +kernel
theorem dX10_dayOf_54 : decode cX10_dayOf 54 = .ok (.iinc 4 1, 3) := by decide +kernel
theorem dX10_dayOf_57 : decode cX10_dayOf 57 = .ok (.goto (-46), 3) := by decide +kernel
theorem dX10_dayOf_60 : decode cX10_dayOf 60 = .ok (.iconst (-1), 1) := by decide +kernel
theorem dX10_dayOf_61 : decode cX10_dayOf 61 = .ok (.ireturn, 1) := by decide +kernel
set_option maxRecDepth 20000 in
theorem ggX10_isBooking_X10_within : GoodIn wsX10_isBooking wsX10_within := goodIn_r _ [5] (by decide +kernel) (by decide +kernel)
set_option maxRecDepth 20000 in
theorem gX10_isBooking_X10_within : GoodIn wsX10_isBooking (va_wsS RX10 65 yX10_within wsX10_within) := goodIn_app (goodIn_of _ (by decide +kernel)) ggX10_isBooking_X10_within
theorem dX10_isBooking_0 : decode cX10_isBooking 0 = .ok (.iload_n 1, 1) := by decide +kernel
theorem dX10_isBooking_1 : decode cX10_isBooking 1 = .ok (.iconst 0, 1) := by decide +kernel
theorem dX10_isBooking_2 : decode cX10_isBooking 2 = .ok (.aload_n 0, 1) := by decide +kernel
theorem dX10_isBooking_3 : decode cX10_isBooking 3 = .ok (.getfield 70, 3) := by decide +kernel
theorem dX10_isBooking_6 : decode cX10_isBooking 6 = .ok (.iconst 1, 1) := by decide +kernel
theorem dX10_isBooking_7 : decode cX10_isBooking 7 = .ok (.isub, 1) := by decide +kernel
theorem dX10_isBooking_8 : decode cX10_isBooking 8 = .ok (.invokestatic 65, 3) := by decide +kernel
theorem dX10_isBooking_11 : decode cX10_isBooking 11 = .ok (.ireturn, 1) := by decide +kernel
theorem dX10_get_0 : decode cX10_get 0 = .ok (.aload_n 0, 1) := by decide +kernel
theorem dX10_get_1 : decode cX10_get 1 = .ok (.getfield 23, 3) := by decide +kernel
theorem dX10_get_4 : decode cX10_get 4 = .ok (.bipush 44, 2) := by decide +kernel
theorem dX10_get_6 : decode cX10_get 6 = .ok (.iload_n 1, 1) := by decide +kernel
theorem dX10_get_7 : decode cX10_get 7 = .ok (.imul, 1) := by decide +kernel
theorem dX10_get_8 : decode cX10_get 8 = .ok (.iload_n 2, 1) := by decide +kernel
theorem dX10_get_9 : decode cX10_get 9 = .ok (.iadd, 1) := by decide +kernel
theorem dX10_get_10 : decode cX10_get 10 = .ok (.iaload, 1) := by decide +kernel
theorem dX10_get_11 : decode cX10_get 11 = .ok (.ireturn, 1) := by decide +kernel
theorem dX10_eight_0 : decode cX10_eight 0 = .ok (.bipush 56, 2) := by decide +kernel
theorem dX10_eight_2 : decode cX10_eight 2 = .ok (.istore_n 3, 1) := by decide +kernel
theorem dX10_eight_3 : decode cX10_eight 3 = .ok (.iload_n 3, 1) := by decide +kernel
theorem dX10_eight_4 : decode cX10_eight 4 = .ok (.ifCond .lt 36, 3) := by decide +kernel
theorem dX10_eight_7 : decode cX10_eight 7 = .ok (.aload_n 0, 1) := by decide +kernel
theorem dX10_eight_8 : decode cX10_eight 8 = .ok (.getfield 32, 3) := by decide +kernel
theorem dX10_eight_11 : decode cX10_eight 11 = .ok (.aload_n 0, 1) := by decide +kernel
theorem dX10_eight_12 : decode cX10_eight 12 = .ok (.getfield 73, 3) := by decide +kernel
theorem dX10_eight_15 : decode cX10_eight 15 = .ok (.lload_n 1, 1) := by decide +kernel
theorem dX10_eight_16 : decode cX10_eight 16 = .ok (.iload_n 3, 1) := by decide +kernel
theorem dX10_eight_17 : decode cX10_eight 17 = .ok (.lshr, 1) := by decide +kernel
theorem dX10_eight_18 : decode cX10_eight 18 = .ok (.l2i, 1) := by decide +kernel
theorem dX10_eight_19 : decode cX10_eight 19 = .ok (.sipush 255, 3) := by decide +kernel
theorem dX10_eight_22 : decode cX10_eight 22 = .ok (.iand, 1) := by decide +kernel
theorem dX10_eight_23 : decode cX10_eight 23 = .ok (.iastore, 1) := by decide +kernel
theorem dX10_eight_24 : decode cX10_eight 24 = .ok (.aload_n 0, 1) := by decide +kernel
theorem dX10_eight_25 : decode cX10_eight 25 = .ok (.dup, 1) := by decide +kernel
theorem dX10_eight_26 : decode cX10_eight 26 = .ok (.getfield 73, 3) := by decide +kernel
theorem dX10_eight_29 : decode cX10_eight 29 = .ok (.iconst 1, 1) := by decide +kernel
theorem dX10_eight_30 : decode cX10_eight 30 = .ok (.iadd, 1) := by decide +kernel
theorem dX10_eight_31 : decode cX10_eight 31 = .ok (.putfield 73, 3) := by decide +kernel
theorem dX10_eight_34 : decode cX10_eight 34 = .ok (.iinc 3 (-8), 3) := by decide +kernel
theorem dX10_eight_37 : decode cX10_eight 37 = .ok (.goto (-34), 3) := by decide +kernel
theorem dX10_eight_40 : decode cX10_eight 40 = .ok (.return_, 1) := by decide +kernel
set_option maxRecDepth 20000 in
theorem ggX10_feed_X10_eight : GoodIn wsX10_feed wsX10_eight := goodIn_r _ [7, 8, 2, 9, 10, 11, 12, 13, 14, 15, 16, 17, 18, 19, 20, 21, 22, 23, 24, 25, 26, 27, 28, 29, 30, 31, 32, 33, 34] (by decide +kernel) (by decide +kernel)
set_option maxRecDepth 20000 in
theorem gX10_feed_X10_eight : GoodIn wsX10_feed (wsV RX10 76 RX10 yX10_eight wsX10_eight) := goodIn_app (goodIn_of _ (by decide +kernel)) ggX10_feed_X10_eight
theorem dX10_feed_0 : decode cX10_feed 0 = .ok (.aload_n 0, 1) := by decide +kernel
theorem dX10_feed_1 : decode cX10_feed 1 = .ok (.iconst 0, 1) := by decide +kernel
theorem dX10_feed_2 : decode cX10_feed 2 = .ok (.putfield 60, 3) := by decide +kernel
theorem dX10_feed_5 : decode cX10_feed 5 = .ok (.aload_n 0, 1) := by decide +kernel
theorem dX10_feed_6 : decode cX10_feed 6 = .ok (.getfield 73, 3) := by decide +kernel
theorem dX10_feed_9 : decode cX10_feed 9 = .ok (.bipush 24, 2) := by decide +kernel
theorem dX10_feed_11 : decode cX10_feed 11 = .ok (.iadd, 1) := by decide +kernel
theorem dX10_feed_12 : decode cX10_feed 12 = .ok (.sipush 168, 3) := by decide +kernel
theorem dX10_feed_15 : decode cX10_feed 15 = .ok (.if_icmp .le 5, 3) := by decide +kernel
theorem dX10_feed_18 : decode cX10_feed 18 = .ok (.iconst (-1), 1) := by decide +kernel
theorem dX10_feed_19 : decode cX10_feed 19 = .ok (.ireturn, 1) := by decide +kernel
theorem dX10_feed_20 : decode cX10_feed 20 = .ok (.aload_n 0, 1) := by decide +kernel
theorem dX10_feed_21 : decode cX10_feed 21 = .ok (.lload_n 1, 1) := by decide +kernel
theorem dX10_feed_22 : decode cX10_feed 22 = .ok (.invokevirtual 76, 3) := by decide +kernel
theorem dX10_feed_25 : decode cX10_feed 25 = .ok (.aload_n 0, 1) := by decide +kernel
theorem dX10_feed_26 : decode cX10_feed 26 = .ok (.lload_n 3, 1) := by decide +kernel
theorem dX10_feed_27 : decode cX10_feed 27 = .ok (.invokevirtual 76, 3) := by decide +kernel
theorem dX10_feed_30 : decode cX10_feed 30 = .ok (.aload_n 0, 1) := by decide +kernel
theorem dX10_feed_31 : decode cX10_feed 31 = .ok (.lload 5, 2) := by decide +kernel
theorem dX10_feed_33 : decode cX10_feed 33 = .ok (.invokevirtual 76, 3) := by decide +kernel
theorem dX10_feed_36 : decode cX10_feed 36 = .ok (.aload_n 0, 1) := by decide +kernel
theorem dX10_feed_37 : decode cX10_feed 37 = .ok (.getfield 73, 3) := by decide +kernel
theorem dX10_feed_40 : decode cX10_feed 40 = .ok (.ireturn, 1) := by decide +kernel
set_option maxRecDepth 20000 in
theorem ggX10_end_X10_within : GoodIn wsX10_end wsX10_within := goodIn_r _ [6] (by decide +kernel) (by decide +kernel)
set_option maxRecDepth 20000 in
theorem gX10_end_X10_within : GoodIn wsX10_end (va_wsS RX10 65 yX10_within wsX10_within) := goodIn_app (goodIn_of _ (by decide +kernel)) ggX10_end_X10_within
theorem dX10_end_0 : decode cX10_end 0 = .ok (.aload_n 0, 1) := by decide +kernel
theorem dX10_end_1 : decode cX10_end 1 = .ok (.iconst 0, 1) := by decide +kernel
theorem dX10_end_2 : decode cX10_end 2 = .ok (.putfield 60, 3) := by decide +kernel
theorem dX10_end_5 : decode cX10_end 5 = .ok (.iload_n 1, 1) := by decide +kernel
theorem dX10_end_6 : decode cX10_end 6 = .ok (.iconst 0, 1) := by decide +kernel
theorem dX10_end_7 : decode cX10_end 7 = .ok (.aload_n 0, 1) := by decide +kernel
theorem dX10_end_8 : decode cX10_end 8 = .ok (.getfield 73, 3) := by decide +kernel
theorem dX10_end_11 : decode cX10_end 11 = .ok (.invokestatic 65, 3) := by decide +kernel
theorem dX10_end_14 : decode cX10_end 14 = .ok (.ifCond .ne 5, 3) := by decide +kernel
theorem dX10_end_17 : decode cX10_end 17 = .ok (.iconst (-1), 1) := by decide +kernel
theorem dX10_end_18 : decode cX10_end 18 = .ok (.ireturn, 1) := by decide +kernel
theorem dX10_end_19 : decode cX10_end 19 = .ok (.aload_n 0, 1) := by decide +kernel
theorem dX10_end_20 : decode cX10_end 20 = .ok (.iload_n 1, 1) := by decide +kernel
theorem dX10_end_21 : decode cX10_end 21 = .ok (.putfield 73, 3) := by decide +kernel
theorem dX10_end_24 : decode cX10_end 24 = .ok (.iload_n 1, 1) := by decide +kernel
theorem dX10_end_25 : decode cX10_end 25 = .ok (.ireturn, 1) := by decide +kernel
theorem dX10_byteAt_0 : decode cX10_byteAt 0 = .ok (.iload_n 1, 1) := by decide +kernel
theorem dX10_byteAt_1 : decode cX10_byteAt 1 = .ok (.aload_n 0, 1) := by decide +kernel
theorem dX10_byteAt_2 : decode cX10_byteAt 2 = .ok (.getfield 80, 3) := by decide +kernel
theorem dX10_byteAt_5 : decode cX10_byteAt 5 = .ok (.if_icmp .ge 12, 3) := by decide +kernel
theorem dX10_byteAt_8 : decode cX10_byteAt 8 = .ok (.aload_n 0, 1) := by decide +kernel
theorem dX10_byteAt_9 : decode cX10_byteAt 9 = .ok (.getfield 32, 3) := by decide +kernel
theorem dX10_byteAt_12 : decode cX10_byteAt 12 = .ok (.iload_n 1, 1) := by decide +kernel
theorem dX10_byteAt_13 : decode cX10_byteAt 13 = .ok (.iaload, 1) := by decide +kernel
theorem dX10_byteAt_14 : decode cX10_byteAt 14 = .ok (.goto 4, 3) := by decide +kernel
theorem dX10_byteAt_17 : decode cX10_byteAt 17 = .ok (.iconst (-1), 1) := by decide +kernel
theorem dX10_byteAt_18 : decode cX10_byteAt 18 = .ok (.ireturn, 1) := by decide +kernel
theorem dX10_isSmall_0 : decode cX10_isSmall 0 = .ok (.iload_n 0, 1) := by decide +kernel
theorem dX10_isSmall_1 : decode cX10_isSmall 1 = .ok (.bipush 97, 2) := by decide +kernel
theorem dX10_isSmall_3 : decode cX10_isSmall 3 = .ok (.if_icmp .lt 13, 3) := by decide +kernel
theorem dX10_isSmall_6 : decode cX10_isSmall 6 = .ok (.iload_n 0, 1) := by decide +kernel
theorem dX10_isSmall_7 : decode cX10_isSmall 7 = .ok (.bipush 122, 2) := by decide +kernel
theorem dX10_isSmall_9 : decode cX10_isSmall 9 = .ok (.if_icmp .gt 7, 3) := by decide +kernel
theorem dX10_isSmall_12 : decode cX10_isSmall 12 = .ok (.iconst 1, 1) := by decide +kernel
theorem dX10_isSmall_13 : decode cX10_isSmall 13 = .ok (.goto 4, 3) := by decide +kernel
theorem dX10_isSmall_16 : decode cX10_isSmall 16 = .ok (.iconst 0, 1) := by decide +kernel
theorem dX10_isSmall_17 : decode cX10_isSmall 17 = .ok (.ireturn, 1) := by decide +kernel
theorem dX10_isDigit_0 : decode cX10_isDigit 0 = .ok (.iload_n 0, 1) := by decide +kernel
theorem dX10_isDigit_1 : decode cX10_isDigit 1 = .ok (.bipush 48, 2) := by decide +kernel
theorem dX10_isDigit_3 : decode cX10_isDigit 3 = .ok (.if_icmp .lt 13, 3) := by decide +kernel
theorem dX10_isDigit_6 : decode cX10_isDigit 6 = .ok (.iload_n 0, 1) := by decide +kernel
theorem dX10_isDigit_7 : decode cX10_isDigit 7 = .ok (.bipush 57, 2) := by decide +kernel
theorem dX10_isDigit_9 : decode cX10_isDigit 9 = .ok (.if_icmp .gt 7, 3) := by decide +kernel
theorem dX10_isDigit_12 : decode cX10_isDigit 12 = .ok (.iconst 1, 1) := by decide +kernel
theorem dX10_isDigit_13 : decode cX10_isDigit 13 = .ok (.goto 4, 3) := by decide +kernel
theorem dX10_isDigit_16 : decode cX10_isDigit 16 = .ok (.iconst 0, 1) := by decide +kernel
theorem dX10_isDigit_17 : decode cX10_isDigit 17 = .ok (.ireturn, 1) := by decide +kernel
set_option maxRecDepth 20000 in
theorem ggX10_next_X10_byteAt : GoodIn wsX10_next wsX10_byteAt := goodIn_r _ [12, 13, 14, 21, 22, 23, 24, 25, 26, 27, 28, 29, 30, 31, 32, 33, 34, 35, 36, 37, 38, 39, 40, 41, 42, 43, 44, 45, 46] (by decide +kernel) (by decide +kernel)
set_option maxRecDepth 20000 in
theorem gX10_next_X10_byteAt : GoodIn wsX10_next (wsV RX10 89 RX10 yX10_byteAt wsX10_byteAt) := goodIn_app (goodIn_of _ (by decide +kernel)) ggX10_next_X10_byteAt
set_option maxRecDepth 20000 in
theorem ggX10_next_X10_isSmall : GoodIn wsX10_next wsX10_isSmall := goodIn_r _ [17] (by decide +kernel) (by decide +kernel)
set_option maxRecDepth 20000 in
theorem gX10_next_X10_isSmall : GoodIn wsX10_next (va_wsS RX10 106 yX10_isSmall wsX10_isSmall) := goodIn_app (goodIn_of _ (by decide +kernel)) ggX10_next_X10_isSmall
set_option maxRecDepth 20000 in
theorem ggX10_next_X10_isDigit : GoodIn wsX10_next wsX10_isDigit := goodIn_r _ [20] (by decide +kernel) (by decide +kernel)
set_option maxRecDepth 20000 in
theorem gX10_next_X10_isDigit : GoodIn wsX10_next (va_wsS RX10 112 yX10_isDigit wsX10_isDigit) := goodIn_app (goodIn_of _ (by decide +kernel)) ggX10_next_X10_isDigit
theorem dX10_next_0 : decode cX10_next 0 = .ok (.aload_n 0, 1) := by decide +kernel
theorem dX10_next_1 : decode cX10_next 1 = .ok (.getfield 83, 3) := by decide +kernel
theorem dX10_next_4 : decode cX10_next 4 = .ok (.ifCond .le 4, 3) := by decide +kernel
theorem dX10_next_7 : decode cX10_next 7 = .ok (.return_, 1) := by decide +kernel
theorem dX10_next_8 : decode cX10_next 8 = .ok (.aload_n 0, 1) := by decide +kernel
theorem dX10_next_9 : decode cX10_next 9 = .ok (.getfield 86, 3) := by decide +kernel
theorem dX10_next_12 : decode cX10_next 12 = .ok (.istore_n 1, 1) := by decide +kernel
theorem dX10_next_13 : decode cX10_next 13 = .ok (.aload_n 0, 1) := by decide +kernel
theorem dX10_next_14 : decode cX10_next 14 = .ok (.iload_n 1, 1) := by decide +kernel
theorem dX10_next_15 : decode cX10_next 15 = .ok (.invokevirtual 89, 3) := by decide +kernel
theorem dX10_next_18 : decode cX10_next 18 = .ok (.bipush 32, 2) := by decide +kernel
theorem dX10_next_20 : decode cX10_next 20 = .ok (.if_icmp .ne 9, 3) := by decide +kernel
theorem dX10_next_23 : decode cX10_next 23 = .ok (.iinc 1 1, 3) := by decide +kernel
theorem dX10_next_26 : decode cX10_next 26 = .ok (.goto (-13), 3) := by decide +kernel
theorem dX10_next_29 : decode cX10_next 29 = .ok (.aload_n 0, 1) := by decide +kernel
theorem dX10_next_30 : decode cX10_next 30 = .ok (.iload_n 1, 1) := by decide +kernel
theorem dX10_next_31 : decode cX10_next 31 = .ok (.putfield 93, 3) := by decide +kernel
theorem dX10_next_34 : decode cX10_next 34 = .ok (.aload_n 0, 1) := by decide +kernel
theorem dX10_next_35 : decode cX10_next 35 = .ok (.iload_n 1, 1) := by decide +kernel
theorem dX10_next_36 : decode cX10_next 36 = .ok (.iconst 1, 1) := by decide +kernel
theorem dX10_next_37 : decode cX10_next 37 = .ok (.iadd, 1) := by decide +kernel
theorem dX10_next_38 : decode cX10_next 38 = .ok (.putfield 86, 3) := by decide +kernel
theorem dX10_next_41 : decode cX10_next 41 = .ok (.aload_n 0, 1) := by decide +kernel
theorem dX10_next_42 : decode cX10_next 42 = .ok (.iload_n 1, 1) := by decide +kernel
theorem dX10_next_43 : decode cX10_next 43 = .ok (.invokevirtual 89, 3) := by decide +kernel
theorem dX10_next_46 : decode cX10_next 46 = .ok (.istore_n 2, 1) := by decide +kernel
theorem dX10_next_47 : decode cX10_next 47 = .ok (.aload_n 0, 1) := by decide +kernel
theorem dX10_next_48 : decode cX10_next 48 = .ok (.iconst 3, 1) := by decide +kernel
theorem dX10_next_49 : decode cX10_next 49 = .ok (.putfield 96, 3) := by decide +kernel
theorem dX10_next_52 : decode cX10_next 52 = .ok (.aload_n 0, 1) := by decide +kernel
theorem dX10_next_53 : decode cX10_next 53 = .ok (.lconst 0, 1) := by decide +kernel
theorem dX10_next_54 : decode cX10_next 54 = .ok (.putfield 99, 3) := by decide +kernel
theorem dX10_next_57 : decode cX10_next 57 = .ok (.aload_n 0, 1) := by decide +kernel
theorem dX10_next_58 : decode cX10_next 58 = .ok (.iconst 0, 1) := by decide +kernel
theorem dX10_next_59 : decode cX10_next 59 = .ok (.putfield 103, 3) := by decide +kernel
theorem dX10_next_62 : decode cX10_next 62 = .ok (.iload_n 2, 1) := by decide +kernel
theorem dX10_next_63 : decode cX10_next 63 = .ok (.iconst (-1), 1) := by decide +kernel
theorem dX10_next_64 : decode cX10_next 64 = .ok (.if_icmp .ne 16, 3) := by decide +kernel
theorem dX10_next_67 : decode cX10_next 67 = .ok (.aload_n 0, 1) := by decide +kernel
theorem dX10_next_68 : decode cX10_next 68 = .ok (.iconst 0, 1) := by decide +kernel
theorem dX10_next_69 : decode cX10_next 69 = .ok (.putfield 96, 3) := by decide +kernel
theorem dX10_next_72 : decode cX10_next 72 = .ok (.aload_n 0, 1) := by decide +kernel
theorem dX10_next_73 : decode cX10_next 73 = .ok (.iload_n 1, 1) := by decide +kernel
theorem dX10_next_74 : decode cX10_next 74 = .ok (.putfield 86, 3) := by decide +kernel
theorem dX10_next_77 : decode cX10_next 77 = .ok (.goto 175, 3) := by decide +kernel
theorem dX10_next_80 : decode cX10_next 80 = .ok (.iload_n 2, 1) := by decide +kernel
theorem dX10_next_81 : decode cX10_next 81 = .ok (.invokestatic 106, 3) := by decide +kernel
theorem dX10_next_84 : decode cX10_next 84 = .ok (.ifCond .eq 77, 3) := by decide +kernel
theorem dX10_next_87 : decode cX10_next 87 = .ok (.aload_n 0, 1) := by decide +kernel
theorem dX10_next_88 : decode cX10_next 88 = .ok (.iconst 1, 1) := by decide +kernel
theorem dX10_next_89 : decode cX10_next 89 = .ok (.putfield 96, 3) := by decide +kernel
theorem dX10_next_92 : decode cX10_next 92 = .ok (.aload_n 0, 1) := by decide +kernel
theorem dX10_next_93 : decode cX10_next 93 = .ok (.iload_n 1, 1) := by decide +kernel
theorem dX10_next_94 : decode cX10_next 94 = .ok (.putfield 86, 3) := by decide +kernel
theorem dX10_next_97 : decode cX10_next 97 = .ok (.aload_n 0, 1) := by decide +kernel
theorem dX10_next_98 : decode cX10_next 98 = .ok (.aload_n 0, 1) := by decide +kernel
theorem dX10_next_99 : decode cX10_next 99 = .ok (.getfield 86, 3) := by decide +kernel
theorem dX10_next_102 : decode cX10_next 102 = .ok (.invokevirtual 89, 3) := by decide +kernel
theorem dX10_next_105 : decode cX10_next 105 = .ok (.invokestatic 106, 3) := by decide +kernel
theorem dX10_next_108 : decode cX10_next 108 = .ok (.ifCond .eq 144, 3) := by decide +kernel
theorem dX10_next_111 : decode cX10_next 111 = .ok (.aload_n 0, 1) := by decide +kernel
theorem dX10_next_112 : decode cX10_next 112 = .ok (.aload_n 0, 1) := by decide +kernel
theorem dX10_next_113 : decode cX10_next 113 = .ok (.getfield 86, 3) := by decide +kernel
theorem dX10_next_116 : decode cX10_next 116 = .ok (.iload_n 1, 1) := by decide +kernel
theorem dX10_next_117 : decode cX10_next 117 = .ok (.isub, 1) := by decide +kernel
theorem dX10_next_118 : decode cX10_next 118 = .ok (.bipush 7, 2) := by decide +kernel
theorem dX10_next_120 : decode cX10_next 120 = .ok (.if_icmp .ge 24, 3) := by decide +kernel
theorem dX10_next_123 : decode cX10_next 123 = .ok (.ldc2_w 110, 3) := by decide +kernel
theorem dX10_next_126 : decode cX10_next 126 = .ok (.aload_n 0, 1) := by decide +kernel
theorem dX10_next_127 : decode cX10_next 127 = .ok (.getfield 99, 3) := by decide +kernel
theorem dX10_next_130 : decode cX10_next 130 = .ok (.lmul, 1) := by decide +kernel
theorem dX10_next_131 : decode cX10_next 131 = .ok (.aload_n 0, 1) := by decide +kernel
theorem dX10_next_132 : decode cX10_next 132 = .ok (.aload_n 0, 1) := by decide +kernel
theorem dX10_next_133 : decode cX10_next 133 = .ok (.getfield 86, 3) := by decide +kernel
theorem dX10_next_136 : decode cX10_next 136 = .ok (.invokevirtual 89, 3) := by decide +kernel
theorem dX10_next_139 : decode cX10_next 139 = .ok (.i2l, 1) := by decide +kernel
theorem dX10_next_140 : decode cX10_next 140 = .ok (.ladd, 1) := by decide +kernel
theorem dX10_next_141 : decode cX10_next 141 = .ok (.goto 4, 3) := by decide +kernel
theorem dX10_next_144 : decode cX10_next 144 = .ok (.lconst 0, 1) := by decide +kernel
theorem dX10_next_145 : decode cX10_next 145 = .ok (.putfield 99, 3) := by decide +kernel
theorem dX10_next_148 : decode cX10_next 148 = .ok (.aload_n 0, 1) := by decide +kernel
theorem dX10_next_149 : decode cX10_next 149 = .ok (.dup, 1) := by decide +kernel
theorem dX10_next_150 : decode cX10_next 150 = .ok (.getfield 86, 3) := by decide +kernel
theorem dX10_next_153 : decode cX10_next 153 = .ok (.iconst 1, 1) := by decide +kernel
theorem dX10_next_154 : decode cX10_next 154 = .ok (.iadd, 1) := by decide +kernel
theorem dX10_next_155 : decode cX10_next 155 = .ok (.putfield 86, 3) := by decide +kernel
theorem dX10_next_158 : decode cX10_next 158 = .ok (.goto (-61), 3) := by decide +kernel
theorem dX10_next_161 : decode cX10_next 161 = .ok (.iload_n 2, 1) := by decide +kernel
theorem dX10_next_162 : decode cX10_next 162 = .ok (.invokestatic 112, 3) := by decide +kernel
theorem dX10_next_165 : decode cX10_next 165 = .ok (.ifCond .eq 87, 3) := by decide +kernel
theorem dX10_next_168 : decode cX10_next 168 = .ok (.aload_n 0, 1) := by decide +kernel
theorem dX10_next_169 : decode cX10_next 169 = .ok (.iload_n 1, 1) := by decide +kernel
theorem dX10_next_170 : decode cX10_next 170 = .ok (.putfield 86, 3) := by decide +kernel
theorem dX10_next_173 : decode cX10_next 173 = .ok (.aload_n 0, 1) := by decide +kernel
theorem dX10_next_174 : decode cX10_next 174 = .ok (.aload_n 0, 1) := by decide +kernel
theorem dX10_next_175 : decode cX10_next 175 = .ok (.getfield 86, 3) := by decide +kernel
theorem dX10_next_178 : decode cX10_next 178 = .ok (.invokevirtual 89, 3) := by decide +kernel
theorem dX10_next_181 : decode cX10_next 181 = .ok (.invokestatic 112, 3) := by decide +kernel
theorem dX10_next_184 : decode cX10_next 184 = .ok (.ifCond .eq 49, 3) := by decide +kernel
theorem dX10_next_187 : decode cX10_next 187 = .ok (.aload_n 0, 1) := by decide +kernel
theorem dX10_next_188 : decode cX10_next 188 = .ok (.getfield 86, 3) := by decide +kernel
theorem dX10_next_191 : decode cX10_next 191 = .ok (.iload_n 1, 1) := by decide +kernel
theorem dX10_next_192 : decode cX10_next 192 = .ok (.isub, 1) := by decide +kernel
theorem dX10_next_193 : decode cX10_next 193 = .ok (.iconst 4, 1) := by decide +kernel
theorem dX10_next_194 : decode cX10_next 194 = .ok (.if_icmp .ge 26, 3) := by decide +kernel
theorem dX10_next_197 : decode cX10_next 197 = .ok (.aload_n 0, 1) := by decide +kernel
theorem dX10_next_198 : decode cX10_next 198 = .ok (.bipush 10, 2) := by decide +kernel
theorem dX10_next_200 : decode cX10_next 200 = .ok (.aload_n 0, 1) := by decide +kernel
theorem dX10_next_201 : decode cX10_next 201 = .ok (.getfield 103, 3) := by decide +kernel
theorem dX10_next_204 : decode cX10_next 204 = .ok (.imul, 1) := by decide +kernel
theorem dX10_next_205 : decode cX10_next 205 = .ok (.aload_n 0, 1) := by decide +kernel
theorem dX10_next_206 : decode cX10_next 206 = .ok (.aload_n 0, 1) := by decide +kernel
theorem dX10_next_207 : decode cX10_next 207 = .ok (.getfield 86, 3) := by decide +kernel
theorem dX10_next_210 : decode cX10_next 210 = .ok (.invokevirtual 89, 3) := by decide +kernel
theorem dX10_next_213 : decode cX10_next 213 = .ok (.iadd, 1) := by decide +kernel
theorem dX10_next_214 : decode cX10_next 214 = .ok (.bipush 48, 2) := by decide +kernel
theorem dX10_next_216 : decode cX10_next 216 = .ok (.isub, 1) := by decide +kernel
theorem dX10_next_217 : decode cX10_next 217 = .ok (.putfield 103, 3) := by decide +kernel
theorem dX10_next_220 : decode cX10_next 220 = .ok (.aload_n 0, 1) := by decide +kernel
theorem dX10_next_221 : decode cX10_next 221 = .ok (.dup, 1) := by decide +kernel
theorem dX10_next_222 : decode cX10_next 222 = .ok (.getfield 86, 3) := by decide +kernel
theorem dX10_next_225 : decode cX10_next 225 = .ok (.iconst 1, 1) := by decide +kernel
theorem dX10_next_226 : decode cX10_next 226 = .ok (.iadd, 1) := by decide +kernel
theorem dX10_next_227 : decode cX10_next 227 = .ok (.putfield 86, 3) := by decide +kernel
theorem dX10_next_230 : decode cX10_next 230 = .ok (.goto (-57), 3) := by decide +kernel
theorem dX10_next_233 : decode cX10_next 233 = .ok (.aload_n 0, 1) := by decide +kernel
theorem dX10_next_234 : decode cX10_next 234 = .ok (.aload_n 0, 1) := by decide +kernel
theorem dX10_next_235 : decode cX10_next 235 = .ok (.getfield 86, 3) := by decide +kernel
theorem dX10_next_238 : decode cX10_next 238 = .ok (.iload_n 1, 1) := by decide +kernel
theorem dX10_next_239 : decode cX10_next 239 = .ok (.isub, 1) := by decide +kernel
theorem dX10_next_240 : decode cX10_next 240 = .ok (.iconst 5, 1) := by decide +kernel
theorem dX10_next_241 : decode cX10_next 241 = .ok (.if_icmp .ge 7, 3) := by decide +kernel
theorem dX10_next_244 : decode cX10_next 244 = .ok (.iconst 2, 1) := by decide +kernel
theorem dX10_next_245 : decode cX10_next 245 = .ok (.goto 4, 3) := by decide +kernel
theorem dX10_next_248 : decode cX10_next 248 = .ok (.iconst 3, 1) := by decide +kernel
theorem dX10_next_249 : decode cX10_next 249 = .ok (.putfield 96, 3) := by decide +kernel
theorem dX10_next_252 : decode cX10_next 252 = .ok (.return_, 1) := by decide +kernel
theorem dX10_wrong_0 : decode cX10_wrong 0 = .ok (.aload_n 0, 1) := by decide +kernel
theorem dX10_wrong_1 : decode cX10_wrong 1 = .ok (.getfield 83, 3) := by decide +kernel
theorem dX10_wrong_4 : decode cX10_wrong 4 = .ok (.ifCond .ne 16, 3) := by decide +kernel
theorem dX10_wrong_7 : decode cX10_wrong 7 = .ok (.aload_n 0, 1) := by decide +kernel
theorem dX10_wrong_8 : decode cX10_wrong 8 = .ok (.bipush 8, 2) := by decide +kernel
theorem dX10_wrong_10 : decode cX10_wrong 10 = .ok (.aload_n 0, 1) := by decide +kernel
theorem dX10_wrong_11 : decode cX10_wrong 11 = .ok (.getfield 93, 3) := by decide +kernel
theorem dX10_wrong_14 : decode cX10_wrong 14 = .ok (.imul, 1) := by decide +kernel
theorem dX10_wrong_15 : decode cX10_wrong 15 = .ok (.iload_n 1, 1) := by decide +kernel
theorem dX10_wrong_16 : decode cX10_wrong 16 = .ok (.iadd, 1) := by decide +kernel
theorem dX10_wrong_17 : decode cX10_wrong 17 = .ok (.putfield 83, 3) := by decide +kernel
theorem dX10_wrong_20 : decode cX10_wrong 20 = .ok (.return_, 1) := by decide +kernel
set_option maxRecDepth 20000 in
theorem ggX10_packed_J0_length_8abf5 : GoodIn wsX10_packed wsJ0_length_8abf5 := goodIn_r _ [6, 7, 8, 9, 10, 5, 11, 12, 13] (by decide +kernel) (by decide +kernel)
set_option maxRecDepth 20000 in
theorem gX10_packed_J0_length_8abf5 : GoodIn wsX10_packed (wsV RX10 115 RJ0 yJ0_length_8abf5 wsJ0_length_8abf5) := goodIn_app (goodIn_of _ (by decide +kernel)) ggX10_packed_J0_length_8abf5
set_option maxRecDepth 20000 in
theorem ggX10_packed_J0_charAt_5068e : GoodIn wsX10_packed wsJ0_charAt_5068e := goodIn_r _ [17, 7, 18, 19, 20, 5, 21, 12, 13, 22, 23, 24, 25, 26, 27, 28, 29, 30, 31, 32, 33, 34, 35, 36, 37, 38, 39, 40, 41, 42, 43, 44, 45, 46, 47, 48, 49, 50] (by decide +kernel) (by decide +kernel)
set_option maxRecDepth 20000 in
theorem gX10_packed_J0_charAt_5068e : GoodIn wsX10_packed (wsV RX10 121 RJ0 yJ0_charAt_5068e wsJ0_charAt_5068e) := goodIn_app (goodIn_of _ (by decide +kernel)) ggX10_packed_J0_charAt_5068e
theorem dX10_packed_0 : decode cX10_packed 0 = .ok (.lconst 0, 1) := by decide +kernel
theorem dX10_packed_1 : decode cX10_packed 1 = .ok (.lstore_n 1, 1) := by decide +kernel
theorem dX10_packed_2 : decode cX10_packed 2 = .ok (.iconst 0, 1) := by decide +kernel
theorem dX10_packed_3 : decode cX10_packed 3 = .ok (.istore_n 3, 1) := by decide +kernel
theorem dX10_packed_4 : decode cX10_packed 4 = .ok (.iload_n 3, 1) := by decide +kernel
theorem dX10_packed_5 : decode cX10_packed 5 = .ok (.aload_n 0, 1) := by decide +kernel
theorem dX10_packed_6 : decode cX10_packed 6 = .ok (.invokevirtual 115, 3) := by decide +kernel
theorem dX10_packed_9 : decode cX10_packed 9 = .ok (.if_icmp .ge 22, 3) := by decide +kernel
theorem dX10_packed_12 : decode cX10_packed 12 = .ok (.ldc2_w 110, 3) := by decide +kernel
theorem dX10_packed_15 : decode cX10_packed 15 = .ok (.lload_n 1, 1) := by decide +kernel
theorem dX10_packed_16 : decode cX10_packed 16 = .ok (.lmul, 1) := by decide +kernel
theorem dX10_packed_17 : decode cX10_packed 17 = .ok (.aload_n 0, 1) := by decide +kernel
theorem dX10_packed_18 : decode cX10_packed 18 = .ok (.iload_n 3, 1) := by decide +kernel
theorem dX10_packed_19 : decode cX10_packed 19 = .ok (.invokevirtual 121, 3) := by decide +kernel
theorem dX10_packed_22 : decode cX10_packed 22 = .ok (.i2l, 1) := by decide +kernel
theorem dX10_packed_23 : decode cX10_packed 23 = .ok (.ladd, 1) := by decide +kernel
theorem dX10_packed_24 : decode cX10_packed 24 = .ok (.lstore_n 1, 1) := by decide +kernel
theorem dX10_packed_25 : decode cX10_packed 25 = .ok (.iinc 3 1, 3) := by decide +kernel
theorem dX10_packed_28 : decode cX10_packed 28 = .ok (.goto (-24), 3) := by decide +kernel
theorem dX10_packed_31 : decode cX10_packed 31 = .ok (.lload_n 1, 1) := by decide +kernel
theorem dX10_packed_32 : decode cX10_packed 32 = .ok (.lreturn, 1) := by decide +kernel
set_option maxRecDepth 20000 in
theorem ggX10_isWord_X10_packed : GoodIn wsX10_isWord wsX10_packed := goodIn_r _ [7, 8, 9, 10, 11, 12, 13, 14, 15, 16, 17, 18, 19, 20, 21, 22, 23, 24, 25, 26, 27, 28, 29, 30, 31, 32, 33, 34, 35, 36, 37, 38, 39, 40, 41, 42, 43, 44, 45, 46, 47, 48, 49, 50, 51, 52, 53, 54, 55, 56, 57] (by decide +kernel) (by decide +kernel)
set_option maxRecDepth 20000 in
theorem gX10_isWord_X10_packed : GoodIn wsX10_isWord (va_wsS RX10 125 yX10_packed wsX10_packed) := goodIn_app (goodIn_of _ (by decide +kernel)) ggX10_isWord_X10_packed
theorem dX10_isWord_0 : decode cX10_isWord 0 = .ok (.aload_n 0, 1) := by decide +kernel
theorem dX10_isWord_1 : decode cX10_isWord 1 = .ok (.getfield 83, 3) := by decide +kernel
theorem dX10_isWord_4 : decode cX10_isWord 4 = .ok (.ifCond .ne 27, 3) := by decide +kernel
theorem dX10_isWord_7 : decode cX10_isWord 7 = .ok (.aload_n 0, 1) := by decide +kernel
theorem dX10_isWord_8 : decode cX10_isWord 8 = .ok (.getfield 96, 3) := by decide +kernel
theorem dX10_isWord_11 : decode cX10_isWord 11 = .ok (.iconst 1, 1) := by decide +kernel
theorem dX10_isWord_12 : decode cX10_isWord 12 = .ok (.if_icmp .ne 19, 3) := by decide +kernel
theorem dX10_isWord_15 : decode cX10_isWord 15 = .ok (.aload_n 0, 1) := by decide +kernel
theorem dX10_isWord_16 : decode cX10_isWord 16 = .ok (.getfield 99, 3) := by decide +kernel
theorem dX10_isWord_19 : decode cX10_isWord 19 = .ok (.aload_n 1, 1) := by decide +kernel
theorem dX10_isWord_20 : decode cX10_isWord 20 = .ok (.invokestatic 125, 3) := by decide +kernel
theorem dX10_isWord_23 : decode cX10_isWord 23 = .ok (.lcmp, 1) := by decide +kernel
theorem dX10_isWord_24 : decode cX10_isWord 24 = .ok (.ifCond .ne 7, 3) := by decide +kernel
theorem dX10_isWord_27 : decode cX10_isWord 27 = .ok (.iconst 1, 1) := by decide +kernel
theorem dX10_isWord_28 : decode cX10_isWord 28 = .ok (.goto 4, 3) := by decide +kernel
theorem dX10_isWord_31 : decode cX10_isWord 31 = .ok (.iconst 0, 1) := by decide +kernel
theorem dX10_isWord_32 : decode cX10_isWord 32 = .ok (.ireturn, 1) := by decide +kernel
set_option maxRecDepth 20000 in
theorem ggX10_must_X10_isWord : GoodIn wsX10_must wsX10_isWord := goodIn_r _ [6, 1, 7, 8, 9, 10, 5, 11, 12, 13, 14, 15, 16, 17, 18, 19, 20, 21, 22, 23, 24, 25, 26, 27, 28, 29, 30, 31, 32, 33, 34, 35, 36, 37, 38, 39, 40, 41, 42, 43, 44, 45, 46, 47, 48, 49, 50, 51, 52, 53, 54, 55, 56, 57, 58, 59, 60, 61, 85, 86, 87, 88, 89, 90, 91, 92, 93, 94, 95, 96, 97, 98, 99, 100, 101, 102, 103, 104, 105, 106, 107, 108, 109, 110] (by decide +kernel) (by decide +kernel)
set_option maxRecDepth 20000 in
theorem gX10_must_X10_isWord : GoodIn wsX10_must (wsV RX10 129 RX10 yX10_isWord wsX10_isWord) := goodIn_app (goodIn_of _ (by decide +kernel)) ggX10_must_X10_isWord
set_option maxRecDepth 20000 in
theorem ggX10_must_X10_wrong : GoodIn wsX10_must wsX10_wrong := goodIn_r _ [65, 1, 66, 85, 86, 87, 88, 89, 90, 91, 92, 93, 94, 95, 96, 97, 98, 99, 100, 101, 102, 103, 104, 105, 106, 107, 108, 109, 110] (by decide +kernel) (by decide +kernel)
set_option maxRecDepth 20000 in
theorem gX10_must_X10_wrong : GoodIn wsX10_must (wsV RX10 133 RX10 yX10_wrong wsX10_wrong) := goodIn_app (goodIn_of _ (by decide +kernel)) ggX10_must_X10_wrong
set_option maxRecDepth 20000 in
theorem ggX10_must_X10_next : GoodIn wsX10_must wsX10_next := goodIn_r _ [70, 1, 71, 66, 7, 8, 72, 12, 73, 74, 75, 5, 76, 77, 78, 79, 80, 81, 82, 83, 84, 85, 86, 87, 88, 89, 90, 91, 92, 93, 94, 95, 96, 97, 98, 99, 100, 101, 102, 103, 104, 105, 106, 107, 108, 109, 110] (by decide +kernel) (by decide +kernel)
set_option maxRecDepth 20000 in
theorem gX10_must_X10_next : GoodIn wsX10_must (wsV RX10 137 RX10 yX10_next wsX10_next) := goodIn_app (goodIn_of _ (by decide +kernel)) ggX10_must_X10_next
theorem dX10_must_0 : decode cX10_must 0 = .ok (.aload_n 0, 1) := by decide +kernel
theorem dX10_must_1 : decode cX10_must 1 = .ok (.getfield 83, 3) := by decide +kernel
theorem dX10_must_4 : decode cX10_must 4 = .ok (.ifCond .ne 16, 3) := by decide +kernel
theorem dX10_must_7 : decode cX10_must 7 = .ok (.aload_n 0, 1) := by decide +kernel
theorem dX10_must_8 : decode cX10_must 8 = .ok (.aload_n 1, 1) := by decide +kernel
theorem dX10_must_9 : decode cX10_must 9 = .ok (.invokevirtual 129, 3) := by decide +kernel
theorem dX10_must_12 : decode cX10_must 12 = .ok (.ifCond .ne 8, 3) := by decide +kernel
theorem dX10_must_15 : decode cX10_must 15 = .ok (.aload_n 0, 1) := by decide +kernel
theorem dX10_must_16 : decode cX10_must 16 = .ok (.iconst 1, 1) := by decide +kernel
theorem dX10_must_17 : decode cX10_must 17 = .ok (.invokevirtual 133, 3) := by decide +kernel
theorem dX10_must_20 : decode cX10_must 20 = .ok (.aload_n 0, 1) := by decide +kernel
theorem dX10_must_21 : decode cX10_must 21 = .ok (.invokevirtual 137, 3) := by decide +kernel
theorem dX10_must_24 : decode cX10_must 24 = .ok (.return_, 1) := by decide +kernel
set_option maxRecDepth 20000 in
theorem ggX10_numberTold_X10_wrong : GoodIn wsX10_numberTold wsX10_wrong := goodIn_r _ [8, 1, 9, 32, 33, 34, 35, 36, 37, 38, 39, 40, 41, 42, 43, 44, 45, 46, 47, 48, 49, 50, 51, 52, 53, 54, 55, 56, 57] (by decide +kernel) (by decide +kernel)
set_option maxRecDepth 20000 in
theorem gX10_numberTold_X10_wrong : GoodIn wsX10_numberTold (wsV RX10 133 RX10 yX10_wrong wsX10_wrong) := goodIn_app (goodIn_of _ (by decide +kernel)) ggX10_numberTold_X10_wrong
set_option maxRecDepth 20000 in
theorem ggX10_numberTold_X10_within : GoodIn wsX10_numberTold wsX10_within := goodIn_r _ [12] (by decide +kernel) (by decide +kernel)
set_option maxRecDepth 20000 in
theorem gX10_numberTold_X10_within : GoodIn wsX10_numberTold (va_wsS RX10 65 yX10_within wsX10_within) := goodIn_app (goodIn_of _ (by decide +kernel)) ggX10_numberTold_X10_within
set_option maxRecDepth 20000 in
theorem ggX10_numberTold_X10_next : GoodIn wsX10_numberTold wsX10_next := goodIn_r _ [16, 1, 17, 9, 2, 18, 3, 19, 20, 21, 22, 7, 23, 24, 25, 26, 27, 28, 29, 30, 31, 32, 33, 34, 35, 36, 37, 38, 39, 40, 41, 42, 43, 44, 45, 46, 47, 48, 49, 50, 51, 52, 53, 54, 55, 56, 57] (by decide +kernel) (by decide +kernel)
set_option maxRecDepth 20000 in
theorem gX10_numberTold_X10_next : GoodIn wsX10_numberTold (wsV RX10 137 RX10 yX10_next wsX10_next) := goodIn_app (goodIn_of _ (by decide +kernel)) ggX10_numberTold_X10_next
theorem dX10_numberTold_0 : decode cX10_numberTold 0 = .ok (.aload_n 0, 1) := by decide +kernel
theorem dX10_numberTold_1 : decode cX10_numberTold 1 = .ok (.getfield 83, 3) := by decide +kernel
theorem dX10_numberTold_4 : decode cX10_numberTold 4 = .ok (.ifCond .ne 16, 3) := by decide +kernel
theorem dX10_numberTold_7 : decode cX10_numberTold 7 = .ok (.aload_n 0, 1) := by decide +kernel
theorem dX10_numberTold_8 : decode cX10_numberTold 8 = .ok (.getfield 96, 3) := by decide +kernel
theorem dX10_numberTold_11 : decode cX10_numberTold 11 = .ok (.iconst 2, 1) := by decide +kernel
theorem dX10_numberTold_12 : decode cX10_numberTold 12 = .ok (.if_icmp .eq 8, 3) := by decide +kernel
theorem dX10_numberTold_15 : decode cX10_numberTold 15 = .ok (.aload_n 0, 1) := by decide +kernel
theorem dX10_numberTold_16 : decode cX10_numberTold 16 = .ok (.iconst 1, 1) := by decide +kernel
theorem dX10_numberTold_17 : decode cX10_numberTold 17 = .ok (.invokevirtual 133, 3) := by decide +kernel
theorem dX10_numberTold_20 : decode cX10_numberTold 20 = .ok (.aload_n 0, 1) := by decide +kernel
theorem dX10_numberTold_21 : decode cX10_numberTold 21 = .ok (.getfield 83, 3) := by decide +kernel
theorem dX10_numberTold_24 : decode cX10_numberTold 24 = .ok (.ifCond .ne 20, 3) := by decide +kernel
theorem dX10_numberTold_27 : decode cX10_numberTold 27 = .ok (.aload_n 0, 1) := by decide +kernel
theorem dX10_numberTold_28 : decode cX10_numberTold 28 = .ok (.getfield 103, 3) := by decide +kernel
theorem dX10_numberTold_31 : decode cX10_numberTold 31 = .ok (.iload_n 1, 1) := by decide +kernel
theorem dX10_numberTold_32 : decode cX10_numberTold 32 = .ok (.iload_n 2, 1) := by decide +kernel
theorem dX10_numberTold_33 : decode cX10_numberTold 33 = .ok (.invokestatic 65, 3) := by decide +kernel
theorem dX10_numberTold_36 : decode cX10_numberTold 36 = .ok (.ifCond .ne 8, 3) := by decide +kernel
theorem dX10_numberTold_39 : decode cX10_numberTold 39 = .ok (.aload_n 0, 1) := by decide +kernel
theorem dX10_numberTold_40 : decode cX10_numberTold 40 = .ok (.iconst 2, 1) := by decide +kernel
theorem dX10_numberTold_41 : decode cX10_numberTold 41 = .ok (.invokevirtual 133, 3) := by decide +kernel
theorem dX10_numberTold_44 : decode cX10_numberTold 44 = .ok (.aload_n 0, 1) := by decide +kernel
theorem dX10_numberTold_45 : decode cX10_numberTold 45 = .ok (.getfield 103, 3) := by decide +kernel
theorem dX10_numberTold_48 : decode cX10_numberTold 48 = .ok (.istore_n 3, 1) := by decide +kernel
theorem dX10_numberTold_49 : decode cX10_numberTold 49 = .ok (.aload_n 0, 1) := by decide +kernel
theorem dX10_numberTold_50 : decode cX10_numberTold 50 = .ok (.invokevirtual 137, 3) := by decide +kernel
theorem dX10_numberTold_53 : decode cX10_numberTold 53 = .ok (.iload_n 3, 1) := by decide +kernel
theorem dX10_numberTold_54 : decode cX10_numberTold 54 = .ok (.ireturn, 1) := by decide +kernel
set_option maxRecDepth 20000 in
theorem ggX10_weekdayHere_X10_isWord : GoodIn wsX10_weekdayHere wsX10_isWord := goodIn_r _ [5, 6, 7, 8, 9, 10, 4, 11, 12, 13, 14, 15, 16, 17, 18, 19, 20, 21, 22, 23, 24, 25, 26, 27, 28, 29, 30, 31, 32, 33, 34, 35, 36, 37, 38, 39, 40, 41, 42, 43, 44, 45, 46, 47, 48, 49, 50, 51, 52, 53, 54, 55, 56, 57, 58, 59, 60, 61, 62, 63, 64, 65, 66, 67, 68, 69, 70, 71, 72, 73, 74, 75, 76, 77, 78, 79, 80, 81, 82, 83, 84, 85, 86, 87] (by decide +kernel) (by decide +kernel)
set_option maxRecDepth 20000 in
theorem gX10_weekdayHere_X10_isWord : GoodIn wsX10_weekdayHere (wsV RX10 129 RX10 yX10_isWord wsX10_isWord) := goodIn_app (goodIn_of _ (by decide +kernel)) ggX10_weekdayHere_X10_isWord
theorem dX10_weekdayHere_0 : decode cX10_weekdayHere 0 = .ok (.aload_n 0, 1) := by decide +kernel
theorem dX10_weekdayHere_1 : decode cX10_weekdayHere 1 = .ok (.ldc 140, 2) := by decide +kernel
theorem dX10_weekdayHere_3 : decode cX10_weekdayHere 3 = .ok (.invokevirtual 129, 3) := by decide +kernel
theorem dX10_weekdayHere_6 : decode cX10_weekdayHere 6 = .ok (.ifCond .eq 5, 3) := by decide +kernel
theorem dX10_weekdayHere_9 : decode cX10_weekdayHere 9 = .ok (.iconst 0, 1) := by decide +kernel
theorem dX10_weekdayHere_10 : decode cX10_weekdayHere 10 = .ok (.ireturn, 1) := by decide +kernel
theorem dX10_weekdayHere_11 : decode cX10_weekdayHere 11 = .ok (.aload_n 0, 1) := by decide +kernel
theorem dX10_weekdayHere_12 : decode cX10_weekdayHere 12 = .ok (.ldc 142, 2) := by decide +kernel
theorem dX10_weekdayHere_14 : decode cX10_weekdayHere 14 = .ok (.invokevirtual 129, 3) := by decide +kernel
theorem dX10_weekdayHere_17 : decode cX10_weekdayHere 17 = .ok (.ifCond .eq 5, 3) := by decide +kernel
theorem dX10_weekdayHere_20 : decode cX10_weekdayHere 20 = .ok (.iconst 1, 1) := by decide +kernel
theorem dX10_weekdayHere_21 : decode cX10_weekdayHere 21 = .ok (.ireturn, 1) := by decide +kernel
theorem dX10_weekdayHere_22 : decode cX10_weekdayHere 22 = .ok (.aload_n 0, 1) := by decide +kernel
theorem dX10_weekdayHere_23 : decode cX10_weekdayHere 23 = .ok (.ldc 144, 2) := by decide +kernel
theorem dX10_weekdayHere_25 : decode cX10_weekdayHere 25 = .ok (.invokevirtual 129, 3) := by decide +kernel
theorem dX10_weekdayHere_28 : decode cX10_weekdayHere 28 = .ok (.ifCond .eq 5, 3) := by decide +kernel
theorem dX10_weekdayHere_31 : decode cX10_weekdayHere 31 = .ok (.iconst 2, 1) := by decide +kernel
theorem dX10_weekdayHere_32 : decode cX10_weekdayHere 32 = .ok (.ireturn, 1) := by decide +kernel
theorem dX10_weekdayHere_33 : decode cX10_weekdayHere 33 = .ok (.aload_n 0, 1) := by decide +kernel
theorem dX10_weekdayHere_34 : decode cX10_weekdayHere 34 = .ok (.ldc 146, 2) := by decide +kernel
theorem dX10_weekdayHere_36 : decode cX10_weekdayHere 36 = .ok (.invokevirtual 129, 3) := by decide +kernel
theorem dX10_weekdayHere_39 : decode cX10_weekdayHere 39 = .ok (.ifCond .eq 5, 3) := by decide +kernel
theorem dX10_weekdayHere_42 : decode cX10_weekdayHere 42 = .ok (.iconst 3, 1) := by decide +kernel
theorem dX10_weekdayHere_43 : decode cX10_weekdayHere 43 = .ok (.ireturn, 1) := by decide +kernel
theorem dX10_weekdayHere_44 : decode cX10_weekdayHere 44 = .ok (.aload_n 0, 1) := by decide +kernel
theorem dX10_weekdayHere_45 : decode cX10_weekdayHere 45 = .ok (.ldc 148, 2) := by decide +kernel
theorem dX10_weekdayHere_47 : decode cX10_weekdayHere 47 = .ok (.invokevirtual 129, 3) := by decide +kernel
theorem dX10_weekdayHere_50 : decode cX10_weekdayHere 50 = .ok (.ifCond .eq 5, 3) := by decide +kernel
theorem dX10_weekdayHere_53 : decode cX10_weekdayHere 53 = .ok (.iconst 4, 1) := by decide +kernel
theorem dX10_weekdayHere_54 : decode cX10_weekdayHere 54 = .ok (.ireturn, 1) := by decide +kernel
theorem dX10_weekdayHere_55 : decode cX10_weekdayHere 55 = .ok (.aload_n 0, 1) := by decide +kernel
theorem dX10_weekdayHere_56 : decode cX10_weekdayHere 56 = .ok (.ldc 150, 2) := by decide +kernel
theorem dX10_weekdayHere_58 : decode cX10_weekdayHere 58 = .ok (.invokevirtual 129, 3) := by decide +kernel
theorem dX10_weekdayHere_61 : decode cX10_weekdayHere 61 = .ok (.ifCond .eq 5, 3) := by decide +kernel
theorem dX10_weekdayHere_64 : decode cX10_weekdayHere 64 = .ok (.iconst 5, 1) := by decide +kernel
theorem dX10_weekdayHere_65 : decode cX10_weekdayHere 65 = .ok (.ireturn, 1) := by decide +kernel
theorem dX10_weekdayHere_66 : decode cX10_weekdayHere 66 = .ok (.aload_n 0, 1) := by decide +kernel
theorem dX10_weekdayHere_67 : decode cX10_weekdayHere 67 = .ok (.ldc 152, 2) := by decide +kernel
theorem dX10_weekdayHere_69 : decode cX10_weekdayHere 69 = .ok (.invokevirtual 129, 3) := by decide +kernel
theorem dX10_weekdayHere_72 : decode cX10_weekdayHere 72 = .ok (.ifCond .eq 8, 3) := by decide +kernel
theorem dX10_weekdayHere_75 : decode cX10_weekdayHere 75 = .ok (.bipush 6, 2) := by decide +kernel
theorem dX10_weekdayHere_77 : decode cX10_weekdayHere 77 = .ok (.goto 4, 3) := by decide +kernel
theorem dX10_weekdayHere_80 : decode cX10_weekdayHere 80 = .ok (.iconst (-1), 1) := by decide +kernel
theorem dX10_weekdayHere_81 : decode cX10_weekdayHere 81 = .ok (.ireturn, 1) := by decide +kernel
set_option maxRecDepth 20000 in
theorem ggX10_weekdayTold_X10_weekdayHere : GoodIn wsX10_weekdayTold wsX10_weekdayHere := goodIn_r _ [5, 6, 7, 8, 4, 9, 10, 11, 12, 13, 14, 15, 16, 17, 18, 19, 20, 21, 22, 23, 24, 25, 26, 27, 28, 29, 30, 31, 32, 33, 34, 35, 36, 37, 38, 39, 40, 41, 42, 43, 44, 45, 46, 47, 48, 49, 50, 51, 52, 53, 54, 55, 56, 57, 58, 59, 60, 61, 62, 63, 64, 65, 89, 90, 91, 92, 93, 94, 95, 96, 97, 98, 99, 100, 101, 102, 103, 104, 105, 106, 107, 108, 109, 110, 111, 112, 113, 114] (by decide +kernel) (by decide +kernel)
set_option maxRecDepth 20000 in
theorem gX10_weekdayTold_X10_weekdayHere : GoodIn wsX10_weekdayTold (wsV RX10 154 RX10 yX10_weekdayHere wsX10_weekdayHere) := goodIn_app (goodIn_of _ (by decide +kernel)) ggX10_weekdayTold_X10_weekdayHere
set_option maxRecDepth 20000 in
theorem ggX10_weekdayTold_X10_wrong : GoodIn wsX10_weekdayTold wsX10_wrong := goodIn_r _ [69, 10, 70, 89, 90, 91, 92, 93, 94, 95, 96, 97, 98, 99, 100, 101, 102, 103, 104, 105, 106, 107, 108, 109, 110, 111, 112, 113, 114] (by decide +kernel) (by decide +kernel)
set_option maxRecDepth 20000 in
theorem gX10_weekdayTold_X10_wrong : GoodIn wsX10_weekdayTold (wsV RX10 133 RX10 yX10_wrong wsX10_wrong) := goodIn_app (goodIn_of _ (by decide +kernel)) ggX10_weekdayTold_X10_wrong
set_option maxRecDepth 20000 in
theorem ggX10_weekdayTold_X10_next : GoodIn wsX10_weekdayTold wsX10_next := goodIn_r _ [74, 10, 75, 70, 11, 12, 76, 16, 77, 78, 79, 4, 80, 81, 82, 83, 84, 85, 86, 87, 88, 89, 90, 91, 92, 93, 94, 95, 96, 97, 98, 99, 100, 101, 102, 103, 104, 105, 106, 107, 108, 109, 110, 111, 112, 113, 114] (by decide +kernel) (by decide +kernel)
set_option maxRecDepth 20000 in
theorem gX10_weekdayTold_X10_next : GoodIn wsX10_weekdayTold (wsV RX10 137 RX10 yX10_next wsX10_next) := goodIn_app (goodIn_of _ (by decide +kernel)) ggX10_weekdayTold_X10_next
theorem dX10_weekdayTold_0 : decode cX10_weekdayTold 0 = .ok (.aload_n 0, 1) := by decide +kernel
theorem dX10_weekdayTold_1 : decode cX10_weekdayTold 1 = .ok (.invokevirtual 154, 3) := by decide +kernel
theorem dX10_weekdayTold_4 : decode cX10_weekdayTold 4 = .ok (.istore_n 1, 1) := by decide +kernel
theorem dX10_weekdayTold_5 : decode cX10_weekdayTold 5 = .ok (.iload_n 1, 1) := by decide +kernel
theorem dX10_weekdayTold_6 : decode cX10_weekdayTold 6 = .ok (.ifCond .ge 8, 3) := by decide +kernel
theorem dX10_weekdayTold_9 : decode cX10_weekdayTold 9 = .ok (.aload_n 0, 1) := by decide +kernel
theorem dX10_weekdayTold_10 : decode cX10_weekdayTold 10 = .ok (.iconst 1, 1) := by decide +kernel
theorem dX10_weekdayTold_11 : decode cX10_weekdayTold 11 = .ok (.invokevirtual 133, 3) := by decide +kernel
theorem dX10_weekdayTold_14 : decode cX10_weekdayTold 14 = .ok (.aload_n 0, 1) := by decide +kernel
theorem dX10_weekdayTold_15 : decode cX10_weekdayTold 15 = .ok (.invokevirtual 137, 3) := by decide +kernel
theorem dX10_weekdayTold_18 : decode cX10_weekdayTold 18 = .ok (.iload_n 1, 1) := by decide +kernel
theorem dX10_weekdayTold_19 : decode cX10_weekdayTold 19 = .ok (.ifCond .ge 7, 3) := by decide +kernel
theorem dX10_weekdayTold_22 : decode cX10_weekdayTold 22 = .ok (.iconst 0, 1) := by decide +kernel
theorem dX10_weekdayTold_23 : decode cX10_weekdayTold 23 = .ok (.goto 4, 3) := by decide +kernel
theorem dX10_weekdayTold_26 : decode cX10_weekdayTold 26 = .ok (.iload_n 1, 1) := by decide +kernel
theorem dX10_weekdayTold_27 : decode cX10_weekdayTold 27 = .ok (.ireturn, 1) := by decide +kernel
set_option maxRecDepth 20000 in
theorem ggX10_dateTold_X10_numberTold : GoodIn wsX10_dateTold wsX10_numberTold := goodIn_r _ [8, 3, 9, 10, 11, 12, 13, 7, 14, 1, 15, 16, 17, 18, 19, 20, 21, 22, 23, 24, 25, 26, 27, 28, 29, 30, 31, 32, 33, 34, 35, 36, 48, 49, 50, 51, 52, 53, 54, 55, 56, 57, 58, 59, 60, 61, 62, 63, 64, 65, 66, 67, 68, 69, 70, 71, 72, 73] (by decide +kernel) (by decide +kernel)
set_option maxRecDepth 20000 in
theorem gX10_dateTold_X10_numberTold : GoodIn wsX10_dateTold (wsV RX10 160 RX10 yX10_numberTold wsX10_numberTold) := goodIn_app (goodIn_of _ (by decide +kernel)) ggX10_dateTold_X10_numberTold
set_option maxRecDepth 20000 in
theorem ggX10_dateTold_X10_daysIn : GoodIn wsX10_dateTold wsX10_daysIn := goodIn_r _ [39] (by decide +kernel) (by decide +kernel)
set_option maxRecDepth 20000 in
theorem gX10_dateTold_X10_daysIn : GoodIn wsX10_dateTold (va_wsS RX10 56 yX10_daysIn wsX10_daysIn) := goodIn_app (goodIn_of _ (by decide +kernel)) ggX10_dateTold_X10_daysIn
set_option maxRecDepth 20000 in
theorem ggX10_dateTold_X10_dayOf : GoodIn wsX10_dateTold wsX10_dayOf := goodIn_r _ [43, 44, 45, 46, 47, 48, 49, 50, 51, 52, 53, 54, 55, 56, 57, 58, 59, 60, 61, 62, 63, 64, 65, 66, 67, 68, 69, 70, 71, 72, 73] (by decide +kernel) (by decide +kernel)
set_option maxRecDepth 20000 in
theorem gX10_dateTold_X10_dayOf : GoodIn wsX10_dateTold (wsV RX10 163 RX10 yX10_dayOf wsX10_dayOf) := goodIn_app (goodIn_of _ (by decide +kernel)) ggX10_dateTold_X10_dayOf
theorem dX10_dateTold_0 : decode cX10_dateTold 0 = .ok (.aload_n 0, 1) := by decide +kernel
theorem dX10_dateTold_1 : decode cX10_dateTold 1 = .ok (.aload_n 0, 1) := by decide +kernel
theorem dX10_dateTold_2 : decode cX10_dateTold 2 = .ok (.getfield 93, 3) := by decide +kernel
theorem dX10_dateTold_5 : decode cX10_dateTold 5 = .ok (.putfield 157, 3) := by decide +kernel
theorem dX10_dateTold_8 : decode cX10_dateTold 8 = .ok (.aload_n 0, 1) := by decide +kernel
theorem dX10_dateTold_9 : decode cX10_dateTold 9 = .ok (.sipush 2000, 3) := by decide +kernel
theorem dX10_dateTold_12 : decode cX10_dateTold 12 = .ok (.sipush 2099, 3) := by decide +kernel
theorem dX10_dateTold_15 : decode cX10_dateTold 15 = .ok (.invokevirtual 160, 3) := by decide +kernel
theorem dX10_dateTold_18 : decode cX10_dateTold 18 = .ok (.istore_n 1, 1) := by decide +kernel
theorem dX10_dateTold_19 : decode cX10_dateTold 19 = .ok (.aload_n 0, 1) := by decide +kernel
theorem dX10_dateTold_20 : decode cX10_dateTold 20 = .ok (.iconst 1, 1) := by decide +kernel
theorem dX10_dateTold_21 : decode cX10_dateTold 21 = .ok (.bipush 12, 2) := by decide +kernel
theorem dX10_dateTold_23 : decode cX10_dateTold 23 = .ok (.invokevirtual 160, 3) := by decide +kernel
theorem dX10_dateTold_26 : decode cX10_dateTold 26 = .ok (.istore_n 2, 1) := by decide +kernel
theorem dX10_dateTold_27 : decode cX10_dateTold 27 = .ok (.aload_n 0, 1) := by decide +kernel
theorem dX10_dateTold_28 : decode cX10_dateTold 28 = .ok (.iconst 1, 1) := by decide +kernel
theorem dX10_dateTold_29 : decode cX10_dateTold 29 = .ok (.aload_n 0, 1) := by decide +kernel
theorem dX10_dateTold_30 : decode cX10_dateTold 30 = .ok (.getfield 83, 3) := by decide +kernel
theorem dX10_dateTold_33 : decode cX10_dateTold 33 = .ok (.ifCond .le 8, 3) := by decide +kernel
theorem dX10_dateTold_36 : decode cX10_dateTold 36 = .ok (.bipush 31, 2) := by decide +kernel
theorem dX10_dateTold_38 : decode cX10_dateTold 38 = .ok (.goto 8, 3) := by decide +kernel
