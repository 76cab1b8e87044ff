set_option maxRecDepth 20000 in
theorem ggX9_free_X9_takenTill : GoodIn wsX9_free wsX9_takenTill := goodIn_r _ [17, 18, 19, 20, 21, 22, 5, 23, 24, 25, 26, 27, 28, 29, 30, 31, 32, 33, 34, 35, 36, 37, 38, 39, 40, 41, 42, 43, 44, 45, 46, 47, 48, 49, 50, 51, 52, 53, 54, 55, 56, 57, 58, 59, 60, 61, 62, 63, 64, 65, 66, 67, 68, 69, 70, 71, 72, 73, 74, 75, 76, 77, 78, 79, 80, 81, 82, 83, 84, 85, 86, 87, 88, 89, 90, 91, 92, 93, 94, 95, 96, 97, 98, 99, 100, 101, 102, 103, 104, 105, 106, 107, 108, 109, 110, 111, 112, 113, 114, 115, 116, 117, 118, 119, 120, 121, 122, 123, 124, 125, 126, 127, 128, 129, 130, 131, 132, 133, 134, 135, 136, 137, 138, 139, 140, 141, 142, 143, 144, 145, 146, 147, 148, 149, 150, 151, 152, 153, 154, 155, 156, 157, 158, 159, 160, 161] (by decide +kernel) (by decide +kernel)
set_option maxRecDepth 20000 in
theorem gX9_free_X9_takenTill : GoodIn wsX9_free (wsV RX9 179 RX9 yX9_takenTill wsX9_takenTill) := goodIn_app (goodIn_of _ (by decide +kernel)) ggX9_free_X9_takenTill
theorem dX9_free_0 : decode cX9_free 0 = .ok (.iload_n 1, 1) := by decide +kernel
theorem dX9_free_1 : decode cX9_free 1 = .ok (.invokestatic 163, 3) := by decide +kernel
theorem dX9_free_4 : decode cX9_free 4 = .ok (.ifCond .eq 22, 3) := by decide +kernel
theorem dX9_free_7 : decode cX9_free 7 = .ok (.iload_n 2, 1) := by decide +kernel
theorem dX9_free_8 : decode cX9_free 8 = .ok (.invokestatic 110, 3) := by decide +kernel
theorem dX9_free_11 : decode cX9_free 11 = .ok (.ifCond .eq 15, 3) := by decide +kernel
theorem dX9_free_14 : decode cX9_free 14 = .ok (.iload_n 3, 1) := by decide +kernel
theorem dX9_free_15 : decode cX9_free 15 = .ok (.iconst 1, 1) := by decide +kernel
theorem dX9_free_16 : decode cX9_free 16 = .ok (.if_icmp .lt 10, 3) := by decide +kernel
theorem dX9_free_19 : decode cX9_free 19 = .ok (.iload_n 3, 1) := by decide +kernel
theorem dX9_free_20 : decode cX9_free 20 = .ok (.sipush 4320, 3) := by decide +kernel
theorem dX9_free_23 : decode cX9_free 23 = .ok (.if_icmp .le 5, 3) := by decide +kernel
theorem dX9_free_26 : decode cX9_free 26 = .ok (.iconst (-1), 1) := by decide +kernel
theorem dX9_free_27 : decode cX9_free 27 = .ok (.ireturn, 1) := by decide +kernel
theorem dX9_free_28 : decode cX9_free 28 = .ok (.iload_n 2, 1) := by decide +kernel
theorem dX9_free_29 : decode cX9_free 29 = .ok (.ldc 172, 2) := by decide +kernel
theorem dX9_free_31 : decode cX9_free 31 = .ok (.iadd, 1) := by decide +kernel
theorem dX9_free_32 : decode cX9_free 32 = .ok (.ldc 173, 2) := by decide +kernel
theorem dX9_free_34 : decode cX9_free 34 = .ok (.invokestatic 174, 3) := by decide +kernel
theorem dX9_free_37 : decode cX9_free 37 = .ok (.istore 4, 2) := by decide +kernel
theorem dX9_free_39 : decode cX9_free 39 = .ok (.iload_n 2, 1) := by decide +kernel
theorem dX9_free_40 : decode cX9_free 40 = .ok (.istore 5, 2) := by decide +kernel
theorem dX9_free_42 : decode cX9_free 42 = .ok (.iconst 0, 1) := by decide +kernel
theorem dX9_free_43 : decode cX9_free 43 = .ok (.istore 6, 2) := by decide +kernel
theorem dX9_free_45 : decode cX9_free 45 = .ok (.iload 6, 2) := by decide +kernel
theorem dX9_free_47 : decode cX9_free 47 = .ok (.ldc 172, 2) := by decide +kernel
theorem dX9_free_49 : decode cX9_free 49 = .ok (.if_icmp .gt 40, 3) := by decide +kernel
theorem dX9_free_52 : decode cX9_free 52 = .ok (.iload 5, 2) := by decide +kernel
theorem dX9_free_54 : decode cX9_free 54 = .ok (.iload 4, 2) := by decide +kernel
theorem dX9_free_56 : decode cX9_free 56 = .ok (.if_icmp .gt 33, 3) := by decide +kernel
theorem dX9_free_59 : decode cX9_free 59 = .ok (.aload_n 0, 1) := by decide +kernel
theorem dX9_free_60 : decode cX9_free 60 = .ok (.iload_n 1, 1) := by decide +kernel
theorem dX9_free_61 : decode cX9_free 61 = .ok (.iload 5, 2) := by decide +kernel
theorem dX9_free_63 : decode cX9_free 63 = .ok (.iload_n 3, 1) := by decide +kernel
theorem dX9_free_64 : decode cX9_free 64 = .ok (.invokevirtual 179, 3) := by decide +kernel
theorem dX9_free_67 : decode cX9_free 67 = .ok (.istore 7, 2) := by decide +kernel
theorem dX9_free_69 : decode cX9_free 69 = .ok (.iload 7, 2) := by decide +kernel
theorem dX9_free_71 : decode cX9_free 71 = .ok (.iload 5, 2) := by decide +kernel
theorem dX9_free_73 : decode cX9_free 73 = .ok (.if_icmp .gt 6, 3) := by decide +kernel
theorem dX9_free_76 : decode cX9_free 76 = .ok (.iload 5, 2) := by decide +kernel
theorem dX9_free_78 : decode cX9_free 78 = .ok (.ireturn, 1) := by decide +kernel
theorem dX9_free_79 : decode cX9_free 79 = .ok (.iload 7, 2) := by decide +kernel
theorem dX9_free_81 : decode cX9_free 81 = .ok (.istore 5, 2) := by decide +kernel
theorem dX9_free_83 : decode cX9_free 83 = .ok (.iinc 6 1, 3) := by decide +kernel
theorem dX9_free_86 : decode cX9_free 86 = .ok (.goto (-41), 3) := by decide +kernel
theorem dX9_free_89 : decode cX9_free 89 = .ok (.iconst (-1), 1) := by decide +kernel
theorem dX9_free_90 : decode cX9_free 90 = .ok (.ireturn, 1) := by decide +kernel
set_option maxRecDepth 20000 in
theorem ggX9_busy_X9_isRoom : GoodIn wsX9_busy wsX9_isRoom := goodIn_r _ [4] (by decide +kernel) (by decide +kernel)
set_option maxRecDepth 20000 in
theorem gX9_busy_X9_isRoom : GoodIn wsX9_busy (va_wsS RX9 163 yX9_isRoom wsX9_isRoom) := goodIn_app (goodIn_of _ (by decide +kernel)) ggX9_busy_X9_isRoom
set_option maxRecDepth 20000 in
theorem ggX9_busy_X9_isDay : GoodIn wsX9_busy wsX9_isDay := goodIn_r _ [7, 8] (by decide +kernel) (by decide +kernel)
set_option maxRecDepth 20000 in
theorem gX9_busy_X9_isDay : GoodIn wsX9_busy (va_wsS RX9 74 yX9_isDay wsX9_isDay) := goodIn_app (goodIn_of _ (by decide +kernel)) ggX9_busy_X9_isDay
set_option maxRecDepth 20000 in
theorem ggX9_busy_X9_takenMinutes : GoodIn wsX9_busy wsX9_takenMinutes := goodIn_r _ [12, 13, 14, 15, 16, 17, 18, 19, 3, 20, 21, 22, 23, 24, 25, 26, 27, 28, 29, 30, 31, 32, 33, 34, 35, 36, 37, 38, 39, 40, 41, 42, 43, 44, 45, 46, 47, 48, 49, 50, 51, 52, 53, 54, 55, 56, 57, 58, 59, 60, 61, 62, 63, 64, 65, 66, 67, 68, 69, 70, 71, 72, 73, 74, 75, 76, 77, 78, 79, 80, 81, 82, 83, 84, 85, 86, 87, 88, 89, 90, 91, 92, 93, 94, 95, 96, 97, 98, 99, 100, 101, 102, 103, 104, 105, 106, 107, 108, 109, 110, 111, 112, 113, 114, 115, 116, 117, 118, 119, 120, 121, 122, 123, 124, 125, 126, 127, 128, 129, 130, 131, 132, 133, 134, 135, 136, 137, 138, 139, 140, 141, 142, 143, 144, 145, 146, 147, 148, 149, 150, 151, 152, 153, 154, 155, 156, 157, 158, 159, 160, 161, 162, 163, 164, 165, 166, 167, 168, 169, 170, 171, 172, 173, 174, 175, 176, 177, 178, 179, 180, 181, 182, 183, 184, 185, 186, 187, 188, 189, 190, 191, 192, 193, 194, 195, 196, 197, 198, 199, 200, 201, 202, 203, 204, 205, 206, 207, 208] (by decide +kernel) (by decide +kernel)
set_option maxRecDepth 20000 in
theorem gX9_busy_X9_takenMinutes : GoodIn wsX9_busy (wsV RX9 182 RX9 yX9_takenMinutes wsX9_takenMinutes) := goodIn_app (goodIn_of _ (by decide +kernel)) ggX9_busy_X9_takenMinutes
theorem dX9_busy_0 : decode cX9_busy 0 = .ok (.iload_n 1, 1) := by decide +kernel
theorem dX9_busy_1 : decode cX9_busy 1 = .ok (.invokestatic 163, 3) := by decide +kernel
theorem dX9_busy_4 : decode cX9_busy 4 = .ok (.ifCond .eq 10, 3) := by decide +kernel
theorem dX9_busy_7 : decode cX9_busy 7 = .ok (.iload_n 2, 1) := by decide +kernel
theorem dX9_busy_8 : decode cX9_busy 8 = .ok (.invokestatic 74, 3) := by decide +kernel
theorem dX9_busy_11 : decode cX9_busy 11 = .ok (.ifCond .ne 5, 3) := by decide +kernel
theorem dX9_busy_14 : decode cX9_busy 14 = .ok (.iconst (-1), 1) := by decide +kernel
theorem dX9_busy_15 : decode cX9_busy 15 = .ok (.ireturn, 1) := by decide +kernel
theorem dX9_busy_16 : decode cX9_busy 16 = .ok (.aload_n 0, 1) := by decide +kernel
theorem dX9_busy_17 : decode cX9_busy 17 = .ok (.iload_n 1, 1) := by decide +kernel
theorem dX9_busy_18 : decode cX9_busy 18 = .ok (.iload_n 2, 1) := by decide +kernel
theorem dX9_busy_19 : decode cX9_busy 19 = .ok (.invokevirtual 182, 3) := by decide +kernel
theorem dX9_busy_22 : decode cX9_busy 22 = .ok (.ireturn, 1) := by decide +kernel
set_option maxRecDepth 20000 in
theorem ggX9_busiest_X9_isRoom : GoodIn wsX9_busiest wsX9_isRoom := goodIn_r _ [4] (by decide +kernel) (by decide +kernel)
set_option maxRecDepth 20000 in
theorem gX9_busiest_X9_isRoom : GoodIn wsX9_busiest (va_wsS RX9 163 yX9_isRoom wsX9_isRoom) := goodIn_app (goodIn_of _ (by decide +kernel)) ggX9_busiest_X9_isRoom
set_option maxRecDepth 20000 in
theorem ggX9_busiest_X9_areDays : GoodIn wsX9_busiest wsX9_areDays := goodIn_r _ [7, 8, 9, 3, 10, 11] (by decide +kernel) (by decide +kernel)
set_option maxRecDepth 20000 in
theorem gX9_busiest_X9_areDays : GoodIn wsX9_busiest (va_wsS RX9 93 yX9_areDays wsX9_areDays) := goodIn_app (goodIn_of _ (by decide +kernel)) ggX9_busiest_X9_areDays
set_option maxRecDepth 20000 in
theorem ggX9_busiest_X9_takenMinutes : GoodIn wsX9_busiest wsX9_takenMinutes := goodIn_r _ [15, 16, 17, 18, 19, 20, 21, 22, 3, 23, 24, 25, 26, 27, 28, 29, 30, 31, 32, 33, 34, 35, 36, 37, 38, 39, 40, 41, 42, 43, 44, 45, 46, 47, 48, 49, 50, 51, 52, 53, 54, 55, 56, 57, 58, 59, 60, 61, 62, 63, 64, 65, 66, 67, 68, 69, 70, 71, 72, 73, 74, 75, 76, 77, 78, 79, 80, 81, 82, 83, 84, 85, 86, 87, 88, 89, 90, 91, 92, 93, 94, 95, 96, 97, 98, 99, 100, 101, 102, 103, 104, 105, 106, 107, 108, 109, 110, 111, 112, 113, 114, 115, 116, 117, 118, 119, 120, 121, 122, 123, 124, 125, 126, 127, 128, 129, 130, 131, 132, 133, 134, 135, 136, 137, 138, 139, 140, 141, 142, 143, 144, 145, 146, 147, 148, 149, 150, 151, 152, 153, 154, 155, 156, 157, 158, 159, 160, 161, 162, 163, 164, 165, 166, 167, 168, 169, 170, 171, 172, 173, 174, 175, 176, 177, 178, 179, 180, 181, 182, 183, 184, 185, 186, 187, 188, 189, 190, 191, 192, 193, 194, 195, 196, 197, 198, 199, 200, 201, 202, 203, 204, 205, 206, 207, 208, 209, 210, 211] (by decide +kernel) (by decide +kernel)
set_option maxRecDepth 20000 in
theorem gX9_busiest_X9_takenMinutes : GoodIn wsX9_busiest (wsV RX9 182 RX9 yX9_takenMinutes wsX9_takenMinutes) := goodIn_app (goodIn_of _ (by decide +kernel)) ggX9_busiest_X9_takenMinutes
theorem dX9_busiest_0 : decode cX9_busiest 0 = .ok (.iload_n 1, 1) := by decide +kernel
theorem dX9_busiest_1 : decode cX9_busiest 1 = .ok (.invokestatic 163, 3) := by decide +kernel
theorem dX9_busiest_4 : decode cX9_busiest 4 = .ok (.ifCond .eq 13, 3) := by decide +kernel
theorem dX9_busiest_7 : decode cX9_busiest 7 = .ok (.iload_n 2, 1) := by decide +kernel
theorem dX9_busiest_8 : decode cX9_busiest 8 = .ok (.iload_n 3, 1) := by decide +kernel
theorem dX9_busiest_9 : decode cX9_busiest 9 = .ok (.bipush 60, 2) := by decide +kernel
theorem dX9_busiest_11 : decode cX9_busiest 11 = .ok (.invokestatic 93, 3) := by decide +kernel
theorem dX9_busiest_14 : decode cX9_busiest 14 = .ok (.ifCond .ne 5, 3) := by decide +kernel
theorem dX9_busiest_17 : decode cX9_busiest 17 = .ok (.iconst (-1), 1) := by decide +kernel
theorem dX9_busiest_18 : decode cX9_busiest 18 = .ok (.ireturn, 1) := by decide +kernel
theorem dX9_busiest_19 : decode cX9_busiest 19 = .ok (.iload_n 2, 1) := by decide +kernel
theorem dX9_busiest_20 : decode cX9_busiest 20 = .ok (.istore 4, 2) := by decide +kernel
theorem dX9_busiest_22 : decode cX9_busiest 22 = .ok (.iconst 0, 1) := by decide +kernel
theorem dX9_busiest_23 : decode cX9_busiest 23 = .ok (.istore 5, 2) := by decide +kernel
theorem dX9_busiest_25 : decode cX9_busiest 25 = .ok (.iload_n 2, 1) := by decide +kernel
theorem dX9_busiest_26 : decode cX9_busiest 26 = .ok (.istore 6, 2) := by decide +kernel
theorem dX9_busiest_28 : decode cX9_busiest 28 = .ok (.iload 6, 2) := by decide +kernel
theorem dX9_busiest_30 : decode cX9_busiest 30 = .ok (.iload_n 3, 1) := by decide +kernel
theorem dX9_busiest_31 : decode cX9_busiest 31 = .ok (.if_icmp .gt 33, 3) := by decide +kernel
theorem dX9_busiest_34 : decode cX9_busiest 34 = .ok (.aload_n 0, 1) := by decide +kernel
theorem dX9_busiest_35 : decode cX9_busiest 35 = .ok (.iload_n 1, 1) := by decide +kernel
theorem dX9_busiest_36 : decode cX9_busiest 36 = .ok (.iload 6, 2) := by decide +kernel
theorem dX9_busiest_38 : decode cX9_busiest 38 = .ok (.invokevirtual 182, 3) := by decide +kernel
theorem dX9_busiest_41 : decode cX9_busiest 41 = .ok (.istore 7, 2) := by decide +kernel
theorem dX9_busiest_43 : decode cX9_busiest 43 = .ok (.iload 7, 2) := by decide +kernel
theorem dX9_busiest_45 : decode cX9_busiest 45 = .ok (.iload 5, 2) := by decide +kernel
theorem dX9_busiest_47 : decode cX9_busiest 47 = .ok (.if_icmp .le 11, 3) := by decide +kernel
theorem dX9_busiest_50 : decode cX9_busiest 50 = .ok (.iload 7, 2) := by decide +kernel
theorem dX9_busiest_52 : decode cX9_busiest 52 = .ok (.istore 5, 2) := by decide +kernel
theorem dX9_busiest_54 : decode cX9_busiest 54 = .ok (.iload 6, 2) := by decide +kernel
theorem dX9_busiest_56 : decode cX9_busiest 56 = .ok (.istore 4, 2) := by decide +kernel
theorem dX9_busiest_58 : decode cX9_busiest 58 = .ok (.iinc 6 1, 3) := by decide +kernel
theorem dX9_busiest_61 : decode cX9_busiest 61 = .ok (.goto (-33), 3) := by decide +kernel
theorem dX9_busiest_64 : decode cX9_busiest 64 = .ok (.iload 4, 2) := by decide +kernel
theorem dX9_busiest_66 : decode cX9_busiest 66 = .ok (.ireturn, 1) := by decide +kernel
set_option maxRecDepth 20000 in
theorem ggX9_split_X7_has : GoodIn wsX9_split wsX7_has := goodIn_r _ [7, 8, 193, 194] (by decide +kernel) (by decide +kernel)
set_option maxRecDepth 20000 in
theorem gX9_split_X7_has : GoodIn wsX9_split (wsV RX9 53 RX7 yX7_has wsX7_has) := goodIn_app (goodIn_of _ (by decide +kernel)) ggX9_split_X7_has
set_option maxRecDepth 20000 in
theorem ggX9_split_X9_isDay : GoodIn wsX9_split wsX9_isDay := goodIn_r _ [12, 2] (by decide +kernel) (by decide +kernel)
set_option maxRecDepth 20000 in
theorem gX9_split_X9_isDay : GoodIn wsX9_split (va_wsS RX9 74 yX9_isDay wsX9_isDay) := goodIn_app (goodIn_of _ (by decide +kernel)) ggX9_split_X9_isDay
set_option maxRecDepth 20000 in
theorem ggX9_split_X7_isFull : GoodIn wsX9_split wsX7_isFull := goodIn_r _ [16, 8, 17, 193, 194] (by decide +kernel) (by decide +kernel)
set_option maxRecDepth 20000 in
theorem gX9_split_X7_isFull : GoodIn wsX9_split (wsV RX9 32 RX7 yX7_isFull wsX7_isFull) := goodIn_app (goodIn_of _ (by decide +kernel)) ggX9_split_X7_isFull
set_option maxRecDepth 20000 in
theorem ggX9_split_X7_at : GoodIn wsX9_split wsX7_at := goodIn_r _ [21, 17, 193, 194] (by decide +kernel) (by decide +kernel)
set_option maxRecDepth 20000 in
theorem gX9_split_X7_at : GoodIn wsX9_split (wsV RX9 83 RX7 yX7_at wsX7_at) := goodIn_app (goodIn_of _ (by decide +kernel)) ggX9_split_X7_at
set_option maxRecDepth 20000 in
theorem ggX9_split_X0_keysIn : GoodIn wsX9_split wsX0_keysIn := goodIn_r _ [26, 27, 28, 29, 30, 31, 32, 33, 34, 35, 36, 37, 38, 39, 40, 41, 42, 43, 44, 45, 46, 47, 48, 49, 50, 51, 52, 53, 54, 55, 56, 57, 58, 59, 60, 61, 62, 63, 64, 65, 66, 67, 68, 69, 70, 71, 72, 73, 74, 75, 76, 77, 78, 79, 80, 81, 82, 83, 84, 85, 86, 87, 88, 89, 90, 91, 92, 93, 94, 95, 96, 97, 98, 99, 100, 101, 102, 103, 104, 105, 195, 196, 197, 198, 199, 200, 201, 202, 203, 204, 205, 206, 207, 208, 209, 210, 211, 212, 213, 214, 215, 216, 217, 218, 219, 220, 221, 222, 223, 224, 225, 226, 227, 228, 229] (by decide +kernel) (by decide +kernel)
set_option maxRecDepth 20000 in
theorem gX9_split_X0_keysIn : GoodIn wsX9_split (wsV RX9 97 RX0 yX0_keysIn wsX0_keysIn) := goodIn_app (goodIn_of _ (by decide +kernel)) ggX9_split_X0_keysIn
set_option maxRecDepth 20000 in
theorem ggX9_split_X7_spare : GoodIn wsX9_split wsX7_spare := goodIn_r _ [109, 17, 8, 110, 34, 30, 35, 193, 194] (by decide +kernel) (by decide +kernel)
set_option maxRecDepth 20000 in
theorem gX9_split_X7_spare : GoodIn wsX9_split (wsV RX9 41 RX7 yX7_spare wsX7_spare) := goodIn_app (goodIn_of _ (by decide +kernel)) ggX9_split_X7_spare
set_option maxRecDepth 20000 in
theorem ggX9_split_X0_cutInto : GoodIn wsX9_split wsX0_cutInto := goodIn_r _ [114, 115, 116, 117, 118, 119, 120, 121, 122, 123, 25, 124, 125, 126, 127, 36, 27, 32, 128, 129, 130, 131, 132, 133, 23, 24, 26, 28, 29, 30, 31, 33, 34, 35, 37, 38, 39, 40, 41, 42, 43, 44, 45, 46, 47, 48, 49, 50, 51, 52, 53, 54, 55, 56, 57, 58, 59, 60, 61, 62, 63, 64, 65, 66, 67, 68, 69, 70, 71, 72, 73, 74, 75, 76, 77, 78, 79, 80, 81, 82, 83, 84, 85, 86, 87, 88, 89, 90, 91, 92, 93, 94, 95, 96, 97, 98, 99, 100, 101, 102, 103, 104, 105, 134, 135, 136, 137, 138, 139, 140, 141, 142, 143, 144, 145, 146, 147, 148, 149, 150, 151, 152, 153, 154, 155, 156, 157, 158, 159, 160, 161, 162, 163, 164, 165, 166, 167, 168, 169, 170, 171, 172, 173, 174, 175, 176, 177, 178, 179, 180, 181, 182, 183, 184, 195, 196, 197, 198, 199, 200, 201, 202, 203, 204, 205, 206, 207, 208, 209, 210, 211, 212, 213, 214, 215, 216, 217, 218, 219, 220, 221, 222, 223, 224, 225, 226, 227, 228, 229] (by decide +kernel) (by decide +kernel)
set_option maxRecDepth 20000 in
theorem gX9_split_X0_cutInto : GoodIn wsX9_split (wsV RX9 186 RX0 yX0_cutInto wsX0_cutInto) := goodIn_app (goodIn_of _ (by decide +kernel)) ggX9_split_X0_cutInto
set_option maxRecDepth 20000 in
theorem ggX9_split_X7_keepSpare : GoodIn wsX9_split wsX7_keepSpare := goodIn_r _ [188, 8, 17, 110, 34, 30, 35, 193, 194] (by decide +kernel) (by decide +kernel)
set_option maxRecDepth 20000 in
theorem gX9_split_X7_keepSpare : GoodIn wsX9_split (wsV RX9 49 RX7 yX7_keepSpare wsX7_keepSpare) := goodIn_app (goodIn_of _ (by decide +kernel)) ggX9_split_X7_keepSpare
theorem dX9_split_0 : decode cX9_split 0 = .ok (.aload_n 0, 1) := by decide +kernel
theorem dX9_split_1 : decode cX9_split 1 = .ok (.getfield 20, 3) := by decide +kernel
theorem dX9_split_4 : decode cX9_split 4 = .ok (.iload_n 1, 1) := by decide +kernel
theorem dX9_split_5 : decode cX9_split 5 = .ok (.invokevirtual 53, 3) := by decide +kernel
theorem dX9_split_8 : decode cX9_split 8 = .ok (.ifCond .eq 20, 3) := by decide +kernel
theorem dX9_split_11 : decode cX9_split 11 = .ok (.iload_n 2, 1) := by decide +kernel
theorem dX9_split_12 : decode cX9_split 12 = .ok (.invokestatic 74, 3) := by decide +kernel
theorem dX9_split_15 : decode cX9_split 15 = .ok (.ifCond .eq 13, 3) := by decide +kernel
theorem dX9_split_18 : decode cX9_split 18 = .ok (.aload_n 0, 1) := by decide +kernel
theorem dX9_split_19 : decode cX9_split 19 = .ok (.getfield 20, 3) := by decide +kernel
theorem dX9_split_22 : decode cX9_split 22 = .ok (.invokevirtual 32, 3) := by decide +kernel
theorem dX9_split_25 : decode cX9_split 25 = .ok (.ifCond .eq 5, 3) := by decide +kernel
theorem dX9_split_28 : decode cX9_split 28 = .ok (.iconst (-1), 1) := by decide +kernel
theorem dX9_split_29 : decode cX9_split 29 = .ok (.ireturn, 1) := by decide +kernel
theorem dX9_split_30 : decode cX9_split 30 = .ok (.aload_n 0, 1) := by decide +kernel
theorem dX9_split_31 : decode cX9_split 31 = .ok (.getfield 20, 3) := by decide +kernel
theorem dX9_split_34 : decode cX9_split 34 = .ok (.iload_n 1, 1) := by decide +kernel
theorem dX9_split_35 : decode cX9_split 35 = .ok (.invokevirtual 83, 3) := by decide +kernel
theorem dX9_split_38 : decode cX9_split 38 = .ok (.astore_n 3, 1) := by decide +kernel
theorem dX9_split_39 : decode cX9_split 39 = .ok (.aload_n 3, 1) := by decide +kernel
theorem dX9_split_40 : decode cX9_split 40 = .ok (.iconst 0, 1) := by decide +kernel
theorem dX9_split_41 : decode cX9_split 41 = .ok (.iload_n 2, 1) := by decide +kernel
theorem dX9_split_42 : decode cX9_split 42 = .ok (.iconst 1, 1) := by decide +kernel
theorem dX9_split_43 : decode cX9_split 43 = .ok (.isub, 1) := by decide +kernel
theorem dX9_split_44 : decode cX9_split 44 = .ok (.invokevirtual 97, 3) := by decide +kernel
theorem dX9_split_47 : decode cX9_split 47 = .ok (.ifCond .eq 13, 3) := by decide +kernel
theorem dX9_split_50 : decode cX9_split 50 = .ok (.aload_n 3, 1) := by decide +kernel
theorem dX9_split_51 : decode cX9_split 51 = .ok (.iload_n 2, 1) := by decide +kernel
theorem dX9_split_52 : decode cX9_split 52 = .ok (.ldc 185, 2) := by decide +kernel
theorem dX9_split_54 : decode cX9_split 54 = .ok (.invokevirtual 97, 3) := by decide +kernel
theorem dX9_split_57 : decode cX9_split 57 = .ok (.ifCond .ne 5, 3) := by decide +kernel
theorem dX9_split_60 : decode cX9_split 60 = .ok (.iconst (-1), 1) := by decide +kernel
theorem dX9_split_61 : decode cX9_split 61 = .ok (.ireturn, 1) := by decide +kernel
theorem dX9_split_62 : decode cX9_split 62 = .ok (.aload_n 3, 1) := by decide +kernel
theorem dX9_split_63 : decode cX9_split 63 = .ok (.aload_n 0, 1) := by decide +kernel
theorem dX9_split_64 : decode cX9_split 64 = .ok (.getfield 20, 3) := by decide +kernel
theorem dX9_split_67 : decode cX9_split 67 = .ok (.invokevirtual 41, 3) := by decide +kernel
theorem dX9_split_70 : decode cX9_split 70 = .ok (.iload_n 2, 1) := by decide +kernel
theorem dX9_split_71 : decode cX9_split 71 = .ok (.invokevirtual 186, 3) := by decide +kernel
theorem dX9_split_74 : decode cX9_split 74 = .ok (.aload_n 0, 1) := by decide +kernel
theorem dX9_split_75 : decode cX9_split 75 = .ok (.getfield 20, 3) := by decide +kernel
theorem dX9_split_78 : decode cX9_split 78 = .ok (.invokevirtual 49, 3) := by decide +kernel
theorem dX9_split_81 : decode cX9_split 81 = .ok (.ireturn, 1) := by decide +kernel
set_option maxRecDepth 20000 in
theorem ggX9_period_X7_has : GoodIn wsX9_period wsX7_has := goodIn_r _ [7, 8, 67, 68] (by decide +kernel) (by decide +kernel)
set_option maxRecDepth 20000 in
theorem gX9_period_X7_has : GoodIn wsX9_period (wsV RX9 53 RX7 yX7_has wsX7_has) := goodIn_app (goodIn_of _ (by decide +kernel)) ggX9_period_X7_has
set_option maxRecDepth 20000 in
theorem ggX9_period_X7_at : GoodIn wsX9_period wsX7_at := goodIn_r _ [12, 13, 67, 68] (by decide +kernel) (by decide +kernel)
set_option maxRecDepth 20000 in
theorem gX9_period_X7_at : GoodIn wsX9_period (wsV RX9 83 RX7 yX7_at wsX7_at) := goodIn_app (goodIn_of _ (by decide +kernel)) ggX9_period_X7_at
set_option maxRecDepth 20000 in
theorem ggX9_period_X2_cycle : GoodIn wsX9_period wsX2_cycle := goodIn_r _ [19, 20, 69, 70, 71, 72] (by decide +kernel) (by decide +kernel)
set_option maxRecDepth 20000 in
theorem gX9_period_X2_cycle_u194X2 : GoodIn wsX9_period (va_wsU RX9 194 RX2 "BookIndex$Rule" ⟨"BookIndex$Rule", "cycle", "()J"⟩ yX2_cycle wsX2_cycle) := goodIn_app (goodIn_of _ (by decide +kernel)) ggX9_period_X2_cycle
set_option maxRecDepth 20000 in
theorem ggX9_period_X3_cycle : GoodIn wsX9_period wsX3_cycle := goodIn_r _ [24, 25, 26, 27, 28, 29, 30, 31, 32, 33, 73, 74, 75, 76, 77, 78, 79] (by decide +kernel) (by decide +kernel)
set_option maxRecDepth 20000 in
theorem gX9_period_X3_cycle_u194X3 : GoodIn wsX9_period (va_wsU RX9 194 RX3 "BookIndex$Rule" ⟨"BookIndex$Rule", "cycle", "()J"⟩ yX3_cycle wsX3_cycle) := goodIn_app (goodIn_of _ (by decide +kernel)) ggX9_period_X3_cycle
set_option maxRecDepth 20000 in
theorem ggX9_period_X4_cycle : GoodIn wsX9_period wsX4_cycle := goodIn_r _ [37] (by decide +kernel) (by decide +kernel)
set_option maxRecDepth 20000 in
theorem gX9_period_X4_cycle_u194X4 : GoodIn wsX9_period (va_wsU RX9 194 RX4 "BookIndex$Rule" ⟨"BookIndex$Rule", "cycle", "()J"⟩ yX4_cycle wsX4_cycle) := goodIn_app (goodIn_of _ (by decide +kernel)) ggX9_period_X4_cycle
set_option maxRecDepth 20000 in
theorem ggX9_period_X8_cycle : GoodIn wsX9_period wsX8_cycle := goodIn_r _ [41, 42, 43, 80, 81, 82, 83, 84, 85] (by decide +kernel) (by decide +kernel)
set_option maxRecDepth 20000 in
theorem gX9_period_X8_cycle_u194X8 : GoodIn wsX9_period (va_wsU RX9 194 RX8 "BookIndex$Rule" ⟨"BookIndex$Rule", "cycle", "()J"⟩ yX8_cycle wsX8_cycle) := goodIn_app (goodIn_of _ (by decide +kernel)) ggX9_period_X8_cycle
set_option maxRecDepth 20000 in
theorem ggX9_period_X9_asInt : GoodIn wsX9_period wsX9_asInt := goodIn_r _ [46, 47] (by decide +kernel) (by decide +kernel)
set_option maxRecDepth 20000 in
theorem gX9_period_X9_asInt : GoodIn wsX9_period (va_wsS RX9 200 yX9_asInt wsX9_asInt) := goodIn_app (goodIn_of _ (by decide +kernel)) ggX9_period_X9_asInt
theorem dX9_period_0 : decode cX9_period 0 = .ok (.aload_n 0, 1) := by decide +kernel
theorem dX9_period_1 : decode cX9_period 1 = .ok (.getfield 20, 3) := by decide +kernel
theorem dX9_period_4 : decode cX9_period 4 = .ok (.iload_n 1, 1) := by decide +kernel
theorem dX9_period_5 : decode cX9_period 5 = .ok (.invokevirtual 53, 3) := by decide +kernel
theorem dX9_period_8 : decode cX9_period 8 = .ok (.ifCond .ne 5, 3) := by decide +kernel
theorem dX9_period_11 : decode cX9_period 11 = .ok (.iconst (-1), 1) := by decide +kernel
theorem dX9_period_12 : decode cX9_period 12 = .ok (.ireturn, 1) := by decide +kernel
theorem dX9_period_13 : decode cX9_period 13 = .ok (.aload_n 0, 1) := by decide +kernel
theorem dX9_period_14 : decode cX9_period 14 = .ok (.getfield 20, 3) := by decide +kernel
theorem dX9_period_17 : decode cX9_period 17 = .ok (.iload_n 1, 1) := by decide +kernel
theorem dX9_period_18 : decode cX9_period 18 = .ok (.invokevirtual 83, 3) := by decide +kernel
theorem dX9_period_21 : decode cX9_period 21 = .ok (.getfield 190, 3) := by decide +kernel
theorem dX9_period_24 : decode cX9_period 24 = .ok (.invokevirtual 194, 3) := by decide +kernel
theorem dX9_period_27 : decode cX9_period 27 = .ok (.invokestatic 200, 3) := by decide +kernel
theorem dX9_period_30 : decode cX9_period 30 = .ok (.ireturn, 1) := by decide +kernel
set_option maxRecDepth 20000 in
theorem ggX9_periodOf_X7_has : GoodIn wsX9_periodOf wsX7_has := goodIn_r _ [7, 8, 68, 69] (by decide +kernel) (by decide +kernel)
set_option maxRecDepth 20000 in
theorem gX9_periodOf_X7_has : GoodIn wsX9_periodOf (wsV RX9 53 RX7 yX7_has wsX7_has) := goodIn_app (goodIn_of _ (by decide +kernel)) ggX9_periodOf_X7_has
set_option maxRecDepth 20000 in
theorem ggX9_periodOf_X7_at : GoodIn wsX9_periodOf wsX7_at := goodIn_r _ [12, 13, 68, 69] (by decide +kernel) (by decide +kernel)
set_option maxRecDepth 20000 in
theorem gX9_periodOf_X7_at : GoodIn wsX9_periodOf (wsV RX9 83 RX7 yX7_at wsX7_at) := goodIn_app (goodIn_of _ (by decide +kernel)) ggX9_periodOf_X7_at
set_option maxRecDepth 20000 in
theorem ggX9_periodOf_X2_cycle : GoodIn wsX9_periodOf wsX2_cycle := goodIn_r _ [19, 20, 70, 71, 72, 73] (by decide +kernel) (by decide +kernel)
set_option maxRecDepth 20000 in
theorem gX9_periodOf_X2_cycle_u194X2 : GoodIn wsX9_periodOf (va_wsU RX9 194 RX2 "BookIndex$Rule" ⟨"BookIndex$Rule", "cycle", "()J"⟩ yX2_cycle wsX2_cycle) := goodIn_app (goodIn_of _ (by decide +kernel)) ggX9_periodOf_X2_cycle
set_option maxRecDepth 20000 in
theorem ggX9_periodOf_X3_cycle : GoodIn wsX9_periodOf wsX3_cycle := goodIn_r _ [24, 25, 26, 27, 28, 29, 30, 31, 32, 33, 74, 75, 76, 77, 78, 79, 80] (by decide +kernel) (by decide +kernel)
set_option maxRecDepth 20000 in
theorem gX9_periodOf_X3_cycle_u194X3 : GoodIn wsX9_periodOf (va_wsU RX9 194 RX3 "BookIndex$Rule" ⟨"BookIndex$Rule", "cycle", "()J"⟩ yX3_cycle wsX3_cycle) := goodIn_app (goodIn_of _ (by decide +kernel)) ggX9_periodOf_X3_cycle
set_option maxRecDepth 20000 in
theorem ggX9_periodOf_X4_cycle : GoodIn wsX9_periodOf wsX4_cycle := goodIn_r _ [37] (by decide +kernel) (by decide +kernel)
set_option maxRecDepth 20000 in
theorem gX9_periodOf_X4_cycle_u194X4 : GoodIn wsX9_periodOf (va_wsU RX9 194 RX4 "BookIndex$Rule" ⟨"BookIndex$Rule", "cycle", "()J"⟩ yX4_cycle wsX4_cycle) := goodIn_app (goodIn_of _ (by decide +kernel)) ggX9_periodOf_X4_cycle
set_option maxRecDepth 20000 in
theorem ggX9_periodOf_X8_cycle : GoodIn wsX9_periodOf wsX8_cycle := goodIn_r _ [41, 42, 43, 81, 82, 83, 84, 85, 86] (by decide +kernel) (by decide +kernel)
set_option maxRecDepth 20000 in
theorem gX9_periodOf_X8_cycle_u194X8 : GoodIn wsX9_periodOf (va_wsU RX9 194 RX8 "BookIndex$Rule" ⟨"BookIndex$Rule", "cycle", "()J"⟩ yX8_cycle wsX8_cycle) := goodIn_app (goodIn_of _ (by decide +kernel)) ggX9_periodOf_X8_cycle
set_option maxRecDepth 20000 in
theorem ggX9_periodOf_X9_commonMultiple : GoodIn wsX9_periodOf wsX9_commonMultiple := goodIn_r _ [30, 31, 32, 29, 33] (by decide +kernel) (by decide +kernel)
set_option maxRecDepth 20000 in
theorem gX9_periodOf_X9_commonMultiple : GoodIn wsX9_periodOf (va_wsS RX9 204 yX9_commonMultiple wsX9_commonMultiple) := goodIn_app (goodIn_of _ (by decide +kernel)) ggX9_periodOf_X9_commonMultiple
set_option maxRecDepth 20000 in
theorem ggX9_periodOf_X9_asInt : GoodIn wsX9_periodOf wsX9_asInt := goodIn_r _ [47, 48] (by decide +kernel) (by decide +kernel)
set_option maxRecDepth 20000 in
theorem gX9_periodOf_X9_asInt : GoodIn wsX9_periodOf (va_wsS RX9 200 yX9_asInt wsX9_asInt) := goodIn_app (goodIn_of _ (by decide +kernel)) ggX9_periodOf_X9_asInt
theorem dX9_periodOf_0 : decode cX9_periodOf 0 = .ok (.aload_n 0, 1) := by decide +kernel
theorem dX9_periodOf_1 : decode cX9_periodOf 1 = .ok (.getfield 20, 3) := by decide +kernel
theorem dX9_periodOf_4 : decode cX9_periodOf 4 = .ok (.iload_n 1, 1) := by decide +kernel
theorem dX9_periodOf_5 : decode cX9_periodOf 5 = .ok (.invokevirtual 53, 3) := by decide +kernel
theorem dX9_periodOf_8 : decode cX9_periodOf 8 = .ok (.ifCond .eq 14, 3) := by decide +kernel
theorem dX9_periodOf_11 : decode cX9_periodOf 11 = .ok (.aload_n 0, 1) := by decide +kernel
theorem dX9_periodOf_12 : decode cX9_periodOf 12 = .ok (.getfield 20, 3) := by decide +kernel
theorem dX9_periodOf_15 : decode cX9_periodOf 15 = .ok (.iload_n 2, 1) := by decide +kernel
theorem dX9_periodOf_16 : decode cX9_periodOf 16 = .ok (.invokevirtual 53, 3) := by decide +kernel
theorem dX9_periodOf_19 : decode cX9_periodOf 19 = .ok (.ifCond .ne 5, 3) := by decide +kernel
theorem dX9_periodOf_22 : decode cX9_periodOf 22 = .ok (.iconst (-1), 1) := by decide +kernel
theorem dX9_periodOf_23 : decode cX9_periodOf 23 = .ok (.ireturn, 1) := by decide +kernel
theorem dX9_periodOf_24 : decode cX9_periodOf 24 = .ok (.aload_n 0, 1) := by decide +kernel
theorem dX9_periodOf_25 : decode cX9_periodOf 25 = .ok (.getfield 20, 3) := by decide +kernel
theorem dX9_periodOf_28 : decode cX9_periodOf 28 = .ok (.iload_n 1, 1) := by decide +kernel
theorem dX9_periodOf_29 : decode cX9_periodOf 29 = .ok (.invokevirtual 83, 3) := by decide +kernel
theorem dX9_periodOf_32 : decode cX9_periodOf 32 = .ok (.getfield 190, 3) := by decide +kernel
theorem dX9_periodOf_35 : decode cX9_periodOf 35 = .ok (.invokevirtual 194, 3) := by decide +kernel
theorem dX9_periodOf_38 : decode cX9_periodOf 38 = .ok (.aload_n 0, 1) := by decide +kernel
theorem dX9_periodOf_39 : decode cX9_periodOf 39 = .ok (.getfield 20, 3) := by decide +kernel
theorem dX9_periodOf_42 : decode cX9_periodOf 42 = .ok (.iload_n 2, 1) := by decide +kernel
theorem dX9_periodOf_43 : decode cX9_periodOf 43 = .ok (.invokevirtual 83, 3) := by decide +kernel
theorem dX9_periodOf_46 : decode cX9_periodOf 46 = .ok (.getfield 190, 3) := by decide +kernel
theorem dX9_periodOf_49 : decode cX9_periodOf 49 = .ok (.invokevirtual 194, 3) := by decide +kernel
theorem dX9_periodOf_52 : decode cX9_periodOf 52 = .ok (.invokestatic 204, 3) := by decide +kernel
theorem dX9_periodOf_55 : decode cX9_periodOf 55 = .ok (.invokestatic 200, 3) := by decide +kernel
theorem dX9_periodOf_58 : decode cX9_periodOf 58 = .ok (.ireturn, 1) := by decide +kernel
set_option maxRecDepth 20000 in
theorem ggX9_of_X7_has : GoodIn wsX9_of wsX7_has := goodIn_r _ [6, 7, 71, 72] (by decide +kernel) (by decide +kernel)
set_option maxRecDepth 20000 in
theorem gX9_of_X7_has : GoodIn wsX9_of (wsV RX9 53 RX7 yX7_has wsX7_has) := goodIn_app (goodIn_of _ (by decide +kernel)) ggX9_of_X7_has
set_option maxRecDepth 20000 in
theorem ggX9_of_X7_at : GoodIn wsX9_of wsX7_at := goodIn_r _ [11, 12, 71, 72] (by decide +kernel) (by decide +kernel)
set_option maxRecDepth 20000 in
theorem gX9_of_X7_at : GoodIn wsX9_of (wsV RX9 83 RX7 yX7_at wsX7_at) := goodIn_app (goodIn_of _ (by decide +kernel)) ggX9_of_X7_at
set_option maxRecDepth 20000 in
theorem ggX9_of_X0_tell : GoodIn wsX9_of wsX0_tell := goodIn_r _ [17, 18, 19, 20, 21, 22, 23, 24, 25, 26, 27, 28, 29, 30, 31, 32, 33, 34, 35, 36, 37, 38, 39, 40, 41, 42, 43, 44, 45, 46, 47, 48, 49, 50, 51, 52, 53, 54, 55, 56, 57, 58, 59, 60, 61, 62, 63, 64, 16, 65, 66, 73, 74, 75, 76, 77, 78, 79, 80, 81, 82, 83, 84, 85, 86, 87, 88, 89, 90, 91, 92, 93, 94, 95, 96, 97, 98, 99, 100, 101, 102, 103, 104, 105, 106, 107] (by decide +kernel) (by decide +kernel)
set_option maxRecDepth 20000 in
theorem gX9_of_X0_tell : GoodIn wsX9_of (wsV RX9 208 RX0 yX0_tell wsX0_tell) := goodIn_app (goodIn_of _ (by decide +kernel)) ggX9_of_X0_tell
theorem dX9_of_0 : decode cX9_of 0 = .ok (.aload_n 0, 1) := by decide +kernel
theorem dX9_of_1 : decode cX9_of 1 = .ok (.getfield 20, 3) := by decide +kernel
theorem dX9_of_4 : decode cX9_of 4 = .ok (.iload_n 1, 1) := by decide +kernel
theorem dX9_of_5 : decode cX9_of 5 = .ok (.invokevirtual 53, 3) := by decide +kernel
theorem dX9_of_8 : decode cX9_of 8 = .ok (.ifCond .ne 6, 3) := by decide +kernel
theorem dX9_of_11 : decode cX9_of 11 = .ok (.bipush (-2), 2) := by decide +kernel
theorem dX9_of_13 : decode cX9_of 13 = .ok (.ireturn, 1) := by decide +kernel
theorem dX9_of_14 : decode cX9_of 14 = .ok (.aload_n 0, 1) := by decide +kernel
theorem dX9_of_15 : decode cX9_of 15 = .ok (.getfield 20, 3) := by decide +kernel
theorem dX9_of_18 : decode cX9_of 18 = .ok (.iload_n 1, 1) := by decide +kernel
theorem dX9_of_19 : decode cX9_of 19 = .ok (.invokevirtual 83, 3) := by decide +kernel
theorem dX9_of_22 : decode cX9_of 22 = .ok (.iload_n 2, 1) := by decide +kernel
theorem dX9_of_23 : decode cX9_of 23 = .ok (.invokevirtual 208, 3) := by decide +kernel
theorem dX9_of_26 : decode cX9_of 26 = .ok (.ireturn, 1) := by decide +kernel
set_option maxRecDepth 20000 in
theorem ggX9_image_X7_init : GoodIn wsX9_image wsX7_init := goodIn_r _ [8, 9, 10, 11, 12, 13, 14, 15, 16, 17, 18, 19, 20, 21, 22, 23, 24, 25, 26, 27, 28, 29, 30, 31, 32, 33, 34, 35, 36, 37, 38, 65, 66, 67, 68, 69, 70, 71, 72, 73, 74, 75, 76, 77, 78, 79, 80, 81, 82, 83, 84, 85, 86, 87, 88, 89, 90, 91, 92, 93, 94, 95, 96, 97, 98, 99, 100, 101] (by decide +kernel) (by decide +kernel)
set_option maxRecDepth 20000 in
theorem gX9_image_X7_init : GoodIn wsX9_image (wsX7_init) := ggX9_image_X7_init
set_option maxRecDepth 20000 in
theorem ggX9_image_X7_copyFrom : GoodIn wsX9_image wsX7_copyFrom := goodIn_r _ [42, 14, 13, 43, 44, 45, 19, 46, 47, 48, 49, 38, 50, 51, 52, 53, 54, 55, 56, 36, 57, 58, 59, 60, 37, 65, 66, 70, 71, 72, 73, 74, 75, 76, 77, 78, 79, 80, 81, 82, 83, 84] (by decide +kernel) (by decide +kernel)
set_option maxRecDepth 20000 in
theorem gX9_image_X7_copyFrom : GoodIn wsX9_image (wsV RX9 211 RX7 yX7_copyFrom wsX7_copyFrom) := goodIn_app (goodIn_of _ (by decide +kernel)) ggX9_image_X7_copyFrom
theorem dX9_image_0 : decode cX9_image 0 = .ok (.iload_n 1, 1) := by decide +kernel
theorem dX9_image_1 : decode cX9_image 1 = .ok (.ifCond .lt 12, 3) := by decide +kernel
theorem dX9_image_4 : decode cX9_image 4 = .ok (.iload_n 1, 1) := by decide +kernel
theorem dX9_image_5 : decode cX9_image 5 = .ok (.aload_n 0, 1) := by decide +kernel
theorem dX9_image_6 : decode cX9_image 6 = .ok (.getfield 24, 3) := by decide +kernel
theorem dX9_image_9 : decode cX9_image 9 = .ok (.arraylength, 1) := by decide +kernel
theorem dX9_image_10 : decode cX9_image 10 = .ok (.if_icmp .lt 5, 3) := by decide +kernel
theorem dX9_image_13 : decode cX9_image 13 = .ok (.iconst 0, 1) := by decide +kernel
theorem dX9_image_14 : decode cX9_image 14 = .ok (.ireturn, 1) := by decide +kernel
theorem dX9_image_15 : decode cX9_image 15 = .ok (.aload_n 0, 1) := by decide +kernel
theorem dX9_image_16 : decode cX9_image 16 = .ok (.getfield 24, 3) := by decide +kernel
theorem dX9_image_19 : decode cX9_image 19 = .ok (.iload_n 1, 1) := by decide +kernel
theorem dX9_image_20 : decode cX9_image 20 = .ok (.aaload, 1) := by decide +kernel
theorem dX9_image_21 : decode cX9_image 21 = .ok (.ifnonnull 16, 3) := by decide +kernel
theorem dX9_image_24 : decode cX9_image 24 = .ok (.aload_n 0, 1) := by decide +kernel
theorem dX9_image_25 : decode cX9_image 25 = .ok (.getfield 24, 3) := by decide +kernel
theorem dX9_image_28 : decode cX9_image 28 = .ok (.iload_n 1, 1) := by decide +kernel
theorem dX9_image_29 : decode cX9_image 29 = .ok (.new 17, 3) := by decide +kernel
theorem dX9_image_32 : decode cX9_image 32 = .ok (.dup, 1) := by decide +kernel
theorem dX9_image_33 : decode cX9_image 33 = .ok (.invokespecial 19, 3) := by decide +kernel
theorem dX9_image_36 : decode cX9_image 36 = .ok (.aastore, 1) := by decide +kernel
theorem dX9_image_37 : decode cX9_image 37 = .ok (.aload_n 0, 1) := by decide +kernel
theorem dX9_image_38 : decode cX9_image 38 = .ok (.getfield 24, 3) := by decide +kernel
theorem dX9_image_41 : decode cX9_image 41 = .ok (.iload_n 1, 1) := by decide +kernel
theorem dX9_image_42 : decode cX9_image 42 = .ok (.aaload, 1) := by decide +kernel
theorem dX9_image_43 : decode cX9_image 43 = .ok (.aload_n 0, 1) := by decide +kernel
theorem dX9_image_44 : decode cX9_image 44 = .ok (.getfield 20, 3) := by decide +kernel
theorem dX9_image_47 : decode cX9_image 47 = .ok (.invokevirtual 211, 3) := by decide +kernel
theorem dX9_image_50 : decode cX9_image 50 = .ok (.iconst 1, 1) := by decide +kernel
theorem dX9_image_51 : decode cX9_image 51 = .ok (.ireturn, 1) := by decide +kernel
set_option maxRecDepth 20000 in
theorem ggX9_back_X7_copyFrom : GoodIn wsX9_back wsX7_copyFrom := goodIn_r _ [7, 8, 9, 10, 11, 12, 13, 14, 15, 16, 17, 18, 19, 20, 21, 22, 23, 24, 25, 26, 27, 28, 29, 30, 31, 36, 37, 38, 39, 40, 41, 42, 43, 44, 45, 46, 47, 48, 49, 50, 51, 52] (by decide +kernel) (by decide +kernel)
set_option maxRecDepth 20000 in
theorem gX9_back_X7_copyFrom : GoodIn wsX9_back (wsV RX9 211 RX7 yX7_copyFrom wsX7_copyFrom) := goodIn_app (goodIn_of _ (by decide +kernel)) ggX9_back_X7_copyFrom
theorem dX9_back_0 : decode cX9_back 0 = .ok (.iload_n 1, 1) := by decide +kernel
theorem dX9_back_1 : decode cX9_back 1 = .ok (.ifCond .lt 21, 3) := by decide +kernel
theorem dX9_back_4 : decode cX9_back 4 = .ok (.iload_n 1, 1) := by decide +kernel
theorem dX9_back_5 : decode cX9_back 5 = .ok (.aload_n 0, 1) := by decide +kernel
theorem dX9_back_6 : decode cX9_back 6 = .ok (.getfield 24, 3) := by decide +kernel
theorem dX9_back_9 : decode cX9_back 9 = .ok (.arraylength, 1) := by decide +kernel
theorem dX9_back_10 : decode cX9_back 10 = .ok (.if_icmp .ge 12, 3) := by decide +kernel
theorem dX9_back_13 : decode cX9_back 13 = .ok (.aload_n 0, 1) := by decide +kernel
theorem dX9_back_14 : decode cX9_back 14 = .ok (.getfield 24, 3) := by decide +kernel
theorem dX9_back_17 : decode cX9_back 17 = .ok (.iload_n 1, 1) := by decide +kernel
theorem dX9_back_18 : decode cX9_back 18 = .ok (.aaload, 1) := by decide +kernel
theorem dX9_back_19 : decode cX9_back 19 = .ok (.ifnonnull 5, 3) := by decide +kernel
theorem dX9_back_22 : decode cX9_back 22 = .ok (.iconst 0, 1) := by decide +kernel
theorem dX9_back_23 : decode cX9_back 23 = .ok (.ireturn, 1) := by decide +kernel
theorem dX9_back_24 : decode cX9_back 24 = .ok (.aload_n 0, 1) := by decide +kernel
theorem dX9_back_25 : decode cX9_back 25 = .ok (.getfield 20, 3) := by decide +kernel
theorem dX9_back_28 : decode cX9_back 28 = .ok (.aload_n 0, 1) := by decide +kernel
theorem dX9_back_29 : decode cX9_back 29 = .ok (.getfield 24, 3) := by decide +kernel
theorem dX9_back_32 : decode cX9_back 32 = .ok (.iload_n 1, 1) := by decide +kernel
theorem dX9_back_33 : decode cX9_back 33 = .ok (.aaload, 1) := by decide +kernel
theorem dX9_back_34 : decode cX9_back 34 = .ok (.invokevirtual 211, 3) := by decide +kernel
theorem dX9_back_37 : decode cX9_back 37 = .ok (.iconst 1, 1) := by decide +kernel
theorem dX9_back_38 : decode cX9_back 38 = .ok (.ireturn, 1) := by decide +kernel
set_option maxRecDepth 20000 in
theorem ggX9_told_X7_roomBits : GoodIn wsX9_told wsX7_roomBits := goodIn_r _ [7, 8, 9, 10, 21, 22, 23, 24, 25, 26, 27, 28, 29, 30, 31, 32, 33, 34, 35, 36, 37] (by decide +kernel) (by decide +kernel)
set_option maxRecDepth 20000 in
theorem gX9_told_X7_roomBits : GoodIn wsX9_told (wsV RX9 215 RX7 yX7_roomBits wsX7_roomBits) := goodIn_app (goodIn_of _ (by decide +kernel)) ggX9_told_X7_roomBits
set_option maxRecDepth 20000 in
theorem ggX9_told_X9_imageBits : GoodIn wsX9_told wsX9_imageBits := goodIn_r _ [15, 16, 17, 18, 19, 20] (by decide +kernel) (by decide +kernel)
set_option maxRecDepth 20000 in
theorem gX9_told_X9_imageBits : GoodIn wsX9_told (wsV RX9 218 RX9 yX9_imageBits wsX9_imageBits) := goodIn_app (goodIn_of _ (by decide +kernel)) ggX9_told_X9_imageBits
theorem dX9_told_0 : decode cX9_told 0 = .ok (.iload_n 1, 1) := by decide +kernel
theorem dX9_told_1 : decode cX9_told 1 = .ok (.tableswitch 57 0 3 #[31, 39, 44, 52], 31) := by decide +kernel
theorem dX9_told_32 : decode cX9_told 32 = .ok (.aload_n 0, 1) := by decide +kernel
theorem dX9_told_33 : decode cX9_told 33 = .ok (.getfield 20, 3) := by decide +kernel
theorem dX9_told_36 : decode cX9_told 36 = .ok (.getfield 166, 3) := by decide +kernel
theorem dX9_told_39 : decode cX9_told 39 = .ok (.ireturn, 1) := by decide +kernel
theorem dX9_told_40 : decode cX9_told 40 = .ok (.aload_n 0, 1) := by decide +kernel
theorem dX9_told_41 : decode cX9_told 41 = .ok (.getfield 13, 3) := by decide +kernel
theorem dX9_told_44 : decode cX9_told 44 = .ok (.ireturn, 1) := by decide +kernel
theorem dX9_told_45 : decode cX9_told 45 = .ok (.aload_n 0, 1) := by decide +kernel
theorem dX9_told_46 : decode cX9_told 46 = .ok (.getfield 20, 3) := by decide +kernel
theorem dX9_told_49 : decode cX9_told 49 = .ok (.invokevirtual 215, 3) := by decide +kernel
theorem dX9_told_52 : decode cX9_told 52 = .ok (.ireturn, 1) := by decide +kernel
theorem dX9_told_53 : decode cX9_told 53 = .ok (.aload_n 0, 1) := by decide +kernel
theorem dX9_told_54 : decode cX9_told 54 = .ok (.invokevirtual 218, 3) := by decide +kernel
theorem dX9_told_57 : decode cX9_told 57 = .ok (.ireturn, 1) := by decide +kernel
theorem dX9_told_58 : decode cX9_told 58 = .ok (.iconst (-1), 1) := by decide +kernel
theorem dX9_told_59 : decode cX9_told 59 = .ok (.ireturn, 1) := by decide +kernel
theorem dX9_putBytes_0 : decode cX9_putBytes 0 = .ok (.bipush 56, 2) := by decide +kernel
theorem dX9_putBytes_2 : decode cX9_putBytes 2 = .ok (.istore_n 3, 1) := by decide +kernel
theorem dX9_putBytes_3 : decode cX9_putBytes 3 = .ok (.iload_n 3, 1) := by decide +kernel
theorem dX9_putBytes_4 : decode cX9_putBytes 4 = .ok (.ifCond .lt 47, 3) := by decide +kernel
theorem dX9_putBytes_7 : decode cX9_putBytes 7 = .ok (.aload_n 0, 1) := by decide +kernel
theorem dX9_putBytes_8 : decode cX9_putBytes 8 = .ok (.getfield 13, 3) := by decide +kernel
theorem dX9_putBytes_11 : decode cX9_putBytes 11 = .ok (.sipush 168, 3) := by decide +kernel
theorem dX9_putBytes_14 : decode cX9_putBytes 14 = .ok (.if_icmp .ge 37, 3) := by decide +kernel
theorem dX9_putBytes_17 : decode cX9_putBytes 17 = .ok (.aload_n 0, 1) := by decide +kernel
theorem dX9_putBytes_18 : decode cX9_putBytes 18 = .ok (.getfield 9, 3) := by decide +kernel
theorem dX9_putBytes_21 : decode cX9_putBytes 21 = .ok (.aload_n 0, 1) := by decide +kernel
theorem dX9_putBytes_22 : decode cX9_putBytes 22 = .ok (.getfield 13, 3) := by decide +kernel
theorem dX9_putBytes_25 : decode cX9_putBytes 25 = .ok (.lload_n 1, 1) := by decide +kernel
theorem dX9_putBytes_26 : decode cX9_putBytes 26 = .ok (.iload_n 3, 1) := by decide +kernel
theorem dX9_putBytes_27 : decode cX9_putBytes 27 = .ok (.lushr, 1) := by decide +kernel
theorem dX9_putBytes_28 : decode cX9_putBytes 28 = .ok (.ldc2_w 221, 3) := by decide +kernel
theorem dX9_putBytes_31 : decode cX9_putBytes 31 = .ok (.land, 1) := by decide +kernel
theorem dX9_putBytes_32 : decode cX9_putBytes 32 = .ok (.l2i, 1) := by decide +kernel
theorem dX9_putBytes_33 : decode cX9_putBytes 33 = .ok (.i2c, 1) := by decide +kernel
theorem dX9_putBytes_34 : decode cX9_putBytes 34 = .ok (.castore, 1) := by decide +kernel
theorem dX9_putBytes_35 : decode cX9_putBytes 35 = .ok (.aload_n 0, 1) := by decide +kernel
theorem dX9_putBytes_36 : decode cX9_putBytes 36 = .ok (.dup, 1) := by decide +kernel
theorem dX9_putBytes_37 : decode cX9_putBytes 37 = .ok (.getfield 13, 3) := by decide +kernel
theorem dX9_putBytes_40 : decode cX9_putBytes 40 = .ok (.iconst 1, 1) := by decide +kernel
theorem dX9_putBytes_41 : decode cX9_putBytes 41 = .ok (.iadd, 1) := by decide +kernel
theorem dX9_putBytes_42 : decode cX9_putBytes 42 = .ok (.putfield 13, 3) := by decide +kernel
theorem dX9_putBytes_45 : decode cX9_putBytes 45 = .ok (.iinc 3 (-8), 3) := by decide +kernel
theorem dX9_putBytes_48 : decode cX9_putBytes 48 = .ok (.goto (-45), 3) := by decide +kernel
theorem dX9_putBytes_51 : decode cX9_putBytes 51 = .ok (.return_, 1) := by decide +kernel
theorem dX9_imageBits_0 : decode cX9_imageBits 0 = .ok (.iconst 0, 1) := by decide +kernel
theorem dX9_imageBits_1 : decode cX9_imageBits 1 = .ok (.istore_n 1, 1) := by decide +kernel
theorem dX9_imageBits_2 : decode cX9_imageBits 2 = .ok (.iconst 0, 1) := by decide +kernel
theorem dX9_imageBits_3 : decode cX9_imageBits 3 = .ok (.istore_n 2, 1) := by decide +kernel
theorem dX9_imageBits_4 : decode cX9_imageBits 4 = .ok (.iload_n 2, 1) := by decide +kernel
theorem dX9_imageBits_5 : decode cX9_imageBits 5 = .ok (.aload_n 0, 1) := by decide +kernel
theorem dX9_imageBits_6 : decode cX9_imageBits 6 = .ok (.getfield 24, 3) := by decide +kernel
theorem dX9_imageBits_9 : decode cX9_imageBits 9 = .ok (.arraylength, 1) := by decide +kernel
theorem dX9_imageBits_10 : decode cX9_imageBits 10 = .ok (.if_icmp .ge 24, 3) := by decide +kernel
theorem dX9_imageBits_13 : decode cX9_imageBits 13 = .ok (.aload_n 0, 1) := by decide +kernel
theorem dX9_imageBits_14 : decode cX9_imageBits 14 = .ok (.getfield 24, 3) := by decide +kernel
theorem dX9_imageBits_17 : decode cX9_imageBits 17 = .ok (.iload_n 2, 1) := by decide +kernel
theorem dX9_imageBits_18 : decode cX9_imageBits 18 = .ok (.aaload, 1) := by decide +kernel
theorem dX9_imageBits_19 : decode cX9_imageBits 19 = .ok (.ifnull 9, 3) := by decide +kernel
theorem dX9_imageBits_22 : decode cX9_imageBits 22 = .ok (.iload_n 1, 1) := by decide +kernel
theorem dX9_imageBits_23 : decode cX9_imageBits 23 = .ok (.iconst 1, 1) := by decide +kernel
theorem dX9_imageBits_24 : decode cX9_imageBits 24 = .ok (.iload_n 2, 1) := by decide +kernel
theorem dX9_imageBits_25 : decode cX9_imageBits 25 = .ok (.ishl, 1) := by decide +kernel
theorem dX9_imageBits_26 : decode cX9_imageBits 26 = .ok (.ior, 1) := by decide +kernel
theorem dX9_imageBits_27 : decode cX9_imageBits 27 = .ok (.istore_n 1, 1) := by decide +kernel
theorem dX9_imageBits_28 : decode cX9_imageBits 28 = .ok (.iinc 2 1, 3) := by decide +kernel
theorem dX9_imageBits_31 : decode cX9_imageBits 31 = .ok (.goto (-27), 3) := by decide +kernel
theorem dX9_imageBits_34 : decode cX9_imageBits 34 = .ok (.iload_n 1, 1) := by decide +kernel
theorem dX9_imageBits_35 : decode cX9_imageBits 35 = .ok (.ireturn, 1) := by decide +kernel
theorem dX9_isDay_0 : decode cX9_isDay 0 = .ok (.iload_n 0, 1) := by decide +kernel
theorem dX9_isDay_1 : decode cX9_isDay 1 = .ok (.ifCond .lt 13, 3) := by decide +kernel
theorem dX9_isDay_4 : decode cX9_isDay 4 = .ok (.iload_n 0, 1) := by decide +kernel
theorem dX9_isDay_5 : decode cX9_isDay 5 = .ok (.ldc 185, 2) := by decide +kernel
theorem dX9_isDay_7 : decode cX9_isDay 7 = .ok (.if_icmp .gt 7, 3) := by decide +kernel
theorem dX9_isDay_10 : decode cX9_isDay 10 = .ok (.iconst 1, 1) := by decide +kernel
theorem dX9_isDay_11 : decode cX9_isDay 11 = .ok (.goto 4, 3) := by decide +kernel
theorem dX9_isDay_14 : decode cX9_isDay 14 = .ok (.iconst 0, 1) := by decide +kernel
theorem dX9_isDay_15 : decode cX9_isDay 15 = .ok (.ireturn, 1) := by decide +kernel
theorem dX9_isTime_0 : decode cX9_isTime 0 = .ok (.iload_n 0, 1) := by decide +kernel
theorem dX9_isTime_1 : decode cX9_isTime 1 = .ok (.ifCond .lt 13, 3) := by decide +kernel
theorem dX9_isTime_4 : decode cX9_isTime 4 = .ok (.iload_n 0, 1) := by decide +kernel
theorem dX9_isTime_5 : decode cX9_isTime 5 = .ok (.ldc 173, 2) := by decide +kernel
theorem dX9_isTime_7 : decode cX9_isTime 7 = .ok (.if_icmp .gt 7, 3) := by decide +kernel
theorem dX9_isTime_10 : decode cX9_isTime 10 = .ok (.iconst 1, 1) := by decide +kernel
theorem dX9_isTime_11 : decode cX9_isTime 11 = .ok (.goto 4, 3) := by decide +kernel
theorem dX9_isTime_14 : decode cX9_isTime 14 = .ok (.iconst 0, 1) := by decide +kernel
theorem dX9_isTime_15 : decode cX9_isTime 15 = .ok (.ireturn, 1) := by decide +kernel
theorem dX9_isRoom_0 : decode cX9_isRoom 0 = .ok (.iload_n 0, 1) := by decide +kernel
theorem dX9_isRoom_1 : decode cX9_isRoom 1 = .ok (.ifCond .lt 13, 3) := by decide +kernel
theorem dX9_isRoom_4 : decode cX9_isRoom 4 = .ok (.iload_n 0, 1) := by decide +kernel
theorem dX9_isRoom_5 : decode cX9_isRoom 5 = .ok (.bipush 7, 2) := by decide +kernel
theorem dX9_isRoom_7 : decode cX9_isRoom 7 = .ok (.if_icmp .gt 7, 3) := by decide +kernel
theorem dX9_isRoom_10 : decode cX9_isRoom 10 = .ok (.iconst 1, 1) := by decide +kernel
theorem dX9_isRoom_11 : decode cX9_isRoom 11 = .ok (.goto 4, 3) := by decide +kernel
theorem dX9_isRoom_14 : decode cX9_isRoom 14 = .ok (.iconst 0, 1) := by decide +kernel
theorem dX9_isRoom_15 : decode cX9_isRoom 15 = .ok (.ireturn, 1) := by decide +kernel
set_option maxRecDepth 20000 in
theorem ggX9_areDays_X9_isDay : GoodIn wsX9_areDays wsX9_isDay := goodIn_r _ [4, 5] (by decide +kernel) (by decide +kernel)
set_option maxRecDepth 20000 in
theorem gX9_areDays_X9_isDay : GoodIn wsX9_areDays (va_wsS RX9 74 yX9_isDay wsX9_isDay) := goodIn_app (goodIn_of _ (by decide +kernel)) ggX9_areDays_X9_isDay
theorem dX9_areDays_0 : decode cX9_areDays 0 = .ok (.iload_n 0, 1) := by decide +kernel
theorem dX9_areDays_1 : decode cX9_areDays 1 = .ok (.invokestatic 74, 3) := by decide +kernel
theorem dX9_areDays_4 : decode cX9_areDays 4 = .ok (.ifCond .eq 26, 3) := by decide +kernel
theorem dX9_areDays_7 : decode cX9_areDays 7 = .ok (.iload_n 1, 1) := by decide +kernel
theorem dX9_areDays_8 : decode cX9_areDays 8 = .ok (.invokestatic 74, 3) := by decide +kernel
theorem dX9_areDays_11 : decode cX9_areDays 11 = .ok (.ifCond .eq 19, 3) := by decide +kernel
theorem dX9_areDays_14 : decode cX9_areDays 14 = .ok (.iload_n 0, 1) := by decide +kernel
theorem dX9_areDays_15 : decode cX9_areDays 15 = .ok (.iload_n 1, 1) := by decide +kernel
theorem dX9_areDays_16 : decode cX9_areDays 16 = .ok (.if_icmp .gt 14, 3) := by decide +kernel
theorem dX9_areDays_19 : decode cX9_areDays 19 = .ok (.iload_n 1, 1) := by decide +kernel
theorem dX9_areDays_20 : decode cX9_areDays 20 = .ok (.iload_n 0, 1) := by decide +kernel
theorem dX9_areDays_21 : decode cX9_areDays 21 = .ok (.isub, 1) := by decide +kernel
theorem dX9_areDays_22 : decode cX9_areDays 22 = .ok (.iload_n 2, 1) := by decide +kernel
theorem dX9_areDays_23 : decode cX9_areDays 23 = .ok (.if_icmp .ge 7, 3) := by decide +kernel
theorem dX9_areDays_26 : decode cX9_areDays 26 = .ok (.iconst 1, 1) := by decide +kernel
theorem dX9_areDays_27 : decode cX9_areDays 27 = .ok (.goto 4, 3) := by decide +kernel
theorem dX9_areDays_30 : decode cX9_areDays 30 = .ok (.iconst 0, 1) := by decide +kernel
theorem dX9_areDays_31 : decode cX9_areDays 31 = .ok (.ireturn, 1) := by decide +kernel
set_option maxRecDepth 20000 in
theorem ggX9_areTwo_X7_has : GoodIn wsX9_areTwo wsX7_has := goodIn_r _ [6, 7, 12, 13] (by decide +kernel) (by decide +kernel)
set_option maxRecDepth 20000 in
theorem gX9_areTwo_X7_has : GoodIn wsX9_areTwo (wsV RX9 53 RX7 yX7_has wsX7_has) := goodIn_app (goodIn_of _ (by decide +kernel)) ggX9_areTwo_X7_has
theorem dX9_areTwo_0 : decode cX9_areTwo 0 = .ok (.aload_n 0, 1) := by decide +kernel
theorem dX9_areTwo_1 : decode cX9_areTwo 1 = .ok (.getfield 20, 3) := by decide +kernel
theorem dX9_areTwo_4 : decode cX9_areTwo 4 = .ok (.iload_n 1, 1) := by decide +kernel
theorem dX9_areTwo_5 : decode cX9_areTwo 5 = .ok (.invokevirtual 53, 3) := by decide +kernel
theorem dX9_areTwo_8 : decode cX9_areTwo 8 = .ok (.ifCond .eq 23, 3) := by decide +kernel
theorem dX9_areTwo_11 : decode cX9_areTwo 11 = .ok (.aload_n 0, 1) := by decide +kernel
theorem dX9_areTwo_12 : decode cX9_areTwo 12 = .ok (.getfield 20, 3) := by decide +kernel
theorem dX9_areTwo_15 : decode cX9_areTwo 15 = .ok (.iload_n 2, 1) := by decide +kernel
theorem dX9_areTwo_16 : decode cX9_areTwo 16 = .ok (.invokevirtual 53, 3) := by decide +kernel
theorem dX9_areTwo_19 : decode cX9_areTwo 19 = .ok (.ifCond .eq 12, 3) := by decide +kernel
theorem dX9_areTwo_22 : decode cX9_areTwo 22 = .ok (.iload_n 1, 1) := by decide +kernel
theorem dX9_areTwo_23 : decode cX9_areTwo 23 = .ok (.iload_n 2, 1) := by decide +kernel
theorem dX9_areTwo_24 : decode cX9_areTwo 24 = .ok (.if_icmp .eq 7, 3) := by decide +kernel
theorem dX9_areTwo_27 : decode cX9_areTwo 27 = .ok (.iconst 1, 1) := by decide +kernel
theorem dX9_areTwo_28 : decode cX9_areTwo 28 = .ok (.goto 4, 3) := by decide +kernel
theorem dX9_areTwo_31 : decode cX9_areTwo 31 = .ok (.iconst 0, 1) := by decide +kernel
theorem dX9_areTwo_32 : decode cX9_areTwo 32 = .ok (.ireturn, 1) := by decide +kernel
theorem dX9_asInt_0 : decode cX9_asInt 0 = .ok (.lload_n 0, 1) := by decide +kernel
theorem dX9_asInt_1 : decode cX9_asInt 1 = .ok (.ldc2_w 223, 3) := by decide +kernel
theorem dX9_asInt_4 : decode cX9_asInt 4 = .ok (.lcmp, 1) := by decide +kernel
theorem dX9_asInt_5 : decode cX9_asInt 5 = .ok (.ifCond .le 8, 3) := by decide +kernel
theorem dX9_asInt_8 : decode cX9_asInt 8 = .ok (.bipush (-2), 2) := by decide +kernel
theorem dX9_asInt_10 : decode cX9_asInt 10 = .ok (.goto 5, 3) := by decide +kernel
theorem dX9_asInt_13 : decode cX9_asInt 13 = .ok (.lload_n 0, 1) := by decide +kernel
theorem dX9_asInt_14 : decode cX9_asInt 14 = .ok (.l2i, 1) := by decide +kernel
theorem dX9_asInt_15 : decode cX9_asInt 15 = .ok (.ireturn, 1) := by decide +kernel
theorem dX9_commonDivisor_0 : decode cX9_commonDivisor 0 = .ok (.lload_n 0, 1) := by decide +kernel
theorem dX9_commonDivisor_1 : decode cX9_commonDivisor 1 = .ok (.lstore 4, 2) := by decide +kernel
theorem dX9_commonDivisor_3 : decode cX9_commonDivisor 3 = .ok (.lload_n 2, 1) := by decide +kernel
theorem dX9_commonDivisor_4 : decode cX9_commonDivisor 4 = .ok (.lstore 6, 2) := by decide +kernel
theorem dX9_commonDivisor_6 : decode cX9_commonDivisor 6 = .ok (.iconst 0, 1) := by decide +kernel
theorem dX9_commonDivisor_7 : decode cX9_commonDivisor 7 = .ok (.istore 8, 2) := by decide +kernel
theorem dX9_commonDivisor_9 : decode cX9_commonDivisor 9 = .ok (.iload 8, 2) := by decide +kernel
theorem dX9_commonDivisor_11 : decode cX9_commonDivisor 11 = .ok (.bipush 100, 2) := by decide +kernel
theorem dX9_commonDivisor_13 : decode cX9_commonDivisor 13 = .ok (.if_icmp .ge 31, 3) := by decide +kernel
theorem dX9_commonDivisor_16 : decode cX9_commonDivisor 16 = .ok (.lload 6, 2) := by decide +kernel
theorem dX9_commonDivisor_18 : decode cX9_commonDivisor 18 = .ok (.lconst 0, 1) := by decide +kernel
theorem dX9_commonDivisor_19 : decode cX9_commonDivisor 19 = .ok (.lcmp, 1) := by decide +kernel
theorem dX9_commonDivisor_20 : decode cX9_commonDivisor 20 = .ok (.ifCond .eq 24, 3) := by decide +kernel
theorem dX9_commonDivisor_23 : decode cX9_commonDivisor 23 = .ok (.lload 4, 2) := by decide +kernel
theorem dX9_commonDivisor_25 : decode cX9_commonDivisor 25 = .ok (.lload 6, 2) := by decide +kernel
theorem dX9_commonDivisor_27 : decode cX9_commonDivisor 27 = .ok (.lrem, 1) := by decide +kernel
theorem dX9_commonDivisor_28 : decode cX9_commonDivisor 28 = .ok (.lstore 9, 2) := by decide +kernel
theorem dX9_commonDivisor_30 : decode cX9_commonDivisor 30 = .ok (.lload 6, 2) := by decide +kernel
theorem dX9_commonDivisor_32 : decode cX9_commonDivisor 32 = .ok (.lstore 4, 2) := by decide +kernel
theorem dX9_commonDivisor_34 : decode cX9_commonDivisor 34 = .ok (.lload 9, 2) := by decide +kernel
theorem dX9_commonDivisor_36 : decode cX9_commonDivisor 36 = .ok (.lstore 6, 2) := by decide +kernel
theorem dX9_commonDivisor_38 : decode cX9_commonDivisor 38 = .ok (.iinc 8 1, 3) := by decide +kernel
theorem dX9_commonDivisor_41 : decode cX9_commonDivisor 41 = .ok (.goto (-32), 3) := by decide +kernel
theorem dX9_commonDivisor_44 : decode cX9_commonDivisor 44 = .ok (.lload 4, 2) := by decide +kernel
theorem dX9_commonDivisor_46 : decode cX9_commonDivisor 46 = .ok (.lreturn, 1) := by decide +kernel
set_option maxRecDepth 20000 in
theorem ggX9_commonMultiple_X9_commonDivisor : GoodIn wsX9_commonMultiple wsX9_commonDivisor := goodIn_r _ [4] (by decide +kernel) (by decide +kernel)
set_option maxRecDepth 20000 in
theorem gX9_commonMultiple_X9_commonDivisor : GoodIn wsX9_commonMultiple (va_wsS RX9 225 yX9_commonDivisor wsX9_commonDivisor) := goodIn_app (goodIn_of _ (by decide +kernel)) ggX9_commonMultiple_X9_commonDivisor
theorem dX9_commonMultiple_0 : decode cX9_commonMultiple 0 = .ok (.lload_n 0, 1) := by decide +kernel
theorem dX9_commonMultiple_1 : decode cX9_commonMultiple 1 = .ok (.lload_n 2, 1) := by decide +kernel
theorem dX9_commonMultiple_2 : decode cX9_commonMultiple 2 = .ok (.invokestatic 225, 3) := by decide +kernel
theorem dX9_commonMultiple_5 : decode cX9_commonMultiple 5 = .ok (.lstore 4, 2) := by decide +kernel
theorem dX9_commonMultiple_7 : decode cX9_commonMultiple 7 = .ok (.lload_n 0, 1) := by decide +kernel
theorem dX9_commonMultiple_8 : decode cX9_commonMultiple 8 = .ok (.lconst 0, 1) := by decide +kernel
theorem dX9_commonMultiple_9 : decode cX9_commonMultiple 9 = .ok (.lcmp, 1) := by decide +kernel
theorem dX9_commonMultiple_10 : decode cX9_commonMultiple 10 = .ok (.ifCond .eq 16, 3) := by decide +kernel
theorem dX9_commonMultiple_13 : decode cX9_commonMultiple 13 = .ok (.lload_n 2, 1) := by decide +kernel
theorem dX9_commonMultiple_14 : decode cX9_commonMultiple 14 = .ok (.lconst 0, 1) := by decide +kernel
theorem dX9_commonMultiple_15 : decode cX9_commonMultiple 15 = .ok (.lcmp, 1) := by decide +kernel
theorem dX9_commonMultiple_16 : decode cX9_commonMultiple 16 = .ok (.ifCond .eq 10, 3) := by decide +kernel
theorem dX9_commonMultiple_19 : decode cX9_commonMultiple 19 = .ok (.lload 4, 2) := by decide +kernel
theorem dX9_commonMultiple_21 : decode cX9_commonMultiple 21 = .ok (.lconst 0, 1) := by decide +kernel
theorem dX9_commonMultiple_22 : decode cX9_commonMultiple 22 = .ok (.lcmp, 1) := by decide +kernel
theorem dX9_commonMultiple_23 : decode cX9_commonMultiple 23 = .ok (.ifCond .ne 5, 3) := by decide +kernel
theorem dX9_commonMultiple_26 : decode cX9_commonMultiple 26 = .ok (.lconst 0, 1) := by decide +kernel
theorem dX9_commonMultiple_27 : decode cX9_commonMultiple 27 = .ok (.lreturn, 1) := by decide +kernel
theorem dX9_commonMultiple_28 : decode cX9_commonMultiple 28 = .ok (.lload_n 0, 1) := by decide +kernel
theorem dX9_commonMultiple_29 : decode cX9_commonMultiple 29 = .ok (.lload 4, 2) := by decide +kernel
theorem dX9_commonMultiple_31 : decode cX9_commonMultiple 31 = .ok (.ldiv, 1) := by decide +kernel
theorem dX9_commonMultiple_32 : decode cX9_commonMultiple 32 = .ok (.lload_n 2, 1) := by decide +kernel
theorem dX9_commonMultiple_33 : decode cX9_commonMultiple 33 = .ok (.lmul, 1) := by decide +kernel
theorem dX9_commonMultiple_34 : decode cX9_commonMultiple 34 = .ok (.lreturn, 1) := by decide +kernel
set_option maxRecDepth 20000 in
theorem ggX9_countOn_X9_isRoom : GoodIn wsX9_countOn wsX9_isRoom := goodIn_r _ [7] (by decide +kernel) (by decide +kernel)
set_option maxRecDepth 20000 in
theorem gX9_countOn_X9_isRoom : GoodIn wsX9_countOn (va_wsS RX9 163 yX9_isRoom wsX9_isRoom) := goodIn_app (goodIn_of _ (by decide +kernel)) ggX9_countOn_X9_isRoom
set_option maxRecDepth 20000 in
theorem ggX9_countOn_X9_isTime : GoodIn wsX9_countOn wsX9_isTime := goodIn_r _ [10, 11] (by decide +kernel) (by decide +kernel)
set_option maxRecDepth 20000 in
theorem gX9_countOn_X9_isTime : GoodIn wsX9_countOn (va_wsS RX9 110 yX9_isTime wsX9_isTime) := goodIn_app (goodIn_of _ (by decide +kernel)) ggX9_countOn_X9_isTime
set_option maxRecDepth 20000 in
theorem ggX9_countOn_X7_isOf : GoodIn wsX9_countOn wsX7_isOf := goodIn_r _ [16, 17, 18, 131, 132, 133, 134, 135, 136, 137, 138, 139, 140, 141, 142, 143, 144, 145, 146, 147] (by decide +kernel) (by decide +kernel)
set_option maxRecDepth 20000 in
theorem gX9_countOn_X7_isOf : GoodIn wsX9_countOn (wsV RX9 169 RX7 yX7_isOf wsX7_isOf) := goodIn_app (goodIn_of _ (by decide +kernel)) ggX9_countOn_X7_isOf
set_option maxRecDepth 20000 in
theorem ggX9_countOn_X7_at : GoodIn wsX9_countOn wsX7_at := goodIn_r _ [22, 17, 131, 132] (by decide +kernel) (by decide +kernel)
set_option maxRecDepth 20000 in
theorem gX9_countOn_X7_at : GoodIn wsX9_countOn (wsV RX9 83 RX7 yX7_at wsX7_at) := goodIn_app (goodIn_of _ (by decide +kernel)) ggX9_countOn_X7_at
set_option maxRecDepth 20000 in
theorem ggX9_countOn_X0_beginsIn : GoodIn wsX9_countOn wsX0_beginsIn := goodIn_r _ [27, 28, 29, 30, 31, 32, 33, 26, 34, 35, 36, 37, 38, 39, 40, 41, 42, 43, 44, 45, 46, 47, 48, 49, 50, 51, 52, 53, 54, 55, 56, 57, 58, 59, 60, 61, 62, 63, 64, 65, 66, 67, 68, 69, 70, 71, 72, 73, 74, 75, 76, 77, 78, 79, 80, 81, 82, 83, 84, 85, 86, 87, 88, 89, 90, 91, 92, 93, 94, 95, 96, 97, 98, 99, 100, 101, 102, 103, 104, 105, 106, 107, 108, 109, 110, 111, 112, 113, 114, 115, 116, 117, 118, 119, 120, 121, 122, 123, 124, 125, 126, 133, 134, 135, 136, 137, 138, 139, 140, 141, 142, 143, 144, 145, 146, 147, 148, 149, 150, 151, 152, 153, 154, 155, 156, 157, 158, 159, 160, 161, 162, 163, 164, 165, 166, 167] (by decide +kernel) (by decide +kernel)
set_option maxRecDepth 20000 in
theorem gX9_countOn_X0_beginsIn : GoodIn wsX9_countOn (wsV RX9 125 RX0 yX0_beginsIn wsX0_beginsIn) := goodIn_app (goodIn_of _ (by decide +kernel)) ggX9_countOn_X0_beginsIn
theorem dX9_countOn_0 : decode cX9_countOn 0 = .ok (.iload_n 1, 1) := by decide +kernel
theorem dX9_countOn_1 : decode cX9_countOn 1 = .ok (.iconst (-1), 1) := by decide +kernel
theorem dX9_countOn_2 : decode cX9_countOn 2 = .ok (.if_icmp .eq 10, 3) := by decide +kernel
theorem dX9_countOn_5 : decode cX9_countOn 5 = .ok (.iload_n 1, 1) := by decide +kernel
theorem dX9_countOn_6 : decode cX9_countOn 6 = .ok (.invokestatic 163, 3) := by decide +kernel
theorem dX9_countOn_9 : decode cX9_countOn 9 = .ok (.ifCond .eq 17, 3) := by decide +kernel
theorem dX9_countOn_12 : decode cX9_countOn 12 = .ok (.iload_n 2, 1) := by decide +kernel
theorem dX9_countOn_13 : decode cX9_countOn 13 = .ok (.invokestatic 110, 3) := by decide +kernel
theorem dX9_countOn_16 : decode cX9_countOn 16 = .ok (.ifCond .eq 10, 3) := by decide +kernel
theorem dX9_countOn_19 : decode cX9_countOn 19 = .ok (.iload_n 3, 1) := by decide +kernel
theorem dX9_countOn_20 : decode cX9_countOn 20 = .ok (.invokestatic 110, 3) := by decide +kernel
theorem dX9_countOn_23 : decode cX9_countOn 23 = .ok (.ifCond .ne 5, 3) := by decide +kernel
theorem dX9_countOn_26 : decode cX9_countOn 26 = .ok (.iconst (-1), 1) := by decide +kernel
theorem dX9_countOn_27 : decode cX9_countOn 27 = .ok (.ireturn, 1) := by decide +kernel
theorem dX9_countOn_28 : decode cX9_countOn 28 = .ok (.iload_n 3, 1) := by decide +kernel
theorem dX9_countOn_29 : decode cX9_countOn 29 = .ok (.iload_n 2, 1) := by decide +kernel
theorem dX9_countOn_30 : decode cX9_countOn 30 = .ok (.if_icmp .le 11, 3) := by decide +kernel
theorem dX9_countOn_33 : decode cX9_countOn 33 = .ok (.iload_n 3, 1) := by decide +kernel
theorem dX9_countOn_34 : decode cX9_countOn 34 = .ok (.iload_n 2, 1) := by decide +kernel
theorem dX9_countOn_35 : decode cX9_countOn 35 = .ok (.isub, 1) := by decide +kernel
theorem dX9_countOn_36 : decode cX9_countOn 36 = .ok (.ldc 172, 2) := by decide +kernel
theorem dX9_countOn_38 : decode cX9_countOn 38 = .ok (.if_icmp .le 5, 3) := by decide +kernel
theorem dX9_countOn_41 : decode cX9_countOn 41 = .ok (.iconst (-1), 1) := by decide +kernel
theorem dX9_countOn_42 : decode cX9_countOn 42 = .ok (.ireturn, 1) := by decide +kernel
theorem dX9_countOn_43 : decode cX9_countOn 43 = .ok (.iconst 0, 1) := by decide +kernel
theorem dX9_countOn_44 : decode cX9_countOn 44 = .ok (.istore 4, 2) := by decide +kernel
theorem dX9_countOn_46 : decode cX9_countOn 46 = .ok (.iconst 0, 1) := by decide +kernel
theorem dX9_countOn_47 : decode cX9_countOn 47 = .ok (.istore 5, 2) := by decide +kernel
theorem dX9_countOn_49 : decode cX9_countOn 49 = .ok (.iload 5, 2) := by decide +kernel
theorem dX9_countOn_51 : decode cX9_countOn 51 = .ok (.aload_n 0, 1) := by decide +kernel
theorem dX9_countOn_52 : decode cX9_countOn 52 = .ok (.getfield 20, 3) := by decide +kernel
theorem dX9_countOn_55 : decode cX9_countOn 55 = .ok (.getfield 166, 3) := by decide +kernel
theorem dX9_countOn_58 : decode cX9_countOn 58 = .ok (.if_icmp .ge 55, 3) := by decide +kernel
theorem dX9_countOn_61 : decode cX9_countOn 61 = .ok (.aload_n 0, 1) := by decide +kernel
theorem dX9_countOn_62 : decode cX9_countOn 62 = .ok (.getfield 20, 3) := by decide +kernel
theorem dX9_countOn_65 : decode cX9_countOn 65 = .ok (.iload 5, 2) := by decide +kernel
theorem dX9_countOn_67 : decode cX9_countOn 67 = .ok (.iload_n 1, 1) := by decide +kernel
theorem dX9_countOn_68 : decode cX9_countOn 68 = .ok (.invokevirtual 169, 3) := by decide +kernel
theorem dX9_countOn_71 : decode cX9_countOn 71 = .ok (.ifCond .eq 36, 3) := by decide +kernel
theorem dX9_countOn_74 : decode cX9_countOn 74 = .ok (.aload_n 0, 1) := by decide +kernel
theorem dX9_countOn_75 : decode cX9_countOn 75 = .ok (.getfield 20, 3) := by decide +kernel
theorem dX9_countOn_78 : decode cX9_countOn 78 = .ok (.iload 5, 2) := by decide +kernel
theorem dX9_countOn_80 : decode cX9_countOn 80 = .ok (.invokevirtual 83, 3) := by decide +kernel
theorem dX9_countOn_83 : decode cX9_countOn 83 = .ok (.astore 6, 2) := by decide +kernel
theorem dX9_countOn_85 : decode cX9_countOn 85 = .ok (.iload 4, 2) := by decide +kernel
theorem dX9_countOn_87 : decode cX9_countOn 87 = .ok (.aload 6, 2) := by decide +kernel
theorem dX9_countOn_89 : decode cX9_countOn 89 = .ok (.iload_n 2, 1) := by decide +kernel
theorem dX9_countOn_90 : decode cX9_countOn 90 = .ok (.aload 6, 2) := by decide +kernel
theorem dX9_countOn_92 : decode cX9_countOn 92 = .ok (.getfield 228, 3) := by decide +kernel
theorem dX9_countOn_95 : decode cX9_countOn 95 = .ok (.isub, 1) := by decide +kernel
theorem dX9_countOn_96 : decode cX9_countOn 96 = .ok (.iconst 1, 1) := by decide +kernel
theorem dX9_countOn_97 : decode cX9_countOn 97 = .ok (.iadd, 1) := by decide +kernel
theorem dX9_countOn_98 : decode cX9_countOn 98 = .ok (.iload_n 3, 1) := by decide +kernel
theorem dX9_countOn_99 : decode cX9_countOn 99 = .ok (.iconst 1, 1) := by decide +kernel
theorem dX9_countOn_100 : decode cX9_countOn 100 = .ok (.isub, 1) := by decide +kernel
theorem dX9_countOn_101 : decode cX9_countOn 101 = .ok (.invokevirtual 125, 3) := by decide +kernel
theorem dX9_countOn_104 : decode cX9_countOn 104 = .ok (.iadd, 1) := by decide +kernel
theorem dX9_countOn_105 : decode cX9_countOn 105 = .ok (.istore 4, 2) := by decide +kernel
theorem dX9_countOn_107 : decode cX9_countOn 107 = .ok (.iinc 5 1, 3) := by decide +kernel
theorem dX9_countOn_110 : decode cX9_countOn 110 = .ok (.goto (-61), 3) := by decide +kernel
theorem dX9_countOn_113 : decode cX9_countOn 113 = .ok (.iload 4, 2) := by decide +kernel
theorem dX9_countOn_115 : decode cX9_countOn 115 = .ok (.ireturn, 1) := by decide +kernel
set_option maxRecDepth 20000 in
theorem ggX9_walkOn_X7_at : GoodIn wsX9_walkOn wsX7_at := goodIn_r _ [9, 10, 129, 130] (by decide +kernel) (by decide +kernel)
set_option maxRecDepth 20000 in
theorem gX9_walkOn_X7_at : GoodIn wsX9_walkOn (wsV RX9 83 RX7 yX7_at wsX7_at) := goodIn_app (goodIn_of _ (by decide +kernel)) ggX9_walkOn_X7_at
set_option maxRecDepth 20000 in
theorem ggX9_walkOn_X0_seek : GoodIn wsX9_walkOn wsX0_seek := goodIn_r _ [15, 16, 17, 18, 19, 20, 21, 22, 23, 24, 14, 25, 26, 27, 28, 29, 30, 31, 32, 33, 34, 35, 36, 37, 38, 39, 40, 41, 42, 43, 44, 45, 46, 47, 48, 49, 50, 51, 52, 53, 54, 55, 56, 57, 58, 59, 60, 61, 62, 63, 64, 65, 66, 67, 68, 69, 70, 71, 72, 73, 74, 75, 76, 77, 78, 79, 80, 81, 82, 83, 84, 85, 86, 87, 88, 89, 90, 91, 92, 93, 94, 95, 96, 97, 98, 99, 100, 101, 102, 103, 104, 105, 106, 107, 108, 131, 132, 133, 134, 135, 136, 137, 138, 139, 140, 141, 142, 143, 144, 145, 146, 147, 148, 149, 150, 151, 152, 153, 154, 155, 156, 157, 158, 159, 160, 161, 162, 163, 164, 165] (by decide +kernel) (by decide +kernel)
set_option maxRecDepth 20000 in
theorem gX9_walkOn_X0_seek : GoodIn wsX9_walkOn (wsV RX9 116 RX0 yX0_seek wsX0_seek) := goodIn_app (goodIn_of _ (by decide +kernel)) ggX9_walkOn_X0_seek
set_option maxRecDepth 20000 in
theorem ggX9_walkOn_X9_firstFound : GoodIn wsX9_walkOn wsX9_firstFound := goodIn_r _ [113, 114, 1, 4, 3, 5, 6, 7, 8, 9, 10, 115, 116, 117, 118, 119, 125, 126, 127, 128, 129, 130, 131, 132, 133, 134, 135, 136, 137, 138, 139, 140, 141, 142, 143, 144, 145] (by decide +kernel) (by decide +kernel)
set_option maxRecDepth 20000 in
theorem gX9_walkOn_X9_firstFound : GoodIn wsX9_walkOn (wsV RX9 231 RX9 yX9_firstFound wsX9_firstFound) := goodIn_app (goodIn_of _ (by decide +kernel)) ggX9_walkOn_X9_firstFound
set_option maxRecDepth 20000 in
theorem ggX9_walkOn_X7_has : GoodIn wsX9_walkOn wsX7_has := goodIn_r _ [123, 124, 129, 130] (by decide +kernel) (by decide +kernel)
set_option maxRecDepth 20000 in
theorem gX9_walkOn_X7_has : GoodIn wsX9_walkOn (wsV RX9 53 RX7 yX7_has wsX7_has) := goodIn_app (goodIn_of _ (by decide +kernel)) ggX9_walkOn_X7_has
theorem dX9_walkOn_0 : decode cX9_walkOn 0 = .ok (.iconst 0, 1) := by decide +kernel
theorem dX9_walkOn_1 : decode cX9_walkOn 1 = .ok (.istore 4, 2) := by decide +kernel
theorem dX9_walkOn_3 : decode cX9_walkOn 3 = .ok (.iload 4, 2) := by decide +kernel
theorem dX9_walkOn_5 : decode cX9_walkOn 5 = .ok (.aload_n 0, 1) := by decide +kernel
theorem dX9_walkOn_6 : decode cX9_walkOn 6 = .ok (.getfield 20, 3) := by decide +kernel
theorem dX9_walkOn_9 : decode cX9_walkOn 9 = .ok (.getfield 166, 3) := by decide +kernel
theorem dX9_walkOn_12 : decode cX9_walkOn 12 = .ok (.if_icmp .ge 36, 3) := by decide +kernel
theorem dX9_walkOn_15 : decode cX9_walkOn 15 = .ok (.aload_n 0, 1) := by decide +kernel
theorem dX9_walkOn_16 : decode cX9_walkOn 16 = .ok (.getfield 20, 3) := by decide +kernel
theorem dX9_walkOn_19 : decode cX9_walkOn 19 = .ok (.iload 4, 2) := by decide +kernel
theorem dX9_walkOn_21 : decode cX9_walkOn 21 = .ok (.invokevirtual 83, 3) := by decide +kernel
theorem dX9_walkOn_24 : decode cX9_walkOn 24 = .ok (.astore 5, 2) := by decide +kernel
theorem dX9_walkOn_26 : decode cX9_walkOn 26 = .ok (.aload 5, 2) := by decide +kernel
theorem dX9_walkOn_28 : decode cX9_walkOn 28 = .ok (.iload_n 2, 1) := by decide +kernel
theorem dX9_walkOn_29 : decode cX9_walkOn 29 = .ok (.aload 5, 2) := by decide +kernel
theorem dX9_walkOn_31 : decode cX9_walkOn 31 = .ok (.getfield 228, 3) := by decide +kernel
theorem dX9_walkOn_34 : decode cX9_walkOn 34 = .ok (.isub, 1) := by decide +kernel
theorem dX9_walkOn_35 : decode cX9_walkOn 35 = .ok (.iconst 1, 1) := by decide +kernel
theorem dX9_walkOn_36 : decode cX9_walkOn 36 = .ok (.iadd, 1) := by decide +kernel
theorem dX9_walkOn_37 : decode cX9_walkOn 37 = .ok (.iconst 0, 1) := by decide +kernel
theorem dX9_walkOn_38 : decode cX9_walkOn 38 = .ok (.invokevirtual 116, 3) := by decide +kernel
theorem dX9_walkOn_41 : decode cX9_walkOn 41 = .ok (.pop, 1) := by decide +kernel
theorem dX9_walkOn_42 : decode cX9_walkOn 42 = .ok (.iinc 4 1, 3) := by decide +kernel
theorem dX9_walkOn_45 : decode cX9_walkOn 45 = .ok (.goto (-42), 3) := by decide +kernel
theorem dX9_walkOn_48 : decode cX9_walkOn 48 = .ok (.aload_n 0, 1) := by decide +kernel
theorem dX9_walkOn_49 : decode cX9_walkOn 49 = .ok (.iload_n 1, 1) := by decide +kernel
theorem dX9_walkOn_50 : decode cX9_walkOn 50 = .ok (.invokevirtual 231, 3) := by decide +kernel
theorem dX9_walkOn_53 : decode cX9_walkOn 53 = .ok (.istore 4, 2) := by decide +kernel
theorem dX9_walkOn_55 : decode cX9_walkOn 55 = .ok (.iconst 0, 1) := by decide +kernel
theorem dX9_walkOn_56 : decode cX9_walkOn 56 = .ok (.istore 5, 2) := by decide +kernel
theorem dX9_walkOn_58 : decode cX9_walkOn 58 = .ok (.iload 5, 2) := by decide +kernel
theorem dX9_walkOn_60 : decode cX9_walkOn 60 = .ok (.iload_n 3, 1) := by decide +kernel
theorem dX9_walkOn_61 : decode cX9_walkOn 61 = .ok (.if_icmp .ge 57, 3) := by decide +kernel
theorem dX9_walkOn_64 : decode cX9_walkOn 64 = .ok (.aload_n 0, 1) := by decide +kernel
theorem dX9_walkOn_65 : decode cX9_walkOn 65 = .ok (.getfield 20, 3) := by decide +kernel
theorem dX9_walkOn_68 : decode cX9_walkOn 68 = .ok (.iload 4, 2) := by decide +kernel
theorem dX9_walkOn_70 : decode cX9_walkOn 70 = .ok (.invokevirtual 53, 3) := by decide +kernel
theorem dX9_walkOn_73 : decode cX9_walkOn 73 = .ok (.ifCond .eq 45, 3) := by decide +kernel
theorem dX9_walkOn_76 : decode cX9_walkOn 76 = .ok (.aload_n 0, 1) := by decide +kernel
theorem dX9_walkOn_77 : decode cX9_walkOn 77 = .ok (.getfield 20, 3) := by decide +kernel
theorem dX9_walkOn_80 : decode cX9_walkOn 80 = .ok (.iload 4, 2) := by decide +kernel
theorem dX9_walkOn_82 : decode cX9_walkOn 82 = .ok (.invokevirtual 83, 3) := by decide +kernel
theorem dX9_walkOn_85 : decode cX9_walkOn 85 = .ok (.astore 6, 2) := by decide +kernel
theorem dX9_walkOn_87 : decode cX9_walkOn 87 = .ok (.aload 6, 2) := by decide +kernel
theorem dX9_walkOn_89 : decode cX9_walkOn 89 = .ok (.aload 6, 2) := by decide +kernel
theorem dX9_walkOn_91 : decode cX9_walkOn 91 = .ok (.getfield 145, 3) := by decide +kernel
theorem dX9_walkOn_94 : decode cX9_walkOn 94 = .ok (.aload 6, 2) := by decide +kernel
theorem dX9_walkOn_96 : decode cX9_walkOn 96 = .ok (.getfield 142, 3) := by decide +kernel
theorem dX9_walkOn_99 : decode cX9_walkOn 99 = .ok (.iconst 1, 1) := by decide +kernel
theorem dX9_walkOn_100 : decode cX9_walkOn 100 = .ok (.iadd, 1) := by decide +kernel
theorem dX9_walkOn_101 : decode cX9_walkOn 101 = .ok (.invokevirtual 116, 3) := by decide +kernel
theorem dX9_walkOn_104 : decode cX9_walkOn 104 = .ok (.pop, 1) := by decide +kernel
theorem dX9_walkOn_105 : decode cX9_walkOn 105 = .ok (.aload_n 0, 1) := by decide +kernel
theorem dX9_walkOn_106 : decode cX9_walkOn 106 = .ok (.iload_n 1, 1) := by decide +kernel
theorem dX9_walkOn_107 : decode cX9_walkOn 107 = .ok (.invokevirtual 231, 3) := by decide +kernel
theorem dX9_walkOn_110 : decode cX9_walkOn 110 = .ok (.istore 4, 2) := by decide +kernel
theorem dX9_walkOn_112 : decode cX9_walkOn 112 = .ok (.iinc 5 1, 3) := by decide +kernel
theorem dX9_walkOn_115 : decode cX9_walkOn 115 = .ok (.goto (-57), 3) := by decide +kernel
theorem dX9_walkOn_118 : decode cX9_walkOn 118 = .ok (.iload 4, 2) := by decide +kernel
theorem dX9_walkOn_120 : decode cX9_walkOn 120 = .ok (.ireturn, 1) := by decide +kernel
set_option maxRecDepth 20000 in
theorem ggX9_firstFound_X7_at : GoodIn wsX9_firstFound wsX7_at := goodIn_r _ [9, 10, 20, 21] (by decide +kernel) (by decide +kernel)
set_option maxRecDepth 20000 in
theorem gX9_firstFound_X7_at : GoodIn wsX9_firstFound (wsV RX9 83 RX7 yX7_at wsX7_at) := goodIn_app (goodIn_of _ (by decide +kernel)) ggX9_firstFound_X7_at
set_option maxRecDepth 20000 in
theorem ggX9_firstFound_X7_isOf : GoodIn wsX9_firstFound wsX7_isOf := goodIn_r _ [14, 10, 15, 20, 21, 22, 23, 24, 25, 26, 27, 28, 29, 30, 31, 32, 33, 34, 35, 36] (by decide +kernel) (by decide +kernel)
set_option maxRecDepth 20000 in
theorem gX9_firstFound_X7_isOf : GoodIn wsX9_firstFound (wsV RX9 169 RX7 yX7_isOf wsX7_isOf) := goodIn_app (goodIn_of _ (by decide +kernel)) ggX9_firstFound_X7_isOf
theorem dX9_firstFound_0 : decode cX9_firstFound 0 = .ok (.iconst (-1), 1) := by decide +kernel
theorem dX9_firstFound_1 : decode cX9_firstFound 1 = .ok (.istore_n 2, 1) := by decide +kernel
theorem dX9_firstFound_2 : decode cX9_firstFound 2 = .ok (.ldc 151, 2) := by decide +kernel
theorem dX9_firstFound_4 : decode cX9_firstFound 4 = .ok (.istore_n 3, 1) := by decide +kernel
theorem dX9_firstFound_5 : decode cX9_firstFound 5 = .ok (.iconst 0, 1) := by decide +kernel
theorem dX9_firstFound_6 : decode cX9_firstFound 6 = .ok (.istore 4, 2) := by decide +kernel
theorem dX9_firstFound_8 : decode cX9_firstFound 8 = .ok (.iload 4, 2) := by decide +kernel
theorem dX9_firstFound_10 : decode cX9_firstFound 10 = .ok (.aload_n 0, 1) := by decide +kernel
theorem dX9_firstFound_11 : decode cX9_firstFound 11 = .ok (.getfield 20, 3) := by decide +kernel
theorem dX9_firstFound_14 : decode cX9_firstFound 14 = .ok (.getfield 166, 3) := by decide +kernel
theorem dX9_firstFound_17 : decode cX9_firstFound 17 = .ok (.if_icmp .ge 60, 3) := by decide +kernel
theorem dX9_firstFound_20 : decode cX9_firstFound 20 = .ok (.aload_n 0, 1) := by decide +kernel
theorem dX9_firstFound_21 : decode cX9_firstFound 21 = .ok (.getfield 20, 3) := by decide +kernel
theorem dX9_firstFound_24 : decode cX9_firstFound 24 = .ok (.iload 4, 2) := by decide +kernel
theorem dX9_firstFound_26 : decode cX9_firstFound 26 = .ok (.invokevirtual 83, 3) := by decide +kernel
theorem dX9_firstFound_29 : decode cX9_firstFound 29 = .ok (.astore 5, 2) := by decide +kernel
theorem dX9_firstFound_31 : decode cX9_firstFound 31 = .ok (.aload_n 0, 1) := by decide +kernel
theorem dX9_firstFound_32 : decode cX9_firstFound 32 = .ok (.getfield 20, 3) := by decide +kernel
theorem dX9_firstFound_35 : decode cX9_firstFound 35 = .ok (.iload 4, 2) := by decide +kernel
theorem dX9_firstFound_37 : decode cX9_firstFound 37 = .ok (.iload_n 1, 1) := by decide +kernel
theorem dX9_firstFound_38 : decode cX9_firstFound 38 = .ok (.invokevirtual 169, 3) := by decide +kernel
theorem dX9_firstFound_41 : decode cX9_firstFound 41 = .ok (.ifCond .eq 30, 3) := by decide +kernel
theorem dX9_firstFound_44 : decode cX9_firstFound 44 = .ok (.aload 5, 2) := by decide +kernel
theorem dX9_firstFound_46 : decode cX9_firstFound 46 = .ok (.getfield 142, 3) := by decide +kernel
theorem dX9_firstFound_49 : decode cX9_firstFound 49 = .ok (.iconst (-1), 1) := by decide +kernel
theorem dX9_firstFound_50 : decode cX9_firstFound 50 = .ok (.if_icmp .eq 21, 3) := by decide +kernel
theorem dX9_firstFound_53 : decode cX9_firstFound 53 = .ok (.aload 5, 2) := by decide +kernel
theorem dX9_firstFound_55 : decode cX9_firstFound 55 = .ok (.getfield 145, 3) := by decide +kernel
theorem dX9_firstFound_58 : decode cX9_firstFound 58 = .ok (.iload_n 3, 1) := by decide +kernel
theorem dX9_firstFound_59 : decode cX9_firstFound 59 = .ok (.if_icmp .ge 12, 3) := by decide +kernel
theorem dX9_firstFound_62 : decode cX9_firstFound 62 = .ok (.aload 5, 2) := by decide +kernel
theorem dX9_firstFound_64 : decode cX9_firstFound 64 = .ok (.getfield 145, 3) := by decide +kernel
theorem dX9_firstFound_67 : decode cX9_firstFound 67 = .ok (.istore_n 3, 1) := by decide +kernel
theorem dX9_firstFound_68 : decode cX9_firstFound 68 = .ok (.iload 4, 2) := by decide +kernel
theorem dX9_firstFound_70 : decode cX9_firstFound 70 = .ok (.istore_n 2, 1) := by decide +kernel
theorem dX9_firstFound_71 : decode cX9_firstFound 71 = .ok (.iinc 4 1, 3) := by decide +kernel
theorem dX9_firstFound_74 : decode cX9_firstFound 74 = .ok (.goto (-66), 3) := by decide +kernel
theorem dX9_firstFound_77 : decode cX9_firstFound 77 = .ok (.iload_n 2, 1) := by decide +kernel
theorem dX9_firstFound_78 : decode cX9_firstFound 78 = .ok (.ireturn, 1) := by decide +kernel
set_option maxRecDepth 20000 in
theorem ggX9_movedClash_X0_meet : GoodIn wsX9_movedClash wsX0_meet := goodIn_r _ [12, 13, 14, 15, 16, 6, 17, 18, 19, 20, 21, 11, 22, 23, 24, 25, 26, 27, 28, 29, 30, 31, 32, 33, 34, 35, 36, 37, 38, 39, 40, 41, 42, 43, 44, 45, 46, 47, 48, 49, 50, 51, 52, 53, 54, 55, 56, 57, 58, 59, 60, 61, 62, 63, 64, 65, 66, 67, 68, 69, 70, 71, 72, 73, 74, 75, 76, 77, 78, 79, 80, 81, 82, 83, 84, 85, 86, 87, 88, 89, 90, 91, 92, 93, 94, 95, 96, 97, 98, 99, 100, 101, 102, 103, 104, 105, 106, 107, 108, 109, 110, 111, 112, 113, 114, 115, 116, 117, 118, 119, 120, 121, 122, 123, 124, 125, 126, 127, 128, 129, 130, 131, 132, 133, 134, 135, 136, 137, 138, 139, 140, 141, 142, 143, 144, 145, 146, 147, 148, 149, 150, 151, 152, 153, 154, 155, 156, 157, 158, 159, 160, 161, 162, 163, 164, 165, 166, 167, 168, 169, 170, 171, 172, 173, 174, 175] (by decide +kernel) (by decide +kernel)
set_option maxRecDepth 20000 in
theorem gX9_movedClash_X0_meet : GoodIn wsX9_movedClash (wsV RX9 241 RX0 yX0_meet wsX0_meet) := goodIn_app (goodIn_of _ (by decide +kernel)) ggX9_movedClash_X0_meet
theorem dX9_movedClash_0 : decode cX9_movedClash 0 = .ok (.iload_n 3, 1) := by decide +kernel
theorem dX9_movedClash_1 : decode cX9_movedClash 1 = .ok (.istore 4, 2) := by decide +kernel
theorem dX9_movedClash_3 : decode cX9_movedClash 3 = .ok (.iconst 0, 1) := by decide +kernel
theorem dX9_movedClash_4 : decode cX9_movedClash 4 = .ok (.istore 5, 2) := by decide +kernel
theorem dX9_movedClash_6 : decode cX9_movedClash 6 = .ok (.iload 5, 2) := by decide +kernel
theorem dX9_movedClash_8 : decode cX9_movedClash 8 = .ok (.aload_n 0, 1) := by decide +kernel
theorem dX9_movedClash_9 : decode cX9_movedClash 9 = .ok (.getfield 234, 3) := by decide +kernel
theorem dX9_movedClash_12 : decode cX9_movedClash 12 = .ok (.if_icmp .ge 43, 3) := by decide +kernel
theorem dX9_movedClash_15 : decode cX9_movedClash 15 = .ok (.aload_n 0, 1) := by decide +kernel
theorem dX9_movedClash_16 : decode cX9_movedClash 16 = .ok (.getfield 237, 3) := by decide +kernel
theorem dX9_movedClash_19 : decode cX9_movedClash 19 = .ok (.iload 5, 2) := by decide +kernel
theorem dX9_movedClash_21 : decode cX9_movedClash 21 = .ok (.iaload, 1) := by decide +kernel
theorem dX9_movedClash_22 : decode cX9_movedClash 22 = .ok (.iconst (-1), 1) := by decide +kernel
theorem dX9_movedClash_23 : decode cX9_movedClash 23 = .ok (.if_icmp .eq 26, 3) := by decide +kernel
theorem dX9_movedClash_26 : decode cX9_movedClash 26 = .ok (.iload 4, 2) := by decide +kernel
theorem dX9_movedClash_28 : decode cX9_movedClash 28 = .ok (.aload_n 1, 1) := by decide +kernel
theorem dX9_movedClash_29 : decode cX9_movedClash 29 = .ok (.aload_n 0, 1) := by decide +kernel
theorem dX9_movedClash_30 : decode cX9_movedClash 30 = .ok (.getfield 237, 3) := by decide +kernel
theorem dX9_movedClash_33 : decode cX9_movedClash 33 = .ok (.iload 5, 2) := by decide +kernel
theorem dX9_movedClash_35 : decode cX9_movedClash 35 = .ok (.iaload, 1) := by decide +kernel
theorem dX9_movedClash_36 : decode cX9_movedClash 36 = .ok (.aload_n 0, 1) := by decide +kernel
theorem dX9_movedClash_37 : decode cX9_movedClash 37 = .ok (.getfield 228, 3) := by decide +kernel
theorem dX9_movedClash_40 : decode cX9_movedClash 40 = .ok (.iload_n 2, 1) := by decide +kernel
theorem dX9_movedClash_41 : decode cX9_movedClash 41 = .ok (.invokevirtual 241, 3) := by decide +kernel
theorem dX9_movedClash_44 : decode cX9_movedClash 44 = .ok (.invokestatic 174, 3) := by decide +kernel
theorem dX9_movedClash_47 : decode cX9_movedClash 47 = .ok (.istore 4, 2) := by decide +kernel
theorem dX9_movedClash_49 : decode cX9_movedClash 49 = .ok (.iinc 5 1, 3) := by decide +kernel
theorem dX9_movedClash_52 : decode cX9_movedClash 52 = .ok (.goto (-46), 3) := by decide +kernel
theorem dX9_movedClash_55 : decode cX9_movedClash 55 = .ok (.iconst 0, 1) := by decide +kernel
theorem dX9_movedClash_56 : decode cX9_movedClash 56 = .ok (.istore 5, 2) := by decide +kernel
theorem dX9_movedClash_58 : decode cX9_movedClash 58 = .ok (.iload 5, 2) := by decide +kernel
theorem dX9_movedClash_60 : decode cX9_movedClash 60 = .ok (.aload_n 1, 1) := by decide +kernel
theorem dX9_movedClash_61 : decode cX9_movedClash 61 = .ok (.getfield 234, 3) := by decide +kernel
theorem dX9_movedClash_64 : decode cX9_movedClash 64 = .ok (.if_icmp .ge 43, 3) := by decide +kernel
theorem dX9_movedClash_67 : decode cX9_movedClash 67 = .ok (.aload_n 1, 1) := by decide +kernel
theorem dX9_movedClash_68 : decode cX9_movedClash 68 = .ok (.getfield 237, 3) := by decide +kernel
theorem dX9_movedClash_71 : decode cX9_movedClash 71 = .ok (.iload 5, 2) := by decide +kernel
theorem dX9_movedClash_73 : decode cX9_movedClash 73 = .ok (.iaload, 1) := by decide +kernel
theorem dX9_movedClash_74 : decode cX9_movedClash 74 = .ok (.iconst (-1), 1) := by decide +kernel
theorem dX9_movedClash_75 : decode cX9_movedClash 75 = .ok (.if_icmp .eq 26, 3) := by decide +kernel
theorem dX9_movedClash_78 : decode cX9_movedClash 78 = .ok (.iload 4, 2) := by decide +kernel
theorem dX9_movedClash_80 : decode cX9_movedClash 80 = .ok (.aload_n 0, 1) := by decide +kernel
theorem dX9_movedClash_81 : decode cX9_movedClash 81 = .ok (.aload_n 1, 1) := by decide +kernel
theorem dX9_movedClash_82 : decode cX9_movedClash 82 = .ok (.getfield 237, 3) := by decide +kernel
theorem dX9_movedClash_85 : decode cX9_movedClash 85 = .ok (.iload 5, 2) := by decide +kernel
theorem dX9_movedClash_87 : decode cX9_movedClash 87 = .ok (.iaload, 1) := by decide +kernel
theorem dX9_movedClash_88 : decode cX9_movedClash 88 = .ok (.aload_n 1, 1) := by decide +kernel
theorem dX9_movedClash_89 : decode cX9_movedClash 89 = .ok (.getfield 228, 3) := by decide +kernel
theorem dX9_movedClash_92 : decode cX9_movedClash 92 = .ok (.iload_n 2, 1) := by decide +kernel
theorem dX9_movedClash_93 : decode cX9_movedClash 93 = .ok (.invokevirtual 241, 3) := by decide +kernel
theorem dX9_movedClash_96 : decode cX9_movedClash 96 = .ok (.invokestatic 174, 3) := by decide +kernel
theorem dX9_movedClash_99 : decode cX9_movedClash 99 = .ok (.istore 4, 2) := by decide +kernel
theorem dX9_movedClash_101 : decode cX9_movedClash 101 = .ok (.iinc 5 1, 3) := by decide +kernel
theorem dX9_movedClash_104 : decode cX9_movedClash 104 = .ok (.goto (-46), 3) := by decide +kernel
theorem dX9_movedClash_107 : decode cX9_movedClash 107 = .ok (.iload 4, 2) := by decide +kernel
theorem dX9_movedClash_109 : decode cX9_movedClash 109 = .ok (.ireturn, 1) := by decide +kernel
set_option maxRecDepth 20000 in
theorem ggX9_ruledClash_X9_lastKeyToTry : GoodIn wsX9_ruledClash wsX9_lastKeyToTry := goodIn_r _ [15, 16, 7, 2, 3, 4, 5, 6, 17, 18, 19, 20, 21, 22, 23, 24, 25, 26, 27, 28, 29, 30, 31, 32, 33, 34, 35, 36, 14, 37, 38, 39, 40, 41, 42, 43, 44, 45, 46, 47, 48, 49, 50, 51, 180, 181, 182, 183, 184, 185, 186, 187, 188, 189, 190, 191, 192, 193, 194, 195, 196, 197, 198, 199, 200, 201, 202, 203, 204, 205, 206, 207, 208, 209, 210, 211] (by decide +kernel) (by decide +kernel)
set_option maxRecDepth 20000 in
theorem gX9_ruledClash_X9_lastKeyToTry : GoodIn wsX9_ruledClash (va_wsS RX9 247 yX9_lastKeyToTry wsX9_lastKeyToTry) := goodIn_app (goodIn_of _ (by decide +kernel)) ggX9_ruledClash_X9_lastKeyToTry
set_option maxRecDepth 20000 in
theorem ggX9_ruledClash_X0_keyFrom : GoodIn wsX9_ruledClash wsX0_keyFrom := goodIn_r _ [56, 57, 58, 59, 60, 61, 62, 63, 26, 64, 65, 66, 28, 67, 68, 69, 31, 70, 71, 72, 73, 4, 5, 6, 34, 74, 75, 76, 77, 78, 79, 80, 81, 82, 83, 84, 85, 86, 87, 88, 89, 90, 91, 92, 93, 94, 95, 96, 43, 97, 98, 99, 100, 101, 47, 102, 103, 104, 105, 106, 50, 107, 108, 109, 110, 111, 112, 180, 181, 182, 183, 184, 185, 186, 187, 188, 189, 190, 191, 192, 193, 194, 195, 196, 197, 198, 199, 200, 201, 202, 203, 204, 205, 212, 213, 214, 206, 207, 208, 209, 210, 211] (by decide +kernel) (by decide +kernel)
set_option maxRecDepth 20000 in
theorem gX9_ruledClash_X0_keyFrom : GoodIn wsX9_ruledClash (wsV RX9 87 RX0 yX0_keyFrom wsX0_keyFrom) := goodIn_app (goodIn_of _ (by decide +kernel)) ggX9_ruledClash_X0_keyFrom
set_option maxRecDepth 20000 in
theorem ggX9_ruledClash_X0_timeOf : GoodIn wsX9_ruledClash wsX0_timeOf := goodIn_r _ [116, 117, 180, 181, 182, 183, 184, 185, 186, 187, 188, 189, 190, 191, 192, 193, 194] (by decide +kernel) (by decide +kernel)
set_option maxRecDepth 20000 in
theorem gX9_ruledClash_X0_timeOf : GoodIn wsX9_ruledClash (wsV RX9 257 RX0 yX0_timeOf wsX0_timeOf) := goodIn_app (goodIn_of _ (by decide +kernel)) ggX9_ruledClash_X0_timeOf
set_option maxRecDepth 20000 in
theorem ggX9_ruledClash_X0_ruledFrom : GoodIn wsX9_ruledClash wsX0_ruledFrom := goodIn_r _ [121, 117, 122, 123, 124, 125, 180, 181, 182, 183, 184, 185, 186, 187, 188, 189, 190, 191, 192, 193, 194] (by decide +kernel) (by decide +kernel)
set_option maxRecDepth 20000 in
theorem gX9_ruledClash_X0_ruledFrom : GoodIn wsX9_ruledClash (wsV RX9 260 RX0 yX0_ruledFrom wsX0_ruledFrom) := goodIn_app (goodIn_of _ (by decide +kernel)) ggX9_ruledClash_X0_ruledFrom
set_option maxRecDepth 20000 in
theorem ggX9_ruledClash_X0_changeOf : GoodIn wsX9_ruledClash wsX0_changeOf := goodIn_r _ [129, 130, 131, 180, 181, 182, 183, 184, 185, 186, 187, 188, 189, 190, 191, 192, 193, 194] (by decide +kernel) (by decide +kernel)
set_option maxRecDepth 20000 in
theorem gX9_ruledClash_X0_changeOf : GoodIn wsX9_ruledClash (wsV RX9 263 RX0 yX0_changeOf wsX0_changeOf) := goodIn_app (goodIn_of _ (by decide +kernel)) ggX9_ruledClash_X0_changeOf
set_option maxRecDepth 20000 in
theorem ggX9_ruledClash_X0_meet : GoodIn wsX9_ruledClash wsX0_meet := goodIn_r _ [135, 136, 137, 138, 4, 5, 6, 139, 140, 141, 142, 55, 143, 130, 144, 145, 131, 146, 147, 148, 149, 117, 122, 123, 124, 125, 150, 151, 152, 153, 57, 58, 59, 154, 155, 156, 157, 26, 158, 65, 66, 28, 159, 160, 31, 161, 78, 34, 71, 72, 79, 80, 81, 82, 83, 84, 85, 86, 87, 88, 89, 90, 91, 92, 93, 94, 162, 163, 43, 164, 98, 99, 165, 166, 47, 167, 103, 104, 106, 50, 168, 169, 170, 171, 112, 172, 127, 128, 129, 173, 114, 115, 116, 174, 175, 176, 177, 178, 119, 120, 121, 179, 53, 54, 56, 60, 61, 62, 63, 64, 67, 68, 69, 70, 73, 74, 75, 76, 77, 95, 96, 97, 100, 101, 102, 105, 107, 108, 109, 110, 111, 180, 181, 182, 183, 184, 185, 186, 187, 188, 189, 190, 191, 192, 193, 194, 195, 196, 197, 198, 199, 200, 201, 202, 203, 204, 205, 212, 213, 214, 206, 207, 208, 209, 210, 211] (by decide +kernel) (by decide +kernel)
set_option maxRecDepth 20000 in
theorem gX9_ruledClash_X0_meet : GoodIn wsX9_ruledClash (wsV RX9 241 RX0 yX0_meet wsX0_meet) := goodIn_app (goodIn_of _ (by decide +kernel)) ggX9_ruledClash_X0_meet
theorem dX9_ruledClash_0 : decode cX9_ruledClash 0 = .ok (.aload_n 0, 1) := by decide +kernel
theorem dX9_ruledClash_1 : decode cX9_ruledClash 1 = .ok (.getfield 244, 3) := by decide +kernel
theorem dX9_ruledClash_4 : decode cX9_ruledClash 4 = .ok (.aload_n 1, 1) := by decide +kernel
theorem dX9_ruledClash_5 : decode cX9_ruledClash 5 = .ok (.getfield 244, 3) := by decide +kernel
theorem dX9_ruledClash_8 : decode cX9_ruledClash 8 = .ok (.if_icmp .gt 7, 3) := by decide +kernel
theorem dX9_ruledClash_11 : decode cX9_ruledClash 11 = .ok (.aload_n 0, 1) := by decide +kernel
theorem dX9_ruledClash_12 : decode cX9_ruledClash 12 = .ok (.goto 4, 3) := by decide +kernel
theorem dX9_ruledClash_15 : decode cX9_ruledClash 15 = .ok (.aload_n 1, 1) := by decide +kernel
theorem dX9_ruledClash_16 : decode cX9_ruledClash 16 = .ok (.astore 4, 2) := by decide +kernel
theorem dX9_ruledClash_18 : decode cX9_ruledClash 18 = .ok (.aload_n 0, 1) := by decide +kernel
theorem dX9_ruledClash_19 : decode cX9_ruledClash 19 = .ok (.getfield 244, 3) := by decide +kernel
theorem dX9_ruledClash_22 : decode cX9_ruledClash 22 = .ok (.aload_n 1, 1) := by decide +kernel
theorem dX9_ruledClash_23 : decode cX9_ruledClash 23 = .ok (.getfield 244, 3) := by decide +kernel
theorem dX9_ruledClash_26 : decode cX9_ruledClash 26 = .ok (.if_icmp .gt 7, 3) := by decide +kernel
theorem dX9_ruledClash_29 : decode cX9_ruledClash 29 = .ok (.aload_n 1, 1) := by decide +kernel
theorem dX9_ruledClash_30 : decode cX9_ruledClash 30 = .ok (.goto 4, 3) := by decide +kernel
theorem dX9_ruledClash_33 : decode cX9_ruledClash 33 = .ok (.aload_n 0, 1) := by decide +kernel
theorem dX9_ruledClash_34 : decode cX9_ruledClash 34 = .ok (.astore 5, 2) := by decide +kernel
theorem dX9_ruledClash_36 : decode cX9_ruledClash 36 = .ok (.iload_n 3, 1) := by decide +kernel
theorem dX9_ruledClash_37 : decode cX9_ruledClash 37 = .ok (.istore 6, 2) := by decide +kernel
theorem dX9_ruledClash_39 : decode cX9_ruledClash 39 = .ok (.aload 4, 2) := by decide +kernel
theorem dX9_ruledClash_41 : decode cX9_ruledClash 41 = .ok (.aload 5, 2) := by decide +kernel
theorem dX9_ruledClash_43 : decode cX9_ruledClash 43 = .ok (.iload_n 2, 1) := by decide +kernel
theorem dX9_ruledClash_44 : decode cX9_ruledClash 44 = .ok (.invokestatic 247, 3) := by decide +kernel
theorem dX9_ruledClash_47 : decode cX9_ruledClash 47 = .ok (.istore 7, 2) := by decide +kernel
theorem dX9_ruledClash_49 : decode cX9_ruledClash 49 = .ok (.aload 4, 2) := by decide +kernel
theorem dX9_ruledClash_51 : decode cX9_ruledClash 51 = .ok (.iload_n 2, 1) := by decide +kernel
theorem dX9_ruledClash_52 : decode cX9_ruledClash 52 = .ok (.sipush 1440, 3) := by decide +kernel
theorem dX9_ruledClash_55 : decode cX9_ruledClash 55 = .ok (.idiv, 1) := by decide +kernel
theorem dX9_ruledClash_56 : decode cX9_ruledClash 56 = .ok (.aload 5, 2) := by decide +kernel
theorem dX9_ruledClash_58 : decode cX9_ruledClash 58 = .ok (.getfield 251, 3) := by decide +kernel
theorem dX9_ruledClash_61 : decode cX9_ruledClash 61 = .ok (.invokestatic 254, 3) := by decide +kernel
theorem dX9_ruledClash_64 : decode cX9_ruledClash 64 = .ok (.iconst 4, 1) := by decide +kernel
theorem dX9_ruledClash_65 : decode cX9_ruledClash 65 = .ok (.isub, 1) := by decide +kernel
theorem dX9_ruledClash_66 : decode cX9_ruledClash 66 = .ok (.invokevirtual 87, 3) := by decide +kernel
theorem dX9_ruledClash_69 : decode cX9_ruledClash 69 = .ok (.istore 8, 2) := by decide +kernel
theorem dX9_ruledClash_71 : decode cX9_ruledClash 71 = .ok (.iconst 0, 1) := by decide +kernel
theorem dX9_ruledClash_72 : decode cX9_ruledClash 72 = .ok (.istore 9, 2) := by decide +kernel
theorem dX9_ruledClash_74 : decode cX9_ruledClash 74 = .ok (.iload 9, 2) := by decide +kernel
theorem dX9_ruledClash_76 : decode cX9_ruledClash 76 = .ok (.ldc 185, 2) := by decide +kernel
theorem dX9_ruledClash_78 : decode cX9_ruledClash 78 = .ok (.if_icmp .gt 157, 3) := by decide +kernel
theorem dX9_ruledClash_81 : decode cX9_ruledClash 81 = .ok (.iload 8, 2) := by decide +kernel
theorem dX9_ruledClash_83 : decode cX9_ruledClash 83 = .ok (.iconst (-1), 1) := by decide +kernel
theorem dX9_ruledClash_84 : decode cX9_ruledClash 84 = .ok (.if_icmp .eq 151, 3) := by decide +kernel
theorem dX9_ruledClash_87 : decode cX9_ruledClash 87 = .ok (.iload 8, 2) := by decide +kernel
theorem dX9_ruledClash_89 : decode cX9_ruledClash 89 = .ok (.iload 7, 2) := by decide +kernel
theorem dX9_ruledClash_91 : decode cX9_ruledClash 91 = .ok (.if_icmp .gt 144, 3) := by decide +kernel
theorem dX9_ruledClash_94 : decode cX9_ruledClash 94 = .ok (.aload 4, 2) := by decide +kernel
theorem dX9_ruledClash_96 : decode cX9_ruledClash 96 = .ok (.iload 8, 2) := by decide +kernel
theorem dX9_ruledClash_98 : decode cX9_ruledClash 98 = .ok (.invokevirtual 257, 3) := by decide +kernel
theorem dX9_ruledClash_101 : decode cX9_ruledClash 101 = .ok (.iload 6, 2) := by decide +kernel
theorem dX9_ruledClash_103 : decode cX9_ruledClash 103 = .ok (.if_icmp .ge 132, 3) := by decide +kernel
theorem dX9_ruledClash_106 : decode cX9_ruledClash 106 = .ok (.aload 4, 2) := by decide +kernel
theorem dX9_ruledClash_108 : decode cX9_ruledClash 108 = .ok (.iload 8, 2) := by decide +kernel
theorem dX9_ruledClash_110 : decode cX9_ruledClash 110 = .ok (.invokevirtual 257, 3) := by decide +kernel
theorem dX9_ruledClash_113 : decode cX9_ruledClash 113 = .ok (.istore 10, 2) := by decide +kernel
theorem dX9_ruledClash_115 : decode cX9_ruledClash 115 = .ok (.aload 5, 2) := by decide +kernel
theorem dX9_ruledClash_117 : decode cX9_ruledClash 117 = .ok (.aload 5, 2) := by decide +kernel
theorem dX9_ruledClash_119 : decode cX9_ruledClash 119 = .ok (.iload 10, 2) := by decide +kernel
theorem dX9_ruledClash_121 : decode cX9_ruledClash 121 = .ok (.aload 5, 2) := by decide +kernel
theorem dX9_ruledClash_123 : decode cX9_ruledClash 123 = .ok (.getfield 228, 3) := by decide +kernel
theorem dX9_ruledClash_126 : decode cX9_ruledClash 126 = .ok (.isub, 1) := by decide +kernel
theorem dX9_ruledClash_127 : decode cX9_ruledClash 127 = .ok (.iconst 1, 1) := by decide +kernel
theorem dX9_ruledClash_128 : decode cX9_ruledClash 128 = .ok (.iadd, 1) := by decide +kernel
theorem dX9_ruledClash_129 : decode cX9_ruledClash 129 = .ok (.invokevirtual 260, 3) := by decide +kernel
theorem dX9_ruledClash_132 : decode cX9_ruledClash 132 = .ok (.invokevirtual 87, 3) := by decide +kernel
theorem dX9_ruledClash_135 : decode cX9_ruledClash 135 = .ok (.istore 11, 2) := by decide +kernel
theorem dX9_ruledClash_137 : decode cX9_ruledClash 137 = .ok (.iload 11, 2) := by decide +kernel
theorem dX9_ruledClash_139 : decode cX9_ruledClash 139 = .ok (.iconst (-1), 1) := by decide +kernel
theorem dX9_ruledClash_140 : decode cX9_ruledClash 140 = .ok (.if_icmp .ne 6, 3) := by decide +kernel
theorem dX9_ruledClash_143 : decode cX9_ruledClash 143 = .ok (.iload 6, 2) := by decide +kernel
theorem dX9_ruledClash_145 : decode cX9_ruledClash 145 = .ok (.ireturn, 1) := by decide +kernel
theorem dX9_ruledClash_146 : decode cX9_ruledClash 146 = .ok (.aload 4, 2) := by decide +kernel
theorem dX9_ruledClash_148 : decode cX9_ruledClash 148 = .ok (.aload 5, 2) := by decide +kernel
theorem dX9_ruledClash_150 : decode cX9_ruledClash 150 = .ok (.iload 11, 2) := by decide +kernel
theorem dX9_ruledClash_152 : decode cX9_ruledClash 152 = .ok (.invokevirtual 257, 3) := by decide +kernel
theorem dX9_ruledClash_155 : decode cX9_ruledClash 155 = .ok (.aload 4, 2) := by decide +kernel
theorem dX9_ruledClash_157 : decode cX9_ruledClash 157 = .ok (.getfield 228, 3) := by decide +kernel
theorem dX9_ruledClash_160 : decode cX9_ruledClash 160 = .ok (.isub, 1) := by decide +kernel
theorem dX9_ruledClash_161 : decode cX9_ruledClash 161 = .ok (.iconst 1, 1) := by decide +kernel
theorem dX9_ruledClash_162 : decode cX9_ruledClash 162 = .ok (.iadd, 1) := by decide +kernel
theorem dX9_ruledClash_163 : decode cX9_ruledClash 163 = .ok (.invokevirtual 260, 3) := by decide +kernel
theorem dX9_ruledClash_166 : decode cX9_ruledClash 166 = .ok (.istore 12, 2) := by decide +kernel
theorem dX9_ruledClash_168 : decode cX9_ruledClash 168 = .ok (.iload 12, 2) := by decide +kernel
theorem dX9_ruledClash_170 : decode cX9_ruledClash 170 = .ok (.iload 8, 2) := by decide +kernel
theorem dX9_ruledClash_172 : decode cX9_ruledClash 172 = .ok (.if_icmp .le 15, 3) := by decide +kernel
theorem dX9_ruledClash_175 : decode cX9_ruledClash 175 = .ok (.aload 4, 2) := by decide +kernel
theorem dX9_ruledClash_177 : decode cX9_ruledClash 177 = .ok (.iload 12, 2) := by decide +kernel
theorem dX9_ruledClash_179 : decode cX9_ruledClash 179 = .ok (.invokevirtual 87, 3) := by decide +kernel
theorem dX9_ruledClash_182 : decode cX9_ruledClash 182 = .ok (.istore 8, 2) := by decide +kernel
theorem dX9_ruledClash_184 : decode cX9_ruledClash 184 = .ok (.goto 45, 3) := by decide +kernel
theorem dX9_ruledClash_187 : decode cX9_ruledClash 187 = .ok (.aload 4, 2) := by decide +kernel
theorem dX9_ruledClash_189 : decode cX9_ruledClash 189 = .ok (.iload 8, 2) := by decide +kernel
theorem dX9_ruledClash_191 : decode cX9_ruledClash 191 = .ok (.invokevirtual 263, 3) := by decide +kernel
theorem dX9_ruledClash_194 : decode cX9_ruledClash 194 = .ok (.iconst (-1), 1) := by decide +kernel
theorem dX9_ruledClash_195 : decode cX9_ruledClash 195 = .ok (.if_icmp .ne 23, 3) := by decide +kernel
theorem dX9_ruledClash_198 : decode cX9_ruledClash 198 = .ok (.iload 6, 2) := by decide +kernel
theorem dX9_ruledClash_200 : decode cX9_ruledClash 200 = .ok (.aload 5, 2) := by decide +kernel
theorem dX9_ruledClash_202 : decode cX9_ruledClash 202 = .ok (.iload 10, 2) := by decide +kernel
theorem dX9_ruledClash_204 : decode cX9_ruledClash 204 = .ok (.aload 4, 2) := by decide +kernel
theorem dX9_ruledClash_206 : decode cX9_ruledClash 206 = .ok (.getfield 228, 3) := by decide +kernel
theorem dX9_ruledClash_209 : decode cX9_ruledClash 209 = .ok (.iload_n 2, 1) := by decide +kernel
theorem dX9_ruledClash_210 : decode cX9_ruledClash 210 = .ok (.invokevirtual 241, 3) := by decide +kernel
theorem dX9_ruledClash_213 : decode cX9_ruledClash 213 = .ok (.invokestatic 174, 3) := by decide +kernel
theorem dX9_ruledClash_216 : decode cX9_ruledClash 216 = .ok (.istore 6, 2) := by decide +kernel
theorem dX9_ruledClash_218 : decode cX9_ruledClash 218 = .ok (.aload 4, 2) := by decide +kernel
theorem dX9_ruledClash_220 : decode cX9_ruledClash 220 = .ok (.iload 8, 2) := by decide +kernel
theorem dX9_ruledClash_222 : decode cX9_ruledClash 222 = .ok (.iconst 1, 1) := by decide +kernel
theorem dX9_ruledClash_223 : decode cX9_ruledClash 223 = .ok (.iadd, 1) := by decide +kernel
