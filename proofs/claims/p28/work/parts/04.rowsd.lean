theorem dX8_daysIn_15 : decode cX8_daysIn 15 = .ok (.isub, 1) := by decide +kernel
theorem dX8_daysIn_16 : decode cX8_daysIn 16 = .ok (.invokevirtual 43, 3) := by decide +kernel
theorem dX8_daysIn_19 : decode cX8_daysIn 19 = .ok (.isub, 1) := by decide +kernel
theorem dX8_daysIn_20 : decode cX8_daysIn 20 = .ok (.ireturn, 1) := by decide +kernel
set_option maxRecDepth 20000 in
theorem ggX8_daysUpTo_J6_bitCount_0f7a4 : GoodIn wsX8_daysUpTo wsJ6_bitCount_0f7a4 := goodIn_r _ [7, 8, 9, 10] (by decide +kernel) (by decide +kernel)
set_option maxRecDepth 20000 in
theorem gX8_daysUpTo_J6_bitCount_0f7a4 : GoodIn wsX8_daysUpTo (va_wsS RX8 46 yJ6_bitCount_0f7a4 wsJ6_bitCount_0f7a4) := goodIn_app (goodIn_of _ (by decide +kernel)) ggX8_daysUpTo_J6_bitCount_0f7a4
theorem dX8_daysUpTo_0 : decode cX8_daysUpTo 0 = .ok (.iload_n 1, 1) := by decide +kernel
theorem dX8_daysUpTo_1 : decode cX8_daysUpTo 1 = .ok (.aload_n 0, 1) := by decide +kernel
theorem dX8_daysUpTo_2 : decode cX8_daysUpTo 2 = .ok (.getfield 30, 3) := by decide +kernel
theorem dX8_daysUpTo_5 : decode cX8_daysUpTo 5 = .ok (.if_icmp .ge 5, 3) := by decide +kernel
theorem dX8_daysUpTo_8 : decode cX8_daysUpTo 8 = .ok (.iconst 0, 1) := by decide +kernel
theorem dX8_daysUpTo_9 : decode cX8_daysUpTo 9 = .ok (.ireturn, 1) := by decide +kernel
theorem dX8_daysUpTo_10 : decode cX8_daysUpTo 10 = .ok (.iload_n 1, 1) := by decide +kernel
theorem dX8_daysUpTo_11 : decode cX8_daysUpTo 11 = .ok (.aload_n 0, 1) := by decide +kernel
theorem dX8_daysUpTo_12 : decode cX8_daysUpTo 12 = .ok (.getfield 30, 3) := by decide +kernel
theorem dX8_daysUpTo_15 : decode cX8_daysUpTo 15 = .ok (.isub, 1) := by decide +kernel
theorem dX8_daysUpTo_16 : decode cX8_daysUpTo 16 = .ok (.bipush 7, 2) := by decide +kernel
theorem dX8_daysUpTo_18 : decode cX8_daysUpTo 18 = .ok (.idiv, 1) := by decide +kernel
theorem dX8_daysUpTo_19 : decode cX8_daysUpTo 19 = .ok (.istore_n 2, 1) := by decide +kernel
theorem dX8_daysUpTo_20 : decode cX8_daysUpTo 20 = .ok (.iload_n 2, 1) := by decide +kernel
theorem dX8_daysUpTo_21 : decode cX8_daysUpTo 21 = .ok (.aload_n 0, 1) := by decide +kernel
theorem dX8_daysUpTo_22 : decode cX8_daysUpTo 22 = .ok (.getfield 15, 3) := by decide +kernel
theorem dX8_daysUpTo_25 : decode cX8_daysUpTo 25 = .ok (.iadd, 1) := by decide +kernel
theorem dX8_daysUpTo_26 : decode cX8_daysUpTo 26 = .ok (.iconst 1, 1) := by decide +kernel
theorem dX8_daysUpTo_27 : decode cX8_daysUpTo 27 = .ok (.isub, 1) := by decide +kernel
theorem dX8_daysUpTo_28 : decode cX8_daysUpTo 28 = .ok (.aload_n 0, 1) := by decide +kernel
theorem dX8_daysUpTo_29 : decode cX8_daysUpTo 29 = .ok (.getfield 15, 3) := by decide +kernel
theorem dX8_daysUpTo_32 : decode cX8_daysUpTo 32 = .ok (.idiv, 1) := by decide +kernel
theorem dX8_daysUpTo_33 : decode cX8_daysUpTo 33 = .ok (.aload_n 0, 1) := by decide +kernel
theorem dX8_daysUpTo_34 : decode cX8_daysUpTo 34 = .ok (.getfield 21, 3) := by decide +kernel
theorem dX8_daysUpTo_37 : decode cX8_daysUpTo 37 = .ok (.invokestatic 46, 3) := by decide +kernel
theorem dX8_daysUpTo_40 : decode cX8_daysUpTo 40 = .ok (.imul, 1) := by decide +kernel
theorem dX8_daysUpTo_41 : decode cX8_daysUpTo 41 = .ok (.istore_n 3, 1) := by decide +kernel
theorem dX8_daysUpTo_42 : decode cX8_daysUpTo 42 = .ok (.iload_n 2, 1) := by decide +kernel
theorem dX8_daysUpTo_43 : decode cX8_daysUpTo 43 = .ok (.aload_n 0, 1) := by decide +kernel
theorem dX8_daysUpTo_44 : decode cX8_daysUpTo 44 = .ok (.getfield 15, 3) := by decide +kernel
theorem dX8_daysUpTo_47 : decode cX8_daysUpTo 47 = .ok (.irem, 1) := by decide +kernel
theorem dX8_daysUpTo_48 : decode cX8_daysUpTo 48 = .ok (.ifCond .eq 5, 3) := by decide +kernel
theorem dX8_daysUpTo_51 : decode cX8_daysUpTo 51 = .ok (.iload_n 3, 1) := by decide +kernel
theorem dX8_daysUpTo_52 : decode cX8_daysUpTo 52 = .ok (.ireturn, 1) := by decide +kernel
theorem dX8_daysUpTo_53 : decode cX8_daysUpTo 53 = .ok (.iconst 2, 1) := by decide +kernel
theorem dX8_daysUpTo_54 : decode cX8_daysUpTo 54 = .ok (.iload_n 1, 1) := by decide +kernel
theorem dX8_daysUpTo_55 : decode cX8_daysUpTo 55 = .ok (.aload_n 0, 1) := by decide +kernel
theorem dX8_daysUpTo_56 : decode cX8_daysUpTo 56 = .ok (.getfield 30, 3) := by decide +kernel
theorem dX8_daysUpTo_59 : decode cX8_daysUpTo 59 = .ok (.isub, 1) := by decide +kernel
theorem dX8_daysUpTo_60 : decode cX8_daysUpTo 60 = .ok (.bipush 7, 2) := by decide +kernel
theorem dX8_daysUpTo_62 : decode cX8_daysUpTo 62 = .ok (.irem, 1) := by decide +kernel
theorem dX8_daysUpTo_63 : decode cX8_daysUpTo 63 = .ok (.ishl, 1) := by decide +kernel
theorem dX8_daysUpTo_64 : decode cX8_daysUpTo 64 = .ok (.iconst 1, 1) := by decide +kernel
theorem dX8_daysUpTo_65 : decode cX8_daysUpTo 65 = .ok (.isub, 1) := by decide +kernel
theorem dX8_daysUpTo_66 : decode cX8_daysUpTo 66 = .ok (.istore 4, 2) := by decide +kernel
theorem dX8_daysUpTo_68 : decode cX8_daysUpTo 68 = .ok (.iload_n 3, 1) := by decide +kernel
theorem dX8_daysUpTo_69 : decode cX8_daysUpTo 69 = .ok (.aload_n 0, 1) := by decide +kernel
theorem dX8_daysUpTo_70 : decode cX8_daysUpTo 70 = .ok (.getfield 21, 3) := by decide +kernel
theorem dX8_daysUpTo_73 : decode cX8_daysUpTo 73 = .ok (.iload 4, 2) := by decide +kernel
theorem dX8_daysUpTo_75 : decode cX8_daysUpTo 75 = .ok (.iand, 1) := by decide +kernel
theorem dX8_daysUpTo_76 : decode cX8_daysUpTo 76 = .ok (.invokestatic 46, 3) := by decide +kernel
theorem dX8_daysUpTo_79 : decode cX8_daysUpTo 79 = .ok (.iadd, 1) := by decide +kernel
theorem dX8_daysUpTo_80 : decode cX8_daysUpTo 80 = .ok (.ireturn, 1) := by decide +kernel
theorem dX8_firstWeekday_0 : decode cX8_firstWeekday 0 = .ok (.iload_n 1, 1) := by decide +kernel
theorem dX8_firstWeekday_1 : decode cX8_firstWeekday 1 = .ok (.istore_n 2, 1) := by decide +kernel
theorem dX8_firstWeekday_2 : decode cX8_firstWeekday 2 = .ok (.iload_n 2, 1) := by decide +kernel
theorem dX8_firstWeekday_3 : decode cX8_firstWeekday 3 = .ok (.bipush 7, 2) := by decide +kernel
theorem dX8_firstWeekday_5 : decode cX8_firstWeekday 5 = .ok (.if_icmp .ge 23, 3) := by decide +kernel
theorem dX8_firstWeekday_8 : decode cX8_firstWeekday 8 = .ok (.aload_n 0, 1) := by decide +kernel
theorem dX8_firstWeekday_9 : decode cX8_firstWeekday 9 = .ok (.getfield 21, 3) := by decide +kernel
theorem dX8_firstWeekday_12 : decode cX8_firstWeekday 12 = .ok (.iload_n 2, 1) := by decide +kernel
theorem dX8_firstWeekday_13 : decode cX8_firstWeekday 13 = .ok (.ishr, 1) := by decide +kernel
theorem dX8_firstWeekday_14 : decode cX8_firstWeekday 14 = .ok (.iconst 1, 1) := by decide +kernel
theorem dX8_firstWeekday_15 : decode cX8_firstWeekday 15 = .ok (.iand, 1) := by decide +kernel
theorem dX8_firstWeekday_16 : decode cX8_firstWeekday 16 = .ok (.iconst 1, 1) := by decide +kernel
theorem dX8_firstWeekday_17 : decode cX8_firstWeekday 17 = .ok (.if_icmp .ne 5, 3) := by decide +kernel
theorem dX8_firstWeekday_20 : decode cX8_firstWeekday 20 = .ok (.iload_n 2, 1) := by decide +kernel
theorem dX8_firstWeekday_21 : decode cX8_firstWeekday 21 = .ok (.ireturn, 1) := by decide +kernel
theorem dX8_firstWeekday_22 : decode cX8_firstWeekday 22 = .ok (.iinc 2 1, 3) := by decide +kernel
theorem dX8_firstWeekday_25 : decode cX8_firstWeekday 25 = .ok (.goto (-23), 3) := by decide +kernel
theorem dX8_firstWeekday_28 : decode cX8_firstWeekday 28 = .ok (.iconst (-1), 1) := by decide +kernel
theorem dX8_firstWeekday_29 : decode cX8_firstWeekday 29 = .ok (.ireturn, 1) := by decide +kernel
theorem dX8_lastWeekday_0 : decode cX8_lastWeekday 0 = .ok (.iload_n 1, 1) := by decide +kernel
theorem dX8_lastWeekday_1 : decode cX8_lastWeekday 1 = .ok (.istore_n 2, 1) := by decide +kernel
theorem dX8_lastWeekday_2 : decode cX8_lastWeekday 2 = .ok (.iload_n 2, 1) := by decide +kernel
theorem dX8_lastWeekday_3 : decode cX8_lastWeekday 3 = .ok (.ifCond .lt 23, 3) := by decide +kernel
theorem dX8_lastWeekday_6 : decode cX8_lastWeekday 6 = .ok (.aload_n 0, 1) := by decide +kernel
theorem dX8_lastWeekday_7 : decode cX8_lastWeekday 7 = .ok (.getfield 21, 3) := by decide +kernel
theorem dX8_lastWeekday_10 : decode cX8_lastWeekday 10 = .ok (.iload_n 2, 1) := by decide +kernel
theorem dX8_lastWeekday_11 : decode cX8_lastWeekday 11 = .ok (.ishr, 1) := by decide +kernel
theorem dX8_lastWeekday_12 : decode cX8_lastWeekday 12 = .ok (.iconst 1, 1) := by decide +kernel
theorem dX8_lastWeekday_13 : decode cX8_lastWeekday 13 = .ok (.iand, 1) := by decide +kernel
theorem dX8_lastWeekday_14 : decode cX8_lastWeekday 14 = .ok (.iconst 1, 1) := by decide +kernel
theorem dX8_lastWeekday_15 : decode cX8_lastWeekday 15 = .ok (.if_icmp .ne 5, 3) := by decide +kernel
theorem dX8_lastWeekday_18 : decode cX8_lastWeekday 18 = .ok (.iload_n 2, 1) := by decide +kernel
theorem dX8_lastWeekday_19 : decode cX8_lastWeekday 19 = .ok (.ireturn, 1) := by decide +kernel
theorem dX8_lastWeekday_20 : decode cX8_lastWeekday 20 = .ok (.iinc 2 (-1), 3) := by decide +kernel
theorem dX8_lastWeekday_23 : decode cX8_lastWeekday 23 = .ok (.goto (-21), 3) := by decide +kernel
theorem dX8_lastWeekday_26 : decode cX8_lastWeekday 26 = .ok (.iconst (-1), 1) := by decide +kernel
theorem dX8_lastWeekday_27 : decode cX8_lastWeekday 27 = .ok (.ireturn, 1) := by decide +kernel
theorem dX8_cycle_0 : decode cX8_cycle 0 = .ok (.ldc2_w 51, 3) := by decide +kernel
theorem dX8_cycle_3 : decode cX8_cycle 3 = .ok (.aload_n 0, 1) := by decide +kernel
theorem dX8_cycle_4 : decode cX8_cycle 4 = .ok (.getfield 15, 3) := by decide +kernel
theorem dX8_cycle_7 : decode cX8_cycle 7 = .ok (.i2l, 1) := by decide +kernel
theorem dX8_cycle_8 : decode cX8_cycle 8 = .ok (.lmul, 1) := by decide +kernel
theorem dX8_cycle_9 : decode cX8_cycle 9 = .ok (.lreturn, 1) := by decide +kernel
theorem dX8_detail_0 : decode cX8_detail 0 = .ok (.aload_n 0, 1) := by decide +kernel
theorem dX8_detail_1 : decode cX8_detail 1 = .ok (.getfield 21, 3) := by decide +kernel
theorem dX8_detail_4 : decode cX8_detail 4 = .ok (.ireturn, 1) := by decide +kernel
set_option maxRecDepth 20000 in
theorem ggX9_init_X7_init : GoodIn wsX9_init wsX7_init := goodIn_r _ [14, 15, 2, 3, 16, 17, 18, 19, 20, 21, 22, 23, 24, 25, 26, 27, 28, 29, 30, 31, 32, 33, 34, 35, 36, 37, 38, 39, 40, 41, 42, 47, 48, 49, 50, 51, 52, 53, 54, 55, 56, 57, 58, 59, 60, 61, 62, 63, 64, 65, 66, 67, 68, 69, 70, 71, 72, 73, 74, 75, 76, 77, 78, 79, 80, 81, 82, 83] (by decide +kernel) (by decide +kernel)
set_option maxRecDepth 20000 in
theorem gX9_init_X7_init : GoodIn wsX9_init (wsX7_init) := ggX9_init_X7_init
theorem dX9_init_0 : decode cX9_init 0 = .ok (.aload_n 0, 1) := by decide +kernel
theorem dX9_init_1 : decode cX9_init 1 = .ok (.invokespecial 3, 3) := by decide +kernel
theorem dX9_init_4 : decode cX9_init 4 = .ok (.aload_n 0, 1) := by decide +kernel
theorem dX9_init_5 : decode cX9_init 5 = .ok (.sipush 168, 3) := by decide +kernel
theorem dX9_init_8 : decode cX9_init 8 = .ok (.newarray .char, 2) := by decide +kernel
theorem dX9_init_10 : decode cX9_init 10 = .ok (.putfield 9, 3) := by decide +kernel
theorem dX9_init_13 : decode cX9_init 13 = .ok (.aload_n 0, 1) := by decide +kernel
theorem dX9_init_14 : decode cX9_init 14 = .ok (.iconst 0, 1) := by decide +kernel
theorem dX9_init_15 : decode cX9_init 15 = .ok (.putfield 13, 3) := by decide +kernel
theorem dX9_init_18 : decode cX9_init 18 = .ok (.aload_n 0, 1) := by decide +kernel
theorem dX9_init_19 : decode cX9_init 19 = .ok (.new 17, 3) := by decide +kernel
theorem dX9_init_22 : decode cX9_init 22 = .ok (.dup, 1) := by decide +kernel
theorem dX9_init_23 : decode cX9_init 23 = .ok (.invokespecial 19, 3) := by decide +kernel
theorem dX9_init_26 : decode cX9_init 26 = .ok (.putfield 20, 3) := by decide +kernel
theorem dX9_init_29 : decode cX9_init 29 = .ok (.aload_n 0, 1) := by decide +kernel
theorem dX9_init_30 : decode cX9_init 30 = .ok (.iconst 2, 1) := by decide +kernel
theorem dX9_init_31 : decode cX9_init 31 = .ok (.anewarray 17, 3) := by decide +kernel
theorem dX9_init_34 : decode cX9_init 34 = .ok (.putfield 24, 3) := by decide +kernel
theorem dX9_init_37 : decode cX9_init 37 = .ok (.return_, 1) := by decide +kernel
set_option maxRecDepth 20000 in
theorem ggX9_feed_X9_putBytes : GoodIn wsX9_feed wsX9_putBytes := goodIn_r _ [6, 1, 7, 8, 9, 10, 11, 12] (by decide +kernel) (by decide +kernel)
set_option maxRecDepth 20000 in
theorem gX9_feed_X9_putBytes : GoodIn wsX9_feed (wsV RX9 28 RX9 yX9_putBytes wsX9_putBytes) := goodIn_app (goodIn_of _ (by decide +kernel)) ggX9_feed_X9_putBytes
theorem dX9_feed_0 : decode cX9_feed 0 = .ok (.aload_n 0, 1) := by decide +kernel
theorem dX9_feed_1 : decode cX9_feed 1 = .ok (.getfield 13, 3) := by decide +kernel
theorem dX9_feed_4 : decode cX9_feed 4 = .ok (.bipush 24, 2) := by decide +kernel
theorem dX9_feed_6 : decode cX9_feed 6 = .ok (.iadd, 1) := by decide +kernel
theorem dX9_feed_7 : decode cX9_feed 7 = .ok (.sipush 168, 3) := by decide +kernel
theorem dX9_feed_10 : decode cX9_feed 10 = .ok (.if_icmp .le 5, 3) := by decide +kernel
theorem dX9_feed_13 : decode cX9_feed 13 = .ok (.iconst (-1), 1) := by decide +kernel
theorem dX9_feed_14 : decode cX9_feed 14 = .ok (.ireturn, 1) := by decide +kernel
theorem dX9_feed_15 : decode cX9_feed 15 = .ok (.aload_n 0, 1) := by decide +kernel
theorem dX9_feed_16 : decode cX9_feed 16 = .ok (.lload_n 1, 1) := by decide +kernel
theorem dX9_feed_17 : decode cX9_feed 17 = .ok (.invokevirtual 28, 3) := by decide +kernel
theorem dX9_feed_20 : decode cX9_feed 20 = .ok (.aload_n 0, 1) := by decide +kernel
theorem dX9_feed_21 : decode cX9_feed 21 = .ok (.lload_n 3, 1) := by decide +kernel
theorem dX9_feed_22 : decode cX9_feed 22 = .ok (.invokevirtual 28, 3) := by decide +kernel
theorem dX9_feed_25 : decode cX9_feed 25 = .ok (.aload_n 0, 1) := by decide +kernel
theorem dX9_feed_26 : decode cX9_feed 26 = .ok (.lload 5, 2) := by decide +kernel
theorem dX9_feed_28 : decode cX9_feed 28 = .ok (.invokevirtual 28, 3) := by decide +kernel
theorem dX9_feed_31 : decode cX9_feed 31 = .ok (.aload_n 0, 1) := by decide +kernel
theorem dX9_feed_32 : decode cX9_feed 32 = .ok (.getfield 13, 3) := by decide +kernel
theorem dX9_feed_35 : decode cX9_feed 35 = .ok (.ireturn, 1) := by decide +kernel
theorem dX9_end_0 : decode cX9_end 0 = .ok (.iload_n 1, 1) := by decide +kernel
theorem dX9_end_1 : decode cX9_end 1 = .ok (.ifCond .lt 11, 3) := by decide +kernel
theorem dX9_end_4 : decode cX9_end 4 = .ok (.iload_n 1, 1) := by decide +kernel
theorem dX9_end_5 : decode cX9_end 5 = .ok (.aload_n 0, 1) := by decide +kernel
theorem dX9_end_6 : decode cX9_end 6 = .ok (.getfield 13, 3) := by decide +kernel
theorem dX9_end_9 : decode cX9_end 9 = .ok (.if_icmp .le 5, 3) := by decide +kernel
theorem dX9_end_12 : decode cX9_end 12 = .ok (.iconst (-1), 1) := by decide +kernel
theorem dX9_end_13 : decode cX9_end 13 = .ok (.ireturn, 1) := by decide +kernel
theorem dX9_end_14 : decode cX9_end 14 = .ok (.aload_n 0, 1) := by decide +kernel
theorem dX9_end_15 : decode cX9_end 15 = .ok (.iload_n 1, 1) := by decide +kernel
theorem dX9_end_16 : decode cX9_end 16 = .ok (.putfield 13, 3) := by decide +kernel
theorem dX9_end_19 : decode cX9_end 19 = .ok (.iload_n 1, 1) := by decide +kernel
theorem dX9_end_20 : decode cX9_end 20 = .ok (.ireturn, 1) := by decide +kernel
set_option maxRecDepth 20000 in
theorem ggX9_book_X7_isFull : GoodIn wsX9_book wsX7_isFull := goodIn_r _ [11, 12, 13, 353, 354] (by decide +kernel) (by decide +kernel)
set_option maxRecDepth 20000 in
theorem gX9_book_X7_isFull : GoodIn wsX9_book (wsV RX9 32 RX7 yX7_isFull wsX7_isFull) := goodIn_app (goodIn_of _ (by decide +kernel)) ggX9_book_X7_isFull
set_option maxRecDepth 20000 in
theorem ggX9_book_X5_init : GoodIn wsX9_book wsX5_init := goodIn_r _ [16, 17, 18, 19, 20, 21, 22, 23, 24, 25, 26, 27, 28, 29, 30, 31, 32, 33, 343, 344, 345, 346, 347, 348, 349, 350, 351, 352] (by decide +kernel) (by decide +kernel)
set_option maxRecDepth 20000 in
theorem gX9_book_X5_init : GoodIn wsX9_book (wsX5_init) := ggX9_book_X5_init
set_option maxRecDepth 20000 in
theorem ggX9_book_X7_spare : GoodIn wsX9_book wsX7_spare := goodIn_r _ [37, 13, 12, 38, 30, 31, 32, 353, 354] (by decide +kernel) (by decide +kernel)
set_option maxRecDepth 20000 in
theorem gX9_book_X7_spare : GoodIn wsX9_book (wsV RX9 41 RX7 yX7_spare wsX7_spare) := goodIn_app (goodIn_of _ (by decide +kernel)) ggX9_book_X7_spare
set_option maxRecDepth 20000 in
theorem ggX9_book_X5_read : GoodIn wsX9_book wsX5_read := goodIn_r _ [42, 20, 23, 43, 44, 45, 5, 46, 22, 21, 33, 28, 47, 48, 49, 50, 51, 52, 53, 54, 55, 56, 57, 58, 59, 60, 61, 62, 63, 64, 65, 66, 67, 68, 69, 70, 71, 72, 73, 74, 75, 76, 77, 78, 79, 80, 81, 82, 83, 84, 85, 86, 87, 88, 89, 90, 91, 92, 93, 94, 95, 96, 97, 98, 99, 100, 101, 102, 103, 104, 105, 106, 107, 108, 109, 110, 111, 112, 113, 114, 115, 116, 117, 118, 119, 120, 121, 122, 123, 124, 125, 126, 127, 128, 129, 130, 25, 24, 131, 132, 133, 134, 26, 135, 136, 137, 138, 139, 140, 141, 142, 143, 144, 145, 146, 27, 147, 148, 149, 150, 151, 152, 153, 154, 155, 156, 157, 158, 159, 160, 161, 162, 163, 164, 165, 166, 167, 168, 169, 170, 171, 172, 173, 174, 175, 176, 177, 178, 179, 180, 181, 182, 183, 184, 185, 186, 187, 188, 189, 18, 19, 190, 191, 192, 193, 194, 195, 196, 197, 31, 198, 199, 200, 201, 202, 203, 204, 205, 206, 207, 208, 209, 210, 211, 212, 213, 214, 215, 216, 217, 218, 219, 220, 221, 222, 223, 224, 225, 226, 227, 228, 229, 230, 231, 232, 233, 234, 235, 236, 237, 238, 239, 240, 241, 242, 243, 244, 245, 246, 247, 248, 249, 250, 251, 252, 253, 254, 255, 256, 257, 258, 259, 260, 261, 262, 263, 264, 265, 266, 267, 268, 269, 270, 271, 272, 273, 274, 275, 276, 277, 278, 279, 280, 281, 282, 283, 284, 285, 286, 287, 288, 289, 290, 291, 292, 293, 294, 295, 296, 297, 298, 299, 300, 301, 302, 303, 304, 305, 306, 307, 308, 309, 310, 311, 312, 313, 314, 315, 316, 317, 318, 319, 320, 321, 322, 323, 324, 325, 326, 327, 328, 329, 330, 331, 332, 333, 334, 343, 344, 345, 346, 347, 348, 349, 350, 351, 352, 355, 356, 357, 358, 359, 360, 361, 362, 363, 364, 365, 366, 367, 368, 369, 370, 371, 372, 373, 374, 375, 376, 377, 378, 379, 380, 381, 382, 383, 384, 385, 386, 387, 388, 389] (by decide +kernel) (by decide +kernel)
set_option maxRecDepth 20000 in
theorem gX9_book_X5_read : GoodIn wsX9_book (wsV RX9 45 RX5 yX5_read wsX5_read) := goodIn_app (goodIn_of _ (by decide +kernel)) ggX9_book_X5_read
set_option maxRecDepth 20000 in
theorem ggX9_book_X7_keepSpare : GoodIn wsX9_book wsX7_keepSpare := goodIn_r _ [338, 12, 13, 38, 30, 31, 32, 353, 354] (by decide +kernel) (by decide +kernel)
set_option maxRecDepth 20000 in
theorem gX9_book_X7_keepSpare : GoodIn wsX9_book (wsV RX9 49 RX7 yX7_keepSpare wsX7_keepSpare) := goodIn_app (goodIn_of _ (by decide +kernel)) ggX9_book_X7_keepSpare
theorem dX9_book_0 : decode cX9_book 0 = .ok (.aload_n 0, 1) := by decide +kernel
theorem dX9_book_1 : decode cX9_book 1 = .ok (.getfield 13, 3) := by decide +kernel
theorem dX9_book_4 : decode cX9_book 4 = .ok (.istore_n 1, 1) := by decide +kernel
theorem dX9_book_5 : decode cX9_book 5 = .ok (.aload_n 0, 1) := by decide +kernel
theorem dX9_book_6 : decode cX9_book 6 = .ok (.iconst 0, 1) := by decide +kernel
theorem dX9_book_7 : decode cX9_book 7 = .ok (.putfield 13, 3) := by decide +kernel
theorem dX9_book_10 : decode cX9_book 10 = .ok (.iload_n 1, 1) := by decide +kernel
theorem dX9_book_11 : decode cX9_book 11 = .ok (.sipush 160, 3) := by decide +kernel
theorem dX9_book_14 : decode cX9_book 14 = .ok (.if_icmp .gt 13, 3) := by decide +kernel
theorem dX9_book_17 : decode cX9_book 17 = .ok (.aload_n 0, 1) := by decide +kernel
theorem dX9_book_18 : decode cX9_book 18 = .ok (.getfield 20, 3) := by decide +kernel
theorem dX9_book_21 : decode cX9_book 21 = .ok (.invokevirtual 32, 3) := by decide +kernel
theorem dX9_book_24 : decode cX9_book 24 = .ok (.ifCond .eq 5, 3) := by decide +kernel
theorem dX9_book_27 : decode cX9_book 27 = .ok (.iconst (-1), 1) := by decide +kernel
theorem dX9_book_28 : decode cX9_book 28 = .ok (.ireturn, 1) := by decide +kernel
theorem dX9_book_29 : decode cX9_book 29 = .ok (.new 36, 3) := by decide +kernel
theorem dX9_book_32 : decode cX9_book 32 = .ok (.dup, 1) := by decide +kernel
theorem dX9_book_33 : decode cX9_book 33 = .ok (.aload_n 0, 1) := by decide +kernel
theorem dX9_book_34 : decode cX9_book 34 = .ok (.getfield 9, 3) := by decide +kernel
theorem dX9_book_37 : decode cX9_book 37 = .ok (.iload_n 1, 1) := by decide +kernel
theorem dX9_book_38 : decode cX9_book 38 = .ok (.invokespecial 38, 3) := by decide +kernel
theorem dX9_book_41 : decode cX9_book 41 = .ok (.astore_n 2, 1) := by decide +kernel
theorem dX9_book_42 : decode cX9_book 42 = .ok (.aload_n 2, 1) := by decide +kernel
theorem dX9_book_43 : decode cX9_book 43 = .ok (.aload_n 0, 1) := by decide +kernel
theorem dX9_book_44 : decode cX9_book 44 = .ok (.getfield 20, 3) := by decide +kernel
theorem dX9_book_47 : decode cX9_book 47 = .ok (.invokevirtual 41, 3) := by decide +kernel
theorem dX9_book_50 : decode cX9_book 50 = .ok (.invokevirtual 45, 3) := by decide +kernel
theorem dX9_book_53 : decode cX9_book 53 = .ok (.istore_n 3, 1) := by decide +kernel
theorem dX9_book_54 : decode cX9_book 54 = .ok (.iload_n 3, 1) := by decide +kernel
theorem dX9_book_55 : decode cX9_book 55 = .ok (.ifCond .eq 8, 3) := by decide +kernel
theorem dX9_book_58 : decode cX9_book 58 = .ok (.bipush (-2), 2) := by decide +kernel
theorem dX9_book_60 : decode cX9_book 60 = .ok (.iload_n 3, 1) := by decide +kernel
theorem dX9_book_61 : decode cX9_book 61 = .ok (.isub, 1) := by decide +kernel
theorem dX9_book_62 : decode cX9_book 62 = .ok (.ireturn, 1) := by decide +kernel
theorem dX9_book_63 : decode cX9_book 63 = .ok (.aload_n 0, 1) := by decide +kernel
theorem dX9_book_64 : decode cX9_book 64 = .ok (.getfield 20, 3) := by decide +kernel
theorem dX9_book_67 : decode cX9_book 67 = .ok (.invokevirtual 49, 3) := by decide +kernel
theorem dX9_book_70 : decode cX9_book 70 = .ok (.ireturn, 1) := by decide +kernel
set_option maxRecDepth 20000 in
theorem ggX9_cancel_X7_has : GoodIn wsX9_cancel wsX7_has := goodIn_r _ [6, 7, 17, 18] (by decide +kernel) (by decide +kernel)
set_option maxRecDepth 20000 in
theorem gX9_cancel_X7_has : GoodIn wsX9_cancel (wsV RX9 53 RX7 yX7_has wsX7_has) := goodIn_app (goodIn_of _ (by decide +kernel)) ggX9_cancel_X7_has
set_option maxRecDepth 20000 in
theorem ggX9_cancel_X7_remove : GoodIn wsX9_cancel wsX7_remove := goodIn_r _ [11, 12, 7, 17, 18] (by decide +kernel) (by decide +kernel)
set_option maxRecDepth 20000 in
theorem gX9_cancel_X7_remove : GoodIn wsX9_cancel (wsV RX9 57 RX7 yX7_remove wsX7_remove) := goodIn_app (goodIn_of _ (by decide +kernel)) ggX9_cancel_X7_remove
theorem dX9_cancel_0 : decode cX9_cancel 0 = .ok (.aload_n 0, 1) := by decide +kernel
theorem dX9_cancel_1 : decode cX9_cancel 1 = .ok (.getfield 20, 3) := by decide +kernel
theorem dX9_cancel_4 : decode cX9_cancel 4 = .ok (.iload_n 1, 1) := by decide +kernel
theorem dX9_cancel_5 : decode cX9_cancel 5 = .ok (.invokevirtual 53, 3) := by decide +kernel
theorem dX9_cancel_8 : decode cX9_cancel 8 = .ok (.ifCond .ne 5, 3) := by decide +kernel
theorem dX9_cancel_11 : decode cX9_cancel 11 = .ok (.iconst 0, 1) := by decide +kernel
theorem dX9_cancel_12 : decode cX9_cancel 12 = .ok (.ireturn, 1) := by decide +kernel
theorem dX9_cancel_13 : decode cX9_cancel 13 = .ok (.aload_n 0, 1) := by decide +kernel
theorem dX9_cancel_14 : decode cX9_cancel 14 = .ok (.getfield 20, 3) := by decide +kernel
theorem dX9_cancel_17 : decode cX9_cancel 17 = .ok (.iload_n 1, 1) := by decide +kernel
theorem dX9_cancel_18 : decode cX9_cancel 18 = .ok (.invokevirtual 57, 3) := by decide +kernel
theorem dX9_cancel_21 : decode cX9_cancel 21 = .ok (.iconst 1, 1) := by decide +kernel
theorem dX9_cancel_22 : decode cX9_cancel 22 = .ok (.ireturn, 1) := by decide +kernel
set_option maxRecDepth 20000 in
theorem ggX9_day_X1_daysOfMonth : GoodIn wsX9_day wsX1_daysOfMonth := goodIn_r _ [3, 4, 5, 2, 6, 7, 8, 9, 10] (by decide +kernel) (by decide +kernel)
set_option maxRecDepth 20000 in
theorem gX9_day_X1_daysOfMonth_n61 : GoodIn wsX9_day (wsX1_daysOfMonth) := ggX9_day_X1_daysOfMonth
set_option maxRecDepth 20000 in
theorem ggX9_day_X1_monthNumber : GoodIn wsX9_day wsX1_monthNumber := goodIn_r _ [6] (by decide +kernel) (by decide +kernel)
set_option maxRecDepth 20000 in
theorem gX9_day_X1_monthNumber_n67 : GoodIn wsX9_day (wsX1_monthNumber) := ggX9_day_X1_monthNumber
set_option maxRecDepth 20000 in
theorem ggX9_day_X1_monthStart : GoodIn wsX9_day wsX1_monthStart := goodIn_r _ [9, 10] (by decide +kernel) (by decide +kernel)
set_option maxRecDepth 20000 in
theorem gX9_day_X1_monthStart_n70 : GoodIn wsX9_day (wsX1_monthStart) := ggX9_day_X1_monthStart
theorem dX9_day_0 : decode cX9_day 0 = .ok (.iload_n 3, 1) := by decide +kernel
theorem dX9_day_1 : decode cX9_day 1 = .ok (.iconst 1, 1) := by decide +kernel
theorem dX9_day_2 : decode cX9_day 2 = .ok (.if_icmp .lt 12, 3) := by decide +kernel
theorem dX9_day_5 : decode cX9_day 5 = .ok (.iload_n 3, 1) := by decide +kernel
theorem dX9_day_6 : decode cX9_day 6 = .ok (.iload_n 1, 1) := by decide +kernel
theorem dX9_day_7 : decode cX9_day 7 = .ok (.iload_n 2, 1) := by decide +kernel
theorem dX9_day_8 : decode cX9_day 8 = .ok (.invokestatic 61, 3) := by decide +kernel
theorem dX9_day_11 : decode cX9_day 11 = .ok (.if_icmp .le 5, 3) := by decide +kernel
theorem dX9_day_14 : decode cX9_day 14 = .ok (.iconst (-1), 1) := by decide +kernel
theorem dX9_day_15 : decode cX9_day 15 = .ok (.ireturn, 1) := by decide +kernel
theorem dX9_day_16 : decode cX9_day 16 = .ok (.iload_n 1, 1) := by decide +kernel
theorem dX9_day_17 : decode cX9_day 17 = .ok (.iload_n 2, 1) := by decide +kernel
theorem dX9_day_18 : decode cX9_day 18 = .ok (.invokestatic 67, 3) := by decide +kernel
theorem dX9_day_21 : decode cX9_day 21 = .ok (.invokestatic 70, 3) := by decide +kernel
theorem dX9_day_24 : decode cX9_day 24 = .ok (.iload_n 3, 1) := by decide +kernel
theorem dX9_day_25 : decode cX9_day 25 = .ok (.iadd, 1) := by decide +kernel
theorem dX9_day_26 : decode cX9_day 26 = .ok (.iconst 1, 1) := by decide +kernel
theorem dX9_day_27 : decode cX9_day 27 = .ok (.isub, 1) := by decide +kernel
theorem dX9_day_28 : decode cX9_day 28 = .ok (.ireturn, 1) := by decide +kernel
set_option maxRecDepth 20000 in
theorem ggX9_date_X9_isDay : GoodIn wsX9_date wsX9_isDay := goodIn_r _ [4, 5] (by decide +kernel) (by decide +kernel)
set_option maxRecDepth 20000 in
theorem gX9_date_X9_isDay : GoodIn wsX9_date (va_wsS RX9 74 yX9_isDay wsX9_isDay) := goodIn_app (goodIn_of _ (by decide +kernel)) ggX9_date_X9_isDay
set_option maxRecDepth 20000 in
theorem ggX9_date_X1_monthOf : GoodIn wsX9_date wsX1_monthOf := goodIn_r _ [8, 9] (by decide +kernel) (by decide +kernel)
set_option maxRecDepth 20000 in
theorem gX9_date_X1_monthOf_n77 : GoodIn wsX9_date (wsX1_monthOf) := ggX9_date_X1_monthOf
set_option maxRecDepth 20000 in
theorem ggX9_date_X1_monthStart : GoodIn wsX9_date wsX1_monthStart := goodIn_r _ [11, 9] (by decide +kernel) (by decide +kernel)
set_option maxRecDepth 20000 in
theorem gX9_date_X1_monthStart_n70 : GoodIn wsX9_date (wsX1_monthStart) := ggX9_date_X1_monthStart
set_option maxRecDepth 20000 in
theorem ggX9_date_X1_weekdayOf : GoodIn wsX9_date wsX1_weekdayOf := goodIn_r _ [13] (by decide +kernel) (by decide +kernel)
set_option maxRecDepth 20000 in
theorem gX9_date_X1_weekdayOf_n80 : GoodIn wsX9_date (wsX1_weekdayOf) := ggX9_date_X1_weekdayOf
theorem dX9_date_0 : decode cX9_date 0 = .ok (.iload_n 1, 1) := by decide +kernel
theorem dX9_date_1 : decode cX9_date 1 = .ok (.invokestatic 74, 3) := by decide +kernel
theorem dX9_date_4 : decode cX9_date 4 = .ok (.ifCond .ne 5, 3) := by decide +kernel
theorem dX9_date_7 : decode cX9_date 7 = .ok (.iconst (-1), 1) := by decide +kernel
theorem dX9_date_8 : decode cX9_date 8 = .ok (.ireturn, 1) := by decide +kernel
theorem dX9_date_9 : decode cX9_date 9 = .ok (.iload_n 1, 1) := by decide +kernel
theorem dX9_date_10 : decode cX9_date 10 = .ok (.invokestatic 77, 3) := by decide +kernel
theorem dX9_date_13 : decode cX9_date 13 = .ok (.istore_n 3, 1) := by decide +kernel
theorem dX9_date_14 : decode cX9_date 14 = .ok (.iload_n 2, 1) := by decide +kernel
theorem dX9_date_15 : decode cX9_date 15 = .ok (.tableswitch 75 0 4 #[33, 42, 49, 58, 63], 33) := by decide +kernel
theorem dX9_date_48 : decode cX9_date 48 = .ok (.sipush 2000, 3) := by decide +kernel
theorem dX9_date_51 : decode cX9_date 51 = .ok (.iload_n 3, 1) := by decide +kernel
theorem dX9_date_52 : decode cX9_date 52 = .ok (.bipush 12, 2) := by decide +kernel
theorem dX9_date_54 : decode cX9_date 54 = .ok (.idiv, 1) := by decide +kernel
theorem dX9_date_55 : decode cX9_date 55 = .ok (.iadd, 1) := by decide +kernel
theorem dX9_date_56 : decode cX9_date 56 = .ok (.ireturn, 1) := by decide +kernel
theorem dX9_date_57 : decode cX9_date 57 = .ok (.iload_n 3, 1) := by decide +kernel
theorem dX9_date_58 : decode cX9_date 58 = .ok (.bipush 12, 2) := by decide +kernel
theorem dX9_date_60 : decode cX9_date 60 = .ok (.irem, 1) := by decide +kernel
theorem dX9_date_61 : decode cX9_date 61 = .ok (.iconst 1, 1) := by decide +kernel
theorem dX9_date_62 : decode cX9_date 62 = .ok (.iadd, 1) := by decide +kernel
theorem dX9_date_63 : decode cX9_date 63 = .ok (.ireturn, 1) := by decide +kernel
theorem dX9_date_64 : decode cX9_date 64 = .ok (.iload_n 1, 1) := by decide +kernel
theorem dX9_date_65 : decode cX9_date 65 = .ok (.iload_n 3, 1) := by decide +kernel
theorem dX9_date_66 : decode cX9_date 66 = .ok (.invokestatic 70, 3) := by decide +kernel
theorem dX9_date_69 : decode cX9_date 69 = .ok (.isub, 1) := by decide +kernel
theorem dX9_date_70 : decode cX9_date 70 = .ok (.iconst 1, 1) := by decide +kernel
theorem dX9_date_71 : decode cX9_date 71 = .ok (.iadd, 1) := by decide +kernel
theorem dX9_date_72 : decode cX9_date 72 = .ok (.ireturn, 1) := by decide +kernel
theorem dX9_date_73 : decode cX9_date 73 = .ok (.iload_n 1, 1) := by decide +kernel
theorem dX9_date_74 : decode cX9_date 74 = .ok (.invokestatic 80, 3) := by decide +kernel
theorem dX9_date_77 : decode cX9_date 77 = .ok (.ireturn, 1) := by decide +kernel
theorem dX9_date_78 : decode cX9_date 78 = .ok (.iload_n 3, 1) := by decide +kernel
theorem dX9_date_79 : decode cX9_date 79 = .ok (.iconst 1, 1) := by decide +kernel
theorem dX9_date_80 : decode cX9_date 80 = .ok (.iadd, 1) := by decide +kernel
theorem dX9_date_81 : decode cX9_date 81 = .ok (.invokestatic 70, 3) := by decide +kernel
theorem dX9_date_84 : decode cX9_date 84 = .ok (.iload_n 3, 1) := by decide +kernel
theorem dX9_date_85 : decode cX9_date 85 = .ok (.invokestatic 70, 3) := by decide +kernel
theorem dX9_date_88 : decode cX9_date 88 = .ok (.isub, 1) := by decide +kernel
theorem dX9_date_89 : decode cX9_date 89 = .ok (.ireturn, 1) := by decide +kernel
theorem dX9_date_90 : decode cX9_date 90 = .ok (.iconst (-1), 1) := by decide +kernel
theorem dX9_date_91 : decode cX9_date 91 = .ok (.ireturn, 1) := by decide +kernel
set_option maxRecDepth 20000 in
theorem ggX9_key_X7_has : GoodIn wsX9_key wsX7_has := goodIn_r _ [6, 7, 93, 94] (by decide +kernel) (by decide +kernel)
set_option maxRecDepth 20000 in
theorem gX9_key_X7_has : GoodIn wsX9_key (wsV RX9 53 RX7 yX7_has wsX7_has) := goodIn_app (goodIn_of _ (by decide +kernel)) ggX9_key_X7_has
set_option maxRecDepth 20000 in
theorem ggX9_key_X9_isDay : GoodIn wsX9_key wsX9_isDay := goodIn_r _ [11, 12] (by decide +kernel) (by decide +kernel)
set_option maxRecDepth 20000 in
theorem gX9_key_X9_isDay : GoodIn wsX9_key (va_wsS RX9 74 yX9_isDay wsX9_isDay) := goodIn_app (goodIn_of _ (by decide +kernel)) ggX9_key_X9_isDay
set_option maxRecDepth 20000 in
theorem ggX9_key_X7_at : GoodIn wsX9_key wsX7_at := goodIn_r _ [16, 17, 93, 94] (by decide +kernel) (by decide +kernel)
set_option maxRecDepth 20000 in
theorem gX9_key_X7_at : GoodIn wsX9_key (wsV RX9 83 RX7 yX7_at wsX7_at) := goodIn_app (goodIn_of _ (by decide +kernel)) ggX9_key_X7_at
set_option maxRecDepth 20000 in
theorem ggX9_key_X0_keyFrom : GoodIn wsX9_key wsX0_keyFrom := goodIn_r _ [22, 23, 24, 25, 26, 27, 28, 29, 30, 31, 32, 33, 34, 35, 36, 37, 38, 39, 40, 41, 42, 43, 44, 45, 46, 47, 48, 49, 50, 51, 52, 53, 54, 55, 56, 57, 58, 59, 60, 61, 62, 63, 64, 65, 66, 67, 68, 69, 70, 71, 72, 73, 74, 75, 76, 77, 78, 79, 80, 81, 82, 83, 84, 85, 86, 87, 88, 95, 96, 97, 98, 99, 100, 101, 102, 103, 104, 105, 106, 107, 108, 109, 110, 111, 112, 113, 114, 115, 116, 117, 118, 119, 120, 121, 122, 123, 124, 125, 126, 127, 128, 129] (by decide +kernel) (by decide +kernel)
set_option maxRecDepth 20000 in
theorem gX9_key_X0_keyFrom : GoodIn wsX9_key (wsV RX9 87 RX0 yX0_keyFrom wsX0_keyFrom) := goodIn_app (goodIn_of _ (by decide +kernel)) ggX9_key_X0_keyFrom
theorem dX9_key_0 : decode cX9_key 0 = .ok (.aload_n 0, 1) := by decide +kernel
theorem dX9_key_1 : decode cX9_key 1 = .ok (.getfield 20, 3) := by decide +kernel
theorem dX9_key_4 : decode cX9_key 4 = .ok (.iload_n 1, 1) := by decide +kernel
theorem dX9_key_5 : decode cX9_key 5 = .ok (.invokevirtual 53, 3) := by decide +kernel
theorem dX9_key_8 : decode cX9_key 8 = .ok (.ifCond .eq 10, 3) := by decide +kernel
theorem dX9_key_11 : decode cX9_key 11 = .ok (.iload_n 2, 1) := by decide +kernel
theorem dX9_key_12 : decode cX9_key 12 = .ok (.invokestatic 74, 3) := by decide +kernel
theorem dX9_key_15 : decode cX9_key 15 = .ok (.ifCond .ne 5, 3) := by decide +kernel
theorem dX9_key_18 : decode cX9_key 18 = .ok (.iconst (-1), 1) := by decide +kernel
theorem dX9_key_19 : decode cX9_key 19 = .ok (.ireturn, 1) := by decide +kernel
theorem dX9_key_20 : decode cX9_key 20 = .ok (.aload_n 0, 1) := by decide +kernel
theorem dX9_key_21 : decode cX9_key 21 = .ok (.getfield 20, 3) := by decide +kernel
theorem dX9_key_24 : decode cX9_key 24 = .ok (.iload_n 1, 1) := by decide +kernel
theorem dX9_key_25 : decode cX9_key 25 = .ok (.invokevirtual 83, 3) := by decide +kernel
theorem dX9_key_28 : decode cX9_key 28 = .ok (.iload_n 2, 1) := by decide +kernel
theorem dX9_key_29 : decode cX9_key 29 = .ok (.invokevirtual 87, 3) := by decide +kernel
theorem dX9_key_32 : decode cX9_key 32 = .ok (.ireturn, 1) := by decide +kernel
set_option maxRecDepth 20000 in
theorem ggX9_keys_X7_has : GoodIn wsX9_keys wsX7_has := goodIn_r _ [7, 8, 110, 111] (by decide +kernel) (by decide +kernel)
set_option maxRecDepth 20000 in
theorem gX9_keys_X7_has : GoodIn wsX9_keys (wsV RX9 53 RX7 yX7_has wsX7_has) := goodIn_app (goodIn_of _ (by decide +kernel)) ggX9_keys_X7_has
set_option maxRecDepth 20000 in
theorem ggX9_keys_X9_areDays : GoodIn wsX9_keys wsX9_areDays := goodIn_r _ [12, 13, 14, 11, 15, 16] (by decide +kernel) (by decide +kernel)
set_option maxRecDepth 20000 in
theorem gX9_keys_X9_areDays : GoodIn wsX9_keys (va_wsS RX9 93 yX9_areDays wsX9_areDays) := goodIn_app (goodIn_of _ (by decide +kernel)) ggX9_keys_X9_areDays
set_option maxRecDepth 20000 in
theorem ggX9_keys_X7_at : GoodIn wsX9_keys wsX7_at := goodIn_r _ [20, 21, 110, 111] (by decide +kernel) (by decide +kernel)
set_option maxRecDepth 20000 in
theorem gX9_keys_X7_at : GoodIn wsX9_keys (wsV RX9 83 RX7 yX7_at wsX7_at) := goodIn_app (goodIn_of _ (by decide +kernel)) ggX9_keys_X7_at
set_option maxRecDepth 20000 in
theorem ggX9_keys_X0_keysIn : GoodIn wsX9_keys wsX0_keysIn := goodIn_r _ [26, 27, 28, 29, 30, 31, 32, 33, 34, 35, 36, 37, 38, 39, 40, 41, 42, 43, 44, 45, 46, 47, 48, 49, 50, 51, 52, 53, 54, 55, 56, 57, 58, 59, 60, 61, 62, 63, 64, 65, 66, 67, 68, 69, 70, 71, 72, 73, 74, 75, 76, 77, 78, 79, 80, 81, 82, 83, 84, 85, 86, 87, 88, 89, 90, 91, 92, 93, 94, 95, 96, 97, 98, 99, 100, 101, 102, 103, 104, 105, 112, 113, 114, 115, 116, 117, 118, 119, 120, 121, 122, 123, 124, 125, 126, 127, 128, 129, 130, 131, 132, 133, 134, 135, 136, 137, 138, 139, 140, 141, 142, 143, 144, 145, 146] (by decide +kernel) (by decide +kernel)
set_option maxRecDepth 20000 in
theorem gX9_keys_X0_keysIn : GoodIn wsX9_keys (wsV RX9 97 RX0 yX0_keysIn wsX0_keysIn) := goodIn_app (goodIn_of _ (by decide +kernel)) ggX9_keys_X0_keysIn
theorem dX9_keys_0 : decode cX9_keys 0 = .ok (.aload_n 0, 1) := by decide +kernel
theorem dX9_keys_1 : decode cX9_keys 1 = .ok (.getfield 20, 3) := by decide +kernel
theorem dX9_keys_4 : decode cX9_keys 4 = .ok (.iload_n 1, 1) := by decide +kernel
theorem dX9_keys_5 : decode cX9_keys 5 = .ok (.invokevirtual 53, 3) := by decide +kernel
theorem dX9_keys_8 : decode cX9_keys 8 = .ok (.ifCond .eq 13, 3) := by decide +kernel
theorem dX9_keys_11 : decode cX9_keys 11 = .ok (.iload_n 2, 1) := by decide +kernel
theorem dX9_keys_12 : decode cX9_keys 12 = .ok (.iload_n 3, 1) := by decide +kernel
theorem dX9_keys_13 : decode cX9_keys 13 = .ok (.ldc 92, 2) := by decide +kernel
theorem dX9_keys_15 : decode cX9_keys 15 = .ok (.invokestatic 93, 3) := by decide +kernel
theorem dX9_keys_18 : decode cX9_keys 18 = .ok (.ifCond .ne 5, 3) := by decide +kernel
theorem dX9_keys_21 : decode cX9_keys 21 = .ok (.iconst (-1), 1) := by decide +kernel
theorem dX9_keys_22 : decode cX9_keys 22 = .ok (.ireturn, 1) := by decide +kernel
theorem dX9_keys_23 : decode cX9_keys 23 = .ok (.aload_n 0, 1) := by decide +kernel
theorem dX9_keys_24 : decode cX9_keys 24 = .ok (.getfield 20, 3) := by decide +kernel
theorem dX9_keys_27 : decode cX9_keys 27 = .ok (.iload_n 1, 1) := by decide +kernel
theorem dX9_keys_28 : decode cX9_keys 28 = .ok (.invokevirtual 83, 3) := by decide +kernel
theorem dX9_keys_31 : decode cX9_keys 31 = .ok (.iload_n 2, 1) := by decide +kernel
theorem dX9_keys_32 : decode cX9_keys 32 = .ok (.iload_n 3, 1) := by decide +kernel
theorem dX9_keys_33 : decode cX9_keys 33 = .ok (.invokevirtual 97, 3) := by decide +kernel
theorem dX9_keys_36 : decode cX9_keys 36 = .ok (.ireturn, 1) := by decide +kernel
set_option maxRecDepth 20000 in
theorem ggX9_drop_X7_has : GoodIn wsX9_drop wsX7_has := goodIn_r _ [6, 7, 111, 112] (by decide +kernel) (by decide +kernel)
set_option maxRecDepth 20000 in
theorem gX9_drop_X7_has : GoodIn wsX9_drop (wsV RX9 53 RX7 yX7_has wsX7_has) := goodIn_app (goodIn_of _ (by decide +kernel)) ggX9_drop_X7_has
set_option maxRecDepth 20000 in
theorem ggX9_drop_X7_at : GoodIn wsX9_drop wsX7_at := goodIn_r _ [11, 12, 111, 112] (by decide +kernel) (by decide +kernel)
set_option maxRecDepth 20000 in
theorem gX9_drop_X7_at : GoodIn wsX9_drop (wsV RX9 83 RX7 yX7_at wsX7_at) := goodIn_app (goodIn_of _ (by decide +kernel)) ggX9_drop_X7_at
set_option maxRecDepth 20000 in
theorem ggX9_drop_X0_isKey : GoodIn wsX9_drop wsX0_isKey := goodIn_r _ [17, 18, 19, 20, 21, 22, 23, 24, 16, 25, 26, 27, 28, 29, 30, 31, 32, 33, 34, 35, 36, 37, 38, 39, 40, 41, 42, 43, 44, 45, 46, 47, 48, 49, 50, 51, 52, 53, 54, 55, 56, 57, 58, 59, 60, 61, 62, 63, 64, 65, 66, 67, 68, 69, 70, 71, 72, 73, 74, 75, 76, 77, 78, 79, 80, 81, 82, 83, 84, 85, 86, 87, 88, 89, 90, 91, 113, 114, 115, 116, 117, 118, 119, 120, 121, 122, 123, 124, 125, 126, 127, 128, 129, 130, 131, 132, 133, 134, 135, 136, 137, 138, 139, 140, 141, 142, 143, 144, 145, 146, 147] (by decide +kernel) (by decide +kernel)
set_option maxRecDepth 20000 in
theorem gX9_drop_X0_isKey : GoodIn wsX9_drop (wsV RX9 100 RX0 yX0_isKey wsX0_isKey) := goodIn_app (goodIn_of _ (by decide +kernel)) ggX9_drop_X0_isKey
set_option maxRecDepth 20000 in
theorem ggX9_drop_X0_isDropped : GoodIn wsX9_drop wsX0_isDropped := goodIn_r _ [95, 96, 97, 98, 99, 16, 100, 101, 102, 113, 114, 115, 116, 117, 118, 119, 120, 121, 122, 123, 124, 125, 126, 127] (by decide +kernel) (by decide +kernel)
set_option maxRecDepth 20000 in
theorem gX9_drop_X0_isDropped : GoodIn wsX9_drop (wsV RX9 103 RX0 yX0_isDropped wsX0_isDropped) := goodIn_app (goodIn_of _ (by decide +kernel)) ggX9_drop_X0_isDropped
set_option maxRecDepth 20000 in
theorem ggX9_drop_X0_change : GoodIn wsX9_drop wsX0_change := goodIn_r _ [106, 101, 102, 96, 97, 98, 99, 16, 100, 113, 114, 115, 116, 117, 118, 119, 120, 121, 122, 123, 124, 125, 126, 127] (by decide +kernel) (by decide +kernel)
set_option maxRecDepth 20000 in
theorem gX9_drop_X0_change : GoodIn wsX9_drop (wsV RX9 106 RX0 yX0_change wsX0_change) := goodIn_app (goodIn_of _ (by decide +kernel)) ggX9_drop_X0_change
theorem dX9_drop_0 : decode cX9_drop 0 = .ok (.aload_n 0, 1) := by decide +kernel
theorem dX9_drop_1 : decode cX9_drop 1 = .ok (.getfield 20, 3) := by decide +kernel
theorem dX9_drop_4 : decode cX9_drop 4 = .ok (.iload_n 1, 1) := by decide +kernel
theorem dX9_drop_5 : decode cX9_drop 5 = .ok (.invokevirtual 53, 3) := by decide +kernel
theorem dX9_drop_8 : decode cX9_drop 8 = .ok (.ifCond .eq 18, 3) := by decide +kernel
theorem dX9_drop_11 : decode cX9_drop 11 = .ok (.aload_n 0, 1) := by decide +kernel
theorem dX9_drop_12 : decode cX9_drop 12 = .ok (.getfield 20, 3) := by decide +kernel
theorem dX9_drop_15 : decode cX9_drop 15 = .ok (.iload_n 1, 1) := by decide +kernel
theorem dX9_drop_16 : decode cX9_drop 16 = .ok (.invokevirtual 83, 3) := by decide +kernel
theorem dX9_drop_19 : decode cX9_drop 19 = .ok (.iload_n 2, 1) := by decide +kernel
theorem dX9_drop_20 : decode cX9_drop 20 = .ok (.invokevirtual 100, 3) := by decide +kernel
theorem dX9_drop_23 : decode cX9_drop 23 = .ok (.ifCond .ne 5, 3) := by decide +kernel
theorem dX9_drop_26 : decode cX9_drop 26 = .ok (.iconst 0, 1) := by decide +kernel
theorem dX9_drop_27 : decode cX9_drop 27 = .ok (.ireturn, 1) := by decide +kernel
theorem dX9_drop_28 : decode cX9_drop 28 = .ok (.aload_n 0, 1) := by decide +kernel
theorem dX9_drop_29 : decode cX9_drop 29 = .ok (.getfield 20, 3) := by decide +kernel
theorem dX9_drop_32 : decode cX9_drop 32 = .ok (.iload_n 1, 1) := by decide +kernel
theorem dX9_drop_33 : decode cX9_drop 33 = .ok (.invokevirtual 83, 3) := by decide +kernel
theorem dX9_drop_36 : decode cX9_drop 36 = .ok (.astore_n 3, 1) := by decide +kernel
theorem dX9_drop_37 : decode cX9_drop 37 = .ok (.aload_n 3, 1) := by decide +kernel
theorem dX9_drop_38 : decode cX9_drop 38 = .ok (.iload_n 2, 1) := by decide +kernel
theorem dX9_drop_39 : decode cX9_drop 39 = .ok (.invokevirtual 103, 3) := by decide +kernel
theorem dX9_drop_42 : decode cX9_drop 42 = .ok (.ifCond .ne 16, 3) := by decide +kernel
theorem dX9_drop_45 : decode cX9_drop 45 = .ok (.aload_n 3, 1) := by decide +kernel
theorem dX9_drop_46 : decode cX9_drop 46 = .ok (.iload_n 2, 1) := by decide +kernel
theorem dX9_drop_47 : decode cX9_drop 47 = .ok (.iconst (-1), 1) := by decide +kernel
theorem dX9_drop_48 : decode cX9_drop 48 = .ok (.invokevirtual 106, 3) := by decide +kernel
theorem dX9_drop_51 : decode cX9_drop 51 = .ok (.ifCond .eq 7, 3) := by decide +kernel
theorem dX9_drop_54 : decode cX9_drop 54 = .ok (.iconst 1, 1) := by decide +kernel
theorem dX9_drop_55 : decode cX9_drop 55 = .ok (.goto 4, 3) := by decide +kernel
theorem dX9_drop_58 : decode cX9_drop 58 = .ok (.iconst 0, 1) := by decide +kernel
theorem dX9_drop_59 : decode cX9_drop 59 = .ok (.ireturn, 1) := by decide +kernel
set_option maxRecDepth 20000 in
theorem ggX9_move_X7_has : GoodIn wsX9_move wsX7_has := goodIn_r _ [6, 7, 111, 112] (by decide +kernel) (by decide +kernel)
set_option maxRecDepth 20000 in
theorem gX9_move_X7_has : GoodIn wsX9_move (wsV RX9 53 RX7 yX7_has wsX7_has) := goodIn_app (goodIn_of _ (by decide +kernel)) ggX9_move_X7_has
set_option maxRecDepth 20000 in
theorem ggX9_move_X7_at : GoodIn wsX9_move wsX7_at := goodIn_r _ [11, 12, 111, 112] (by decide +kernel) (by decide +kernel)
set_option maxRecDepth 20000 in
theorem gX9_move_X7_at : GoodIn wsX9_move (wsV RX9 83 RX7 yX7_at wsX7_at) := goodIn_app (goodIn_of _ (by decide +kernel)) ggX9_move_X7_at
set_option maxRecDepth 20000 in
theorem ggX9_move_X0_isKey : GoodIn wsX9_move wsX0_isKey := goodIn_r _ [17, 18, 19, 20, 21, 22, 23, 24, 16, 25, 26, 27, 28, 29, 30, 31, 32, 33, 34, 35, 36, 37, 38, 39, 40, 41, 42, 43, 44, 45, 46, 47, 48, 49, 50, 51, 52, 53, 54, 55, 56, 57, 58, 59, 60, 61, 62, 63, 64, 65, 66, 67, 68, 69, 70, 71, 72, 73, 74, 75, 76, 77, 78, 79, 80, 81, 82, 83, 84, 85, 86, 87, 88, 89, 90, 91, 113, 114, 115, 116, 117, 118, 119, 120, 121, 122, 123, 124, 125, 126, 127, 128, 129, 130, 131, 132, 133, 134, 135, 136, 137, 138, 139, 140, 141, 142, 143, 144, 145, 146, 147] (by decide +kernel) (by decide +kernel)
set_option maxRecDepth 20000 in
theorem gX9_move_X0_isKey : GoodIn wsX9_move (wsV RX9 100 RX0 yX0_isKey wsX0_isKey) := goodIn_app (goodIn_of _ (by decide +kernel)) ggX9_move_X0_isKey
set_option maxRecDepth 20000 in
theorem ggX9_move_X9_isTime : GoodIn wsX9_move wsX9_isTime := goodIn_r _ [94, 95] (by decide +kernel) (by decide +kernel)
set_option maxRecDepth 20000 in
theorem gX9_move_X9_isTime : GoodIn wsX9_move (va_wsS RX9 110 yX9_isTime wsX9_isTime) := goodIn_app (goodIn_of _ (by decide +kernel)) ggX9_move_X9_isTime
set_option maxRecDepth 20000 in
theorem ggX9_move_X0_change : GoodIn wsX9_move wsX0_change := goodIn_r _ [99, 100, 101, 102, 103, 104, 105, 16, 106, 113, 114, 115, 116, 117, 118, 119, 120, 121, 122, 123, 124, 125, 126, 127] (by decide +kernel) (by decide +kernel)
set_option maxRecDepth 20000 in
theorem gX9_move_X0_change : GoodIn wsX9_move (wsV RX9 106 RX0 yX0_change wsX0_change) := goodIn_app (goodIn_of _ (by decide +kernel)) ggX9_move_X0_change
theorem dX9_move_0 : decode cX9_move 0 = .ok (.aload_n 0, 1) := by decide +kernel
theorem dX9_move_1 : decode cX9_move 1 = .ok (.getfield 20, 3) := by decide +kernel
theorem dX9_move_4 : decode cX9_move 4 = .ok (.iload_n 1, 1) := by decide +kernel
theorem dX9_move_5 : decode cX9_move 5 = .ok (.invokevirtual 53, 3) := by decide +kernel
theorem dX9_move_8 : decode cX9_move 8 = .ok (.ifCond .eq 25, 3) := by decide +kernel
theorem dX9_move_11 : decode cX9_move 11 = .ok (.aload_n 0, 1) := by decide +kernel
theorem dX9_move_12 : decode cX9_move 12 = .ok (.getfield 20, 3) := by decide +kernel
theorem dX9_move_15 : decode cX9_move 15 = .ok (.iload_n 1, 1) := by decide +kernel
theorem dX9_move_16 : decode cX9_move 16 = .ok (.invokevirtual 83, 3) := by decide +kernel
theorem dX9_move_19 : decode cX9_move 19 = .ok (.iload_n 2, 1) := by decide +kernel
theorem dX9_move_20 : decode cX9_move 20 = .ok (.invokevirtual 100, 3) := by decide +kernel
theorem dX9_move_23 : decode cX9_move 23 = .ok (.ifCond .eq 10, 3) := by decide +kernel
theorem dX9_move_26 : decode cX9_move 26 = .ok (.iload_n 3, 1) := by decide +kernel
theorem dX9_move_27 : decode cX9_move 27 = .ok (.invokestatic 110, 3) := by decide +kernel
theorem dX9_move_30 : decode cX9_move 30 = .ok (.ifCond .ne 5, 3) := by decide +kernel
theorem dX9_move_33 : decode cX9_move 33 = .ok (.iconst 0, 1) := by decide +kernel
theorem dX9_move_34 : decode cX9_move 34 = .ok (.ireturn, 1) := by decide +kernel
theorem dX9_move_35 : decode cX9_move 35 = .ok (.aload_n 0, 1) := by decide +kernel
theorem dX9_move_36 : decode cX9_move 36 = .ok (.getfield 20, 3) := by decide +kernel
theorem dX9_move_39 : decode cX9_move 39 = .ok (.iload_n 1, 1) := by decide +kernel
theorem dX9_move_40 : decode cX9_move 40 = .ok (.invokevirtual 83, 3) := by decide +kernel
theorem dX9_move_43 : decode cX9_move 43 = .ok (.iload_n 2, 1) := by decide +kernel
theorem dX9_move_44 : decode cX9_move 44 = .ok (.iload_n 3, 1) := by decide +kernel
theorem dX9_move_45 : decode cX9_move 45 = .ok (.invokevirtual 106, 3) := by decide +kernel
theorem dX9_move_48 : decode cX9_move 48 = .ok (.ireturn, 1) := by decide +kernel
set_option maxRecDepth 20000 in
theorem ggX9_restore_X7_has : GoodIn wsX9_restore wsX7_has := goodIn_r _ [6, 7, 111, 112] (by decide +kernel) (by decide +kernel)
set_option maxRecDepth 20000 in
theorem gX9_restore_X7_has : GoodIn wsX9_restore (wsV RX9 53 RX7 yX7_has wsX7_has) := goodIn_app (goodIn_of _ (by decide +kernel)) ggX9_restore_X7_has
set_option maxRecDepth 20000 in
theorem ggX9_restore_X7_at : GoodIn wsX9_restore wsX7_at := goodIn_r _ [11, 12, 111, 112] (by decide +kernel) (by decide +kernel)
set_option maxRecDepth 20000 in
theorem gX9_restore_X7_at : GoodIn wsX9_restore (wsV RX9 83 RX7 yX7_at wsX7_at) := goodIn_app (goodIn_of _ (by decide +kernel)) ggX9_restore_X7_at
set_option maxRecDepth 20000 in
theorem ggX9_restore_X0_isKey : GoodIn wsX9_restore wsX0_isKey := goodIn_r _ [17, 18, 19, 20, 21, 22, 23, 24, 16, 25, 26, 27, 28, 29, 30, 31, 32, 33, 34, 35, 36, 37, 38, 39, 40, 41, 42, 43, 44, 45, 46, 47, 48, 49, 50, 51, 52, 53, 54, 55, 56, 57, 58, 59, 60, 61, 62, 63, 64, 65, 66, 67, 68, 69, 70, 71, 72, 73, 74, 75, 76, 77, 78, 79, 80, 81, 82, 83, 84, 85, 86, 87, 88, 89, 90, 91, 113, 114, 115, 116, 117, 118, 119, 120, 121, 122, 123, 124, 125, 126, 127, 128, 129, 130, 131, 132, 133, 134, 135, 136, 137, 138, 139, 140, 141, 142, 143, 144, 145, 146, 147] (by decide +kernel) (by decide +kernel)
set_option maxRecDepth 20000 in
theorem gX9_restore_X0_isKey : GoodIn wsX9_restore (wsV RX9 100 RX0 yX0_isKey wsX0_isKey) := goodIn_app (goodIn_of _ (by decide +kernel)) ggX9_restore_X0_isKey
set_option maxRecDepth 20000 in
theorem ggX9_restore_X0_undoChange : GoodIn wsX9_restore wsX0_undoChange := goodIn_r _ [95, 96, 97, 98, 99, 16, 100, 101, 102, 103, 104, 105, 106, 113, 114, 115, 116, 117, 118, 119, 120, 121, 122, 123, 124, 125, 126, 127] (by decide +kernel) (by decide +kernel)
set_option maxRecDepth 20000 in
theorem gX9_restore_X0_undoChange : GoodIn wsX9_restore (wsV RX9 113 RX0 yX0_undoChange wsX0_undoChange) := goodIn_app (goodIn_of _ (by decide +kernel)) ggX9_restore_X0_undoChange
theorem dX9_restore_0 : decode cX9_restore 0 = .ok (.aload_n 0, 1) := by decide +kernel
theorem dX9_restore_1 : decode cX9_restore 1 = .ok (.getfield 20, 3) := by decide +kernel
theorem dX9_restore_4 : decode cX9_restore 4 = .ok (.iload_n 1, 1) := by decide +kernel
theorem dX9_restore_5 : decode cX9_restore 5 = .ok (.invokevirtual 53, 3) := by decide +kernel
theorem dX9_restore_8 : decode cX9_restore 8 = .ok (.ifCond .eq 18, 3) := by decide +kernel
theorem dX9_restore_11 : decode cX9_restore 11 = .ok (.aload_n 0, 1) := by decide +kernel
theorem dX9_restore_12 : decode cX9_restore 12 = .ok (.getfield 20, 3) := by decide +kernel
theorem dX9_restore_15 : decode cX9_restore 15 = .ok (.iload_n 1, 1) := by decide +kernel
theorem dX9_restore_16 : decode cX9_restore 16 = .ok (.invokevirtual 83, 3) := by decide +kernel
theorem dX9_restore_19 : decode cX9_restore 19 = .ok (.iload_n 2, 1) := by decide +kernel
theorem dX9_restore_20 : decode cX9_restore 20 = .ok (.invokevirtual 100, 3) := by decide +kernel
theorem dX9_restore_23 : decode cX9_restore 23 = .ok (.ifCond .ne 5, 3) := by decide +kernel
theorem dX9_restore_26 : decode cX9_restore 26 = .ok (.iconst (-1), 1) := by decide +kernel
theorem dX9_restore_27 : decode cX9_restore 27 = .ok (.ireturn, 1) := by decide +kernel
theorem dX9_restore_28 : decode cX9_restore 28 = .ok (.aload_n 0, 1) := by decide +kernel
theorem dX9_restore_29 : decode cX9_restore 29 = .ok (.getfield 20, 3) := by decide +kernel
theorem dX9_restore_32 : decode cX9_restore 32 = .ok (.iload_n 1, 1) := by decide +kernel
theorem dX9_restore_33 : decode cX9_restore 33 = .ok (.invokevirtual 83, 3) := by decide +kernel
theorem dX9_restore_36 : decode cX9_restore 36 = .ok (.iload_n 2, 1) := by decide +kernel
theorem dX9_restore_37 : decode cX9_restore 37 = .ok (.invokevirtual 113, 3) := by decide +kernel
theorem dX9_restore_40 : decode cX9_restore 40 = .ok (.ireturn, 1) := by decide +kernel
set_option maxRecDepth 20000 in
theorem ggX9_next_X7_has : GoodIn wsX9_next wsX7_has := goodIn_r _ [6, 7, 124, 125] (by decide +kernel) (by decide +kernel)
set_option maxRecDepth 20000 in
theorem gX9_next_X7_has : GoodIn wsX9_next (wsV RX9 53 RX7 yX7_has wsX7_has) := goodIn_app (goodIn_of _ (by decide +kernel)) ggX9_next_X7_has
set_option maxRecDepth 20000 in
theorem ggX9_next_X9_isTime : GoodIn wsX9_next wsX9_isTime := goodIn_r _ [11, 12] (by decide +kernel) (by decide +kernel)
set_option maxRecDepth 20000 in
theorem gX9_next_X9_isTime : GoodIn wsX9_next (va_wsS RX9 110 yX9_isTime wsX9_isTime) := goodIn_app (goodIn_of _ (by decide +kernel)) ggX9_next_X9_isTime
set_option maxRecDepth 20000 in
theorem ggX9_next_X7_at : GoodIn wsX9_next wsX7_at := goodIn_r _ [16, 17, 124, 125] (by decide +kernel) (by decide +kernel)
set_option maxRecDepth 20000 in
theorem gX9_next_X7_at : GoodIn wsX9_next (wsV RX9 83 RX7 yX7_at wsX7_at) := goodIn_app (goodIn_of _ (by decide +kernel)) ggX9_next_X7_at
set_option maxRecDepth 20000 in
theorem ggX9_next_X0_seek : GoodIn wsX9_next wsX0_seek := goodIn_r _ [22, 23, 24, 25, 26, 27, 28, 29, 30, 31, 21, 32, 33, 34, 35, 36, 37, 38, 39, 40, 41, 42, 43, 44, 45, 46, 47, 48, 49, 50, 51, 52, 53, 54, 55, 56, 57, 58, 59, 60, 61, 62, 63, 64, 65, 66, 67, 68, 69, 70, 71, 72, 73, 74, 75, 76, 77, 78, 79, 80, 81, 82, 83, 84, 85, 86, 87, 88, 89, 90, 91, 92, 93, 94, 95, 96, 97, 98, 99, 100, 101, 102, 103, 104, 105, 106, 107, 108, 109, 110, 111, 112, 113, 114, 115, 126, 127, 128, 129, 130, 131, 132, 133, 134, 135, 136, 137, 138, 139, 140, 141, 142, 143, 144, 145, 146, 147, 148, 149, 150, 151, 152, 153, 154, 155, 156, 157, 158, 159, 160] (by decide +kernel) (by decide +kernel)
set_option maxRecDepth 20000 in
theorem gX9_next_X0_seek : GoodIn wsX9_next (wsV RX9 116 RX0 yX0_seek wsX0_seek) := goodIn_app (goodIn_of _ (by decide +kernel)) ggX9_next_X0_seek
set_option maxRecDepth 20000 in
theorem ggX9_next_X0_found : GoodIn wsX9_next wsX0_found := goodIn_r _ [119, 24, 26, 126, 127, 128, 129, 130, 131, 132, 133, 134, 135, 136, 137, 138, 139, 140] (by decide +kernel) (by decide +kernel)
set_option maxRecDepth 20000 in
theorem gX9_next_X0_found : GoodIn wsX9_next (wsV RX9 119 RX0 yX0_found wsX0_found) := goodIn_app (goodIn_of _ (by decide +kernel)) ggX9_next_X0_found
theorem dX9_next_0 : decode cX9_next 0 = .ok (.aload_n 0, 1) := by decide +kernel
theorem dX9_next_1 : decode cX9_next 1 = .ok (.getfield 20, 3) := by decide +kernel
theorem dX9_next_4 : decode cX9_next 4 = .ok (.iload_n 1, 1) := by decide +kernel
theorem dX9_next_5 : decode cX9_next 5 = .ok (.invokevirtual 53, 3) := by decide +kernel
theorem dX9_next_8 : decode cX9_next 8 = .ok (.ifCond .eq 10, 3) := by decide +kernel
theorem dX9_next_11 : decode cX9_next 11 = .ok (.iload_n 2, 1) := by decide +kernel
theorem dX9_next_12 : decode cX9_next 12 = .ok (.invokestatic 110, 3) := by decide +kernel
theorem dX9_next_15 : decode cX9_next 15 = .ok (.ifCond .ne 5, 3) := by decide +kernel
theorem dX9_next_18 : decode cX9_next 18 = .ok (.iconst (-1), 1) := by decide +kernel
theorem dX9_next_19 : decode cX9_next 19 = .ok (.ireturn, 1) := by decide +kernel
theorem dX9_next_20 : decode cX9_next 20 = .ok (.aload_n 0, 1) := by decide +kernel
theorem dX9_next_21 : decode cX9_next 21 = .ok (.getfield 20, 3) := by decide +kernel
theorem dX9_next_24 : decode cX9_next 24 = .ok (.iload_n 1, 1) := by decide +kernel
theorem dX9_next_25 : decode cX9_next 25 = .ok (.invokevirtual 83, 3) := by decide +kernel
theorem dX9_next_28 : decode cX9_next 28 = .ok (.astore 4, 2) := by decide +kernel
theorem dX9_next_30 : decode cX9_next 30 = .ok (.aload 4, 2) := by decide +kernel
theorem dX9_next_32 : decode cX9_next 32 = .ok (.iload_n 2, 1) := by decide +kernel
theorem dX9_next_33 : decode cX9_next 33 = .ok (.iconst 0, 1) := by decide +kernel
theorem dX9_next_34 : decode cX9_next 34 = .ok (.invokevirtual 116, 3) := by decide +kernel
theorem dX9_next_37 : decode cX9_next 37 = .ok (.pop, 1) := by decide +kernel
theorem dX9_next_38 : decode cX9_next 38 = .ok (.aload 4, 2) := by decide +kernel
theorem dX9_next_40 : decode cX9_next 40 = .ok (.iload_n 3, 1) := by decide +kernel
theorem dX9_next_41 : decode cX9_next 41 = .ok (.invokevirtual 119, 3) := by decide +kernel
theorem dX9_next_44 : decode cX9_next 44 = .ok (.ireturn, 1) := by decide +kernel
set_option maxRecDepth 20000 in
theorem ggX9_ahead_X7_has : GoodIn wsX9_ahead wsX7_has := goodIn_r _ [6, 7, 112, 113] (by decide +kernel) (by decide +kernel)
set_option maxRecDepth 20000 in
theorem gX9_ahead_X7_has : GoodIn wsX9_ahead (wsV RX9 53 RX7 yX7_has wsX7_has) := goodIn_app (goodIn_of _ (by decide +kernel)) ggX9_ahead_X7_has
set_option maxRecDepth 20000 in
theorem ggX9_ahead_X9_isTime : GoodIn wsX9_ahead wsX9_isTime := goodIn_r _ [11, 12] (by decide +kernel) (by decide +kernel)
set_option maxRecDepth 20000 in
theorem gX9_ahead_X9_isTime : GoodIn wsX9_ahead (va_wsS RX9 110 yX9_isTime wsX9_isTime) := goodIn_app (goodIn_of _ (by decide +kernel)) ggX9_ahead_X9_isTime
set_option maxRecDepth 20000 in
theorem ggX9_ahead_X7_at : GoodIn wsX9_ahead wsX7_at := goodIn_r _ [16, 17, 112, 113] (by decide +kernel) (by decide +kernel)
set_option maxRecDepth 20000 in
theorem gX9_ahead_X7_at : GoodIn wsX9_ahead (wsV RX9 83 RX7 yX7_at wsX7_at) := goodIn_app (goodIn_of _ (by decide +kernel)) ggX9_ahead_X7_at
set_option maxRecDepth 20000 in
theorem ggX9_ahead_X0_seekAhead : GoodIn wsX9_ahead wsX0_seekAhead := goodIn_r _ [22, 23, 24, 25, 26, 27, 28, 29, 30, 21, 31, 32, 33, 34, 35, 36, 37, 38, 39, 40, 41, 42, 43, 44, 45, 46, 47, 48, 49, 50, 51, 52, 53, 54, 55, 56, 57, 58, 59, 60, 61, 62, 63, 64, 65, 66, 67, 68, 69, 70, 71, 72, 73, 74, 75, 76, 77, 78, 79, 80, 81, 82, 83, 84, 85, 86, 87, 88, 89, 90, 91, 92, 93, 94, 95, 96, 97, 98, 99, 100, 101, 102, 103, 114, 115, 116, 117, 118, 119, 120, 121, 122, 123, 124, 125, 126, 127, 128, 129, 130, 131, 132, 133, 134, 135, 136, 137, 138, 139, 140, 141, 142, 143, 144, 145, 146, 147, 148] (by decide +kernel) (by decide +kernel)
set_option maxRecDepth 20000 in
theorem gX9_ahead_X0_seekAhead : GoodIn wsX9_ahead (wsV RX9 122 RX0 yX0_seekAhead wsX0_seekAhead) := goodIn_app (goodIn_of _ (by decide +kernel)) ggX9_ahead_X0_seekAhead
set_option maxRecDepth 20000 in
theorem ggX9_ahead_X0_found : GoodIn wsX9_ahead wsX0_found := goodIn_r _ [107, 24, 25, 114, 115, 116, 117, 118, 119, 120, 121, 122, 123, 124, 125, 126, 127, 128] (by decide +kernel) (by decide +kernel)
set_option maxRecDepth 20000 in
theorem gX9_ahead_X0_found : GoodIn wsX9_ahead (wsV RX9 119 RX0 yX0_found wsX0_found) := goodIn_app (goodIn_of _ (by decide +kernel)) ggX9_ahead_X0_found
theorem dX9_ahead_0 : decode cX9_ahead 0 = .ok (.aload_n 0, 1) := by decide +kernel
theorem dX9_ahead_1 : decode cX9_ahead 1 = .ok (.getfield 20, 3) := by decide +kernel
theorem dX9_ahead_4 : decode cX9_ahead 4 = .ok (.iload_n 1, 1) := by decide +kernel
theorem dX9_ahead_5 : decode cX9_ahead 5 = .ok (.invokevirtual 53, 3) := by decide +kernel
theorem dX9_ahead_8 : decode cX9_ahead 8 = .ok (.ifCond .eq 10, 3) := by decide +kernel
theorem dX9_ahead_11 : decode cX9_ahead 11 = .ok (.iload_n 2, 1) := by decide +kernel
theorem dX9_ahead_12 : decode cX9_ahead 12 = .ok (.invokestatic 110, 3) := by decide +kernel
theorem dX9_ahead_15 : decode cX9_ahead 15 = .ok (.ifCond .ne 5, 3) := by decide +kernel
theorem dX9_ahead_18 : decode cX9_ahead 18 = .ok (.iconst (-1), 1) := by decide +kernel
theorem dX9_ahead_19 : decode cX9_ahead 19 = .ok (.ireturn, 1) := by decide +kernel
theorem dX9_ahead_20 : decode cX9_ahead 20 = .ok (.aload_n 0, 1) := by decide +kernel
theorem dX9_ahead_21 : decode cX9_ahead 21 = .ok (.getfield 20, 3) := by decide +kernel
theorem dX9_ahead_24 : decode cX9_ahead 24 = .ok (.iload_n 1, 1) := by decide +kernel
theorem dX9_ahead_25 : decode cX9_ahead 25 = .ok (.invokevirtual 83, 3) := by decide +kernel
theorem dX9_ahead_28 : decode cX9_ahead 28 = .ok (.astore 4, 2) := by decide +kernel
theorem dX9_ahead_30 : decode cX9_ahead 30 = .ok (.aload 4, 2) := by decide +kernel
theorem dX9_ahead_32 : decode cX9_ahead 32 = .ok (.iload_n 2, 1) := by decide +kernel
theorem dX9_ahead_33 : decode cX9_ahead 33 = .ok (.invokevirtual 122, 3) := by decide +kernel
theorem dX9_ahead_36 : decode cX9_ahead 36 = .ok (.pop, 1) := by decide +kernel
theorem dX9_ahead_37 : decode cX9_ahead 37 = .ok (.aload 4, 2) := by decide +kernel
theorem dX9_ahead_39 : decode cX9_ahead 39 = .ok (.iload_n 3, 1) := by decide +kernel
theorem dX9_ahead_40 : decode cX9_ahead 40 = .ok (.invokevirtual 119, 3) := by decide +kernel
theorem dX9_ahead_43 : decode cX9_ahead 43 = .ok (.ireturn, 1) := by decide +kernel
set_option maxRecDepth 20000 in
theorem ggX9_count_X7_has : GoodIn wsX9_count wsX7_has := goodIn_r _ [7, 8, 130, 131] (by decide +kernel) (by decide +kernel)
set_option maxRecDepth 20000 in
theorem gX9_count_X7_has : GoodIn wsX9_count (wsV RX9 53 RX7 yX7_has wsX7_has) := goodIn_app (goodIn_of _ (by decide +kernel)) ggX9_count_X7_has
set_option maxRecDepth 20000 in
theorem ggX9_count_X9_areDays : GoodIn wsX9_count wsX9_areDays := goodIn_r _ [12, 13, 14, 11, 15, 16] (by decide +kernel) (by decide +kernel)
set_option maxRecDepth 20000 in
theorem gX9_count_X9_areDays : GoodIn wsX9_count (va_wsS RX9 93 yX9_areDays wsX9_areDays) := goodIn_app (goodIn_of _ (by decide +kernel)) ggX9_count_X9_areDays
set_option maxRecDepth 20000 in
theorem ggX9_count_X7_at : GoodIn wsX9_count wsX7_at := goodIn_r _ [20, 21, 130, 131] (by decide +kernel) (by decide +kernel)
set_option maxRecDepth 20000 in
theorem gX9_count_X7_at : GoodIn wsX9_count (wsV RX9 83 RX7 yX7_at wsX7_at) := goodIn_app (goodIn_of _ (by decide +kernel)) ggX9_count_X7_at
set_option maxRecDepth 20000 in
theorem ggX9_count_X0_beginsIn : GoodIn wsX9_count wsX0_beginsIn := goodIn_r _ [26, 27, 28, 29, 30, 31, 32, 25, 33, 34, 35, 36, 37, 38, 39, 40, 41, 42, 43, 44, 45, 46, 47, 48, 49, 50, 51, 52, 53, 54, 55, 56, 57, 58, 59, 60, 61, 62, 63, 64, 65, 66, 67, 68, 69, 70, 71, 72, 73, 74, 75, 76, 77, 78, 79, 80, 81, 82, 83, 84, 85, 86, 87, 88, 89, 90, 91, 92, 93, 94, 95, 96, 97, 98, 99, 100, 101, 102, 103, 104, 105, 106, 107, 108, 109, 110, 111, 112, 113, 114, 115, 116, 117, 118, 119, 120, 121, 122, 123, 124, 125, 132, 133, 134, 135, 136, 137, 138, 139, 140, 141, 142, 143, 144, 145, 146, 147, 148, 149, 150, 151, 152, 153, 154, 155, 156, 157, 158, 159, 160, 161, 162, 163, 164, 165, 166] (by decide +kernel) (by decide +kernel)
set_option maxRecDepth 20000 in
theorem gX9_count_X0_beginsIn : GoodIn wsX9_count (wsV RX9 125 RX0 yX0_beginsIn wsX0_beginsIn) := goodIn_app (goodIn_of _ (by decide +kernel)) ggX9_count_X0_beginsIn
theorem dX9_count_0 : decode cX9_count 0 = .ok (.aload_n 0, 1) := by decide +kernel
theorem dX9_count_1 : decode cX9_count 1 = .ok (.getfield 20, 3) := by decide +kernel
theorem dX9_count_4 : decode cX9_count 4 = .ok (.iload_n 1, 1) := by decide +kernel
theorem dX9_count_5 : decode cX9_count 5 = .ok (.invokevirtual 53, 3) := by decide +kernel
theorem dX9_count_8 : decode cX9_count 8 = .ok (.ifCond .eq 13, 3) := by decide +kernel
theorem dX9_count_11 : decode cX9_count 11 = .ok (.iload_n 2, 1) := by decide +kernel
theorem dX9_count_12 : decode cX9_count 12 = .ok (.iload_n 3, 1) := by decide +kernel
theorem dX9_count_13 : decode cX9_count 13 = .ok (.ldc 92, 2) := by decide +kernel
theorem dX9_count_15 : decode cX9_count 15 = .ok (.invokestatic 93, 3) := by decide +kernel
theorem dX9_count_18 : decode cX9_count 18 = .ok (.ifCond .ne 5, 3) := by decide +kernel
theorem dX9_count_21 : decode cX9_count 21 = .ok (.iconst (-1), 1) := by decide +kernel
theorem dX9_count_22 : decode cX9_count 22 = .ok (.ireturn, 1) := by decide +kernel
theorem dX9_count_23 : decode cX9_count 23 = .ok (.aload_n 0, 1) := by decide +kernel
theorem dX9_count_24 : decode cX9_count 24 = .ok (.getfield 20, 3) := by decide +kernel
theorem dX9_count_27 : decode cX9_count 27 = .ok (.iload_n 1, 1) := by decide +kernel
theorem dX9_count_28 : decode cX9_count 28 = .ok (.invokevirtual 83, 3) := by decide +kernel
theorem dX9_count_31 : decode cX9_count 31 = .ok (.iload_n 2, 1) := by decide +kernel
theorem dX9_count_32 : decode cX9_count 32 = .ok (.sipush 1440, 3) := by decide +kernel
theorem dX9_count_35 : decode cX9_count 35 = .ok (.imul, 1) := by decide +kernel
theorem dX9_count_36 : decode cX9_count 36 = .ok (.iload_n 3, 1) := by decide +kernel
theorem dX9_count_37 : decode cX9_count 37 = .ok (.sipush 1440, 3) := by decide +kernel
theorem dX9_count_40 : decode cX9_count 40 = .ok (.imul, 1) := by decide +kernel
theorem dX9_count_41 : decode cX9_count 41 = .ok (.sipush 1440, 3) := by decide +kernel
theorem dX9_count_44 : decode cX9_count 44 = .ok (.iadd, 1) := by decide +kernel
theorem dX9_count_45 : decode cX9_count 45 = .ok (.iconst 1, 1) := by decide +kernel
theorem dX9_count_46 : decode cX9_count 46 = .ok (.isub, 1) := by decide +kernel
theorem dX9_count_47 : decode cX9_count 47 = .ok (.invokevirtual 125, 3) := by decide +kernel
theorem dX9_count_50 : decode cX9_count 50 = .ok (.ireturn, 1) := by decide +kernel
set_option maxRecDepth 20000 in
theorem ggX9_on_X9_countOn : GoodIn wsX9_on wsX9_countOn := goodIn_r _ [5, 6, 7, 8, 9, 10, 4, 11, 12, 13, 14, 15, 16, 17, 18, 19, 20, 21, 22, 23, 24, 25, 26, 27, 28, 29, 30, 31, 32, 33, 34, 35, 36, 37, 38, 39, 40, 41, 42, 43, 44, 45, 46, 47, 48, 49, 50, 51, 52, 53, 54, 55, 56, 57, 58, 59, 60, 61, 62, 63, 64, 65, 66, 67, 68, 69, 70, 71, 72, 73, 74, 75, 76, 77, 78, 79, 80, 81, 82, 83, 84, 85, 86, 87, 88, 89, 90, 91, 92, 93, 94, 95, 96, 97, 98, 99, 100, 101, 102, 103, 104, 105, 106, 107, 108, 109, 110, 111, 112, 113, 114, 115, 116, 117, 118, 119, 120, 121, 122, 123, 124, 125, 126, 127, 128, 129, 130, 131, 132, 133, 134, 135, 136, 137, 138, 139, 140, 141, 142, 143, 144, 145, 146, 147, 148, 149, 150, 151, 152, 153, 154, 155, 156, 157, 158, 159, 160, 161, 162, 163, 164, 165, 166, 167, 168, 169, 170, 171] (by decide +kernel) (by decide +kernel)
set_option maxRecDepth 20000 in
theorem gX9_on_X9_countOn : GoodIn wsX9_on (wsV RX9 128 RX9 yX9_countOn wsX9_countOn) := goodIn_app (goodIn_of _ (by decide +kernel)) ggX9_on_X9_countOn
theorem dX9_on_0 : decode cX9_on 0 = .ok (.aload_n 0, 1) := by decide +kernel
theorem dX9_on_1 : decode cX9_on 1 = .ok (.iload_n 1, 1) := by decide +kernel
theorem dX9_on_2 : decode cX9_on 2 = .ok (.iload_n 2, 1) := by decide +kernel
theorem dX9_on_3 : decode cX9_on 3 = .ok (.iload_n 3, 1) := by decide +kernel
theorem dX9_on_4 : decode cX9_on 4 = .ok (.invokevirtual 128, 3) := by decide +kernel
theorem dX9_on_7 : decode cX9_on 7 = .ok (.ireturn, 1) := by decide +kernel
set_option maxRecDepth 20000 in
theorem ggX9_onAt_X9_countOn : GoodIn wsX9_onAt wsX9_countOn := goodIn_r _ [10, 11, 3, 12, 13, 14, 9, 15, 16, 17, 18, 19, 20, 21, 22, 23, 24, 25, 26, 27, 28, 29, 30, 31, 32, 33, 34, 35, 36, 37, 38, 39, 40, 41, 42, 43, 44, 45, 46, 47, 48, 49, 50, 51, 52, 53, 54, 55, 56, 57, 58, 59, 60, 61, 62, 63, 64, 65, 66, 67, 68, 69, 70, 71, 72, 73, 74, 75, 76, 77, 78, 79, 80, 81, 82, 83, 84, 85, 86, 87, 88, 89, 90, 91, 92, 93, 94, 95, 96, 97, 98, 99, 100, 101, 102, 103, 104, 105, 106, 107, 108, 109, 110, 111, 112, 113, 114, 115, 116, 117, 118, 119, 120, 121, 122, 123, 124, 125, 126, 127, 128, 129, 130, 131, 132, 133, 134, 188, 189, 190, 191, 207, 208, 192, 193, 194, 195, 196, 197, 198, 199, 200, 201, 202, 203, 204, 205, 206, 209, 210, 211, 212, 213, 214, 215, 216, 217, 218, 219, 220, 221, 222, 223, 224, 225, 226, 227, 228] (by decide +kernel) (by decide +kernel)
set_option maxRecDepth 20000 in
theorem gX9_onAt_X9_countOn : GoodIn wsX9_onAt (wsV RX9 128 RX9 yX9_countOn wsX9_countOn) := goodIn_app (goodIn_of _ (by decide +kernel)) ggX9_onAt_X9_countOn
set_option maxRecDepth 20000 in
theorem ggX9_onAt_X9_walkOn : GoodIn wsX9_onAt wsX9_walkOn := goodIn_r _ [138, 3, 12, 5, 4, 27, 28, 29, 23, 30, 25, 139, 140, 141, 34, 142, 36, 143, 144, 145, 38, 37, 39, 40, 41, 42, 43, 44, 45, 46, 47, 146, 147, 148, 149, 56, 61, 65, 150, 151, 152, 153, 70, 154, 76, 77, 78, 155, 156, 157, 81, 158, 83, 84, 85, 58, 59, 60, 86, 91, 92, 93, 94, 95, 87, 88, 89, 90, 96, 97, 98, 99, 100, 101, 102, 103, 104, 105, 106, 107, 159, 160, 110, 161, 112, 113, 162, 163, 116, 164, 118, 119, 120, 125, 126, 165, 166, 167, 168, 169, 127, 170, 171, 172, 173, 174, 175, 176, 177, 178, 179, 180, 9, 181, 182, 20, 21, 22, 24, 26, 183, 184, 185, 186, 187, 188, 189, 190, 191, 207, 208, 192, 193, 194, 195, 196, 197, 198, 199, 200, 201, 202, 203, 204, 205, 206, 209, 210, 211, 212, 213, 214, 215, 216, 217, 218, 219, 220, 221, 222, 223, 224, 225, 226, 227, 228] (by decide +kernel) (by decide +kernel)
set_option maxRecDepth 20000 in
theorem gX9_onAt_X9_walkOn : GoodIn wsX9_onAt (wsV RX9 139 RX9 yX9_walkOn wsX9_walkOn) := goodIn_app (goodIn_of _ (by decide +kernel)) ggX9_onAt_X9_walkOn
set_option maxRecDepth 20000 in
theorem ggX9_onAt_X7_has : GoodIn wsX9_onAt wsX7_has := goodIn_r _ [186, 187, 207, 208] (by decide +kernel) (by decide +kernel)
set_option maxRecDepth 20000 in
theorem gX9_onAt_X7_has : GoodIn wsX9_onAt (wsV RX9 53 RX7 yX7_has wsX7_has) := goodIn_app (goodIn_of _ (by decide +kernel)) ggX9_onAt_X7_has
set_option maxRecDepth 20000 in
theorem ggX9_onAt_X7_at : GoodIn wsX9_onAt wsX7_at := goodIn_r _ [30, 25, 207, 208] (by decide +kernel) (by decide +kernel)
set_option maxRecDepth 20000 in
theorem gX9_onAt_X7_at : GoodIn wsX9_onAt (wsV RX9 83 RX7 yX7_at wsX7_at) := goodIn_app (goodIn_of _ (by decide +kernel)) ggX9_onAt_X7_at
theorem dX9_onAt_0 : decode cX9_onAt 0 = .ok (.iload 4, 2) := by decide +kernel
theorem dX9_onAt_2 : decode cX9_onAt 2 = .ok (.ifCond .lt 26, 3) := by decide +kernel
theorem dX9_onAt_5 : decode cX9_onAt 5 = .ok (.iload 4, 2) := by decide +kernel
theorem dX9_onAt_7 : decode cX9_onAt 7 = .ok (.aload_n 0, 1) := by decide +kernel
theorem dX9_onAt_8 : decode cX9_onAt 8 = .ok (.iload_n 1, 1) := by decide +kernel
theorem dX9_onAt_9 : decode cX9_onAt 9 = .ok (.iload_n 2, 1) := by decide +kernel
theorem dX9_onAt_10 : decode cX9_onAt 10 = .ok (.iload_n 3, 1) := by decide +kernel
theorem dX9_onAt_11 : decode cX9_onAt 11 = .ok (.invokevirtual 128, 3) := by decide +kernel
theorem dX9_onAt_14 : decode cX9_onAt 14 = .ok (.if_icmp .ge 14, 3) := by decide +kernel
theorem dX9_onAt_17 : decode cX9_onAt 17 = .ok (.iload 5, 2) := by decide +kernel
theorem dX9_onAt_19 : decode cX9_onAt 19 = .ok (.ifCond .lt 9, 3) := by decide +kernel
theorem dX9_onAt_22 : decode cX9_onAt 22 = .ok (.iload 5, 2) := by decide +kernel
theorem dX9_onAt_24 : decode cX9_onAt 24 = .ok (.iconst 2, 1) := by decide +kernel
theorem dX9_onAt_25 : decode cX9_onAt 25 = .ok (.if_icmp .le 13, 3) := by decide +kernel
theorem dX9_onAt_28 : decode cX9_onAt 28 = .ok (.new 132, 3) := by decide +kernel
theorem dX9_onAt_31 : decode cX9_onAt 31 = .ok (.dup, 1) := by decide +kernel
theorem dX9_onAt_32 : decode cX9_onAt 32 = .ok (.ldc 134, 2) := by decide +kernel
theorem dX9_onAt_34 : decode cX9_onAt 34 = .ok (.invokespecial 136, 3) := by decide +kernel
theorem dX9_onAt_37 : decode cX9_onAt 37 = .ok (.athrow, 1) := by decide +kernel
theorem dX9_onAt_38 : decode cX9_onAt 38 = .ok (.aload_n 0, 1) := by decide +kernel
theorem dX9_onAt_39 : decode cX9_onAt 39 = .ok (.iload_n 1, 1) := by decide +kernel
theorem dX9_onAt_40 : decode cX9_onAt 40 = .ok (.iload_n 2, 1) := by decide +kernel
theorem dX9_onAt_41 : decode cX9_onAt 41 = .ok (.iload 4, 2) := by decide +kernel
theorem dX9_onAt_43 : decode cX9_onAt 43 = .ok (.invokevirtual 139, 3) := by decide +kernel
theorem dX9_onAt_46 : decode cX9_onAt 46 = .ok (.istore 6, 2) := by decide +kernel
theorem dX9_onAt_48 : decode cX9_onAt 48 = .ok (.aload_n 0, 1) := by decide +kernel
theorem dX9_onAt_49 : decode cX9_onAt 49 = .ok (.getfield 20, 3) := by decide +kernel
theorem dX9_onAt_52 : decode cX9_onAt 52 = .ok (.iload 6, 2) := by decide +kernel
theorem dX9_onAt_54 : decode cX9_onAt 54 = .ok (.invokevirtual 53, 3) := by decide +kernel
theorem dX9_onAt_57 : decode cX9_onAt 57 = .ok (.ifCond .ne 13, 3) := by decide +kernel
theorem dX9_onAt_60 : decode cX9_onAt 60 = .ok (.new 132, 3) := by decide +kernel
theorem dX9_onAt_63 : decode cX9_onAt 63 = .ok (.dup, 1) := by decide +kernel
theorem dX9_onAt_64 : decode cX9_onAt 64 = .ok (.ldc 134, 2) := by decide +kernel
theorem dX9_onAt_66 : decode cX9_onAt 66 = .ok (.invokespecial 136, 3) := by decide +kernel
theorem dX9_onAt_69 : decode cX9_onAt 69 = .ok (.athrow, 1) := by decide +kernel
theorem dX9_onAt_70 : decode cX9_onAt 70 = .ok (.iload 5, 2) := by decide +kernel
theorem dX9_onAt_72 : decode cX9_onAt 72 = .ok (.ifCond .ne 6, 3) := by decide +kernel
theorem dX9_onAt_75 : decode cX9_onAt 75 = .ok (.iload 6, 2) := by decide +kernel
theorem dX9_onAt_77 : decode cX9_onAt 77 = .ok (.ireturn, 1) := by decide +kernel
theorem dX9_onAt_78 : decode cX9_onAt 78 = .ok (.aload_n 0, 1) := by decide +kernel
theorem dX9_onAt_79 : decode cX9_onAt 79 = .ok (.getfield 20, 3) := by decide +kernel
theorem dX9_onAt_82 : decode cX9_onAt 82 = .ok (.iload 6, 2) := by decide +kernel
theorem dX9_onAt_84 : decode cX9_onAt 84 = .ok (.invokevirtual 83, 3) := by decide +kernel
theorem dX9_onAt_87 : decode cX9_onAt 87 = .ok (.astore 7, 2) := by decide +kernel
theorem dX9_onAt_89 : decode cX9_onAt 89 = .ok (.iload 5, 2) := by decide +kernel
theorem dX9_onAt_91 : decode cX9_onAt 91 = .ok (.iconst 1, 1) := by decide +kernel
theorem dX9_onAt_92 : decode cX9_onAt 92 = .ok (.if_icmp .ne 11, 3) := by decide +kernel
theorem dX9_onAt_95 : decode cX9_onAt 95 = .ok (.aload 7, 2) := by decide +kernel
theorem dX9_onAt_97 : decode cX9_onAt 97 = .ok (.getfield 142, 3) := by decide +kernel
theorem dX9_onAt_100 : decode cX9_onAt 100 = .ok (.goto 8, 3) := by decide +kernel
theorem dX9_onAt_103 : decode cX9_onAt 103 = .ok (.aload 7, 2) := by decide +kernel
theorem dX9_onAt_105 : decode cX9_onAt 105 = .ok (.getfield 145, 3) := by decide +kernel
theorem dX9_onAt_108 : decode cX9_onAt 108 = .ok (.ireturn, 1) := by decide +kernel
set_option maxRecDepth 20000 in
theorem ggX9_clash_X9_areTwo : GoodIn wsX9_clash wsX9_areTwo := goodIn_r _ [7, 1, 8, 9, 10, 11, 12, 13, 208, 209, 210, 211, 212, 213] (by decide +kernel) (by decide +kernel)
set_option maxRecDepth 20000 in
theorem gX9_clash_X9_areTwo : GoodIn wsX9_clash (wsV RX9 148 RX9 yX9_areTwo wsX9_areTwo) := goodIn_app (goodIn_of _ (by decide +kernel)) ggX9_clash_X9_areTwo
set_option maxRecDepth 20000 in
theorem ggX9_clash_X9_isTime : GoodIn wsX9_clash wsX9_isTime := goodIn_r _ [16, 17] (by decide +kernel) (by decide +kernel)
set_option maxRecDepth 20000 in
theorem gX9_clash_X9_isTime : GoodIn wsX9_clash (va_wsS RX9 110 yX9_isTime wsX9_isTime) := goodIn_app (goodIn_of _ (by decide +kernel)) ggX9_clash_X9_isTime
set_option maxRecDepth 20000 in
theorem ggX9_clash_X7_at : GoodIn wsX9_clash wsX7_at := goodIn_r _ [21, 22, 212, 213] (by decide +kernel) (by decide +kernel)
set_option maxRecDepth 20000 in
theorem gX9_clash_X7_at : GoodIn wsX9_clash (wsV RX9 83 RX7 yX7_at wsX7_at) := goodIn_app (goodIn_of _ (by decide +kernel)) ggX9_clash_X7_at
set_option maxRecDepth 20000 in
theorem ggX9_clash_X9_movedClash : GoodIn wsX9_clash wsX9_movedClash := goodIn_r _ [25, 26, 27, 28, 29, 30, 31, 32, 33, 34, 35, 36, 37, 38, 39, 40, 41, 42, 43, 44, 45, 46, 47, 48, 49, 50, 51, 52, 53, 54, 55, 56, 57, 58, 59, 60, 61, 62, 63, 64, 65, 66, 67, 68, 69, 70, 71, 72, 73, 74, 75, 76, 77, 78, 79, 80, 81, 82, 83, 84, 85, 86, 87, 88, 89, 90, 91, 92, 93, 94, 95, 96, 97, 98, 99, 100, 101, 102, 103, 104, 105, 106, 107, 108, 109, 110, 111, 112, 113, 114, 115, 116, 117, 118, 119, 120, 121, 122, 123, 124, 125, 126, 127, 128, 129, 130, 131, 132, 133, 134, 135, 136, 137, 138, 139, 140, 141, 142, 143, 144, 145, 146, 147, 148, 149, 150, 151, 152, 153, 154, 155, 156, 157, 158, 159, 160, 161, 162, 163, 164, 165, 214, 215, 216, 217, 218, 219, 220, 221, 222, 223, 224, 225, 226, 227, 228, 229, 230, 231, 232, 233, 234, 235, 236, 237, 238, 239, 240, 241, 242, 243, 244, 245, 246, 247, 248] (by decide +kernel) (by decide +kernel)
set_option maxRecDepth 20000 in
theorem gX9_clash_X9_movedClash : GoodIn wsX9_clash (va_wsS RX9 152 yX9_movedClash wsX9_movedClash) := goodIn_app (goodIn_of _ (by decide +kernel)) ggX9_clash_X9_movedClash
set_option maxRecDepth 20000 in
theorem ggX9_clash_X9_ruledClash : GoodIn wsX9_clash wsX9_ruledClash := goodIn_r _ [168, 169, 170, 171, 41, 31, 42, 172, 28, 29, 30, 32, 173, 174, 6, 175, 176, 26, 177, 178, 179, 180, 181, 182, 183, 184, 72, 185, 76, 186, 187, 79, 188, 189, 82, 190, 191, 192, 193, 194, 195, 196, 197, 103, 198, 199, 200, 109, 201, 202, 114, 203, 204, 137, 138, 36, 139, 65, 66, 67, 140, 141, 142, 143, 144, 74, 75, 145, 146, 147, 148, 83, 84, 149, 150, 151, 152, 153, 81, 85, 86, 87, 88, 89, 90, 91, 92, 93, 94, 95, 96, 97, 98, 99, 100, 154, 155, 156, 105, 106, 157, 158, 159, 111, 112, 160, 113, 161, 162, 163, 164, 165, 119, 205, 125, 126, 127, 56, 206, 133, 134, 135, 57, 58, 59, 60, 207, 121, 122, 123, 48, 51, 33, 34, 35, 37, 38, 39, 40, 43, 44, 45, 46, 47, 49, 50, 52, 53, 54, 55, 61, 62, 63, 64, 68, 69, 70, 71, 73, 77, 78, 80, 101, 102, 104, 107, 108, 110, 115, 116, 117, 118, 120, 124, 128, 129, 130, 131, 132, 136, 214, 215, 216, 217, 218, 219, 220, 221, 222, 223, 224, 225, 226, 227, 228, 229, 230, 231, 232, 233, 234, 235, 236, 237, 238, 239, 243, 244, 245, 246, 247, 248, 240, 241, 242] (by decide +kernel) (by decide +kernel)
set_option maxRecDepth 20000 in
theorem gX9_clash_X9_ruledClash : GoodIn wsX9_clash (va_wsS RX9 156 yX9_ruledClash wsX9_ruledClash) := goodIn_app (goodIn_of _ (by decide +kernel)) ggX9_clash_X9_ruledClash
theorem dX9_clash_0 : decode cX9_clash 0 = .ok (.aload_n 0, 1) := by decide +kernel
theorem dX9_clash_1 : decode cX9_clash 1 = .ok (.iload_n 1, 1) := by decide +kernel
theorem dX9_clash_2 : decode cX9_clash 2 = .ok (.iload_n 2, 1) := by decide +kernel
theorem dX9_clash_3 : decode cX9_clash 3 = .ok (.invokevirtual 148, 3) := by decide +kernel
theorem dX9_clash_6 : decode cX9_clash 6 = .ok (.ifCond .eq 10, 3) := by decide +kernel
theorem dX9_clash_9 : decode cX9_clash 9 = .ok (.iload_n 3, 1) := by decide +kernel
theorem dX9_clash_10 : decode cX9_clash 10 = .ok (.invokestatic 110, 3) := by decide +kernel
theorem dX9_clash_13 : decode cX9_clash 13 = .ok (.ifCond .ne 5, 3) := by decide +kernel
theorem dX9_clash_16 : decode cX9_clash 16 = .ok (.iconst (-1), 1) := by decide +kernel
theorem dX9_clash_17 : decode cX9_clash 17 = .ok (.ireturn, 1) := by decide +kernel
theorem dX9_clash_18 : decode cX9_clash 18 = .ok (.aload_n 0, 1) := by decide +kernel
theorem dX9_clash_19 : decode cX9_clash 19 = .ok (.getfield 20, 3) := by decide +kernel
theorem dX9_clash_22 : decode cX9_clash 22 = .ok (.iload_n 1, 1) := by decide +kernel
theorem dX9_clash_23 : decode cX9_clash 23 = .ok (.invokevirtual 83, 3) := by decide +kernel
theorem dX9_clash_26 : decode cX9_clash 26 = .ok (.astore 4, 2) := by decide +kernel
theorem dX9_clash_28 : decode cX9_clash 28 = .ok (.aload_n 0, 1) := by decide +kernel
theorem dX9_clash_29 : decode cX9_clash 29 = .ok (.getfield 20, 3) := by decide +kernel
theorem dX9_clash_32 : decode cX9_clash 32 = .ok (.iload_n 2, 1) := by decide +kernel
theorem dX9_clash_33 : decode cX9_clash 33 = .ok (.invokevirtual 83, 3) := by decide +kernel
theorem dX9_clash_36 : decode cX9_clash 36 = .ok (.astore 5, 2) := by decide +kernel
theorem dX9_clash_38 : decode cX9_clash 38 = .ok (.aload 4, 2) := by decide +kernel
theorem dX9_clash_40 : decode cX9_clash 40 = .ok (.aload 5, 2) := by decide +kernel
theorem dX9_clash_42 : decode cX9_clash 42 = .ok (.iload_n 3, 1) := by decide +kernel
theorem dX9_clash_43 : decode cX9_clash 43 = .ok (.ldc 151, 2) := by decide +kernel
theorem dX9_clash_45 : decode cX9_clash 45 = .ok (.invokestatic 152, 3) := by decide +kernel
theorem dX9_clash_48 : decode cX9_clash 48 = .ok (.istore 6, 2) := by decide +kernel
theorem dX9_clash_50 : decode cX9_clash 50 = .ok (.aload 4, 2) := by decide +kernel
theorem dX9_clash_52 : decode cX9_clash 52 = .ok (.aload 5, 2) := by decide +kernel
theorem dX9_clash_54 : decode cX9_clash 54 = .ok (.iload_n 3, 1) := by decide +kernel
theorem dX9_clash_55 : decode cX9_clash 55 = .ok (.iload 6, 2) := by decide +kernel
theorem dX9_clash_57 : decode cX9_clash 57 = .ok (.invokestatic 156, 3) := by decide +kernel
theorem dX9_clash_60 : decode cX9_clash 60 = .ok (.istore 6, 2) := by decide +kernel
theorem dX9_clash_62 : decode cX9_clash 62 = .ok (.iload 6, 2) := by decide +kernel
theorem dX9_clash_64 : decode cX9_clash 64 = .ok (.ldc 151, 2) := by decide +kernel
theorem dX9_clash_66 : decode cX9_clash 66 = .ok (.if_icmp .ne 7, 3) := by decide +kernel
theorem dX9_clash_69 : decode cX9_clash 69 = .ok (.iconst (-1), 1) := by decide +kernel
theorem dX9_clash_70 : decode cX9_clash 70 = .ok (.goto 5, 3) := by decide +kernel
theorem dX9_clash_73 : decode cX9_clash 73 = .ok (.iload 6, 2) := by decide +kernel
theorem dX9_clash_75 : decode cX9_clash 75 = .ok (.ireturn, 1) := by decide +kernel
set_option maxRecDepth 20000 in
theorem ggX9_clashes_X9_areTwo : GoodIn wsX9_clashes wsX9_areTwo := goodIn_r _ [6, 1, 7, 8, 9, 10, 11, 12, 174, 175, 176, 177, 178, 179] (by decide +kernel) (by decide +kernel)
set_option maxRecDepth 20000 in
theorem gX9_clashes_X9_areTwo : GoodIn wsX9_clashes (wsV RX9 148 RX9 yX9_areTwo wsX9_areTwo) := goodIn_app (goodIn_of _ (by decide +kernel)) ggX9_clashes_X9_areTwo
set_option maxRecDepth 20000 in
theorem ggX9_clashes_X9_areDays : GoodIn wsX9_clashes wsX9_areDays := goodIn_r _ [15, 16, 17, 5, 18, 19] (by decide +kernel) (by decide +kernel)
set_option maxRecDepth 20000 in
theorem gX9_clashes_X9_areDays : GoodIn wsX9_clashes (va_wsS RX9 93 yX9_areDays wsX9_areDays) := goodIn_app (goodIn_of _ (by decide +kernel)) ggX9_clashes_X9_areDays
set_option maxRecDepth 20000 in
theorem ggX9_clashes_X7_at : GoodIn wsX9_clashes wsX7_at := goodIn_r _ [23, 24, 178, 179] (by decide +kernel) (by decide +kernel)
set_option maxRecDepth 20000 in
theorem gX9_clashes_X7_at : GoodIn wsX9_clashes (wsV RX9 83 RX7 yX7_at wsX7_at) := goodIn_app (goodIn_of _ (by decide +kernel)) ggX9_clashes_X7_at
set_option maxRecDepth 20000 in
theorem ggX9_clashes_X9_countMet : GoodIn wsX9_clashes wsX9_countMet := goodIn_r _ [27, 19, 28, 29, 30, 31, 32, 33, 34, 35, 36, 37, 38, 39, 40, 41, 42, 43, 44, 45, 46, 47, 48, 49, 50, 51, 52, 53, 54, 55, 56, 57, 58, 59, 60, 61, 62, 63, 64, 65, 66, 67, 68, 69, 70, 71, 72, 73, 74, 75, 76, 77, 78, 79, 80, 81, 82, 83, 84, 85, 86, 87, 88, 89, 90, 91, 92, 93, 94, 95, 96, 97, 98, 99, 100, 101, 102, 103, 104, 105, 106, 107, 108, 109, 110, 111, 112, 113, 114, 115, 116, 117, 118, 119, 120, 121, 122, 123, 124, 125, 126, 127, 128, 129, 130, 131, 132, 133, 134, 135, 136, 137, 138, 139, 140, 141, 142, 143, 144, 145, 146, 147, 148, 149, 150, 151, 152, 153, 154, 155, 156, 157, 158, 159, 160, 161, 162, 163, 164, 165, 166, 167, 168, 169, 170, 171, 172, 173, 180, 181, 182, 183, 184, 185, 186, 187, 188, 189, 190, 191, 192, 193, 194, 195, 196, 197, 198, 199, 200, 201, 202, 203, 204, 205, 206, 207, 208, 209, 210, 211, 212, 213, 214] (by decide +kernel) (by decide +kernel)
set_option maxRecDepth 20000 in
theorem gX9_clashes_X9_countMet : GoodIn wsX9_clashes (va_wsS RX9 159 yX9_countMet wsX9_countMet) := goodIn_app (goodIn_of _ (by decide +kernel)) ggX9_clashes_X9_countMet
theorem dX9_clashes_0 : decode cX9_clashes 0 = .ok (.aload_n 0, 1) := by decide +kernel
theorem dX9_clashes_1 : decode cX9_clashes 1 = .ok (.iload_n 1, 1) := by decide +kernel
theorem dX9_clashes_2 : decode cX9_clashes 2 = .ok (.iload_n 2, 1) := by decide +kernel
theorem dX9_clashes_3 : decode cX9_clashes 3 = .ok (.invokevirtual 148, 3) := by decide +kernel
theorem dX9_clashes_6 : decode cX9_clashes 6 = .ok (.ifCond .eq 15, 3) := by decide +kernel
theorem dX9_clashes_9 : decode cX9_clashes 9 = .ok (.iload_n 3, 1) := by decide +kernel
theorem dX9_clashes_10 : decode cX9_clashes 10 = .ok (.iload 4, 2) := by decide +kernel
theorem dX9_clashes_12 : decode cX9_clashes 12 = .ok (.sipush 400, 3) := by decide +kernel
theorem dX9_clashes_15 : decode cX9_clashes 15 = .ok (.invokestatic 93, 3) := by decide +kernel
theorem dX9_clashes_18 : decode cX9_clashes 18 = .ok (.ifCond .ne 5, 3) := by decide +kernel
theorem dX9_clashes_21 : decode cX9_clashes 21 = .ok (.iconst (-1), 1) := by decide +kernel
theorem dX9_clashes_22 : decode cX9_clashes 22 = .ok (.ireturn, 1) := by decide +kernel
theorem dX9_clashes_23 : decode cX9_clashes 23 = .ok (.aload_n 0, 1) := by decide +kernel
theorem dX9_clashes_24 : decode cX9_clashes 24 = .ok (.getfield 20, 3) := by decide +kernel
theorem dX9_clashes_27 : decode cX9_clashes 27 = .ok (.iload_n 1, 1) := by decide +kernel
theorem dX9_clashes_28 : decode cX9_clashes 28 = .ok (.invokevirtual 83, 3) := by decide +kernel
theorem dX9_clashes_31 : decode cX9_clashes 31 = .ok (.astore 5, 2) := by decide +kernel
theorem dX9_clashes_33 : decode cX9_clashes 33 = .ok (.aload_n 0, 1) := by decide +kernel
theorem dX9_clashes_34 : decode cX9_clashes 34 = .ok (.getfield 20, 3) := by decide +kernel
theorem dX9_clashes_37 : decode cX9_clashes 37 = .ok (.iload_n 2, 1) := by decide +kernel
theorem dX9_clashes_38 : decode cX9_clashes 38 = .ok (.invokevirtual 83, 3) := by decide +kernel
theorem dX9_clashes_41 : decode cX9_clashes 41 = .ok (.astore 6, 2) := by decide +kernel
theorem dX9_clashes_43 : decode cX9_clashes 43 = .ok (.iload_n 3, 1) := by decide +kernel
theorem dX9_clashes_44 : decode cX9_clashes 44 = .ok (.sipush 1440, 3) := by decide +kernel
theorem dX9_clashes_47 : decode cX9_clashes 47 = .ok (.imul, 1) := by decide +kernel
theorem dX9_clashes_48 : decode cX9_clashes 48 = .ok (.istore 7, 2) := by decide +kernel
theorem dX9_clashes_50 : decode cX9_clashes 50 = .ok (.iload 4, 2) := by decide +kernel
theorem dX9_clashes_52 : decode cX9_clashes 52 = .ok (.sipush 1440, 3) := by decide +kernel
theorem dX9_clashes_55 : decode cX9_clashes 55 = .ok (.imul, 1) := by decide +kernel
theorem dX9_clashes_56 : decode cX9_clashes 56 = .ok (.sipush 1440, 3) := by decide +kernel
theorem dX9_clashes_59 : decode cX9_clashes 59 = .ok (.iadd, 1) := by decide +kernel
theorem dX9_clashes_60 : decode cX9_clashes 60 = .ok (.iconst 1, 1) := by decide +kernel
theorem dX9_clashes_61 : decode cX9_clashes 61 = .ok (.isub, 1) := by decide +kernel
theorem dX9_clashes_62 : decode cX9_clashes 62 = .ok (.istore 8, 2) := by decide +kernel
theorem dX9_clashes_64 : decode cX9_clashes 64 = .ok (.aload 5, 2) := by decide +kernel
theorem dX9_clashes_66 : decode cX9_clashes 66 = .ok (.aload 6, 2) := by decide +kernel
theorem dX9_clashes_68 : decode cX9_clashes 68 = .ok (.iload 7, 2) := by decide +kernel
theorem dX9_clashes_70 : decode cX9_clashes 70 = .ok (.iload 8, 2) := by decide +kernel
theorem dX9_clashes_72 : decode cX9_clashes 72 = .ok (.iconst 0, 1) := by decide +kernel
theorem dX9_clashes_73 : decode cX9_clashes 73 = .ok (.invokestatic 159, 3) := by decide +kernel
theorem dX9_clashes_76 : decode cX9_clashes 76 = .ok (.aload 6, 2) := by decide +kernel
theorem dX9_clashes_78 : decode cX9_clashes 78 = .ok (.aload 5, 2) := by decide +kernel
theorem dX9_clashes_80 : decode cX9_clashes 80 = .ok (.iload 7, 2) := by decide +kernel
theorem dX9_clashes_82 : decode cX9_clashes 82 = .ok (.iload 8, 2) := by decide +kernel
theorem dX9_clashes_84 : decode cX9_clashes 84 = .ok (.iconst 1, 1) := by decide +kernel
theorem dX9_clashes_85 : decode cX9_clashes 85 = .ok (.invokestatic 159, 3) := by decide +kernel
theorem dX9_clashes_88 : decode cX9_clashes 88 = .ok (.iadd, 1) := by decide +kernel
theorem dX9_clashes_89 : decode cX9_clashes 89 = .ok (.ireturn, 1) := by decide +kernel
set_option maxRecDepth 20000 in
theorem ggX9_roomClash_X9_isRoom : GoodIn wsX9_roomClash wsX9_isRoom := goodIn_r _ [6] (by decide +kernel) (by decide +kernel)
set_option maxRecDepth 20000 in
theorem gX9_roomClash_X9_isRoom : GoodIn wsX9_roomClash (va_wsS RX9 163 yX9_isRoom wsX9_isRoom) := goodIn_app (goodIn_of _ (by decide +kernel)) ggX9_roomClash_X9_isRoom
set_option maxRecDepth 20000 in
theorem ggX9_roomClash_X9_isTime : GoodIn wsX9_roomClash wsX9_isTime := goodIn_r _ [9, 10] (by decide +kernel) (by decide +kernel)
set_option maxRecDepth 20000 in
theorem gX9_roomClash_X9_isTime : GoodIn wsX9_roomClash (va_wsS RX9 110 yX9_isTime wsX9_isTime) := goodIn_app (goodIn_of _ (by decide +kernel)) ggX9_roomClash_X9_isTime
set_option maxRecDepth 20000 in
theorem ggX9_roomClash_X7_isOf : GoodIn wsX9_roomClash wsX7_isOf := goodIn_r _ [15, 16, 17, 211, 212, 213, 214, 215, 216, 217, 218, 219, 220, 221, 222, 223, 224, 225, 226, 227] (by decide +kernel) (by decide +kernel)
set_option maxRecDepth 20000 in
theorem gX9_roomClash_X7_isOf : GoodIn wsX9_roomClash (wsV RX9 169 RX7 yX7_isOf wsX7_isOf) := goodIn_app (goodIn_of _ (by decide +kernel)) ggX9_roomClash_X7_isOf
set_option maxRecDepth 20000 in
theorem ggX9_roomClash_X7_at : GoodIn wsX9_roomClash wsX7_at := goodIn_r _ [21, 16, 211, 212] (by decide +kernel) (by decide +kernel)
set_option maxRecDepth 20000 in
theorem gX9_roomClash_X7_at : GoodIn wsX9_roomClash (wsV RX9 83 RX7 yX7_at wsX7_at) := goodIn_app (goodIn_of _ (by decide +kernel)) ggX9_roomClash_X7_at
set_option maxRecDepth 20000 in
theorem ggX9_roomClash_X9_movedClash : GoodIn wsX9_roomClash wsX9_movedClash := goodIn_r _ [24, 25, 26, 27, 28, 29, 30, 31, 32, 33, 34, 35, 36, 37, 38, 39, 40, 41, 42, 43, 44, 45, 46, 47, 48, 49, 50, 51, 52, 53, 54, 55, 56, 57, 58, 59, 60, 61, 62, 63, 64, 65, 66, 67, 68, 69, 70, 71, 72, 73, 74, 75, 76, 77, 78, 79, 80, 81, 82, 83, 84, 85, 86, 87, 88, 89, 90, 91, 92, 93, 94, 95, 96, 97, 98, 99, 100, 101, 102, 103, 104, 105, 106, 107, 108, 109, 110, 111, 112, 113, 114, 115, 116, 117, 118, 119, 120, 121, 122, 123, 124, 125, 126, 127, 128, 129, 130, 131, 132, 133, 134, 135, 136, 137, 138, 139, 140, 141, 142, 143, 144, 145, 146, 147, 148, 149, 150, 151, 152, 153, 154, 155, 156, 157, 158, 159, 160, 161, 162, 163, 164, 213, 214, 215, 216, 217, 218, 219, 220, 221, 222, 223, 224, 225, 226, 227, 228, 229, 230, 231, 232, 233, 234, 235, 236, 237, 238, 239, 240, 241, 242, 243, 244, 245, 246, 247] (by decide +kernel) (by decide +kernel)
set_option maxRecDepth 20000 in
theorem gX9_roomClash_X9_movedClash : GoodIn wsX9_roomClash (va_wsS RX9 152 yX9_movedClash wsX9_movedClash) := goodIn_app (goodIn_of _ (by decide +kernel)) ggX9_roomClash_X9_movedClash
set_option maxRecDepth 20000 in
theorem ggX9_roomClash_X9_ruledClash : GoodIn wsX9_roomClash wsX9_ruledClash := goodIn_r _ [167, 168, 169, 170, 40, 30, 41, 171, 27, 28, 29, 31, 172, 173, 5, 174, 175, 25, 176, 177, 178, 179, 180, 181, 182, 183, 71, 184, 75, 185, 186, 78, 187, 188, 81, 189, 190, 191, 192, 193, 194, 195, 196, 102, 197, 198, 199, 108, 200, 201, 113, 202, 203, 136, 137, 35, 138, 64, 65, 66, 139, 140, 141, 142, 143, 73, 74, 144, 145, 146, 147, 82, 83, 148, 149, 150, 151, 152, 80, 84, 85, 86, 87, 88, 89, 90, 91, 92, 93, 94, 95, 96, 97, 98, 99, 153, 154, 155, 104, 105, 156, 157, 158, 110, 111, 159, 112, 160, 161, 162, 163, 164, 118, 204, 124, 125, 126, 55, 205, 132, 133, 134, 56, 57, 58, 59, 206, 120, 121, 122, 47, 50, 32, 33, 34, 36, 37, 38, 39, 42, 43, 44, 45, 46, 48, 49, 51, 52, 53, 54, 60, 61, 62, 63, 67, 68, 69, 70, 72, 76, 77, 79, 100, 101, 103, 106, 107, 109, 114, 115, 116, 117, 119, 123, 127, 128, 129, 130, 131, 135, 213, 214, 215, 216, 217, 218, 219, 220, 221, 222, 223, 224, 225, 226, 227, 228, 229, 230, 231, 232, 233, 234, 235, 236, 237, 238, 242, 243, 244, 245, 246, 247, 239, 240, 241] (by decide +kernel) (by decide +kernel)
set_option maxRecDepth 20000 in
theorem gX9_roomClash_X9_ruledClash : GoodIn wsX9_roomClash (va_wsS RX9 156 yX9_ruledClash wsX9_ruledClash) := goodIn_app (goodIn_of _ (by decide +kernel)) ggX9_roomClash_X9_ruledClash
theorem dX9_roomClash_0 : decode cX9_roomClash 0 = .ok (.iload_n 1, 1) := by decide +kernel
theorem dX9_roomClash_1 : decode cX9_roomClash 1 = .ok (.invokestatic 163, 3) := by decide +kernel
theorem dX9_roomClash_4 : decode cX9_roomClash 4 = .ok (.ifCond .eq 19, 3) := by decide +kernel
theorem dX9_roomClash_7 : decode cX9_roomClash 7 = .ok (.iload_n 2, 1) := by decide +kernel
theorem dX9_roomClash_8 : decode cX9_roomClash 8 = .ok (.invokestatic 110, 3) := by decide +kernel
theorem dX9_roomClash_11 : decode cX9_roomClash 11 = .ok (.ifCond .eq 12, 3) := by decide +kernel
theorem dX9_roomClash_14 : decode cX9_roomClash 14 = .ok (.iload_n 3, 1) := by decide +kernel
theorem dX9_roomClash_15 : decode cX9_roomClash 15 = .ok (.ifCond .lt 8, 3) := by decide +kernel
theorem dX9_roomClash_18 : decode cX9_roomClash 18 = .ok (.iload_n 3, 1) := by decide +kernel
theorem dX9_roomClash_19 : decode cX9_roomClash 19 = .ok (.iconst 2, 1) := by decide +kernel
theorem dX9_roomClash_20 : decode cX9_roomClash 20 = .ok (.if_icmp .le 5, 3) := by decide +kernel
theorem dX9_roomClash_23 : decode cX9_roomClash 23 = .ok (.iconst (-1), 1) := by decide +kernel
theorem dX9_roomClash_24 : decode cX9_roomClash 24 = .ok (.ireturn, 1) := by decide +kernel
theorem dX9_roomClash_25 : decode cX9_roomClash 25 = .ok (.ldc 151, 2) := by decide +kernel
theorem dX9_roomClash_27 : decode cX9_roomClash 27 = .ok (.istore 4, 2) := by decide +kernel
theorem dX9_roomClash_29 : decode cX9_roomClash 29 = .ok (.iconst (-1), 1) := by decide +kernel
theorem dX9_roomClash_30 : decode cX9_roomClash 30 = .ok (.istore 5, 2) := by decide +kernel
theorem dX9_roomClash_32 : decode cX9_roomClash 32 = .ok (.iconst (-1), 1) := by decide +kernel
theorem dX9_roomClash_33 : decode cX9_roomClash 33 = .ok (.istore 6, 2) := by decide +kernel
theorem dX9_roomClash_35 : decode cX9_roomClash 35 = .ok (.iconst 0, 1) := by decide +kernel
theorem dX9_roomClash_36 : decode cX9_roomClash 36 = .ok (.istore 7, 2) := by decide +kernel
theorem dX9_roomClash_38 : decode cX9_roomClash 38 = .ok (.iload 7, 2) := by decide +kernel
theorem dX9_roomClash_40 : decode cX9_roomClash 40 = .ok (.aload_n 0, 1) := by decide +kernel
theorem dX9_roomClash_41 : decode cX9_roomClash 41 = .ok (.getfield 20, 3) := by decide +kernel
theorem dX9_roomClash_44 : decode cX9_roomClash 44 = .ok (.getfield 166, 3) := by decide +kernel
theorem dX9_roomClash_47 : decode cX9_roomClash 47 = .ok (.if_icmp .ge 130, 3) := by decide +kernel
theorem dX9_roomClash_50 : decode cX9_roomClash 50 = .ok (.iload 7, 2) := by decide +kernel
theorem dX9_roomClash_52 : decode cX9_roomClash 52 = .ok (.iconst 1, 1) := by decide +kernel
theorem dX9_roomClash_53 : decode cX9_roomClash 53 = .ok (.iadd, 1) := by decide +kernel
theorem dX9_roomClash_54 : decode cX9_roomClash 54 = .ok (.istore 8, 2) := by decide +kernel
theorem dX9_roomClash_56 : decode cX9_roomClash 56 = .ok (.iload 8, 2) := by decide +kernel
theorem dX9_roomClash_58 : decode cX9_roomClash 58 = .ok (.aload_n 0, 1) := by decide +kernel
theorem dX9_roomClash_59 : decode cX9_roomClash 59 = .ok (.getfield 20, 3) := by decide +kernel
theorem dX9_roomClash_62 : decode cX9_roomClash 62 = .ok (.getfield 166, 3) := by decide +kernel
theorem dX9_roomClash_65 : decode cX9_roomClash 65 = .ok (.if_icmp .ge 106, 3) := by decide +kernel
theorem dX9_roomClash_68 : decode cX9_roomClash 68 = .ok (.aload_n 0, 1) := by decide +kernel
theorem dX9_roomClash_69 : decode cX9_roomClash 69 = .ok (.getfield 20, 3) := by decide +kernel
theorem dX9_roomClash_72 : decode cX9_roomClash 72 = .ok (.iload 7, 2) := by decide +kernel
theorem dX9_roomClash_74 : decode cX9_roomClash 74 = .ok (.iload_n 1, 1) := by decide +kernel
theorem dX9_roomClash_75 : decode cX9_roomClash 75 = .ok (.invokevirtual 169, 3) := by decide +kernel
theorem dX9_roomClash_78 : decode cX9_roomClash 78 = .ok (.ifCond .eq 87, 3) := by decide +kernel
theorem dX9_roomClash_81 : decode cX9_roomClash 81 = .ok (.aload_n 0, 1) := by decide +kernel
theorem dX9_roomClash_82 : decode cX9_roomClash 82 = .ok (.getfield 20, 3) := by decide +kernel
theorem dX9_roomClash_85 : decode cX9_roomClash 85 = .ok (.iload 8, 2) := by decide +kernel
theorem dX9_roomClash_87 : decode cX9_roomClash 87 = .ok (.iload_n 1, 1) := by decide +kernel
theorem dX9_roomClash_88 : decode cX9_roomClash 88 = .ok (.invokevirtual 169, 3) := by decide +kernel
theorem dX9_roomClash_91 : decode cX9_roomClash 91 = .ok (.ifCond .eq 74, 3) := by decide +kernel
theorem dX9_roomClash_94 : decode cX9_roomClash 94 = .ok (.aload_n 0, 1) := by decide +kernel
theorem dX9_roomClash_95 : decode cX9_roomClash 95 = .ok (.getfield 20, 3) := by decide +kernel
theorem dX9_roomClash_98 : decode cX9_roomClash 98 = .ok (.iload 7, 2) := by decide +kernel
theorem dX9_roomClash_100 : decode cX9_roomClash 100 = .ok (.invokevirtual 83, 3) := by decide +kernel
theorem dX9_roomClash_103 : decode cX9_roomClash 103 = .ok (.aload_n 0, 1) := by decide +kernel
theorem dX9_roomClash_104 : decode cX9_roomClash 104 = .ok (.getfield 20, 3) := by decide +kernel
theorem dX9_roomClash_107 : decode cX9_roomClash 107 = .ok (.iload 8, 2) := by decide +kernel
theorem dX9_roomClash_109 : decode cX9_roomClash 109 = .ok (.invokevirtual 83, 3) := by decide +kernel
theorem dX9_roomClash_112 : decode cX9_roomClash 112 = .ok (.iload_n 2, 1) := by decide +kernel
theorem dX9_roomClash_113 : decode cX9_roomClash 113 = .ok (.iload 4, 2) := by decide +kernel
theorem dX9_roomClash_115 : decode cX9_roomClash 115 = .ok (.invokestatic 152, 3) := by decide +kernel
theorem dX9_roomClash_118 : decode cX9_roomClash 118 = .ok (.istore 9, 2) := by decide +kernel
theorem dX9_roomClash_120 : decode cX9_roomClash 120 = .ok (.aload_n 0, 1) := by decide +kernel
theorem dX9_roomClash_121 : decode cX9_roomClash 121 = .ok (.getfield 20, 3) := by decide +kernel
theorem dX9_roomClash_124 : decode cX9_roomClash 124 = .ok (.iload 7, 2) := by decide +kernel
theorem dX9_roomClash_126 : decode cX9_roomClash 126 = .ok (.invokevirtual 83, 3) := by decide +kernel
theorem dX9_roomClash_129 : decode cX9_roomClash 129 = .ok (.aload_n 0, 1) := by decide +kernel
theorem dX9_roomClash_130 : decode cX9_roomClash 130 = .ok (.getfield 20, 3) := by decide +kernel
theorem dX9_roomClash_133 : decode cX9_roomClash 133 = .ok (.iload 8, 2) := by decide +kernel
theorem dX9_roomClash_135 : decode cX9_roomClash 135 = .ok (.invokevirtual 83, 3) := by decide +kernel
theorem dX9_roomClash_138 : decode cX9_roomClash 138 = .ok (.iload_n 2, 1) := by decide +kernel
theorem dX9_roomClash_139 : decode cX9_roomClash 139 = .ok (.iload 9, 2) := by decide +kernel
theorem dX9_roomClash_141 : decode cX9_roomClash 141 = .ok (.invokestatic 156, 3) := by decide +kernel
theorem dX9_roomClash_144 : decode cX9_roomClash 144 = .ok (.istore 9, 2) := by decide +kernel
theorem dX9_roomClash_146 : decode cX9_roomClash 146 = .ok (.iload 9, 2) := by decide +kernel
theorem dX9_roomClash_148 : decode cX9_roomClash 148 = .ok (.iload 4, 2) := by decide +kernel
theorem dX9_roomClash_150 : decode cX9_roomClash 150 = .ok (.if_icmp .ge 15, 3) := by decide +kernel
theorem dX9_roomClash_153 : decode cX9_roomClash 153 = .ok (.iload 9, 2) := by decide +kernel
theorem dX9_roomClash_155 : decode cX9_roomClash 155 = .ok (.istore 4, 2) := by decide +kernel
theorem dX9_roomClash_157 : decode cX9_roomClash 157 = .ok (.iload 7, 2) := by decide +kernel
theorem dX9_roomClash_159 : decode cX9_roomClash 159 = .ok (.istore 5, 2) := by decide +kernel
theorem dX9_roomClash_161 : decode cX9_roomClash 161 = .ok (.iload 8, 2) := by decide +kernel
theorem dX9_roomClash_163 : decode cX9_roomClash 163 = .ok (.istore 6, 2) := by decide +kernel
theorem dX9_roomClash_165 : decode cX9_roomClash 165 = .ok (.iinc 8 1, 3) := by decide +kernel
theorem dX9_roomClash_168 : decode cX9_roomClash 168 = .ok (.goto (-112), 3) := by decide +kernel
theorem dX9_roomClash_171 : decode cX9_roomClash 171 = .ok (.iinc 7 1, 3) := by decide +kernel
theorem dX9_roomClash_174 : decode cX9_roomClash 174 = .ok (.goto (-136), 3) := by decide +kernel
theorem dX9_roomClash_177 : decode cX9_roomClash 177 = .ok (.iload 4, 2) := by decide +kernel
theorem dX9_roomClash_179 : decode cX9_roomClash 179 = .ok (.ldc 151, 2) := by decide +kernel
theorem dX9_roomClash_181 : decode cX9_roomClash 181 = .ok (.if_icmp .eq 8, 3) := by decide +kernel
theorem dX9_roomClash_184 : decode cX9_roomClash 184 = .ok (.iload_n 3, 1) := by decide +kernel
theorem dX9_roomClash_185 : decode cX9_roomClash 185 = .ok (.iconst 1, 1) := by decide +kernel
theorem dX9_roomClash_186 : decode cX9_roomClash 186 = .ok (.if_icmp .ne 6, 3) := by decide +kernel
theorem dX9_roomClash_189 : decode cX9_roomClash 189 = .ok (.iload 5, 2) := by decide +kernel
theorem dX9_roomClash_191 : decode cX9_roomClash 191 = .ok (.ireturn, 1) := by decide +kernel
theorem dX9_roomClash_192 : decode cX9_roomClash 192 = .ok (.iload_n 3, 1) := by decide +kernel
theorem dX9_roomClash_193 : decode cX9_roomClash 193 = .ok (.ifCond .ne 8, 3) := by decide +kernel
theorem dX9_roomClash_196 : decode cX9_roomClash 196 = .ok (.iload 4, 2) := by decide +kernel
theorem dX9_roomClash_198 : decode cX9_roomClash 198 = .ok (.goto 5, 3) := by decide +kernel
theorem dX9_roomClash_201 : decode cX9_roomClash 201 = .ok (.iload 6, 2) := by decide +kernel
theorem dX9_roomClash_203 : decode cX9_roomClash 203 = .ok (.ireturn, 1) := by decide +kernel
set_option maxRecDepth 20000 in
theorem ggX9_free_X9_isRoom : GoodIn wsX9_free wsX9_isRoom := goodIn_r _ [10] (by decide +kernel) (by decide +kernel)
set_option maxRecDepth 20000 in
theorem gX9_free_X9_isRoom : GoodIn wsX9_free (va_wsS RX9 163 yX9_isRoom wsX9_isRoom) := goodIn_app (goodIn_of _ (by decide +kernel)) ggX9_free_X9_isRoom
set_option maxRecDepth 20000 in
theorem ggX9_free_X9_isTime : GoodIn wsX9_free wsX9_isTime := goodIn_r _ [13, 2] (by decide +kernel) (by decide +kernel)
set_option maxRecDepth 20000 in
theorem gX9_free_X9_isTime : GoodIn wsX9_free (va_wsS RX9 110 yX9_isTime wsX9_isTime) := goodIn_app (goodIn_of _ (by decide +kernel)) ggX9_free_X9_isTime
