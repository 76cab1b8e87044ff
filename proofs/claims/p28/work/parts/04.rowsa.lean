theorem dX0_init_0 : decode cX0_init 0 = .ok (.aload_n 0, 1) := by decide +kernel
theorem dX0_init_1 : decode cX0_init 1 = .ok (.invokespecial 3, 3) := by decide +kernel
theorem dX0_init_4 : decode cX0_init 4 = .ok (.aload_n 0, 1) := by decide +kernel
theorem dX0_init_5 : decode cX0_init 5 = .ok (.bipush 16, 2) := by decide +kernel
theorem dX0_init_7 : decode cX0_init 7 = .ok (.newarray .int, 2) := by decide +kernel
theorem dX0_init_9 : decode cX0_init 9 = .ok (.putfield 9, 3) := by decide +kernel
theorem dX0_init_12 : decode cX0_init 12 = .ok (.aload_n 0, 1) := by decide +kernel
theorem dX0_init_13 : decode cX0_init 13 = .ok (.bipush 16, 2) := by decide +kernel
theorem dX0_init_15 : decode cX0_init 15 = .ok (.newarray .int, 2) := by decide +kernel
theorem dX0_init_17 : decode cX0_init 17 = .ok (.putfield 15, 3) := by decide +kernel
theorem dX0_init_20 : decode cX0_init 20 = .ok (.aload_n 0, 1) := by decide +kernel
theorem dX0_init_21 : decode cX0_init 21 = .ok (.aload_n 1, 1) := by decide +kernel
theorem dX0_init_22 : decode cX0_init 22 = .ok (.putfield 18, 3) := by decide +kernel
theorem dX0_init_25 : decode cX0_init 25 = .ok (.return_, 1) := by decide +kernel
theorem dX0_begin_0 : decode cX0_begin 0 = .ok (.aload_n 0, 1) := by decide +kernel
theorem dX0_begin_1 : decode cX0_begin 1 = .ok (.aload_n 1, 1) := by decide +kernel
theorem dX0_begin_2 : decode cX0_begin 2 = .ok (.putfield 18, 3) := by decide +kernel
theorem dX0_begin_5 : decode cX0_begin 5 = .ok (.aload_n 0, 1) := by decide +kernel
theorem dX0_begin_6 : decode cX0_begin 6 = .ok (.aload_n 1, 1) := by decide +kernel
theorem dX0_begin_7 : decode cX0_begin 7 = .ok (.getfield 22, 3) := by decide +kernel
theorem dX0_begin_10 : decode cX0_begin 10 = .ok (.putfield 28, 3) := by decide +kernel
theorem dX0_begin_13 : decode cX0_begin 13 = .ok (.aload_n 0, 1) := by decide +kernel
theorem dX0_begin_14 : decode cX0_begin 14 = .ok (.iconst (-1), 1) := by decide +kernel
theorem dX0_begin_15 : decode cX0_begin 15 = .ok (.putfield 31, 3) := by decide +kernel
theorem dX0_begin_18 : decode cX0_begin 18 = .ok (.aload_n 0, 1) := by decide +kernel
theorem dX0_begin_19 : decode cX0_begin 19 = .ok (.iconst (-1), 1) := by decide +kernel
theorem dX0_begin_20 : decode cX0_begin 20 = .ok (.putfield 34, 3) := by decide +kernel
theorem dX0_begin_23 : decode cX0_begin 23 = .ok (.aload_n 0, 1) := by decide +kernel
theorem dX0_begin_24 : decode cX0_begin 24 = .ok (.iconst 0, 1) := by decide +kernel
theorem dX0_begin_25 : decode cX0_begin 25 = .ok (.putfield 37, 3) := by decide +kernel
theorem dX0_begin_28 : decode cX0_begin 28 = .ok (.return_, 1) := by decide +kernel
set_option maxRecDepth 20000 in
theorem ggX0_settle_X2_dayFrom : GoodIn wsX0_settle wsX2_dayFrom := goodIn_r _ [14, 15, 16, 17, 18, 139, 140, 141, 142, 143, 144, 145, 146, 147, 148, 149, 150, 151, 152, 153, 154, 155, 156, 157, 158] (by decide +kernel) (by decide +kernel)
set_option maxRecDepth 20000 in
theorem gX0_settle_X2_dayFrom_u41X2 : GoodIn wsX0_settle (va_wsU RX0 41 RX2 "BookIndex$Rule" ⟨"BookIndex$Rule", "dayFrom", "(I)I"⟩ yX2_dayFrom wsX2_dayFrom) := goodIn_app (goodIn_of _ (by decide +kernel)) ggX0_settle_X2_dayFrom
set_option maxRecDepth 20000 in
theorem ggX0_settle_X3_dayFrom : GoodIn wsX0_settle wsX3_dayFrom := goodIn_r _ [22, 23, 24, 25, 26, 27, 28, 29, 30, 31, 32, 21, 33, 34, 35, 36, 37, 38, 39, 40, 41, 42, 43, 44, 45, 46, 47, 48, 49, 50, 139, 140, 141, 142, 143, 144, 145, 146, 147, 148, 149, 150, 151, 152, 153, 154, 155, 156, 157, 158] (by decide +kernel) (by decide +kernel)
set_option maxRecDepth 20000 in
theorem gX0_settle_X3_dayFrom_u41X3 : GoodIn wsX0_settle (va_wsU RX0 41 RX3 "BookIndex$Rule" ⟨"BookIndex$Rule", "dayFrom", "(I)I"⟩ yX3_dayFrom wsX3_dayFrom) := goodIn_app (goodIn_of _ (by decide +kernel)) ggX0_settle_X3_dayFrom
set_option maxRecDepth 20000 in
theorem ggX0_settle_X4_dayFrom : GoodIn wsX0_settle wsX4_dayFrom := goodIn_r _ [54, 55, 56, 139, 140, 141, 142, 143, 144, 145, 146, 147, 148, 149, 150, 151, 152, 153, 154, 155, 156, 157, 158] (by decide +kernel) (by decide +kernel)
set_option maxRecDepth 20000 in
theorem gX0_settle_X4_dayFrom_u41X4 : GoodIn wsX0_settle (va_wsU RX0 41 RX4 "BookIndex$Rule" ⟨"BookIndex$Rule", "dayFrom", "(I)I"⟩ yX4_dayFrom wsX4_dayFrom) := goodIn_app (goodIn_of _ (by decide +kernel)) ggX0_settle_X4_dayFrom
set_option maxRecDepth 20000 in
theorem ggX0_settle_X8_dayFrom : GoodIn wsX0_settle wsX8_dayFrom := goodIn_r _ [60, 61, 62, 63, 26, 27, 28, 64, 65, 66, 67, 68, 69, 59, 70, 71, 139, 140, 141, 142, 143, 144, 145, 146, 147, 148, 149, 150, 151, 152, 153, 154, 155, 156, 157, 158] (by decide +kernel) (by decide +kernel)
set_option maxRecDepth 20000 in
theorem gX0_settle_X8_dayFrom_u41X8 : GoodIn wsX0_settle (va_wsU RX0 41 RX8 "BookIndex$Rule" ⟨"BookIndex$Rule", "dayFrom", "(I)I"⟩ yX8_dayFrom wsX8_dayFrom) := goodIn_app (goodIn_of _ (by decide +kernel)) ggX0_settle_X8_dayFrom
set_option maxRecDepth 20000 in
theorem ggX0_settle_X2_dayTo : GoodIn wsX0_settle wsX2_dayTo := goodIn_r _ [76, 15, 16, 17, 139, 140, 141, 142, 143, 144, 145, 146, 147, 148, 149, 150, 151, 152, 153, 154, 155, 156, 157, 158] (by decide +kernel) (by decide +kernel)
set_option maxRecDepth 20000 in
theorem gX0_settle_X2_dayTo_u48X2 : GoodIn wsX0_settle (va_wsU RX0 48 RX2 "BookIndex$Rule" ⟨"BookIndex$Rule", "dayTo", "(I)I"⟩ yX2_dayTo wsX2_dayTo) := goodIn_app (goodIn_of _ (by decide +kernel)) ggX0_settle_X2_dayTo
set_option maxRecDepth 20000 in
theorem ggX0_settle_X3_dayTo : GoodIn wsX0_settle wsX3_dayTo := goodIn_r _ [79, 34, 29, 23, 24, 35, 36, 37, 38, 39, 40, 41, 21, 42, 43, 44, 45, 46, 47, 48, 49, 50, 143, 144, 145, 146, 147, 148, 149, 139, 140, 141, 142, 150, 151, 152, 153, 154, 155, 156, 157, 158] (by decide +kernel) (by decide +kernel)
set_option maxRecDepth 20000 in
theorem gX0_settle_X3_dayTo_u48X3 : GoodIn wsX0_settle (va_wsU RX0 48 RX3 "BookIndex$Rule" ⟨"BookIndex$Rule", "dayTo", "(I)I"⟩ yX3_dayTo wsX3_dayTo) := goodIn_app (goodIn_of _ (by decide +kernel)) ggX0_settle_X3_dayTo
set_option maxRecDepth 20000 in
theorem ggX0_settle_X4_dayTo : GoodIn wsX0_settle wsX4_dayTo := goodIn_r _ [82, 55, 56, 139, 140, 141, 142, 143, 144, 145, 146, 147, 148, 149, 150, 151, 152, 153, 154, 155, 156, 157, 158] (by decide +kernel) (by decide +kernel)
set_option maxRecDepth 20000 in
theorem gX0_settle_X4_dayTo_u48X4 : GoodIn wsX0_settle (va_wsU RX0 48 RX4 "BookIndex$Rule" ⟨"BookIndex$Rule", "dayTo", "(I)I"⟩ yX4_dayTo wsX4_dayTo) := goodIn_app (goodIn_of _ (by decide +kernel)) ggX0_settle_X4_dayTo
set_option maxRecDepth 20000 in
theorem ggX0_settle_X8_dayTo : GoodIn wsX0_settle wsX8_dayTo := goodIn_r _ [85, 61, 62, 64, 65, 86, 87, 88, 59, 89, 71, 139, 140, 141, 142, 143, 144, 145, 146, 147, 148, 149, 150, 151, 152, 153, 154, 155, 156, 157, 158] (by decide +kernel) (by decide +kernel)
set_option maxRecDepth 20000 in
theorem gX0_settle_X8_dayTo_u48X8 : GoodIn wsX0_settle (va_wsU RX0 48 RX8 "BookIndex$Rule" ⟨"BookIndex$Rule", "dayTo", "(I)I"⟩ yX8_dayTo wsX8_dayTo) := goodIn_app (goodIn_of _ (by decide +kernel)) ggX0_settle_X8_dayTo
set_option maxRecDepth 20000 in
theorem ggX0_settle_X0_lastOfTimes : GoodIn wsX0_settle wsX0_lastOfTimes := goodIn_r _ [94, 5, 6, 3, 9, 10, 11, 12, 13, 14, 15, 16, 17, 18, 19, 20, 21, 22, 23, 24, 25, 26, 27, 28, 29, 30, 31, 32, 33, 34, 35, 36, 37, 38, 39, 40, 41, 42, 43, 44, 45, 46, 47, 48, 49, 50, 51, 52, 53, 54, 55, 56, 57, 58, 59, 60, 61, 62, 63, 64, 65, 66, 67, 68, 69, 70, 71, 124, 125, 126, 127, 128, 129, 130, 131, 132, 133, 134, 135, 136, 137, 138, 139, 140, 141, 142, 143, 144, 145, 146, 147, 148, 149, 150, 151, 152, 153, 154, 155, 156, 157, 158] (by decide +kernel) (by decide +kernel)
set_option maxRecDepth 20000 in
theorem gX0_settle_X0_lastOfTimes : GoodIn wsX0_settle (wsV RX0 51 RX0 yX0_lastOfTimes wsX0_lastOfTimes) := goodIn_app (goodIn_of _ (by decide +kernel)) ggX0_settle_X0_lastOfTimes
set_option maxRecDepth 20000 in
theorem ggX0_settle_X2_daysIn : GoodIn wsX0_settle wsX2_daysIn := goodIn_r _ [99, 100, 101, 102, 13, 103, 15, 16, 17, 139, 140, 141, 142, 143, 144, 145, 146, 147, 148, 149, 150, 151, 152, 153, 154, 155, 156, 157, 158] (by decide +kernel) (by decide +kernel)
set_option maxRecDepth 20000 in
theorem gX0_settle_X2_daysIn_u58X2 : GoodIn wsX0_settle (va_wsU RX0 58 RX2 "BookIndex$Rule" ⟨"BookIndex$Rule", "daysIn", "(II)I"⟩ yX2_daysIn wsX2_daysIn) := goodIn_app (goodIn_of _ (by decide +kernel)) ggX0_settle_X2_daysIn
set_option maxRecDepth 20000 in
theorem ggX0_settle_X3_daysIn : GoodIn wsX0_settle wsX3_daysIn := goodIn_r _ [106, 23, 24, 25, 26, 27, 28, 29, 35, 36, 37, 38, 30, 31, 32, 21, 33, 34, 39, 40, 41, 42, 43, 44, 45, 46, 47, 48, 49, 50, 139, 140, 141, 142, 143, 144, 145, 146, 147, 148, 149, 150, 151, 152, 153, 154, 155, 156, 157, 158] (by decide +kernel) (by decide +kernel)
set_option maxRecDepth 20000 in
theorem gX0_settle_X3_daysIn_u58X3 : GoodIn wsX0_settle (va_wsU RX0 58 RX3 "BookIndex$Rule" ⟨"BookIndex$Rule", "daysIn", "(II)I"⟩ yX3_daysIn wsX3_daysIn) := goodIn_app (goodIn_of _ (by decide +kernel)) ggX0_settle_X3_daysIn
set_option maxRecDepth 20000 in
theorem ggX0_settle_X4_daysIn : GoodIn wsX0_settle wsX4_daysIn := goodIn_r _ [109, 55, 56, 139, 140, 141, 142, 143, 144, 145, 146, 147, 148, 149, 150, 151, 152, 153, 154, 155, 156, 157, 158] (by decide +kernel) (by decide +kernel)
set_option maxRecDepth 20000 in
theorem gX0_settle_X4_daysIn_u58X4 : GoodIn wsX0_settle (va_wsU RX0 58 RX4 "BookIndex$Rule" ⟨"BookIndex$Rule", "daysIn", "(II)I"⟩ yX4_daysIn wsX4_daysIn) := goodIn_app (goodIn_of _ (by decide +kernel)) ggX0_settle_X4_daysIn
set_option maxRecDepth 20000 in
theorem ggX0_settle_X8_daysIn : GoodIn wsX0_settle wsX8_daysIn := goodIn_r _ [112, 61, 62, 63, 26, 27, 28, 113, 114, 115, 59, 116, 64, 65, 71, 117, 118, 119, 120, 121, 122, 123, 139, 140, 141, 142, 143, 144, 145, 146, 147, 148, 149, 150, 151, 152, 153, 154, 155, 156, 157, 158] (by decide +kernel) (by decide +kernel)
set_option maxRecDepth 20000 in
theorem gX0_settle_X8_daysIn_u58X8 : GoodIn wsX0_settle (va_wsU RX0 58 RX8 "BookIndex$Rule" ⟨"BookIndex$Rule", "daysIn", "(II)I"⟩ yX8_daysIn wsX8_daysIn) := goodIn_app (goodIn_of _ (by decide +kernel)) ggX0_settle_X8_daysIn
theorem dX0_settle_0 : decode cX0_settle 0 = .ok (.aload_n 0, 1) := by decide +kernel
theorem dX0_settle_1 : decode cX0_settle 1 = .ok (.getfield 31, 3) := by decide +kernel
theorem dX0_settle_4 : decode cX0_settle 4 = .ok (.iconst (-1), 1) := by decide +kernel
theorem dX0_settle_5 : decode cX0_settle 5 = .ok (.if_icmp .ne 8, 3) := by decide +kernel
theorem dX0_settle_8 : decode cX0_settle 8 = .ok (.ldc 40, 2) := by decide +kernel
theorem dX0_settle_10 : decode cX0_settle 10 = .ok (.goto 7, 3) := by decide +kernel
theorem dX0_settle_13 : decode cX0_settle 13 = .ok (.aload_n 0, 1) := by decide +kernel
theorem dX0_settle_14 : decode cX0_settle 14 = .ok (.getfield 31, 3) := by decide +kernel
theorem dX0_settle_17 : decode cX0_settle 17 = .ok (.istore_n 1, 1) := by decide +kernel
theorem dX0_settle_18 : decode cX0_settle 18 = .ok (.aload_n 0, 1) := by decide +kernel
theorem dX0_settle_19 : decode cX0_settle 19 = .ok (.aload_n 0, 1) := by decide +kernel
theorem dX0_settle_20 : decode cX0_settle 20 = .ok (.getfield 18, 3) := by decide +kernel
theorem dX0_settle_23 : decode cX0_settle 23 = .ok (.aload_n 0, 1) := by decide +kernel
theorem dX0_settle_24 : decode cX0_settle 24 = .ok (.getfield 28, 3) := by decide +kernel
theorem dX0_settle_27 : decode cX0_settle 27 = .ok (.invokevirtual 41, 3) := by decide +kernel
theorem dX0_settle_30 : decode cX0_settle 30 = .ok (.putfield 45, 3) := by decide +kernel
theorem dX0_settle_33 : decode cX0_settle 33 = .ok (.aload_n 0, 1) := by decide +kernel
theorem dX0_settle_34 : decode cX0_settle 34 = .ok (.aload_n 0, 1) := by decide +kernel
theorem dX0_settle_35 : decode cX0_settle 35 = .ok (.getfield 34, 3) := by decide +kernel
theorem dX0_settle_38 : decode cX0_settle 38 = .ok (.iconst (-1), 1) := by decide +kernel
theorem dX0_settle_39 : decode cX0_settle 39 = .ok (.if_icmp .ne 14, 3) := by decide +kernel
theorem dX0_settle_42 : decode cX0_settle 42 = .ok (.aload_n 0, 1) := by decide +kernel
theorem dX0_settle_43 : decode cX0_settle 43 = .ok (.getfield 18, 3) := by decide +kernel
theorem dX0_settle_46 : decode cX0_settle 46 = .ok (.iload_n 1, 1) := by decide +kernel
theorem dX0_settle_47 : decode cX0_settle 47 = .ok (.invokevirtual 48, 3) := by decide +kernel
theorem dX0_settle_50 : decode cX0_settle 50 = .ok (.goto 7, 3) := by decide +kernel
theorem dX0_settle_53 : decode cX0_settle 53 = .ok (.aload_n 0, 1) := by decide +kernel
theorem dX0_settle_54 : decode cX0_settle 54 = .ok (.invokevirtual 51, 3) := by decide +kernel
theorem dX0_settle_57 : decode cX0_settle 57 = .ok (.putfield 55, 3) := by decide +kernel
theorem dX0_settle_60 : decode cX0_settle 60 = .ok (.aload_n 0, 1) := by decide +kernel
theorem dX0_settle_61 : decode cX0_settle 61 = .ok (.getfield 45, 3) := by decide +kernel
theorem dX0_settle_64 : decode cX0_settle 64 = .ok (.iconst (-1), 1) := by decide +kernel
theorem dX0_settle_65 : decode cX0_settle 65 = .ok (.if_icmp .eq 14, 3) := by decide +kernel
theorem dX0_settle_68 : decode cX0_settle 68 = .ok (.aload_n 0, 1) := by decide +kernel
theorem dX0_settle_69 : decode cX0_settle 69 = .ok (.getfield 55, 3) := by decide +kernel
theorem dX0_settle_72 : decode cX0_settle 72 = .ok (.aload_n 0, 1) := by decide +kernel
theorem dX0_settle_73 : decode cX0_settle 73 = .ok (.getfield 45, 3) := by decide +kernel
theorem dX0_settle_76 : decode cX0_settle 76 = .ok (.if_icmp .ge 13, 3) := by decide +kernel
theorem dX0_settle_79 : decode cX0_settle 79 = .ok (.aload_n 0, 1) := by decide +kernel
theorem dX0_settle_80 : decode cX0_settle 80 = .ok (.iconst (-1), 1) := by decide +kernel
theorem dX0_settle_81 : decode cX0_settle 81 = .ok (.putfield 45, 3) := by decide +kernel
theorem dX0_settle_84 : decode cX0_settle 84 = .ok (.aload_n 0, 1) := by decide +kernel
theorem dX0_settle_85 : decode cX0_settle 85 = .ok (.iconst (-1), 1) := by decide +kernel
theorem dX0_settle_86 : decode cX0_settle 86 = .ok (.putfield 55, 3) := by decide +kernel
theorem dX0_settle_89 : decode cX0_settle 89 = .ok (.aload_n 0, 1) := by decide +kernel
theorem dX0_settle_90 : decode cX0_settle 90 = .ok (.aload_n 0, 1) := by decide +kernel
theorem dX0_settle_91 : decode cX0_settle 91 = .ok (.getfield 45, 3) := by decide +kernel
theorem dX0_settle_94 : decode cX0_settle 94 = .ok (.iconst (-1), 1) := by decide +kernel
theorem dX0_settle_95 : decode cX0_settle 95 = .ok (.if_icmp .ne 7, 3) := by decide +kernel
theorem dX0_settle_98 : decode cX0_settle 98 = .ok (.iconst 0, 1) := by decide +kernel
theorem dX0_settle_99 : decode cX0_settle 99 = .ok (.goto 18, 3) := by decide +kernel
theorem dX0_settle_102 : decode cX0_settle 102 = .ok (.aload_n 0, 1) := by decide +kernel
theorem dX0_settle_103 : decode cX0_settle 103 = .ok (.getfield 18, 3) := by decide +kernel
theorem dX0_settle_106 : decode cX0_settle 106 = .ok (.aload_n 0, 1) := by decide +kernel
theorem dX0_settle_107 : decode cX0_settle 107 = .ok (.getfield 45, 3) := by decide +kernel
theorem dX0_settle_110 : decode cX0_settle 110 = .ok (.aload_n 0, 1) := by decide +kernel
theorem dX0_settle_111 : decode cX0_settle 111 = .ok (.getfield 55, 3) := by decide +kernel
theorem dX0_settle_114 : decode cX0_settle 114 = .ok (.invokevirtual 58, 3) := by decide +kernel
theorem dX0_settle_117 : decode cX0_settle 117 = .ok (.putfield 62, 3) := by decide +kernel
theorem dX0_settle_120 : decode cX0_settle 120 = .ok (.return_, 1) := by decide +kernel
set_option maxRecDepth 20000 in
theorem ggX0_lastOfTimes_X2_dayFrom : GoodIn wsX0_lastOfTimes wsX2_dayFrom := goodIn_r _ [9, 10, 11, 12, 13, 82, 83, 84, 85, 86, 87, 88, 89, 90, 91, 92, 93, 94, 95, 96, 97, 98, 99, 100, 101] (by decide +kernel) (by decide +kernel)
set_option maxRecDepth 20000 in
theorem gX0_lastOfTimes_X2_dayFrom_u41X2 : GoodIn wsX0_lastOfTimes (va_wsU RX0 41 RX2 "BookIndex$Rule" ⟨"BookIndex$Rule", "dayFrom", "(I)I"⟩ yX2_dayFrom wsX2_dayFrom) := goodIn_app (goodIn_of _ (by decide +kernel)) ggX0_lastOfTimes_X2_dayFrom
set_option maxRecDepth 20000 in
theorem ggX0_lastOfTimes_X3_dayFrom : GoodIn wsX0_lastOfTimes wsX3_dayFrom := goodIn_r _ [17, 18, 19, 20, 21, 22, 23, 24, 25, 26, 27, 16, 28, 29, 30, 31, 32, 33, 34, 35, 36, 37, 38, 39, 40, 41, 42, 43, 44, 45, 82, 83, 84, 85, 86, 87, 88, 89, 90, 91, 92, 93, 94, 95, 96, 97, 98, 99, 100, 101] (by decide +kernel) (by decide +kernel)
set_option maxRecDepth 20000 in
theorem gX0_lastOfTimes_X3_dayFrom_u41X3 : GoodIn wsX0_lastOfTimes (va_wsU RX0 41 RX3 "BookIndex$Rule" ⟨"BookIndex$Rule", "dayFrom", "(I)I"⟩ yX3_dayFrom wsX3_dayFrom) := goodIn_app (goodIn_of _ (by decide +kernel)) ggX0_lastOfTimes_X3_dayFrom
set_option maxRecDepth 20000 in
theorem ggX0_lastOfTimes_X4_dayFrom : GoodIn wsX0_lastOfTimes wsX4_dayFrom := goodIn_r _ [49, 50, 51, 82, 83, 84, 85, 86, 87, 88, 89, 90, 91, 92, 93, 94, 95, 96, 97, 98, 99, 100, 101] (by decide +kernel) (by decide +kernel)
set_option maxRecDepth 20000 in
theorem gX0_lastOfTimes_X4_dayFrom_u41X4 : GoodIn wsX0_lastOfTimes (va_wsU RX0 41 RX4 "BookIndex$Rule" ⟨"BookIndex$Rule", "dayFrom", "(I)I"⟩ yX4_dayFrom wsX4_dayFrom) := goodIn_app (goodIn_of _ (by decide +kernel)) ggX0_lastOfTimes_X4_dayFrom
set_option maxRecDepth 20000 in
theorem ggX0_lastOfTimes_X8_dayFrom : GoodIn wsX0_lastOfTimes wsX8_dayFrom := goodIn_r _ [55, 56, 57, 58, 21, 22, 23, 59, 60, 61, 62, 63, 64, 54, 65, 66, 82, 83, 84, 85, 86, 87, 88, 89, 90, 91, 92, 93, 94, 95, 96, 97, 98, 99, 100, 101] (by decide +kernel) (by decide +kernel)
set_option maxRecDepth 20000 in
theorem gX0_lastOfTimes_X8_dayFrom_u41X8 : GoodIn wsX0_lastOfTimes (va_wsU RX0 41 RX8 "BookIndex$Rule" ⟨"BookIndex$Rule", "dayFrom", "(I)I"⟩ yX8_dayFrom wsX8_dayFrom) := goodIn_app (goodIn_of _ (by decide +kernel)) ggX0_lastOfTimes_X8_dayFrom
theorem dX0_lastOfTimes_0 : decode cX0_lastOfTimes 0 = .ok (.aload_n 0, 1) := by decide +kernel
theorem dX0_lastOfTimes_1 : decode cX0_lastOfTimes 1 = .ok (.getfield 45, 3) := by decide +kernel
theorem dX0_lastOfTimes_4 : decode cX0_lastOfTimes 4 = .ok (.istore_n 1, 1) := by decide +kernel
theorem dX0_lastOfTimes_5 : decode cX0_lastOfTimes 5 = .ok (.iconst 1, 1) := by decide +kernel
theorem dX0_lastOfTimes_6 : decode cX0_lastOfTimes 6 = .ok (.istore_n 2, 1) := by decide +kernel
theorem dX0_lastOfTimes_7 : decode cX0_lastOfTimes 7 = .ok (.iload_n 2, 1) := by decide +kernel
theorem dX0_lastOfTimes_8 : decode cX0_lastOfTimes 8 = .ok (.aload_n 0, 1) := by decide +kernel
theorem dX0_lastOfTimes_9 : decode cX0_lastOfTimes 9 = .ok (.getfield 34, 3) := by decide +kernel
theorem dX0_lastOfTimes_12 : decode cX0_lastOfTimes 12 = .ok (.if_icmp .ge 34, 3) := by decide +kernel
theorem dX0_lastOfTimes_15 : decode cX0_lastOfTimes 15 = .ok (.iload_n 1, 1) := by decide +kernel
theorem dX0_lastOfTimes_16 : decode cX0_lastOfTimes 16 = .ok (.iconst (-1), 1) := by decide +kernel
theorem dX0_lastOfTimes_17 : decode cX0_lastOfTimes 17 = .ok (.if_icmp .eq 29, 3) := by decide +kernel
theorem dX0_lastOfTimes_20 : decode cX0_lastOfTimes 20 = .ok (.aload_n 0, 1) := by decide +kernel
theorem dX0_lastOfTimes_21 : decode cX0_lastOfTimes 21 = .ok (.getfield 18, 3) := by decide +kernel
theorem dX0_lastOfTimes_24 : decode cX0_lastOfTimes 24 = .ok (.iload_n 1, 1) := by decide +kernel
theorem dX0_lastOfTimes_25 : decode cX0_lastOfTimes 25 = .ok (.iconst 1, 1) := by decide +kernel
theorem dX0_lastOfTimes_26 : decode cX0_lastOfTimes 26 = .ok (.iadd, 1) := by decide +kernel
theorem dX0_lastOfTimes_27 : decode cX0_lastOfTimes 27 = .ok (.invokevirtual 41, 3) := by decide +kernel
theorem dX0_lastOfTimes_30 : decode cX0_lastOfTimes 30 = .ok (.istore_n 3, 1) := by decide +kernel
theorem dX0_lastOfTimes_31 : decode cX0_lastOfTimes 31 = .ok (.iload_n 3, 1) := by decide +kernel
theorem dX0_lastOfTimes_32 : decode cX0_lastOfTimes 32 = .ok (.iconst (-1), 1) := by decide +kernel
theorem dX0_lastOfTimes_33 : decode cX0_lastOfTimes 33 = .ok (.if_icmp .ne 5, 3) := by decide +kernel
theorem dX0_lastOfTimes_36 : decode cX0_lastOfTimes 36 = .ok (.iload_n 1, 1) := by decide +kernel
theorem dX0_lastOfTimes_37 : decode cX0_lastOfTimes 37 = .ok (.ireturn, 1) := by decide +kernel
theorem dX0_lastOfTimes_38 : decode cX0_lastOfTimes 38 = .ok (.iload_n 3, 1) := by decide +kernel
theorem dX0_lastOfTimes_39 : decode cX0_lastOfTimes 39 = .ok (.istore_n 1, 1) := by decide +kernel
theorem dX0_lastOfTimes_40 : decode cX0_lastOfTimes 40 = .ok (.iinc 2 1, 3) := by decide +kernel
theorem dX0_lastOfTimes_43 : decode cX0_lastOfTimes 43 = .ok (.goto (-36), 3) := by decide +kernel
theorem dX0_lastOfTimes_46 : decode cX0_lastOfTimes 46 = .ok (.iload_n 1, 1) := by decide +kernel
theorem dX0_lastOfTimes_47 : decode cX0_lastOfTimes 47 = .ok (.ireturn, 1) := by decide +kernel
theorem dX0_copyFrom_0 : decode cX0_copyFrom 0 = .ok (.aload_n 0, 1) := by decide +kernel
theorem dX0_copyFrom_1 : decode cX0_copyFrom 1 = .ok (.aload_n 1, 1) := by decide +kernel
theorem dX0_copyFrom_2 : decode cX0_copyFrom 2 = .ok (.getfield 65, 3) := by decide +kernel
theorem dX0_copyFrom_5 : decode cX0_copyFrom 5 = .ok (.putfield 65, 3) := by decide +kernel
theorem dX0_copyFrom_8 : decode cX0_copyFrom 8 = .ok (.aload_n 0, 1) := by decide +kernel
theorem dX0_copyFrom_9 : decode cX0_copyFrom 9 = .ok (.aload_n 1, 1) := by decide +kernel
theorem dX0_copyFrom_10 : decode cX0_copyFrom 10 = .ok (.getfield 68, 3) := by decide +kernel
theorem dX0_copyFrom_13 : decode cX0_copyFrom 13 = .ok (.putfield 68, 3) := by decide +kernel
theorem dX0_copyFrom_16 : decode cX0_copyFrom 16 = .ok (.aload_n 0, 1) := by decide +kernel
theorem dX0_copyFrom_17 : decode cX0_copyFrom 17 = .ok (.aload_n 1, 1) := by decide +kernel
theorem dX0_copyFrom_18 : decode cX0_copyFrom 18 = .ok (.getfield 71, 3) := by decide +kernel
theorem dX0_copyFrom_21 : decode cX0_copyFrom 21 = .ok (.putfield 71, 3) := by decide +kernel
theorem dX0_copyFrom_24 : decode cX0_copyFrom 24 = .ok (.aload_n 0, 1) := by decide +kernel
theorem dX0_copyFrom_25 : decode cX0_copyFrom 25 = .ok (.aload_n 1, 1) := by decide +kernel
theorem dX0_copyFrom_26 : decode cX0_copyFrom 26 = .ok (.getfield 18, 3) := by decide +kernel
theorem dX0_copyFrom_29 : decode cX0_copyFrom 29 = .ok (.putfield 18, 3) := by decide +kernel
theorem dX0_copyFrom_32 : decode cX0_copyFrom 32 = .ok (.aload_n 0, 1) := by decide +kernel
theorem dX0_copyFrom_33 : decode cX0_copyFrom 33 = .ok (.aload_n 1, 1) := by decide +kernel
theorem dX0_copyFrom_34 : decode cX0_copyFrom 34 = .ok (.getfield 31, 3) := by decide +kernel
theorem dX0_copyFrom_37 : decode cX0_copyFrom 37 = .ok (.putfield 31, 3) := by decide +kernel
theorem dX0_copyFrom_40 : decode cX0_copyFrom 40 = .ok (.aload_n 0, 1) := by decide +kernel
theorem dX0_copyFrom_41 : decode cX0_copyFrom 41 = .ok (.aload_n 1, 1) := by decide +kernel
theorem dX0_copyFrom_42 : decode cX0_copyFrom 42 = .ok (.getfield 34, 3) := by decide +kernel
theorem dX0_copyFrom_45 : decode cX0_copyFrom 45 = .ok (.putfield 34, 3) := by decide +kernel
theorem dX0_copyFrom_48 : decode cX0_copyFrom 48 = .ok (.aload_n 0, 1) := by decide +kernel
theorem dX0_copyFrom_49 : decode cX0_copyFrom 49 = .ok (.aload_n 1, 1) := by decide +kernel
theorem dX0_copyFrom_50 : decode cX0_copyFrom 50 = .ok (.getfield 28, 3) := by decide +kernel
theorem dX0_copyFrom_53 : decode cX0_copyFrom 53 = .ok (.putfield 28, 3) := by decide +kernel
theorem dX0_copyFrom_56 : decode cX0_copyFrom 56 = .ok (.aload_n 0, 1) := by decide +kernel
theorem dX0_copyFrom_57 : decode cX0_copyFrom 57 = .ok (.aload_n 1, 1) := by decide +kernel
theorem dX0_copyFrom_58 : decode cX0_copyFrom 58 = .ok (.getfield 45, 3) := by decide +kernel
theorem dX0_copyFrom_61 : decode cX0_copyFrom 61 = .ok (.putfield 45, 3) := by decide +kernel
theorem dX0_copyFrom_64 : decode cX0_copyFrom 64 = .ok (.aload_n 0, 1) := by decide +kernel
theorem dX0_copyFrom_65 : decode cX0_copyFrom 65 = .ok (.aload_n 1, 1) := by decide +kernel
theorem dX0_copyFrom_66 : decode cX0_copyFrom 66 = .ok (.getfield 55, 3) := by decide +kernel
theorem dX0_copyFrom_69 : decode cX0_copyFrom 69 = .ok (.putfield 55, 3) := by decide +kernel
theorem dX0_copyFrom_72 : decode cX0_copyFrom 72 = .ok (.aload_n 0, 1) := by decide +kernel
theorem dX0_copyFrom_73 : decode cX0_copyFrom 73 = .ok (.aload_n 1, 1) := by decide +kernel
theorem dX0_copyFrom_74 : decode cX0_copyFrom 74 = .ok (.getfield 62, 3) := by decide +kernel
theorem dX0_copyFrom_77 : decode cX0_copyFrom 77 = .ok (.putfield 62, 3) := by decide +kernel
theorem dX0_copyFrom_80 : decode cX0_copyFrom 80 = .ok (.aload_n 0, 1) := by decide +kernel
theorem dX0_copyFrom_81 : decode cX0_copyFrom 81 = .ok (.aload_n 1, 1) := by decide +kernel
theorem dX0_copyFrom_82 : decode cX0_copyFrom 82 = .ok (.getfield 37, 3) := by decide +kernel
theorem dX0_copyFrom_85 : decode cX0_copyFrom 85 = .ok (.putfield 37, 3) := by decide +kernel
theorem dX0_copyFrom_88 : decode cX0_copyFrom 88 = .ok (.aload_n 1, 1) := by decide +kernel
theorem dX0_copyFrom_89 : decode cX0_copyFrom 89 = .ok (.getfield 9, 3) := by decide +kernel
theorem dX0_copyFrom_92 : decode cX0_copyFrom 92 = .ok (.iconst 0, 1) := by decide +kernel
theorem dX0_copyFrom_93 : decode cX0_copyFrom 93 = .ok (.aload_n 0, 1) := by decide +kernel
theorem dX0_copyFrom_94 : decode cX0_copyFrom 94 = .ok (.getfield 9, 3) := by decide +kernel
theorem dX0_copyFrom_97 : decode cX0_copyFrom 97 = .ok (.iconst 0, 1) := by decide +kernel
theorem dX0_copyFrom_98 : decode cX0_copyFrom 98 = .ok (.bipush 16, 2) := by decide +kernel
theorem dX0_copyFrom_100 : decode cX0_copyFrom 100 = .ok (.invokestatic 74, 3) := by decide +kernel
theorem dX0_copyFrom_103 : decode cX0_copyFrom 103 = .ok (.aload_n 1, 1) := by decide +kernel
theorem dX0_copyFrom_104 : decode cX0_copyFrom 104 = .ok (.getfield 15, 3) := by decide +kernel
theorem dX0_copyFrom_107 : decode cX0_copyFrom 107 = .ok (.iconst 0, 1) := by decide +kernel
theorem dX0_copyFrom_108 : decode cX0_copyFrom 108 = .ok (.aload_n 0, 1) := by decide +kernel
theorem dX0_copyFrom_109 : decode cX0_copyFrom 109 = .ok (.getfield 15, 3) := by decide +kernel
theorem dX0_copyFrom_112 : decode cX0_copyFrom 112 = .ok (.iconst 0, 1) := by decide +kernel
theorem dX0_copyFrom_113 : decode cX0_copyFrom 113 = .ok (.bipush 16, 2) := by decide +kernel
theorem dX0_copyFrom_115 : decode cX0_copyFrom 115 = .ok (.invokestatic 74, 3) := by decide +kernel
theorem dX0_copyFrom_118 : decode cX0_copyFrom 118 = .ok (.return_, 1) := by decide +kernel
set_option maxRecDepth 20000 in
theorem ggX0_cutInto_X0_copyFrom : GoodIn wsX0_cutInto wsX0_copyFrom := goodIn_r _ [11, 12, 13, 14, 15, 3, 2, 1, 16, 17, 4, 5, 6, 18, 19, 20, 21, 22, 154, 155, 156, 157, 158, 159, 160, 161, 162, 163, 164, 165, 166, 167, 168] (by decide +kernel) (by decide +kernel)
set_option maxRecDepth 20000 in
theorem gX0_cutInto_X0_copyFrom : GoodIn wsX0_cutInto (wsV RX0 80 RX0 yX0_copyFrom wsX0_copyFrom) := goodIn_app (goodIn_of _ (by decide +kernel)) ggX0_cutInto_X0_copyFrom
set_option maxRecDepth 20000 in
theorem ggX0_cutInto_X0_keysIn : GoodIn wsX0_cutInto wsX0_keysIn := goodIn_r _ [26, 16, 27, 28, 29, 30, 17, 31, 32, 33, 15, 34, 35, 36, 37, 38, 39, 40, 41, 42, 43, 44, 45, 46, 47, 48, 49, 50, 51, 52, 53, 54, 55, 56, 57, 58, 59, 60, 61, 62, 63, 64, 65, 66, 67, 68, 69, 70, 71, 72, 73, 74, 75, 76, 77, 78, 79, 80, 81, 82, 83, 84, 85, 86, 87, 88, 89, 90, 91, 92, 93, 94, 95, 96, 97, 98, 99, 100, 101, 102, 154, 155, 156, 157, 158, 159, 160, 161, 162, 163, 164, 165, 166, 167, 168, 169, 170, 171, 172, 173, 174, 175, 176, 177, 178, 179, 180, 181, 182, 183, 184, 185, 186, 187, 188] (by decide +kernel) (by decide +kernel)
set_option maxRecDepth 20000 in
theorem gX0_cutInto_X0_keysIn : GoodIn wsX0_cutInto (wsV RX0 84 RX0 yX0_keysIn wsX0_keysIn) := goodIn_app (goodIn_of _ (by decide +kernel)) ggX0_cutInto_X0_keysIn
set_option maxRecDepth 20000 in
theorem ggX0_cutInto_X0_forget : GoodIn wsX0_cutInto wsX0_forget := goodIn_r _ [106, 5, 6, 22, 154, 155, 156, 157, 158, 159, 160, 161, 162, 163, 164, 165, 166, 167, 168] (by decide +kernel) (by decide +kernel)
set_option maxRecDepth 20000 in
theorem gX0_cutInto_X0_forget : GoodIn wsX0_cutInto (wsV RX0 87 RX0 yX0_forget wsX0_forget) := goodIn_app (goodIn_of _ (by decide +kernel)) ggX0_cutInto_X0_forget
set_option maxRecDepth 20000 in
theorem ggX0_cutInto_X0_settle : GoodIn wsX0_cutInto wsX0_settle := goodIn_r _ [110, 3, 111, 15, 1, 16, 2, 17, 4, 112, 113, 114, 115, 38, 116, 44, 45, 46, 117, 118, 119, 49, 120, 51, 52, 53, 28, 29, 30, 54, 59, 60, 61, 62, 63, 55, 56, 57, 58, 64, 65, 66, 67, 68, 69, 70, 71, 72, 73, 74, 75, 121, 122, 78, 123, 80, 81, 124, 125, 84, 126, 86, 87, 88, 93, 94, 127, 128, 129, 130, 131, 95, 132, 133, 134, 135, 136, 137, 138, 139, 140, 141, 142, 143, 144, 145, 146, 147, 148, 149, 150, 151, 152, 10, 153, 34, 35, 36, 37, 39, 40, 41, 42, 43, 47, 48, 50, 76, 77, 79, 82, 83, 85, 89, 90, 91, 92, 96, 97, 98, 99, 100, 101, 102, 154, 155, 156, 157, 158, 159, 160, 161, 162, 163, 164, 165, 166, 167, 168, 169, 170, 171, 172, 173, 174, 175, 176, 177, 178, 179, 180, 181, 182, 183, 184, 185, 186, 187, 188] (by decide +kernel) (by decide +kernel)
set_option maxRecDepth 20000 in
theorem gX0_cutInto_X0_settle : GoodIn wsX0_cutInto (wsV RX0 91 RX0 yX0_settle wsX0_settle) := goodIn_app (goodIn_of _ (by decide +kernel)) ggX0_cutInto_X0_settle
theorem dX0_cutInto_0 : decode cX0_cutInto 0 = .ok (.aload_n 1, 1) := by decide +kernel
theorem dX0_cutInto_1 : decode cX0_cutInto 1 = .ok (.aload_n 0, 1) := by decide +kernel
theorem dX0_cutInto_2 : decode cX0_cutInto 2 = .ok (.invokevirtual 80, 3) := by decide +kernel
theorem dX0_cutInto_5 : decode cX0_cutInto 5 = .ok (.aload_n 1, 1) := by decide +kernel
theorem dX0_cutInto_6 : decode cX0_cutInto 6 = .ok (.iload_n 2, 1) := by decide +kernel
theorem dX0_cutInto_7 : decode cX0_cutInto 7 = .ok (.putfield 28, 3) := by decide +kernel
theorem dX0_cutInto_10 : decode cX0_cutInto 10 = .ok (.aload_n 0, 1) := by decide +kernel
theorem dX0_cutInto_11 : decode cX0_cutInto 11 = .ok (.getfield 34, 3) := by decide +kernel
theorem dX0_cutInto_14 : decode cX0_cutInto 14 = .ok (.iconst (-1), 1) := by decide +kernel
theorem dX0_cutInto_15 : decode cX0_cutInto 15 = .ok (.if_icmp .ne 13, 3) := by decide +kernel
theorem dX0_cutInto_18 : decode cX0_cutInto 18 = .ok (.aload_n 0, 1) := by decide +kernel
theorem dX0_cutInto_19 : decode cX0_cutInto 19 = .ok (.iload_n 2, 1) := by decide +kernel
theorem dX0_cutInto_20 : decode cX0_cutInto 20 = .ok (.iconst 1, 1) := by decide +kernel
theorem dX0_cutInto_21 : decode cX0_cutInto 21 = .ok (.isub, 1) := by decide +kernel
theorem dX0_cutInto_22 : decode cX0_cutInto 22 = .ok (.putfield 31, 3) := by decide +kernel
theorem dX0_cutInto_25 : decode cX0_cutInto 25 = .ok (.goto 28, 3) := by decide +kernel
theorem dX0_cutInto_28 : decode cX0_cutInto 28 = .ok (.aload_n 0, 1) := by decide +kernel
theorem dX0_cutInto_29 : decode cX0_cutInto 29 = .ok (.aload_n 0, 1) := by decide +kernel
theorem dX0_cutInto_30 : decode cX0_cutInto 30 = .ok (.iconst 0, 1) := by decide +kernel
theorem dX0_cutInto_31 : decode cX0_cutInto 31 = .ok (.iload_n 2, 1) := by decide +kernel
theorem dX0_cutInto_32 : decode cX0_cutInto 32 = .ok (.iconst 1, 1) := by decide +kernel
theorem dX0_cutInto_33 : decode cX0_cutInto 33 = .ok (.isub, 1) := by decide +kernel
theorem dX0_cutInto_34 : decode cX0_cutInto 34 = .ok (.invokevirtual 84, 3) := by decide +kernel
theorem dX0_cutInto_37 : decode cX0_cutInto 37 = .ok (.putfield 34, 3) := by decide +kernel
theorem dX0_cutInto_40 : decode cX0_cutInto 40 = .ok (.aload_n 1, 1) := by decide +kernel
theorem dX0_cutInto_41 : decode cX0_cutInto 41 = .ok (.aload_n 0, 1) := by decide +kernel
theorem dX0_cutInto_42 : decode cX0_cutInto 42 = .ok (.getfield 62, 3) := by decide +kernel
theorem dX0_cutInto_45 : decode cX0_cutInto 45 = .ok (.aload_n 0, 1) := by decide +kernel
theorem dX0_cutInto_46 : decode cX0_cutInto 46 = .ok (.getfield 34, 3) := by decide +kernel
theorem dX0_cutInto_49 : decode cX0_cutInto 49 = .ok (.isub, 1) := by decide +kernel
theorem dX0_cutInto_50 : decode cX0_cutInto 50 = .ok (.putfield 34, 3) := by decide +kernel
theorem dX0_cutInto_53 : decode cX0_cutInto 53 = .ok (.bipush 15, 2) := by decide +kernel
theorem dX0_cutInto_55 : decode cX0_cutInto 55 = .ok (.istore_n 3, 1) := by decide +kernel
theorem dX0_cutInto_56 : decode cX0_cutInto 56 = .ok (.iload_n 3, 1) := by decide +kernel
theorem dX0_cutInto_57 : decode cX0_cutInto 57 = .ok (.ifCond .lt 55, 3) := by decide +kernel
theorem dX0_cutInto_60 : decode cX0_cutInto 60 = .ok (.iload_n 3, 1) := by decide +kernel
theorem dX0_cutInto_61 : decode cX0_cutInto 61 = .ok (.aload_n 1, 1) := by decide +kernel
theorem dX0_cutInto_62 : decode cX0_cutInto 62 = .ok (.getfield 37, 3) := by decide +kernel
theorem dX0_cutInto_65 : decode cX0_cutInto 65 = .ok (.if_icmp .ge 18, 3) := by decide +kernel
theorem dX0_cutInto_68 : decode cX0_cutInto 68 = .ok (.aload_n 1, 1) := by decide +kernel
theorem dX0_cutInto_69 : decode cX0_cutInto 69 = .ok (.getfield 9, 3) := by decide +kernel
theorem dX0_cutInto_72 : decode cX0_cutInto 72 = .ok (.iload_n 3, 1) := by decide +kernel
theorem dX0_cutInto_73 : decode cX0_cutInto 73 = .ok (.iaload, 1) := by decide +kernel
theorem dX0_cutInto_74 : decode cX0_cutInto 74 = .ok (.iload_n 2, 1) := by decide +kernel
theorem dX0_cutInto_75 : decode cX0_cutInto 75 = .ok (.if_icmp .ge 8, 3) := by decide +kernel
theorem dX0_cutInto_78 : decode cX0_cutInto 78 = .ok (.aload_n 1, 1) := by decide +kernel
theorem dX0_cutInto_79 : decode cX0_cutInto 79 = .ok (.iload_n 3, 1) := by decide +kernel
theorem dX0_cutInto_80 : decode cX0_cutInto 80 = .ok (.invokevirtual 87, 3) := by decide +kernel
theorem dX0_cutInto_83 : decode cX0_cutInto 83 = .ok (.iload_n 3, 1) := by decide +kernel
theorem dX0_cutInto_84 : decode cX0_cutInto 84 = .ok (.aload_n 0, 1) := by decide +kernel
theorem dX0_cutInto_85 : decode cX0_cutInto 85 = .ok (.getfield 37, 3) := by decide +kernel
theorem dX0_cutInto_88 : decode cX0_cutInto 88 = .ok (.if_icmp .ge 18, 3) := by decide +kernel
theorem dX0_cutInto_91 : decode cX0_cutInto 91 = .ok (.aload_n 0, 1) := by decide +kernel
theorem dX0_cutInto_92 : decode cX0_cutInto 92 = .ok (.getfield 9, 3) := by decide +kernel
theorem dX0_cutInto_95 : decode cX0_cutInto 95 = .ok (.iload_n 3, 1) := by decide +kernel
theorem dX0_cutInto_96 : decode cX0_cutInto 96 = .ok (.iaload, 1) := by decide +kernel
theorem dX0_cutInto_97 : decode cX0_cutInto 97 = .ok (.iload_n 2, 1) := by decide +kernel
theorem dX0_cutInto_98 : decode cX0_cutInto 98 = .ok (.if_icmp .lt 8, 3) := by decide +kernel
theorem dX0_cutInto_101 : decode cX0_cutInto 101 = .ok (.aload_n 0, 1) := by decide +kernel
theorem dX0_cutInto_102 : decode cX0_cutInto 102 = .ok (.iload_n 3, 1) := by decide +kernel
theorem dX0_cutInto_103 : decode cX0_cutInto 103 = .ok (.invokevirtual 87, 3) := by decide +kernel
theorem dX0_cutInto_106 : decode cX0_cutInto 106 = .ok (.iinc 3 (-1), 3) := by decide +kernel
theorem dX0_cutInto_109 : decode cX0_cutInto 109 = .ok (.goto (-53), 3) := by decide +kernel
theorem dX0_cutInto_112 : decode cX0_cutInto 112 = .ok (.aload_n 0, 1) := by decide +kernel
theorem dX0_cutInto_113 : decode cX0_cutInto 113 = .ok (.invokevirtual 91, 3) := by decide +kernel
theorem dX0_cutInto_116 : decode cX0_cutInto 116 = .ok (.aload_n 1, 1) := by decide +kernel
theorem dX0_cutInto_117 : decode cX0_cutInto 117 = .ok (.invokevirtual 91, 3) := by decide +kernel
theorem dX0_cutInto_120 : decode cX0_cutInto 120 = .ok (.return_, 1) := by decide +kernel
set_option maxRecDepth 20000 in
theorem ggX0_keyFrom_X2_dayFrom : GoodIn wsX0_keyFrom wsX2_dayFrom := goodIn_r _ [9, 10, 11, 12, 13, 82, 83, 84, 85, 86, 87, 88, 89, 90, 91, 92, 93, 94, 95, 96, 97, 98, 99, 100, 101] (by decide +kernel) (by decide +kernel)
set_option maxRecDepth 20000 in
theorem gX0_keyFrom_X2_dayFrom_u41X2 : GoodIn wsX0_keyFrom (va_wsU RX0 41 RX2 "BookIndex$Rule" ⟨"BookIndex$Rule", "dayFrom", "(I)I"⟩ yX2_dayFrom wsX2_dayFrom) := goodIn_app (goodIn_of _ (by decide +kernel)) ggX0_keyFrom_X2_dayFrom
set_option maxRecDepth 20000 in
theorem ggX0_keyFrom_X3_dayFrom : GoodIn wsX0_keyFrom wsX3_dayFrom := goodIn_r _ [17, 18, 19, 20, 21, 22, 23, 24, 25, 26, 27, 16, 28, 29, 30, 31, 32, 33, 34, 35, 36, 37, 38, 39, 40, 41, 42, 43, 44, 45, 82, 83, 84, 85, 86, 87, 88, 89, 90, 91, 92, 93, 94, 95, 96, 97, 98, 99, 100, 101] (by decide +kernel) (by decide +kernel)
set_option maxRecDepth 20000 in
theorem gX0_keyFrom_X3_dayFrom_u41X3 : GoodIn wsX0_keyFrom (va_wsU RX0 41 RX3 "BookIndex$Rule" ⟨"BookIndex$Rule", "dayFrom", "(I)I"⟩ yX3_dayFrom wsX3_dayFrom) := goodIn_app (goodIn_of _ (by decide +kernel)) ggX0_keyFrom_X3_dayFrom
set_option maxRecDepth 20000 in
theorem ggX0_keyFrom_X4_dayFrom : GoodIn wsX0_keyFrom wsX4_dayFrom := goodIn_r _ [49, 50, 51, 82, 83, 84, 85, 86, 87, 88, 89, 90, 91, 92, 93, 94, 95, 96, 97, 98, 99, 100, 101] (by decide +kernel) (by decide +kernel)
set_option maxRecDepth 20000 in
theorem gX0_keyFrom_X4_dayFrom_u41X4 : GoodIn wsX0_keyFrom (va_wsU RX0 41 RX4 "BookIndex$Rule" ⟨"BookIndex$Rule", "dayFrom", "(I)I"⟩ yX4_dayFrom wsX4_dayFrom) := goodIn_app (goodIn_of _ (by decide +kernel)) ggX0_keyFrom_X4_dayFrom
set_option maxRecDepth 20000 in
theorem ggX0_keyFrom_X8_dayFrom : GoodIn wsX0_keyFrom wsX8_dayFrom := goodIn_r _ [55, 56, 57, 58, 21, 22, 23, 59, 60, 61, 62, 63, 64, 54, 65, 66, 82, 83, 84, 85, 86, 87, 88, 89, 90, 91, 92, 93, 94, 95, 96, 97, 98, 99, 100, 101] (by decide +kernel) (by decide +kernel)
set_option maxRecDepth 20000 in
theorem gX0_keyFrom_X8_dayFrom_u41X8 : GoodIn wsX0_keyFrom (va_wsU RX0 41 RX8 "BookIndex$Rule" ⟨"BookIndex$Rule", "dayFrom", "(I)I"⟩ yX8_dayFrom wsX8_dayFrom) := goodIn_app (goodIn_of _ (by decide +kernel)) ggX0_keyFrom_X8_dayFrom
theorem dX0_keyFrom_0 : decode cX0_keyFrom 0 = .ok (.aload_n 0, 1) := by decide +kernel
theorem dX0_keyFrom_1 : decode cX0_keyFrom 1 = .ok (.getfield 45, 3) := by decide +kernel
theorem dX0_keyFrom_4 : decode cX0_keyFrom 4 = .ok (.iconst (-1), 1) := by decide +kernel
theorem dX0_keyFrom_5 : decode cX0_keyFrom 5 = .ok (.if_icmp .eq 11, 3) := by decide +kernel
theorem dX0_keyFrom_8 : decode cX0_keyFrom 8 = .ok (.iload_n 1, 1) := by decide +kernel
theorem dX0_keyFrom_9 : decode cX0_keyFrom 9 = .ok (.aload_n 0, 1) := by decide +kernel
theorem dX0_keyFrom_10 : decode cX0_keyFrom 10 = .ok (.getfield 55, 3) := by decide +kernel
theorem dX0_keyFrom_13 : decode cX0_keyFrom 13 = .ok (.if_icmp .le 5, 3) := by decide +kernel
theorem dX0_keyFrom_16 : decode cX0_keyFrom 16 = .ok (.iconst (-1), 1) := by decide +kernel
theorem dX0_keyFrom_17 : decode cX0_keyFrom 17 = .ok (.ireturn, 1) := by decide +kernel
theorem dX0_keyFrom_18 : decode cX0_keyFrom 18 = .ok (.iload_n 1, 1) := by decide +kernel
theorem dX0_keyFrom_19 : decode cX0_keyFrom 19 = .ok (.aload_n 0, 1) := by decide +kernel
theorem dX0_keyFrom_20 : decode cX0_keyFrom 20 = .ok (.getfield 45, 3) := by decide +kernel
theorem dX0_keyFrom_23 : decode cX0_keyFrom 23 = .ok (.if_icmp .gt 10, 3) := by decide +kernel
theorem dX0_keyFrom_26 : decode cX0_keyFrom 26 = .ok (.aload_n 0, 1) := by decide +kernel
theorem dX0_keyFrom_27 : decode cX0_keyFrom 27 = .ok (.getfield 45, 3) := by decide +kernel
theorem dX0_keyFrom_30 : decode cX0_keyFrom 30 = .ok (.goto 11, 3) := by decide +kernel
theorem dX0_keyFrom_33 : decode cX0_keyFrom 33 = .ok (.aload_n 0, 1) := by decide +kernel
theorem dX0_keyFrom_34 : decode cX0_keyFrom 34 = .ok (.getfield 18, 3) := by decide +kernel
theorem dX0_keyFrom_37 : decode cX0_keyFrom 37 = .ok (.iload_n 1, 1) := by decide +kernel
theorem dX0_keyFrom_38 : decode cX0_keyFrom 38 = .ok (.invokevirtual 41, 3) := by decide +kernel
theorem dX0_keyFrom_41 : decode cX0_keyFrom 41 = .ok (.ireturn, 1) := by decide +kernel
set_option maxRecDepth 20000 in
theorem ggX0_keyTo_X2_dayTo : GoodIn wsX0_keyTo wsX2_dayTo := goodIn_r _ [9, 10, 11, 12, 71, 72, 73, 74, 75, 76, 77, 78, 79, 80, 81, 82, 83, 84, 85, 86, 87, 88, 89, 90] (by decide +kernel) (by decide +kernel)
set_option maxRecDepth 20000 in
theorem gX0_keyTo_X2_dayTo_u48X2 : GoodIn wsX0_keyTo (va_wsU RX0 48 RX2 "BookIndex$Rule" ⟨"BookIndex$Rule", "dayTo", "(I)I"⟩ yX2_dayTo wsX2_dayTo) := goodIn_app (goodIn_of _ (by decide +kernel)) ggX0_keyTo_X2_dayTo
set_option maxRecDepth 20000 in
theorem ggX0_keyTo_X3_dayTo : GoodIn wsX0_keyTo wsX3_dayTo := goodIn_r _ [16, 17, 18, 19, 20, 21, 22, 23, 24, 25, 26, 27, 15, 28, 29, 30, 31, 32, 33, 34, 35, 36, 75, 76, 77, 78, 79, 80, 81, 71, 72, 73, 74, 82, 83, 84, 85, 86, 87, 88, 89, 90] (by decide +kernel) (by decide +kernel)
set_option maxRecDepth 20000 in
theorem gX0_keyTo_X3_dayTo_u48X3 : GoodIn wsX0_keyTo (va_wsU RX0 48 RX3 "BookIndex$Rule" ⟨"BookIndex$Rule", "dayTo", "(I)I"⟩ yX3_dayTo wsX3_dayTo) := goodIn_app (goodIn_of _ (by decide +kernel)) ggX0_keyTo_X3_dayTo
set_option maxRecDepth 20000 in
theorem ggX0_keyTo_X4_dayTo : GoodIn wsX0_keyTo wsX4_dayTo := goodIn_r _ [40, 41, 42, 71, 72, 73, 74, 75, 76, 77, 78, 79, 80, 81, 82, 83, 84, 85, 86, 87, 88, 89, 90] (by decide +kernel) (by decide +kernel)
set_option maxRecDepth 20000 in
theorem gX0_keyTo_X4_dayTo_u48X4 : GoodIn wsX0_keyTo (va_wsU RX0 48 RX4 "BookIndex$Rule" ⟨"BookIndex$Rule", "dayTo", "(I)I"⟩ yX4_dayTo wsX4_dayTo) := goodIn_app (goodIn_of _ (by decide +kernel)) ggX0_keyTo_X4_dayTo
set_option maxRecDepth 20000 in
theorem ggX0_keyTo_X8_dayTo : GoodIn wsX0_keyTo wsX8_dayTo := goodIn_r _ [46, 47, 48, 49, 50, 51, 52, 53, 45, 54, 55, 71, 72, 73, 74, 75, 76, 77, 78, 79, 80, 81, 82, 83, 84, 85, 86, 87, 88, 89, 90] (by decide +kernel) (by decide +kernel)
set_option maxRecDepth 20000 in
theorem gX0_keyTo_X8_dayTo_u48X8 : GoodIn wsX0_keyTo (va_wsU RX0 48 RX8 "BookIndex$Rule" ⟨"BookIndex$Rule", "dayTo", "(I)I"⟩ yX8_dayTo wsX8_dayTo) := goodIn_app (goodIn_of _ (by decide +kernel)) ggX0_keyTo_X8_dayTo
theorem dX0_keyTo_0 : decode cX0_keyTo 0 = .ok (.aload_n 0, 1) := by decide +kernel
theorem dX0_keyTo_1 : decode cX0_keyTo 1 = .ok (.getfield 45, 3) := by decide +kernel
theorem dX0_keyTo_4 : decode cX0_keyTo 4 = .ok (.iconst (-1), 1) := by decide +kernel
theorem dX0_keyTo_5 : decode cX0_keyTo 5 = .ok (.if_icmp .eq 11, 3) := by decide +kernel
theorem dX0_keyTo_8 : decode cX0_keyTo 8 = .ok (.iload_n 1, 1) := by decide +kernel
theorem dX0_keyTo_9 : decode cX0_keyTo 9 = .ok (.aload_n 0, 1) := by decide +kernel
theorem dX0_keyTo_10 : decode cX0_keyTo 10 = .ok (.getfield 45, 3) := by decide +kernel
theorem dX0_keyTo_13 : decode cX0_keyTo 13 = .ok (.if_icmp .ge 5, 3) := by decide +kernel
theorem dX0_keyTo_16 : decode cX0_keyTo 16 = .ok (.iconst (-1), 1) := by decide +kernel
theorem dX0_keyTo_17 : decode cX0_keyTo 17 = .ok (.ireturn, 1) := by decide +kernel
theorem dX0_keyTo_18 : decode cX0_keyTo 18 = .ok (.iload_n 1, 1) := by decide +kernel
theorem dX0_keyTo_19 : decode cX0_keyTo 19 = .ok (.aload_n 0, 1) := by decide +kernel
theorem dX0_keyTo_20 : decode cX0_keyTo 20 = .ok (.getfield 55, 3) := by decide +kernel
theorem dX0_keyTo_23 : decode cX0_keyTo 23 = .ok (.if_icmp .lt 10, 3) := by decide +kernel
theorem dX0_keyTo_26 : decode cX0_keyTo 26 = .ok (.aload_n 0, 1) := by decide +kernel
theorem dX0_keyTo_27 : decode cX0_keyTo 27 = .ok (.getfield 55, 3) := by decide +kernel
theorem dX0_keyTo_30 : decode cX0_keyTo 30 = .ok (.goto 11, 3) := by decide +kernel
theorem dX0_keyTo_33 : decode cX0_keyTo 33 = .ok (.aload_n 0, 1) := by decide +kernel
theorem dX0_keyTo_34 : decode cX0_keyTo 34 = .ok (.getfield 18, 3) := by decide +kernel
theorem dX0_keyTo_37 : decode cX0_keyTo 37 = .ok (.iload_n 1, 1) := by decide +kernel
theorem dX0_keyTo_38 : decode cX0_keyTo 38 = .ok (.invokevirtual 48, 3) := by decide +kernel
theorem dX0_keyTo_41 : decode cX0_keyTo 41 = .ok (.ireturn, 1) := by decide +kernel
set_option maxRecDepth 20000 in
theorem ggX0_isKey_X9_isDay : GoodIn wsX0_isKey wsX9_isDay := goodIn_r _ [3, 4] (by decide +kernel) (by decide +kernel)
set_option maxRecDepth 20000 in
theorem gX0_isKey_X9_isDay_n94 : GoodIn wsX0_isKey (wsX9_isDay) := ggX0_isKey_X9_isDay
set_option maxRecDepth 20000 in
theorem ggX0_isKey_X0_keyFrom : GoodIn wsX0_isKey wsX0_keyFrom := goodIn_r _ [9, 10, 11, 12, 13, 14, 15, 16, 17, 18, 19, 20, 21, 22, 23, 24, 25, 26, 27, 28, 29, 30, 31, 32, 33, 34, 35, 36, 37, 38, 39, 40, 41, 42, 43, 44, 45, 46, 47, 48, 49, 50, 51, 52, 53, 54, 55, 56, 57, 58, 59, 60, 61, 62, 63, 64, 65, 66, 67, 68, 69, 70, 71, 72, 73, 74, 75, 76, 77, 78, 79, 80, 81, 82, 83, 84, 85, 86, 87, 88, 89, 90, 91, 92, 93, 94, 95, 96, 97, 98, 99, 100, 101, 102, 103, 104, 105, 106, 107, 108, 109, 110] (by decide +kernel) (by decide +kernel)
set_option maxRecDepth 20000 in
theorem gX0_isKey_X0_keyFrom : GoodIn wsX0_isKey (wsV RX0 98 RX0 yX0_keyFrom wsX0_keyFrom) := goodIn_app (goodIn_of _ (by decide +kernel)) ggX0_isKey_X0_keyFrom
theorem dX0_isKey_0 : decode cX0_isKey 0 = .ok (.iload_n 1, 1) := by decide +kernel
theorem dX0_isKey_1 : decode cX0_isKey 1 = .ok (.invokestatic 94, 3) := by decide +kernel
theorem dX0_isKey_4 : decode cX0_isKey 4 = .ok (.ifCond .eq 16, 3) := by decide +kernel
theorem dX0_isKey_7 : decode cX0_isKey 7 = .ok (.aload_n 0, 1) := by decide +kernel
theorem dX0_isKey_8 : decode cX0_isKey 8 = .ok (.iload_n 1, 1) := by decide +kernel
theorem dX0_isKey_9 : decode cX0_isKey 9 = .ok (.invokevirtual 98, 3) := by decide +kernel
theorem dX0_isKey_12 : decode cX0_isKey 12 = .ok (.iload_n 1, 1) := by decide +kernel
theorem dX0_isKey_13 : decode cX0_isKey 13 = .ok (.if_icmp .ne 7, 3) := by decide +kernel
theorem dX0_isKey_16 : decode cX0_isKey 16 = .ok (.iconst 1, 1) := by decide +kernel
theorem dX0_isKey_17 : decode cX0_isKey 17 = .ok (.goto 4, 3) := by decide +kernel
theorem dX0_isKey_20 : decode cX0_isKey 20 = .ok (.iconst 0, 1) := by decide +kernel
theorem dX0_isKey_21 : decode cX0_isKey 21 = .ok (.ireturn, 1) := by decide +kernel
set_option maxRecDepth 20000 in
theorem ggX0_keysIn_X2_daysIn : GoodIn wsX0_keysIn wsX2_daysIn := goodIn_r _ [16, 17, 18, 19, 15, 20, 21, 22, 23, 95, 96, 97, 98, 99, 100, 101, 102, 103, 104, 105, 106, 107, 108, 109, 110, 111, 112, 113, 114] (by decide +kernel) (by decide +kernel)
set_option maxRecDepth 20000 in
theorem gX0_keysIn_X2_daysIn_u58X2 : GoodIn wsX0_keysIn (va_wsU RX0 58 RX2 "BookIndex$Rule" ⟨"BookIndex$Rule", "daysIn", "(II)I"⟩ yX2_daysIn wsX2_daysIn) := goodIn_app (goodIn_of _ (by decide +kernel)) ggX0_keysIn_X2_daysIn
set_option maxRecDepth 20000 in
theorem ggX0_keysIn_X3_daysIn : GoodIn wsX0_keysIn wsX3_daysIn := goodIn_r _ [27, 28, 29, 30, 3, 4, 5, 31, 32, 33, 34, 35, 36, 37, 38, 26, 39, 40, 41, 42, 43, 44, 45, 46, 47, 48, 49, 50, 51, 52, 95, 96, 97, 98, 99, 100, 101, 102, 103, 104, 105, 106, 107, 108, 109, 110, 111, 112, 113, 114] (by decide +kernel) (by decide +kernel)
set_option maxRecDepth 20000 in
theorem gX0_keysIn_X3_daysIn_u58X3 : GoodIn wsX0_keysIn (va_wsU RX0 58 RX3 "BookIndex$Rule" ⟨"BookIndex$Rule", "daysIn", "(II)I"⟩ yX3_daysIn wsX3_daysIn) := goodIn_app (goodIn_of _ (by decide +kernel)) ggX0_keysIn_X3_daysIn
set_option maxRecDepth 20000 in
theorem ggX0_keysIn_X4_daysIn : GoodIn wsX0_keysIn wsX4_daysIn := goodIn_r _ [56, 57, 58, 95, 96, 97, 98, 99, 100, 101, 102, 103, 104, 105, 106, 107, 108, 109, 110, 111, 112, 113, 114] (by decide +kernel) (by decide +kernel)
set_option maxRecDepth 20000 in
theorem gX0_keysIn_X4_daysIn_u58X4 : GoodIn wsX0_keysIn (va_wsU RX0 58 RX4 "BookIndex$Rule" ⟨"BookIndex$Rule", "daysIn", "(II)I"⟩ yX4_daysIn wsX4_daysIn) := goodIn_app (goodIn_of _ (by decide +kernel)) ggX0_keysIn_X4_daysIn
set_option maxRecDepth 20000 in
theorem ggX0_keysIn_X8_daysIn : GoodIn wsX0_keysIn wsX8_daysIn := goodIn_r _ [62, 63, 64, 65, 3, 4, 5, 66, 67, 68, 61, 69, 70, 71, 72, 73, 74, 75, 76, 77, 78, 79, 95, 96, 97, 98, 99, 100, 101, 102, 103, 104, 105, 106, 107, 108, 109, 110, 111, 112, 113, 114] (by decide +kernel) (by decide +kernel)
set_option maxRecDepth 20000 in
theorem gX0_keysIn_X8_daysIn_u58X8 : GoodIn wsX0_keysIn (va_wsU RX0 58 RX8 "BookIndex$Rule" ⟨"BookIndex$Rule", "daysIn", "(II)I"⟩ yX8_daysIn wsX8_daysIn) := goodIn_app (goodIn_of _ (by decide +kernel)) ggX0_keysIn_X8_daysIn
theorem dX0_keysIn_0 : decode cX0_keysIn 0 = .ok (.iload_n 1, 1) := by decide +kernel
theorem dX0_keysIn_1 : decode cX0_keysIn 1 = .ok (.aload_n 0, 1) := by decide +kernel
theorem dX0_keysIn_2 : decode cX0_keysIn 2 = .ok (.getfield 45, 3) := by decide +kernel
theorem dX0_keysIn_5 : decode cX0_keysIn 5 = .ok (.invokestatic 101, 3) := by decide +kernel
theorem dX0_keysIn_8 : decode cX0_keysIn 8 = .ok (.istore_n 3, 1) := by decide +kernel
theorem dX0_keysIn_9 : decode cX0_keysIn 9 = .ok (.iload_n 2, 1) := by decide +kernel
theorem dX0_keysIn_10 : decode cX0_keysIn 10 = .ok (.aload_n 0, 1) := by decide +kernel
theorem dX0_keysIn_11 : decode cX0_keysIn 11 = .ok (.getfield 55, 3) := by decide +kernel
theorem dX0_keysIn_14 : decode cX0_keysIn 14 = .ok (.invokestatic 106, 3) := by decide +kernel
theorem dX0_keysIn_17 : decode cX0_keysIn 17 = .ok (.istore 4, 2) := by decide +kernel
theorem dX0_keysIn_19 : decode cX0_keysIn 19 = .ok (.aload_n 0, 1) := by decide +kernel
theorem dX0_keysIn_20 : decode cX0_keysIn 20 = .ok (.getfield 45, 3) := by decide +kernel
theorem dX0_keysIn_23 : decode cX0_keysIn 23 = .ok (.iconst (-1), 1) := by decide +kernel
theorem dX0_keysIn_24 : decode cX0_keysIn 24 = .ok (.if_icmp .eq 9, 3) := by decide +kernel
theorem dX0_keysIn_27 : decode cX0_keysIn 27 = .ok (.iload_n 3, 1) := by decide +kernel
theorem dX0_keysIn_28 : decode cX0_keysIn 28 = .ok (.iload 4, 2) := by decide +kernel
theorem dX0_keysIn_30 : decode cX0_keysIn 30 = .ok (.if_icmp .le 7, 3) := by decide +kernel
theorem dX0_keysIn_33 : decode cX0_keysIn 33 = .ok (.iconst 0, 1) := by decide +kernel
theorem dX0_keysIn_34 : decode cX0_keysIn 34 = .ok (.goto 13, 3) := by decide +kernel
theorem dX0_keysIn_37 : decode cX0_keysIn 37 = .ok (.aload_n 0, 1) := by decide +kernel
theorem dX0_keysIn_38 : decode cX0_keysIn 38 = .ok (.getfield 18, 3) := by decide +kernel
theorem dX0_keysIn_41 : decode cX0_keysIn 41 = .ok (.iload_n 3, 1) := by decide +kernel
theorem dX0_keysIn_42 : decode cX0_keysIn 42 = .ok (.iload 4, 2) := by decide +kernel
theorem dX0_keysIn_44 : decode cX0_keysIn 44 = .ok (.invokevirtual 58, 3) := by decide +kernel
theorem dX0_keysIn_47 : decode cX0_keysIn 47 = .ok (.ireturn, 1) := by decide +kernel
theorem dX0_timeOf_0 : decode cX0_timeOf 0 = .ok (.iload_n 1, 1) := by decide +kernel
theorem dX0_timeOf_1 : decode cX0_timeOf 1 = .ok (.sipush 1440, 3) := by decide +kernel
theorem dX0_timeOf_4 : decode cX0_timeOf 4 = .ok (.imul, 1) := by decide +kernel
theorem dX0_timeOf_5 : decode cX0_timeOf 5 = .ok (.aload_n 0, 1) := by decide +kernel
theorem dX0_timeOf_6 : decode cX0_timeOf 6 = .ok (.getfield 68, 3) := by decide +kernel
theorem dX0_timeOf_9 : decode cX0_timeOf 9 = .ok (.iadd, 1) := by decide +kernel
theorem dX0_timeOf_10 : decode cX0_timeOf 10 = .ok (.ireturn, 1) := by decide +kernel
theorem dX0_changeOf_0 : decode cX0_changeOf 0 = .ok (.iconst 0, 1) := by decide +kernel
theorem dX0_changeOf_1 : decode cX0_changeOf 1 = .ok (.istore_n 2, 1) := by decide +kernel
theorem dX0_changeOf_2 : decode cX0_changeOf 2 = .ok (.iload_n 2, 1) := by decide +kernel
theorem dX0_changeOf_3 : decode cX0_changeOf 3 = .ok (.aload_n 0, 1) := by decide +kernel
theorem dX0_changeOf_4 : decode cX0_changeOf 4 = .ok (.getfield 37, 3) := by decide +kernel
theorem dX0_changeOf_7 : decode cX0_changeOf 7 = .ok (.if_icmp .ge 21, 3) := by decide +kernel
theorem dX0_changeOf_10 : decode cX0_changeOf 10 = .ok (.aload_n 0, 1) := by decide +kernel
theorem dX0_changeOf_11 : decode cX0_changeOf 11 = .ok (.getfield 9, 3) := by decide +kernel
theorem dX0_changeOf_14 : decode cX0_changeOf 14 = .ok (.iload_n 2, 1) := by decide +kernel
theorem dX0_changeOf_15 : decode cX0_changeOf 15 = .ok (.iaload, 1) := by decide +kernel
theorem dX0_changeOf_16 : decode cX0_changeOf 16 = .ok (.iload_n 1, 1) := by decide +kernel
theorem dX0_changeOf_17 : decode cX0_changeOf 17 = .ok (.if_icmp .ne 5, 3) := by decide +kernel
theorem dX0_changeOf_20 : decode cX0_changeOf 20 = .ok (.iload_n 2, 1) := by decide +kernel
theorem dX0_changeOf_21 : decode cX0_changeOf 21 = .ok (.ireturn, 1) := by decide +kernel
theorem dX0_changeOf_22 : decode cX0_changeOf 22 = .ok (.iinc 2 1, 3) := by decide +kernel
theorem dX0_changeOf_25 : decode cX0_changeOf 25 = .ok (.goto (-23), 3) := by decide +kernel
theorem dX0_changeOf_28 : decode cX0_changeOf 28 = .ok (.iconst (-1), 1) := by decide +kernel
theorem dX0_changeOf_29 : decode cX0_changeOf 29 = .ok (.ireturn, 1) := by decide +kernel
set_option maxRecDepth 20000 in
theorem ggX0_isDropped_X0_changeOf : GoodIn wsX0_isDropped wsX0_changeOf := goodIn_r _ [6, 7, 8, 9, 10, 11, 12, 13, 14, 15, 16, 17, 18, 19, 20, 21, 22, 23] (by decide +kernel) (by decide +kernel)
set_option maxRecDepth 20000 in
theorem gX0_isDropped_X0_changeOf : GoodIn wsX0_isDropped (wsV RX0 109 RX0 yX0_changeOf wsX0_changeOf) := goodIn_app (goodIn_of _ (by decide +kernel)) ggX0_isDropped_X0_changeOf
theorem dX0_isDropped_0 : decode cX0_isDropped 0 = .ok (.aload_n 0, 1) := by decide +kernel
theorem dX0_isDropped_1 : decode cX0_isDropped 1 = .ok (.iload_n 1, 1) := by decide +kernel
theorem dX0_isDropped_2 : decode cX0_isDropped 2 = .ok (.invokevirtual 109, 3) := by decide +kernel
theorem dX0_isDropped_5 : decode cX0_isDropped 5 = .ok (.istore_n 2, 1) := by decide +kernel
theorem dX0_isDropped_6 : decode cX0_isDropped 6 = .ok (.iload_n 2, 1) := by decide +kernel
theorem dX0_isDropped_7 : decode cX0_isDropped 7 = .ok (.iconst (-1), 1) := by decide +kernel
theorem dX0_isDropped_8 : decode cX0_isDropped 8 = .ok (.if_icmp .eq 17, 3) := by decide +kernel
theorem dX0_isDropped_11 : decode cX0_isDropped 11 = .ok (.aload_n 0, 1) := by decide +kernel
theorem dX0_isDropped_12 : decode cX0_isDropped 12 = .ok (.getfield 15, 3) := by decide +kernel
theorem dX0_isDropped_15 : decode cX0_isDropped 15 = .ok (.iload_n 2, 1) := by decide +kernel
theorem dX0_isDropped_16 : decode cX0_isDropped 16 = .ok (.iaload, 1) := by decide +kernel
theorem dX0_isDropped_17 : decode cX0_isDropped 17 = .ok (.iconst (-1), 1) := by decide +kernel
theorem dX0_isDropped_18 : decode cX0_isDropped 18 = .ok (.if_icmp .ne 7, 3) := by decide +kernel
theorem dX0_isDropped_21 : decode cX0_isDropped 21 = .ok (.iconst 1, 1) := by decide +kernel
theorem dX0_isDropped_22 : decode cX0_isDropped 22 = .ok (.goto 4, 3) := by decide +kernel
theorem dX0_isDropped_25 : decode cX0_isDropped 25 = .ok (.iconst 0, 1) := by decide +kernel
theorem dX0_isDropped_26 : decode cX0_isDropped 26 = .ok (.ireturn, 1) := by decide +kernel
set_option maxRecDepth 20000 in
theorem ggX0_change_X0_changeOf : GoodIn wsX0_change wsX0_changeOf := goodIn_r _ [8, 1, 2, 9, 10, 11, 12, 13, 14, 15, 16, 17, 18, 19, 20, 21, 22, 23] (by decide +kernel) (by decide +kernel)
set_option maxRecDepth 20000 in
theorem gX0_change_X0_changeOf : GoodIn wsX0_change (wsV RX0 109 RX0 yX0_changeOf wsX0_changeOf) := goodIn_app (goodIn_of _ (by decide +kernel)) ggX0_change_X0_changeOf
theorem dX0_change_0 : decode cX0_change 0 = .ok (.aload_n 0, 1) := by decide +kernel
theorem dX0_change_1 : decode cX0_change 1 = .ok (.iload_n 1, 1) := by decide +kernel
theorem dX0_change_2 : decode cX0_change 2 = .ok (.invokevirtual 109, 3) := by decide +kernel
theorem dX0_change_5 : decode cX0_change 5 = .ok (.istore_n 3, 1) := by decide +kernel
theorem dX0_change_6 : decode cX0_change 6 = .ok (.iload_n 3, 1) := by decide +kernel
theorem dX0_change_7 : decode cX0_change 7 = .ok (.iconst (-1), 1) := by decide +kernel
theorem dX0_change_8 : decode cX0_change 8 = .ok (.if_icmp .ne 29, 3) := by decide +kernel
theorem dX0_change_11 : decode cX0_change 11 = .ok (.aload_n 0, 1) := by decide +kernel
theorem dX0_change_12 : decode cX0_change 12 = .ok (.getfield 37, 3) := by decide +kernel
theorem dX0_change_15 : decode cX0_change 15 = .ok (.bipush 16, 2) := by decide +kernel
theorem dX0_change_17 : decode cX0_change 17 = .ok (.if_icmp .lt 5, 3) := by decide +kernel
theorem dX0_change_20 : decode cX0_change 20 = .ok (.iconst 0, 1) := by decide +kernel
theorem dX0_change_21 : decode cX0_change 21 = .ok (.ireturn, 1) := by decide +kernel
theorem dX0_change_22 : decode cX0_change 22 = .ok (.aload_n 0, 1) := by decide +kernel
theorem dX0_change_23 : decode cX0_change 23 = .ok (.getfield 37, 3) := by decide +kernel
theorem dX0_change_26 : decode cX0_change 26 = .ok (.istore_n 3, 1) := by decide +kernel
theorem dX0_change_27 : decode cX0_change 27 = .ok (.aload_n 0, 1) := by decide +kernel
theorem dX0_change_28 : decode cX0_change 28 = .ok (.dup, 1) := by decide +kernel
theorem dX0_change_29 : decode cX0_change 29 = .ok (.getfield 37, 3) := by decide +kernel
theorem dX0_change_32 : decode cX0_change 32 = .ok (.iconst 1, 1) := by decide +kernel
theorem dX0_change_33 : decode cX0_change 33 = .ok (.iadd, 1) := by decide +kernel
theorem dX0_change_34 : decode cX0_change 34 = .ok (.putfield 37, 3) := by decide +kernel
theorem dX0_change_37 : decode cX0_change 37 = .ok (.aload_n 0, 1) := by decide +kernel
theorem dX0_change_38 : decode cX0_change 38 = .ok (.getfield 9, 3) := by decide +kernel
theorem dX0_change_41 : decode cX0_change 41 = .ok (.iload_n 3, 1) := by decide +kernel
theorem dX0_change_42 : decode cX0_change 42 = .ok (.iload_n 1, 1) := by decide +kernel
theorem dX0_change_43 : decode cX0_change 43 = .ok (.iastore, 1) := by decide +kernel
theorem dX0_change_44 : decode cX0_change 44 = .ok (.aload_n 0, 1) := by decide +kernel
theorem dX0_change_45 : decode cX0_change 45 = .ok (.getfield 15, 3) := by decide +kernel
theorem dX0_change_48 : decode cX0_change 48 = .ok (.iload_n 3, 1) := by decide +kernel
theorem dX0_change_49 : decode cX0_change 49 = .ok (.iload_n 2, 1) := by decide +kernel
theorem dX0_change_50 : decode cX0_change 50 = .ok (.iastore, 1) := by decide +kernel
theorem dX0_change_51 : decode cX0_change 51 = .ok (.iconst 1, 1) := by decide +kernel
theorem dX0_change_52 : decode cX0_change 52 = .ok (.ireturn, 1) := by decide +kernel
set_option maxRecDepth 20000 in
theorem ggX0_undoChange_X0_changeOf : GoodIn wsX0_undoChange wsX0_changeOf := goodIn_r _ [6, 7, 8, 13, 14, 15, 16, 17, 18, 19, 20, 21, 22, 23, 24, 25, 26, 27] (by decide +kernel) (by decide +kernel)
set_option maxRecDepth 20000 in
theorem gX0_undoChange_X0_changeOf : GoodIn wsX0_undoChange (wsV RX0 109 RX0 yX0_changeOf wsX0_changeOf) := goodIn_app (goodIn_of _ (by decide +kernel)) ggX0_undoChange_X0_changeOf
set_option maxRecDepth 20000 in
theorem ggX0_undoChange_X0_forget : GoodIn wsX0_undoChange wsX0_forget := goodIn_r _ [12, 7, 8, 1, 13, 14, 15, 16, 17, 18, 19, 20, 21, 22, 23, 24, 25, 26, 27] (by decide +kernel) (by decide +kernel)
set_option maxRecDepth 20000 in
theorem gX0_undoChange_X0_forget : GoodIn wsX0_undoChange (wsV RX0 87 RX0 yX0_forget wsX0_forget) := goodIn_app (goodIn_of _ (by decide +kernel)) ggX0_undoChange_X0_forget
theorem dX0_undoChange_0 : decode cX0_undoChange 0 = .ok (.aload_n 0, 1) := by decide +kernel
theorem dX0_undoChange_1 : decode cX0_undoChange 1 = .ok (.iload_n 1, 1) := by decide +kernel
theorem dX0_undoChange_2 : decode cX0_undoChange 2 = .ok (.invokevirtual 109, 3) := by decide +kernel
theorem dX0_undoChange_5 : decode cX0_undoChange 5 = .ok (.istore_n 2, 1) := by decide +kernel
theorem dX0_undoChange_6 : decode cX0_undoChange 6 = .ok (.iload_n 2, 1) := by decide +kernel
theorem dX0_undoChange_7 : decode cX0_undoChange 7 = .ok (.iconst (-1), 1) := by decide +kernel
theorem dX0_undoChange_8 : decode cX0_undoChange 8 = .ok (.if_icmp .ne 5, 3) := by decide +kernel
theorem dX0_undoChange_11 : decode cX0_undoChange 11 = .ok (.iconst 0, 1) := by decide +kernel
theorem dX0_undoChange_12 : decode cX0_undoChange 12 = .ok (.ireturn, 1) := by decide +kernel
theorem dX0_undoChange_13 : decode cX0_undoChange 13 = .ok (.aload_n 0, 1) := by decide +kernel
theorem dX0_undoChange_14 : decode cX0_undoChange 14 = .ok (.getfield 15, 3) := by decide +kernel
theorem dX0_undoChange_17 : decode cX0_undoChange 17 = .ok (.iload_n 2, 1) := by decide +kernel
theorem dX0_undoChange_18 : decode cX0_undoChange 18 = .ok (.iaload, 1) := by decide +kernel
theorem dX0_undoChange_19 : decode cX0_undoChange 19 = .ok (.iconst (-1), 1) := by decide +kernel
theorem dX0_undoChange_20 : decode cX0_undoChange 20 = .ok (.if_icmp .ne 7, 3) := by decide +kernel
theorem dX0_undoChange_23 : decode cX0_undoChange 23 = .ok (.iconst 1, 1) := by decide +kernel
theorem dX0_undoChange_24 : decode cX0_undoChange 24 = .ok (.goto 4, 3) := by decide +kernel
theorem dX0_undoChange_27 : decode cX0_undoChange 27 = .ok (.iconst 2, 1) := by decide +kernel
theorem dX0_undoChange_28 : decode cX0_undoChange 28 = .ok (.istore_n 3, 1) := by decide +kernel
theorem dX0_undoChange_29 : decode cX0_undoChange 29 = .ok (.aload_n 0, 1) := by decide +kernel
theorem dX0_undoChange_30 : decode cX0_undoChange 30 = .ok (.iload_n 2, 1) := by decide +kernel
theorem dX0_undoChange_31 : decode cX0_undoChange 31 = .ok (.invokevirtual 87, 3) := by decide +kernel
theorem dX0_undoChange_34 : decode cX0_undoChange 34 = .ok (.iload_n 3, 1) := by decide +kernel
theorem dX0_undoChange_35 : decode cX0_undoChange 35 = .ok (.ireturn, 1) := by decide +kernel
theorem dX0_forget_0 : decode cX0_forget 0 = .ok (.aload_n 0, 1) := by decide +kernel
theorem dX0_forget_1 : decode cX0_forget 1 = .ok (.dup, 1) := by decide +kernel
theorem dX0_forget_2 : decode cX0_forget 2 = .ok (.getfield 37, 3) := by decide +kernel
theorem dX0_forget_5 : decode cX0_forget 5 = .ok (.iconst 1, 1) := by decide +kernel
theorem dX0_forget_6 : decode cX0_forget 6 = .ok (.isub, 1) := by decide +kernel
theorem dX0_forget_7 : decode cX0_forget 7 = .ok (.putfield 37, 3) := by decide +kernel
theorem dX0_forget_10 : decode cX0_forget 10 = .ok (.aload_n 0, 1) := by decide +kernel
theorem dX0_forget_11 : decode cX0_forget 11 = .ok (.getfield 9, 3) := by decide +kernel
theorem dX0_forget_14 : decode cX0_forget 14 = .ok (.iload_n 1, 1) := by decide +kernel
theorem dX0_forget_15 : decode cX0_forget 15 = .ok (.aload_n 0, 1) := by decide +kernel
theorem dX0_forget_16 : decode cX0_forget 16 = .ok (.getfield 9, 3) := by decide +kernel
theorem dX0_forget_19 : decode cX0_forget 19 = .ok (.aload_n 0, 1) := by decide +kernel
theorem dX0_forget_20 : decode cX0_forget 20 = .ok (.getfield 37, 3) := by decide +kernel
theorem dX0_forget_23 : decode cX0_forget 23 = .ok (.iaload, 1) := by decide +kernel
theorem dX0_forget_24 : decode cX0_forget 24 = .ok (.iastore, 1) := by decide +kernel
theorem dX0_forget_25 : decode cX0_forget 25 = .ok (.aload_n 0, 1) := by decide +kernel
theorem dX0_forget_26 : decode cX0_forget 26 = .ok (.getfield 15, 3) := by decide +kernel
theorem dX0_forget_29 : decode cX0_forget 29 = .ok (.iload_n 1, 1) := by decide +kernel
theorem dX0_forget_30 : decode cX0_forget 30 = .ok (.aload_n 0, 1) := by decide +kernel
theorem dX0_forget_31 : decode cX0_forget 31 = .ok (.getfield 15, 3) := by decide +kernel
theorem dX0_forget_34 : decode cX0_forget 34 = .ok (.aload_n 0, 1) := by decide +kernel
theorem dX0_forget_35 : decode cX0_forget 35 = .ok (.getfield 37, 3) := by decide +kernel
theorem dX0_forget_38 : decode cX0_forget 38 = .ok (.iaload, 1) := by decide +kernel
theorem dX0_forget_39 : decode cX0_forget 39 = .ok (.iastore, 1) := by decide +kernel
theorem dX0_forget_40 : decode cX0_forget 40 = .ok (.return_, 1) := by decide +kernel
theorem dX0_droppedOnes_0 : decode cX0_droppedOnes 0 = .ok (.iconst 0, 1) := by decide +kernel
theorem dX0_droppedOnes_1 : decode cX0_droppedOnes 1 = .ok (.istore_n 1, 1) := by decide +kernel
theorem dX0_droppedOnes_2 : decode cX0_droppedOnes 2 = .ok (.iconst 0, 1) := by decide +kernel
theorem dX0_droppedOnes_3 : decode cX0_droppedOnes 3 = .ok (.istore_n 2, 1) := by decide +kernel
theorem dX0_droppedOnes_4 : decode cX0_droppedOnes 4 = .ok (.iload_n 2, 1) := by decide +kernel
theorem dX0_droppedOnes_5 : decode cX0_droppedOnes 5 = .ok (.aload_n 0, 1) := by decide +kernel
theorem dX0_droppedOnes_6 : decode cX0_droppedOnes 6 = .ok (.getfield 37, 3) := by decide +kernel
theorem dX0_droppedOnes_9 : decode cX0_droppedOnes 9 = .ok (.if_icmp .ge 22, 3) := by decide +kernel
theorem dX0_droppedOnes_12 : decode cX0_droppedOnes 12 = .ok (.aload_n 0, 1) := by decide +kernel
theorem dX0_droppedOnes_13 : decode cX0_droppedOnes 13 = .ok (.getfield 15, 3) := by decide +kernel
theorem dX0_droppedOnes_16 : decode cX0_droppedOnes 16 = .ok (.iload_n 2, 1) := by decide +kernel
theorem dX0_droppedOnes_17 : decode cX0_droppedOnes 17 = .ok (.iaload, 1) := by decide +kernel
theorem dX0_droppedOnes_18 : decode cX0_droppedOnes 18 = .ok (.iconst (-1), 1) := by decide +kernel
theorem dX0_droppedOnes_19 : decode cX0_droppedOnes 19 = .ok (.if_icmp .ne 6, 3) := by decide +kernel
theorem dX0_droppedOnes_22 : decode cX0_droppedOnes 22 = .ok (.iinc 1 1, 3) := by decide +kernel
theorem dX0_droppedOnes_25 : decode cX0_droppedOnes 25 = .ok (.iinc 2 1, 3) := by decide +kernel
theorem dX0_droppedOnes_28 : decode cX0_droppedOnes 28 = .ok (.goto (-24), 3) := by decide +kernel
theorem dX0_droppedOnes_31 : decode cX0_droppedOnes 31 = .ok (.iload_n 1, 1) := by decide +kernel
theorem dX0_droppedOnes_32 : decode cX0_droppedOnes 32 = .ok (.ireturn, 1) := by decide +kernel
set_option maxRecDepth 20000 in
theorem ggX0_ruledFrom_J9_floorDiv_7cf53 : GoodIn wsX0_ruledFrom wsJ9_floorDiv_7cf53 := goodIn_r _ [5] (by decide +kernel) (by decide +kernel)
set_option maxRecDepth 20000 in
theorem gX0_ruledFrom_J9_floorDiv_7cf53 : GoodIn wsX0_ruledFrom (va_wsS RX0 112 yJ9_floorDiv_7cf53 wsJ9_floorDiv_7cf53) := goodIn_app (goodIn_of _ (by decide +kernel)) ggX0_ruledFrom_J9_floorDiv_7cf53
theorem dX0_ruledFrom_0 : decode cX0_ruledFrom 0 = .ok (.iload_n 1, 1) := by decide +kernel
theorem dX0_ruledFrom_1 : decode cX0_ruledFrom 1 = .ok (.aload_n 0, 1) := by decide +kernel
theorem dX0_ruledFrom_2 : decode cX0_ruledFrom 2 = .ok (.getfield 68, 3) := by decide +kernel
theorem dX0_ruledFrom_5 : decode cX0_ruledFrom 5 = .ok (.isub, 1) := by decide +kernel
theorem dX0_ruledFrom_6 : decode cX0_ruledFrom 6 = .ok (.sipush 1440, 3) := by decide +kernel
theorem dX0_ruledFrom_9 : decode cX0_ruledFrom 9 = .ok (.iadd, 1) := by decide +kernel
theorem dX0_ruledFrom_10 : decode cX0_ruledFrom 10 = .ok (.iconst 1, 1) := by decide +kernel
theorem dX0_ruledFrom_11 : decode cX0_ruledFrom 11 = .ok (.isub, 1) := by decide +kernel
theorem dX0_ruledFrom_12 : decode cX0_ruledFrom 12 = .ok (.sipush 1440, 3) := by decide +kernel
theorem dX0_ruledFrom_15 : decode cX0_ruledFrom 15 = .ok (.invokestatic 112, 3) := by decide +kernel
theorem dX0_ruledFrom_18 : decode cX0_ruledFrom 18 = .ok (.ireturn, 1) := by decide +kernel
set_option maxRecDepth 20000 in
theorem ggX0_ruledTo_J9_floorDiv_7cf53 : GoodIn wsX0_ruledTo wsJ9_floorDiv_7cf53 := goodIn_r _ [5] (by decide +kernel) (by decide +kernel)
set_option maxRecDepth 20000 in
theorem gX0_ruledTo_J9_floorDiv_7cf53 : GoodIn wsX0_ruledTo (va_wsS RX0 112 yJ9_floorDiv_7cf53 wsJ9_floorDiv_7cf53) := goodIn_app (goodIn_of _ (by decide +kernel)) ggX0_ruledTo_J9_floorDiv_7cf53
theorem dX0_ruledTo_0 : decode cX0_ruledTo 0 = .ok (.iload_n 1, 1) := by decide +kernel
theorem dX0_ruledTo_1 : decode cX0_ruledTo 1 = .ok (.aload_n 0, 1) := by decide +kernel
theorem dX0_ruledTo_2 : decode cX0_ruledTo 2 = .ok (.getfield 68, 3) := by decide +kernel
theorem dX0_ruledTo_5 : decode cX0_ruledTo 5 = .ok (.isub, 1) := by decide +kernel
theorem dX0_ruledTo_6 : decode cX0_ruledTo 6 = .ok (.sipush 1440, 3) := by decide +kernel
theorem dX0_ruledTo_9 : decode cX0_ruledTo 9 = .ok (.invokestatic 112, 3) := by decide +kernel
theorem dX0_ruledTo_12 : decode cX0_ruledTo 12 = .ok (.ireturn, 1) := by decide +kernel
set_option maxRecDepth 20000 in
theorem ggX0_seek_X0_ruledFrom : GoodIn wsX0_seek wsX0_ruledFrom := goodIn_r _ [11, 12, 13, 14, 15, 16, 95, 96, 97, 98, 99, 100, 101, 102, 103, 104, 105, 106, 107, 108, 109] (by decide +kernel) (by decide +kernel)
set_option maxRecDepth 20000 in
theorem gX0_seek_X0_ruledFrom : GoodIn wsX0_seek (wsV RX0 115 RX0 yX0_ruledFrom wsX0_ruledFrom) := goodIn_app (goodIn_of _ (by decide +kernel)) ggX0_seek_X0_ruledFrom
set_option maxRecDepth 20000 in
theorem ggX0_seek_X0_keyFrom : GoodIn wsX0_seek wsX0_keyFrom := goodIn_r _ [20, 21, 22, 23, 24, 25, 26, 27, 28, 29, 30, 31, 32, 33, 34, 35, 36, 37, 38, 39, 40, 41, 42, 43, 44, 45, 46, 47, 48, 49, 50, 51, 52, 53, 54, 55, 56, 57, 58, 59, 60, 61, 62, 63, 64, 65, 66, 67, 68, 69, 70, 71, 72, 73, 74, 75, 76, 77, 78, 79, 80, 81, 82, 83, 84, 85, 86, 95, 96, 97, 98, 99, 100, 101, 102, 103, 104, 105, 106, 107, 108, 109, 110, 111, 112, 113, 114, 115, 116, 117, 118, 119, 120, 121, 122, 123, 124, 125, 126, 127, 128, 129] (by decide +kernel) (by decide +kernel)
set_option maxRecDepth 20000 in
theorem gX0_seek_X0_keyFrom : GoodIn wsX0_seek (wsV RX0 98 RX0 yX0_keyFrom wsX0_keyFrom) := goodIn_app (goodIn_of _ (by decide +kernel)) ggX0_seek_X0_keyFrom
set_option maxRecDepth 20000 in
theorem ggX0_seek_X0_timeOf : GoodIn wsX0_seek wsX0_timeOf := goodIn_r _ [90, 12, 95, 96, 97, 98, 99, 100, 101, 102, 103, 104, 105, 106, 107, 108, 109] (by decide +kernel) (by decide +kernel)
set_option maxRecDepth 20000 in
theorem gX0_seek_X0_timeOf : GoodIn wsX0_seek (wsV RX0 118 RX0 yX0_timeOf wsX0_timeOf) := goodIn_app (goodIn_of _ (by decide +kernel)) ggX0_seek_X0_timeOf
set_option maxRecDepth 20000 in
theorem ggX0_seek_X0_changeOf : GoodIn wsX0_seek wsX0_changeOf := goodIn_r _ [94, 1, 6, 95, 96, 97, 98, 99, 100, 101, 102, 103, 104, 105, 106, 107, 108, 109] (by decide +kernel) (by decide +kernel)
set_option maxRecDepth 20000 in
theorem gX0_seek_X0_changeOf : GoodIn wsX0_seek (wsV RX0 109 RX0 yX0_changeOf wsX0_changeOf) := goodIn_app (goodIn_of _ (by decide +kernel)) ggX0_seek_X0_changeOf
theorem dX0_seek_0 : decode cX0_seek 0 = .ok (.aload_n 0, 1) := by decide +kernel
theorem dX0_seek_1 : decode cX0_seek 1 = .ok (.aload_n 0, 1) := by decide +kernel
theorem dX0_seek_2 : decode cX0_seek 2 = .ok (.iload_n 1, 1) := by decide +kernel
theorem dX0_seek_3 : decode cX0_seek 3 = .ok (.invokevirtual 115, 3) := by decide +kernel
theorem dX0_seek_6 : decode cX0_seek 6 = .ok (.invokevirtual 98, 3) := by decide +kernel
theorem dX0_seek_9 : decode cX0_seek 9 = .ok (.istore_n 3, 1) := by decide +kernel
theorem dX0_seek_10 : decode cX0_seek 10 = .ok (.iload_n 3, 1) := by decide +kernel
theorem dX0_seek_11 : decode cX0_seek 11 = .ok (.iconst (-1), 1) := by decide +kernel
theorem dX0_seek_12 : decode cX0_seek 12 = .ok (.if_icmp .eq 25, 3) := by decide +kernel
theorem dX0_seek_15 : decode cX0_seek 15 = .ok (.iload_n 3, 1) := by decide +kernel
theorem dX0_seek_16 : decode cX0_seek 16 = .ok (.iload_n 2, 1) := by decide +kernel
theorem dX0_seek_17 : decode cX0_seek 17 = .ok (.if_icmp .ge 20, 3) := by decide +kernel
theorem dX0_seek_20 : decode cX0_seek 20 = .ok (.aload_n 0, 1) := by decide +kernel
theorem dX0_seek_21 : decode cX0_seek 21 = .ok (.iload_n 3, 1) := by decide +kernel
theorem dX0_seek_22 : decode cX0_seek 22 = .ok (.invokevirtual 118, 3) := by decide +kernel
theorem dX0_seek_25 : decode cX0_seek 25 = .ok (.iload_n 1, 1) := by decide +kernel
theorem dX0_seek_26 : decode cX0_seek 26 = .ok (.if_icmp .ne 11, 3) := by decide +kernel
theorem dX0_seek_29 : decode cX0_seek 29 = .ok (.aload_n 0, 1) := by decide +kernel
theorem dX0_seek_30 : decode cX0_seek 30 = .ok (.iload_n 3, 1) := by decide +kernel
theorem dX0_seek_31 : decode cX0_seek 31 = .ok (.iconst 1, 1) := by decide +kernel
theorem dX0_seek_32 : decode cX0_seek 32 = .ok (.iadd, 1) := by decide +kernel
theorem dX0_seek_33 : decode cX0_seek 33 = .ok (.invokevirtual 98, 3) := by decide +kernel
theorem dX0_seek_36 : decode cX0_seek 36 = .ok (.istore_n 3, 1) := by decide +kernel
theorem dX0_seek_37 : decode cX0_seek 37 = .ok (.iconst 0, 1) := by decide +kernel
theorem dX0_seek_38 : decode cX0_seek 38 = .ok (.istore 4, 2) := by decide +kernel
theorem dX0_seek_40 : decode cX0_seek 40 = .ok (.iload 4, 2) := by decide +kernel
theorem dX0_seek_42 : decode cX0_seek 42 = .ok (.aload_n 0, 1) := by decide +kernel
theorem dX0_seek_43 : decode cX0_seek 43 = .ok (.getfield 37, 3) := by decide +kernel
theorem dX0_seek_46 : decode cX0_seek 46 = .ok (.if_icmp .ge 31, 3) := by decide +kernel
theorem dX0_seek_49 : decode cX0_seek 49 = .ok (.iload_n 3, 1) := by decide +kernel
theorem dX0_seek_50 : decode cX0_seek 50 = .ok (.iconst (-1), 1) := by decide +kernel
theorem dX0_seek_51 : decode cX0_seek 51 = .ok (.if_icmp .eq 26, 3) := by decide +kernel
theorem dX0_seek_54 : decode cX0_seek 54 = .ok (.aload_n 0, 1) := by decide +kernel
theorem dX0_seek_55 : decode cX0_seek 55 = .ok (.iload_n 3, 1) := by decide +kernel
theorem dX0_seek_56 : decode cX0_seek 56 = .ok (.invokevirtual 109, 3) := by decide +kernel
theorem dX0_seek_59 : decode cX0_seek 59 = .ok (.iconst (-1), 1) := by decide +kernel
theorem dX0_seek_60 : decode cX0_seek 60 = .ok (.if_icmp .eq 17, 3) := by decide +kernel
theorem dX0_seek_63 : decode cX0_seek 63 = .ok (.aload_n 0, 1) := by decide +kernel
theorem dX0_seek_64 : decode cX0_seek 64 = .ok (.iload_n 3, 1) := by decide +kernel
theorem dX0_seek_65 : decode cX0_seek 65 = .ok (.iconst 1, 1) := by decide +kernel
theorem dX0_seek_66 : decode cX0_seek 66 = .ok (.iadd, 1) := by decide +kernel
theorem dX0_seek_67 : decode cX0_seek 67 = .ok (.invokevirtual 98, 3) := by decide +kernel
theorem dX0_seek_70 : decode cX0_seek 70 = .ok (.istore_n 3, 1) := by decide +kernel
theorem dX0_seek_71 : decode cX0_seek 71 = .ok (.iinc 4 1, 3) := by decide +kernel
theorem dX0_seek_74 : decode cX0_seek 74 = .ok (.goto (-34), 3) := by decide +kernel
theorem dX0_seek_77 : decode cX0_seek 77 = .ok (.aload_n 0, 1) := by decide +kernel
theorem dX0_seek_78 : decode cX0_seek 78 = .ok (.iload_n 3, 1) := by decide +kernel
theorem dX0_seek_79 : decode cX0_seek 79 = .ok (.putfield 121, 3) := by decide +kernel
theorem dX0_seek_82 : decode cX0_seek 82 = .ok (.aload_n 0, 1) := by decide +kernel
theorem dX0_seek_83 : decode cX0_seek 83 = .ok (.iload_n 3, 1) := by decide +kernel
theorem dX0_seek_84 : decode cX0_seek 84 = .ok (.iconst (-1), 1) := by decide +kernel
theorem dX0_seek_85 : decode cX0_seek 85 = .ok (.if_icmp .ne 8, 3) := by decide +kernel
theorem dX0_seek_88 : decode cX0_seek 88 = .ok (.ldc 124, 2) := by decide +kernel
theorem dX0_seek_90 : decode cX0_seek 90 = .ok (.goto 8, 3) := by decide +kernel
theorem dX0_seek_93 : decode cX0_seek 93 = .ok (.aload_n 0, 1) := by decide +kernel
theorem dX0_seek_94 : decode cX0_seek 94 = .ok (.iload_n 3, 1) := by decide +kernel
theorem dX0_seek_95 : decode cX0_seek 95 = .ok (.invokevirtual 118, 3) := by decide +kernel
theorem dX0_seek_98 : decode cX0_seek 98 = .ok (.putfield 125, 3) := by decide +kernel
theorem dX0_seek_101 : decode cX0_seek 101 = .ok (.iconst 0, 1) := by decide +kernel
theorem dX0_seek_102 : decode cX0_seek 102 = .ok (.istore 4, 2) := by decide +kernel
theorem dX0_seek_104 : decode cX0_seek 104 = .ok (.iload 4, 2) := by decide +kernel
theorem dX0_seek_106 : decode cX0_seek 106 = .ok (.aload_n 0, 1) := by decide +kernel
theorem dX0_seek_107 : decode cX0_seek 107 = .ok (.getfield 37, 3) := by decide +kernel
theorem dX0_seek_110 : decode cX0_seek 110 = .ok (.if_icmp .ge 102, 3) := by decide +kernel
theorem dX0_seek_113 : decode cX0_seek 113 = .ok (.aload_n 0, 1) := by decide +kernel
theorem dX0_seek_114 : decode cX0_seek 114 = .ok (.getfield 15, 3) := by decide +kernel
theorem dX0_seek_117 : decode cX0_seek 117 = .ok (.iload 4, 2) := by decide +kernel
theorem dX0_seek_119 : decode cX0_seek 119 = .ok (.iaload, 1) := by decide +kernel
theorem dX0_seek_120 : decode cX0_seek 120 = .ok (.istore 5, 2) := by decide +kernel
theorem dX0_seek_122 : decode cX0_seek 122 = .ok (.aload_n 0, 1) := by decide +kernel
theorem dX0_seek_123 : decode cX0_seek 123 = .ok (.getfield 9, 3) := by decide +kernel
theorem dX0_seek_126 : decode cX0_seek 126 = .ok (.iload 4, 2) := by decide +kernel
theorem dX0_seek_128 : decode cX0_seek 128 = .ok (.iaload, 1) := by decide +kernel
theorem dX0_seek_129 : decode cX0_seek 129 = .ok (.istore 6, 2) := by decide +kernel
theorem dX0_seek_131 : decode cX0_seek 131 = .ok (.iload 5, 2) := by decide +kernel
theorem dX0_seek_133 : decode cX0_seek 133 = .ok (.iload_n 1, 1) := by decide +kernel
theorem dX0_seek_134 : decode cX0_seek 134 = .ok (.if_icmp .gt 15, 3) := by decide +kernel
theorem dX0_seek_137 : decode cX0_seek 137 = .ok (.iload 5, 2) := by decide +kernel
theorem dX0_seek_139 : decode cX0_seek 139 = .ok (.iload_n 1, 1) := by decide +kernel
theorem dX0_seek_140 : decode cX0_seek 140 = .ok (.if_icmp .ne 13, 3) := by decide +kernel
theorem dX0_seek_143 : decode cX0_seek 143 = .ok (.iload 6, 2) := by decide +kernel
theorem dX0_seek_145 : decode cX0_seek 145 = .ok (.iload_n 2, 1) := by decide +kernel
theorem dX0_seek_146 : decode cX0_seek 146 = .ok (.if_icmp .lt 7, 3) := by decide +kernel
theorem dX0_seek_149 : decode cX0_seek 149 = .ok (.iconst 1, 1) := by decide +kernel
theorem dX0_seek_150 : decode cX0_seek 150 = .ok (.goto 4, 3) := by decide +kernel
theorem dX0_seek_153 : decode cX0_seek 153 = .ok (.iconst 0, 1) := by decide +kernel
theorem dX0_seek_154 : decode cX0_seek 154 = .ok (.istore 7, 2) := by decide +kernel
theorem dX0_seek_156 : decode cX0_seek 156 = .ok (.iload 5, 2) := by decide +kernel
theorem dX0_seek_158 : decode cX0_seek 158 = .ok (.iconst (-1), 1) := by decide +kernel
theorem dX0_seek_159 : decode cX0_seek 159 = .ok (.if_icmp .eq 47, 3) := by decide +kernel
theorem dX0_seek_162 : decode cX0_seek 162 = .ok (.iload 7, 2) := by decide +kernel
theorem dX0_seek_164 : decode cX0_seek 164 = .ok (.ifCond .eq 42, 3) := by decide +kernel
theorem dX0_seek_167 : decode cX0_seek 167 = .ok (.iload 5, 2) := by decide +kernel
theorem dX0_seek_169 : decode cX0_seek 169 = .ok (.aload_n 0, 1) := by decide +kernel
theorem dX0_seek_170 : decode cX0_seek 170 = .ok (.getfield 125, 3) := by decide +kernel
theorem dX0_seek_173 : decode cX0_seek 173 = .ok (.if_icmp .lt 21, 3) := by decide +kernel
theorem dX0_seek_176 : decode cX0_seek 176 = .ok (.iload 5, 2) := by decide +kernel
theorem dX0_seek_178 : decode cX0_seek 178 = .ok (.aload_n 0, 1) := by decide +kernel
theorem dX0_seek_179 : decode cX0_seek 179 = .ok (.getfield 125, 3) := by decide +kernel
theorem dX0_seek_182 : decode cX0_seek 182 = .ok (.if_icmp .ne 24, 3) := by decide +kernel
theorem dX0_seek_185 : decode cX0_seek 185 = .ok (.iload 6, 2) := by decide +kernel
theorem dX0_seek_187 : decode cX0_seek 187 = .ok (.aload_n 0, 1) := by decide +kernel
theorem dX0_seek_188 : decode cX0_seek 188 = .ok (.getfield 121, 3) := by decide +kernel
theorem dX0_seek_191 : decode cX0_seek 191 = .ok (.if_icmp .ge 15, 3) := by decide +kernel
theorem dX0_seek_194 : decode cX0_seek 194 = .ok (.aload_n 0, 1) := by decide +kernel
theorem dX0_seek_195 : decode cX0_seek 195 = .ok (.iload 5, 2) := by decide +kernel
theorem dX0_seek_197 : decode cX0_seek 197 = .ok (.putfield 125, 3) := by decide +kernel
theorem dX0_seek_200 : decode cX0_seek 200 = .ok (.aload_n 0, 1) := by decide +kernel
theorem dX0_seek_201 : decode cX0_seek 201 = .ok (.iload 6, 2) := by decide +kernel
theorem dX0_seek_203 : decode cX0_seek 203 = .ok (.putfield 121, 3) := by decide +kernel
theorem dX0_seek_206 : decode cX0_seek 206 = .ok (.iinc 4 1, 3) := by decide +kernel
theorem dX0_seek_209 : decode cX0_seek 209 = .ok (.goto (-105), 3) := by decide +kernel
theorem dX0_seek_212 : decode cX0_seek 212 = .ok (.aload_n 0, 1) := by decide +kernel
theorem dX0_seek_213 : decode cX0_seek 213 = .ok (.getfield 121, 3) := by decide +kernel
theorem dX0_seek_216 : decode cX0_seek 216 = .ok (.iconst (-1), 1) := by decide +kernel
theorem dX0_seek_217 : decode cX0_seek 217 = .ok (.if_icmp .eq 7, 3) := by decide +kernel
theorem dX0_seek_220 : decode cX0_seek 220 = .ok (.iconst 1, 1) := by decide +kernel
theorem dX0_seek_221 : decode cX0_seek 221 = .ok (.goto 4, 3) := by decide +kernel
theorem dX0_seek_224 : decode cX0_seek 224 = .ok (.iconst 0, 1) := by decide +kernel
theorem dX0_seek_225 : decode cX0_seek 225 = .ok (.ireturn, 1) := by decide +kernel
set_option maxRecDepth 20000 in
theorem ggX0_seekAhead_X0_ruledTo : GoodIn wsX0_seekAhead wsX0_ruledTo := goodIn_r _ [10, 11, 12, 13, 14, 15, 83, 84, 85, 86, 87, 88, 89, 90, 91, 92, 93, 94, 95, 96, 97] (by decide +kernel) (by decide +kernel)
set_option maxRecDepth 20000 in
theorem gX0_seekAhead_X0_ruledTo : GoodIn wsX0_seekAhead (wsV RX0 128 RX0 yX0_ruledTo wsX0_ruledTo) := goodIn_app (goodIn_of _ (by decide +kernel)) ggX0_seekAhead_X0_ruledTo
set_option maxRecDepth 20000 in
theorem ggX0_seekAhead_X0_keyTo : GoodIn wsX0_seekAhead wsX0_keyTo := goodIn_r _ [19, 20, 21, 22, 23, 24, 25, 26, 27, 28, 29, 30, 31, 32, 33, 34, 35, 36, 37, 38, 39, 40, 41, 42, 43, 44, 45, 46, 47, 48, 49, 50, 51, 52, 53, 54, 55, 56, 57, 58, 59, 60, 61, 62, 63, 64, 65, 66, 67, 68, 69, 70, 71, 72, 73, 74, 83, 84, 85, 86, 87, 88, 89, 90, 91, 92, 93, 94, 95, 96, 97, 98, 99, 100, 101, 102, 103, 104, 105, 106, 107, 108, 109, 110, 111, 112, 113, 114, 115, 116, 117] (by decide +kernel) (by decide +kernel)
set_option maxRecDepth 20000 in
theorem gX0_seekAhead_X0_keyTo : GoodIn wsX0_seekAhead (wsV RX0 131 RX0 yX0_keyTo wsX0_keyTo) := goodIn_app (goodIn_of _ (by decide +kernel)) ggX0_seekAhead_X0_keyTo
set_option maxRecDepth 20000 in
theorem ggX0_seekAhead_X0_changeOf : GoodIn wsX0_seekAhead wsX0_changeOf := goodIn_r _ [78, 1, 5, 83, 84, 85, 86, 87, 88, 89, 90, 91, 92, 93, 94, 95, 96, 97] (by decide +kernel) (by decide +kernel)
set_option maxRecDepth 20000 in
theorem gX0_seekAhead_X0_changeOf : GoodIn wsX0_seekAhead (wsV RX0 109 RX0 yX0_changeOf wsX0_changeOf) := goodIn_app (goodIn_of _ (by decide +kernel)) ggX0_seekAhead_X0_changeOf
set_option maxRecDepth 20000 in
theorem ggX0_seekAhead_X0_timeOf : GoodIn wsX0_seekAhead wsX0_timeOf := goodIn_r _ [82, 11, 83, 84, 85, 86, 87, 88, 89, 90, 91, 92, 93, 94, 95, 96, 97] (by decide +kernel) (by decide +kernel)
set_option maxRecDepth 20000 in
theorem gX0_seekAhead_X0_timeOf : GoodIn wsX0_seekAhead (wsV RX0 118 RX0 yX0_timeOf wsX0_timeOf) := goodIn_app (goodIn_of _ (by decide +kernel)) ggX0_seekAhead_X0_timeOf
theorem dX0_seekAhead_0 : decode cX0_seekAhead 0 = .ok (.aload_n 0, 1) := by decide +kernel
theorem dX0_seekAhead_1 : decode cX0_seekAhead 1 = .ok (.aload_n 0, 1) := by decide +kernel
theorem dX0_seekAhead_2 : decode cX0_seekAhead 2 = .ok (.iload_n 1, 1) := by decide +kernel
theorem dX0_seekAhead_3 : decode cX0_seekAhead 3 = .ok (.iconst 1, 1) := by decide +kernel
theorem dX0_seekAhead_4 : decode cX0_seekAhead 4 = .ok (.isub, 1) := by decide +kernel
theorem dX0_seekAhead_5 : decode cX0_seekAhead 5 = .ok (.invokevirtual 128, 3) := by decide +kernel
theorem dX0_seekAhead_8 : decode cX0_seekAhead 8 = .ok (.invokevirtual 131, 3) := by decide +kernel
theorem dX0_seekAhead_11 : decode cX0_seekAhead 11 = .ok (.istore_n 2, 1) := by decide +kernel
theorem dX0_seekAhead_12 : decode cX0_seekAhead 12 = .ok (.iconst 0, 1) := by decide +kernel
theorem dX0_seekAhead_13 : decode cX0_seekAhead 13 = .ok (.istore_n 3, 1) := by decide +kernel
theorem dX0_seekAhead_14 : decode cX0_seekAhead 14 = .ok (.iload_n 3, 1) := by decide +kernel
theorem dX0_seekAhead_15 : decode cX0_seekAhead 15 = .ok (.aload_n 0, 1) := by decide +kernel
theorem dX0_seekAhead_16 : decode cX0_seekAhead 16 = .ok (.getfield 37, 3) := by decide +kernel
theorem dX0_seekAhead_19 : decode cX0_seekAhead 19 = .ok (.if_icmp .ge 31, 3) := by decide +kernel
theorem dX0_seekAhead_22 : decode cX0_seekAhead 22 = .ok (.iload_n 2, 1) := by decide +kernel
theorem dX0_seekAhead_23 : decode cX0_seekAhead 23 = .ok (.iconst (-1), 1) := by decide +kernel
theorem dX0_seekAhead_24 : decode cX0_seekAhead 24 = .ok (.if_icmp .eq 26, 3) := by decide +kernel
theorem dX0_seekAhead_27 : decode cX0_seekAhead 27 = .ok (.aload_n 0, 1) := by decide +kernel
theorem dX0_seekAhead_28 : decode cX0_seekAhead 28 = .ok (.iload_n 2, 1) := by decide +kernel
theorem dX0_seekAhead_29 : decode cX0_seekAhead 29 = .ok (.invokevirtual 109, 3) := by decide +kernel
theorem dX0_seekAhead_32 : decode cX0_seekAhead 32 = .ok (.iconst (-1), 1) := by decide +kernel
theorem dX0_seekAhead_33 : decode cX0_seekAhead 33 = .ok (.if_icmp .eq 17, 3) := by decide +kernel
theorem dX0_seekAhead_36 : decode cX0_seekAhead 36 = .ok (.aload_n 0, 1) := by decide +kernel
theorem dX0_seekAhead_37 : decode cX0_seekAhead 37 = .ok (.iload_n 2, 1) := by decide +kernel
theorem dX0_seekAhead_38 : decode cX0_seekAhead 38 = .ok (.iconst 1, 1) := by decide +kernel
theorem dX0_seekAhead_39 : decode cX0_seekAhead 39 = .ok (.isub, 1) := by decide +kernel
theorem dX0_seekAhead_40 : decode cX0_seekAhead 40 = .ok (.invokevirtual 131, 3) := by decide +kernel
theorem dX0_seekAhead_43 : decode cX0_seekAhead 43 = .ok (.istore_n 2, 1) := by decide +kernel
theorem dX0_seekAhead_44 : decode cX0_seekAhead 44 = .ok (.iinc 3 1, 3) := by decide +kernel
theorem dX0_seekAhead_47 : decode cX0_seekAhead 47 = .ok (.goto (-33), 3) := by decide +kernel
theorem dX0_seekAhead_50 : decode cX0_seekAhead 50 = .ok (.aload_n 0, 1) := by decide +kernel
theorem dX0_seekAhead_51 : decode cX0_seekAhead 51 = .ok (.iload_n 2, 1) := by decide +kernel
theorem dX0_seekAhead_52 : decode cX0_seekAhead 52 = .ok (.putfield 121, 3) := by decide +kernel
theorem dX0_seekAhead_55 : decode cX0_seekAhead 55 = .ok (.aload_n 0, 1) := by decide +kernel
theorem dX0_seekAhead_56 : decode cX0_seekAhead 56 = .ok (.iload_n 2, 1) := by decide +kernel
theorem dX0_seekAhead_57 : decode cX0_seekAhead 57 = .ok (.iconst (-1), 1) := by decide +kernel
theorem dX0_seekAhead_58 : decode cX0_seekAhead 58 = .ok (.if_icmp .ne 7, 3) := by decide +kernel
theorem dX0_seekAhead_61 : decode cX0_seekAhead 61 = .ok (.iconst (-1), 1) := by decide +kernel
theorem dX0_seekAhead_62 : decode cX0_seekAhead 62 = .ok (.goto 8, 3) := by decide +kernel
theorem dX0_seekAhead_65 : decode cX0_seekAhead 65 = .ok (.aload_n 0, 1) := by decide +kernel
theorem dX0_seekAhead_66 : decode cX0_seekAhead 66 = .ok (.iload_n 2, 1) := by decide +kernel
theorem dX0_seekAhead_67 : decode cX0_seekAhead 67 = .ok (.invokevirtual 118, 3) := by decide +kernel
theorem dX0_seekAhead_70 : decode cX0_seekAhead 70 = .ok (.putfield 125, 3) := by decide +kernel
theorem dX0_seekAhead_73 : decode cX0_seekAhead 73 = .ok (.iconst 0, 1) := by decide +kernel
theorem dX0_seekAhead_74 : decode cX0_seekAhead 74 = .ok (.istore_n 3, 1) := by decide +kernel
theorem dX0_seekAhead_75 : decode cX0_seekAhead 75 = .ok (.iload_n 3, 1) := by decide +kernel
theorem dX0_seekAhead_76 : decode cX0_seekAhead 76 = .ok (.aload_n 0, 1) := by decide +kernel
theorem dX0_seekAhead_77 : decode cX0_seekAhead 77 = .ok (.getfield 37, 3) := by decide +kernel
theorem dX0_seekAhead_80 : decode cX0_seekAhead 80 = .ok (.if_icmp .ge 76, 3) := by decide +kernel
theorem dX0_seekAhead_83 : decode cX0_seekAhead 83 = .ok (.aload_n 0, 1) := by decide +kernel
theorem dX0_seekAhead_84 : decode cX0_seekAhead 84 = .ok (.getfield 15, 3) := by decide +kernel
theorem dX0_seekAhead_87 : decode cX0_seekAhead 87 = .ok (.iload_n 3, 1) := by decide +kernel
theorem dX0_seekAhead_88 : decode cX0_seekAhead 88 = .ok (.iaload, 1) := by decide +kernel
theorem dX0_seekAhead_89 : decode cX0_seekAhead 89 = .ok (.istore 4, 2) := by decide +kernel
theorem dX0_seekAhead_91 : decode cX0_seekAhead 91 = .ok (.aload_n 0, 1) := by decide +kernel
theorem dX0_seekAhead_92 : decode cX0_seekAhead 92 = .ok (.getfield 9, 3) := by decide +kernel
theorem dX0_seekAhead_95 : decode cX0_seekAhead 95 = .ok (.iload_n 3, 1) := by decide +kernel
theorem dX0_seekAhead_96 : decode cX0_seekAhead 96 = .ok (.iaload, 1) := by decide +kernel
theorem dX0_seekAhead_97 : decode cX0_seekAhead 97 = .ok (.istore 5, 2) := by decide +kernel
theorem dX0_seekAhead_99 : decode cX0_seekAhead 99 = .ok (.iload 4, 2) := by decide +kernel
theorem dX0_seekAhead_101 : decode cX0_seekAhead 101 = .ok (.iconst (-1), 1) := by decide +kernel
theorem dX0_seekAhead_102 : decode cX0_seekAhead 102 = .ok (.if_icmp .eq 48, 3) := by decide +kernel
theorem dX0_seekAhead_105 : decode cX0_seekAhead 105 = .ok (.iload 4, 2) := by decide +kernel
theorem dX0_seekAhead_107 : decode cX0_seekAhead 107 = .ok (.iload_n 1, 1) := by decide +kernel
theorem dX0_seekAhead_108 : decode cX0_seekAhead 108 = .ok (.if_icmp .ge 42, 3) := by decide +kernel
theorem dX0_seekAhead_111 : decode cX0_seekAhead 111 = .ok (.iload 4, 2) := by decide +kernel
theorem dX0_seekAhead_113 : decode cX0_seekAhead 113 = .ok (.aload_n 0, 1) := by decide +kernel
theorem dX0_seekAhead_114 : decode cX0_seekAhead 114 = .ok (.getfield 125, 3) := by decide +kernel
theorem dX0_seekAhead_117 : decode cX0_seekAhead 117 = .ok (.if_icmp .gt 21, 3) := by decide +kernel
theorem dX0_seekAhead_120 : decode cX0_seekAhead 120 = .ok (.iload 4, 2) := by decide +kernel
theorem dX0_seekAhead_122 : decode cX0_seekAhead 122 = .ok (.aload_n 0, 1) := by decide +kernel
theorem dX0_seekAhead_123 : decode cX0_seekAhead 123 = .ok (.getfield 125, 3) := by decide +kernel
theorem dX0_seekAhead_126 : decode cX0_seekAhead 126 = .ok (.if_icmp .ne 24, 3) := by decide +kernel
theorem dX0_seekAhead_129 : decode cX0_seekAhead 129 = .ok (.iload 5, 2) := by decide +kernel
theorem dX0_seekAhead_131 : decode cX0_seekAhead 131 = .ok (.aload_n 0, 1) := by decide +kernel
theorem dX0_seekAhead_132 : decode cX0_seekAhead 132 = .ok (.getfield 121, 3) := by decide +kernel
theorem dX0_seekAhead_135 : decode cX0_seekAhead 135 = .ok (.if_icmp .le 15, 3) := by decide +kernel
theorem dX0_seekAhead_138 : decode cX0_seekAhead 138 = .ok (.aload_n 0, 1) := by decide +kernel
theorem dX0_seekAhead_139 : decode cX0_seekAhead 139 = .ok (.iload 4, 2) := by decide +kernel
theorem dX0_seekAhead_141 : decode cX0_seekAhead 141 = .ok (.putfield 125, 3) := by decide +kernel
theorem dX0_seekAhead_144 : decode cX0_seekAhead 144 = .ok (.aload_n 0, 1) := by decide +kernel
theorem dX0_seekAhead_145 : decode cX0_seekAhead 145 = .ok (.iload 5, 2) := by decide +kernel
theorem dX0_seekAhead_147 : decode cX0_seekAhead 147 = .ok (.putfield 121, 3) := by decide +kernel
theorem dX0_seekAhead_150 : decode cX0_seekAhead 150 = .ok (.iinc 3 1, 3) := by decide +kernel
theorem dX0_seekAhead_153 : decode cX0_seekAhead 153 = .ok (.goto (-78), 3) := by decide +kernel
theorem dX0_seekAhead_156 : decode cX0_seekAhead 156 = .ok (.aload_n 0, 1) := by decide +kernel
theorem dX0_seekAhead_157 : decode cX0_seekAhead 157 = .ok (.getfield 121, 3) := by decide +kernel
theorem dX0_seekAhead_160 : decode cX0_seekAhead 160 = .ok (.iconst (-1), 1) := by decide +kernel
theorem dX0_seekAhead_161 : decode cX0_seekAhead 161 = .ok (.if_icmp .eq 7, 3) := by decide +kernel
theorem dX0_seekAhead_164 : decode cX0_seekAhead 164 = .ok (.iconst 1, 1) := by decide +kernel
theorem dX0_seekAhead_165 : decode cX0_seekAhead 165 = .ok (.goto 4, 3) := by decide +kernel
theorem dX0_seekAhead_168 : decode cX0_seekAhead 168 = .ok (.iconst 0, 1) := by decide +kernel
theorem dX0_seekAhead_169 : decode cX0_seekAhead 169 = .ok (.ireturn, 1) := by decide +kernel
theorem dX0_found_0 : decode cX0_found 0 = .ok (.aload_n 0, 1) := by decide +kernel
theorem dX0_found_1 : decode cX0_found 1 = .ok (.getfield 121, 3) := by decide +kernel
theorem dX0_found_4 : decode cX0_found 4 = .ok (.iconst (-1), 1) := by decide +kernel
theorem dX0_found_5 : decode cX0_found 5 = .ok (.if_icmp .eq 12, 3) := by decide +kernel
theorem dX0_found_8 : decode cX0_found 8 = .ok (.iload_n 1, 1) := by decide +kernel
theorem dX0_found_9 : decode cX0_found 9 = .ok (.ifCond .lt 8, 3) := by decide +kernel
theorem dX0_found_12 : decode cX0_found 12 = .ok (.iload_n 1, 1) := by decide +kernel
theorem dX0_found_13 : decode cX0_found 13 = .ok (.iconst 1, 1) := by decide +kernel
theorem dX0_found_14 : decode cX0_found 14 = .ok (.if_icmp .le 5, 3) := by decide +kernel
theorem dX0_found_17 : decode cX0_found 17 = .ok (.iconst (-1), 1) := by decide +kernel
theorem dX0_found_18 : decode cX0_found 18 = .ok (.ireturn, 1) := by decide +kernel
theorem dX0_found_19 : decode cX0_found 19 = .ok (.iload_n 1, 1) := by decide +kernel
theorem dX0_found_20 : decode cX0_found 20 = .ok (.ifCond .ne 10, 3) := by decide +kernel
theorem dX0_found_23 : decode cX0_found 23 = .ok (.aload_n 0, 1) := by decide +kernel
theorem dX0_found_24 : decode cX0_found 24 = .ok (.getfield 125, 3) := by decide +kernel
theorem dX0_found_27 : decode cX0_found 27 = .ok (.goto 7, 3) := by decide +kernel
theorem dX0_found_30 : decode cX0_found 30 = .ok (.aload_n 0, 1) := by decide +kernel
theorem dX0_found_31 : decode cX0_found 31 = .ok (.getfield 121, 3) := by decide +kernel
theorem dX0_found_34 : decode cX0_found 34 = .ok (.ireturn, 1) := by decide +kernel
set_option maxRecDepth 20000 in
theorem ggX0_beginsIn_X0_ruledFrom : GoodIn wsX0_beginsIn wsX0_ruledFrom := goodIn_r _ [8, 9, 10, 11, 12, 13, 101, 102, 103, 104, 105, 106, 107, 108, 109, 110, 111, 112, 113, 114, 115] (by decide +kernel) (by decide +kernel)
set_option maxRecDepth 20000 in
theorem gX0_beginsIn_X0_ruledFrom : GoodIn wsX0_beginsIn (wsV RX0 115 RX0 yX0_ruledFrom wsX0_ruledFrom) := goodIn_app (goodIn_of _ (by decide +kernel)) ggX0_beginsIn_X0_ruledFrom
set_option maxRecDepth 20000 in
theorem ggX0_beginsIn_X0_ruledTo : GoodIn wsX0_beginsIn wsX0_ruledTo := goodIn_r _ [17, 9, 10, 11, 12, 13, 101, 102, 103, 104, 105, 106, 107, 108, 109, 110, 111, 112, 113, 114, 115] (by decide +kernel) (by decide +kernel)
set_option maxRecDepth 20000 in
theorem gX0_beginsIn_X0_ruledTo : GoodIn wsX0_beginsIn (wsV RX0 128 RX0 yX0_ruledTo wsX0_ruledTo) := goodIn_app (goodIn_of _ (by decide +kernel)) ggX0_beginsIn_X0_ruledTo
set_option maxRecDepth 20000 in
theorem ggX0_beginsIn_X0_keysIn : GoodIn wsX0_beginsIn wsX0_keysIn := goodIn_r _ [21, 22, 23, 24, 25, 26, 27, 28, 29, 30, 31, 32, 33, 34, 35, 36, 37, 38, 39, 40, 41, 42, 43, 44, 45, 46, 47, 48, 49, 50, 51, 52, 53, 54, 55, 56, 57, 58, 59, 60, 61, 62, 63, 64, 65, 66, 67, 68, 69, 70, 71, 72, 73, 74, 75, 76, 77, 78, 79, 80, 81, 82, 83, 84, 85, 86, 87, 88, 89, 90, 91, 92, 93, 94, 95, 96, 97, 98, 99, 100, 101, 102, 103, 104, 105, 106, 107, 108, 109, 110, 111, 112, 113, 114, 115, 116, 117, 118, 119, 120, 121, 122, 123, 124, 125, 126, 127, 128, 129, 130, 131, 132, 133, 134, 135] (by decide +kernel) (by decide +kernel)
set_option maxRecDepth 20000 in
theorem gX0_beginsIn_X0_keysIn : GoodIn wsX0_beginsIn (wsV RX0 84 RX0 yX0_keysIn wsX0_keysIn) := goodIn_app (goodIn_of _ (by decide +kernel)) ggX0_beginsIn_X0_keysIn
theorem dX0_beginsIn_0 : decode cX0_beginsIn 0 = .ok (.aload_n 0, 1) := by decide +kernel
theorem dX0_beginsIn_1 : decode cX0_beginsIn 1 = .ok (.iload_n 1, 1) := by decide +kernel
theorem dX0_beginsIn_2 : decode cX0_beginsIn 2 = .ok (.invokevirtual 115, 3) := by decide +kernel
theorem dX0_beginsIn_5 : decode cX0_beginsIn 5 = .ok (.istore_n 3, 1) := by decide +kernel
theorem dX0_beginsIn_6 : decode cX0_beginsIn 6 = .ok (.aload_n 0, 1) := by decide +kernel
theorem dX0_beginsIn_7 : decode cX0_beginsIn 7 = .ok (.iload_n 2, 1) := by decide +kernel
theorem dX0_beginsIn_8 : decode cX0_beginsIn 8 = .ok (.invokevirtual 128, 3) := by decide +kernel
theorem dX0_beginsIn_11 : decode cX0_beginsIn 11 = .ok (.istore 4, 2) := by decide +kernel
theorem dX0_beginsIn_13 : decode cX0_beginsIn 13 = .ok (.aload_n 0, 1) := by decide +kernel
theorem dX0_beginsIn_14 : decode cX0_beginsIn 14 = .ok (.iload_n 3, 1) := by decide +kernel
theorem dX0_beginsIn_15 : decode cX0_beginsIn 15 = .ok (.iload 4, 2) := by decide +kernel
theorem dX0_beginsIn_17 : decode cX0_beginsIn 17 = .ok (.invokevirtual 84, 3) := by decide +kernel
theorem dX0_beginsIn_20 : decode cX0_beginsIn 20 = .ok (.istore 5, 2) := by decide +kernel
theorem dX0_beginsIn_22 : decode cX0_beginsIn 22 = .ok (.iconst 0, 1) := by decide +kernel
theorem dX0_beginsIn_23 : decode cX0_beginsIn 23 = .ok (.istore 6, 2) := by decide +kernel
theorem dX0_beginsIn_25 : decode cX0_beginsIn 25 = .ok (.iload 6, 2) := by decide +kernel
theorem dX0_beginsIn_27 : decode cX0_beginsIn 27 = .ok (.aload_n 0, 1) := by decide +kernel
theorem dX0_beginsIn_28 : decode cX0_beginsIn 28 = .ok (.getfield 37, 3) := by decide +kernel
theorem dX0_beginsIn_31 : decode cX0_beginsIn 31 = .ok (.if_icmp .ge 71, 3) := by decide +kernel
theorem dX0_beginsIn_34 : decode cX0_beginsIn 34 = .ok (.aload_n 0, 1) := by decide +kernel
theorem dX0_beginsIn_35 : decode cX0_beginsIn 35 = .ok (.getfield 9, 3) := by decide +kernel
theorem dX0_beginsIn_38 : decode cX0_beginsIn 38 = .ok (.iload 6, 2) := by decide +kernel
theorem dX0_beginsIn_40 : decode cX0_beginsIn 40 = .ok (.iaload, 1) := by decide +kernel
theorem dX0_beginsIn_41 : decode cX0_beginsIn 41 = .ok (.iload_n 3, 1) := by decide +kernel
theorem dX0_beginsIn_42 : decode cX0_beginsIn 42 = .ok (.if_icmp .lt 18, 3) := by decide +kernel
theorem dX0_beginsIn_45 : decode cX0_beginsIn 45 = .ok (.aload_n 0, 1) := by decide +kernel
theorem dX0_beginsIn_46 : decode cX0_beginsIn 46 = .ok (.getfield 9, 3) := by decide +kernel
theorem dX0_beginsIn_49 : decode cX0_beginsIn 49 = .ok (.iload 6, 2) := by decide +kernel
theorem dX0_beginsIn_51 : decode cX0_beginsIn 51 = .ok (.iaload, 1) := by decide +kernel
theorem dX0_beginsIn_52 : decode cX0_beginsIn 52 = .ok (.iload 4, 2) := by decide +kernel
theorem dX0_beginsIn_54 : decode cX0_beginsIn 54 = .ok (.if_icmp .gt 6, 3) := by decide +kernel
theorem dX0_beginsIn_57 : decode cX0_beginsIn 57 = .ok (.iinc 5 (-1), 3) := by decide +kernel
theorem dX0_beginsIn_60 : decode cX0_beginsIn 60 = .ok (.aload_n 0, 1) := by decide +kernel
theorem dX0_beginsIn_61 : decode cX0_beginsIn 61 = .ok (.getfield 15, 3) := by decide +kernel
theorem dX0_beginsIn_64 : decode cX0_beginsIn 64 = .ok (.iload 6, 2) := by decide +kernel
theorem dX0_beginsIn_66 : decode cX0_beginsIn 66 = .ok (.iaload, 1) := by decide +kernel
theorem dX0_beginsIn_67 : decode cX0_beginsIn 67 = .ok (.iconst (-1), 1) := by decide +kernel
theorem dX0_beginsIn_68 : decode cX0_beginsIn 68 = .ok (.if_icmp .eq 28, 3) := by decide +kernel
theorem dX0_beginsIn_71 : decode cX0_beginsIn 71 = .ok (.aload_n 0, 1) := by decide +kernel
theorem dX0_beginsIn_72 : decode cX0_beginsIn 72 = .ok (.getfield 15, 3) := by decide +kernel
theorem dX0_beginsIn_75 : decode cX0_beginsIn 75 = .ok (.iload 6, 2) := by decide +kernel
theorem dX0_beginsIn_77 : decode cX0_beginsIn 77 = .ok (.iaload, 1) := by decide +kernel
theorem dX0_beginsIn_78 : decode cX0_beginsIn 78 = .ok (.iload_n 1, 1) := by decide +kernel
theorem dX0_beginsIn_79 : decode cX0_beginsIn 79 = .ok (.if_icmp .lt 17, 3) := by decide +kernel
theorem dX0_beginsIn_82 : decode cX0_beginsIn 82 = .ok (.aload_n 0, 1) := by decide +kernel
theorem dX0_beginsIn_83 : decode cX0_beginsIn 83 = .ok (.getfield 15, 3) := by decide +kernel
theorem dX0_beginsIn_86 : decode cX0_beginsIn 86 = .ok (.iload 6, 2) := by decide +kernel
theorem dX0_beginsIn_88 : decode cX0_beginsIn 88 = .ok (.iaload, 1) := by decide +kernel
theorem dX0_beginsIn_89 : decode cX0_beginsIn 89 = .ok (.iload_n 2, 1) := by decide +kernel
theorem dX0_beginsIn_90 : decode cX0_beginsIn 90 = .ok (.if_icmp .gt 6, 3) := by decide +kernel
theorem dX0_beginsIn_93 : decode cX0_beginsIn 93 = .ok (.iinc 5 1, 3) := by decide +kernel
theorem dX0_beginsIn_96 : decode cX0_beginsIn 96 = .ok (.iinc 6 1, 3) := by decide +kernel
theorem dX0_beginsIn_99 : decode cX0_beginsIn 99 = .ok (.goto (-74), 3) := by decide +kernel
theorem dX0_beginsIn_102 : decode cX0_beginsIn 102 = .ok (.iload 5, 2) := by decide +kernel
theorem dX0_beginsIn_104 : decode cX0_beginsIn 104 = .ok (.ireturn, 1) := by decide +kernel
set_option maxRecDepth 20000 in
theorem ggX0_meet_X0_seekAhead : GoodIn wsX0_meet wsX0_seekAhead := goodIn_r _ [12, 13, 14, 1, 15, 16, 17, 18, 19, 11, 20, 21, 22, 23, 24, 25, 26, 27, 28, 29, 30, 31, 32, 33, 34, 35, 36, 37, 38, 39, 40, 41, 42, 43, 44, 45, 46, 47, 48, 49, 50, 51, 52, 53, 54, 55, 56, 57, 58, 59, 60, 61, 62, 63, 64, 65, 66, 67, 68, 69, 70, 71, 72, 73, 74, 75, 76, 77, 78, 79, 80, 81, 82, 83, 84, 85, 86, 87, 88, 89, 90, 91, 92, 131, 132, 133, 134, 135, 136, 137, 138, 139, 140, 141, 142, 143, 144, 145, 146, 147, 148, 149, 150, 151, 152, 153, 154, 155, 156, 157, 158, 159, 160, 161, 162, 163, 164, 165] (by decide +kernel) (by decide +kernel)
set_option maxRecDepth 20000 in
theorem gX0_meet_X0_seekAhead : GoodIn wsX0_meet (wsV RX0 134 RX0 yX0_seekAhead wsX0_seekAhead) := goodIn_app (goodIn_of _ (by decide +kernel)) ggX0_meet_X0_seekAhead
set_option maxRecDepth 20000 in
theorem ggX0_meet_X0_seek : GoodIn wsX0_meet wsX0_seek := goodIn_r _ [96, 13, 14, 7, 1, 15, 16, 97, 98, 99, 11, 100, 21, 22, 23, 24, 25, 101, 102, 103, 104, 30, 31, 32, 105, 106, 107, 108, 37, 109, 39, 40, 41, 110, 111, 112, 44, 113, 48, 49, 114, 4, 5, 6, 47, 115, 116, 117, 118, 46, 50, 51, 52, 53, 54, 55, 56, 57, 58, 59, 60, 61, 62, 63, 64, 65, 119, 120, 68, 121, 70, 71, 122, 123, 74, 124, 76, 77, 125, 78, 79, 126, 127, 128, 129, 130, 84, 89, 90, 91, 92, 85, 86, 87, 88, 131, 132, 133, 134, 135, 136, 137, 138, 139, 140, 141, 142, 143, 144, 145, 146, 147, 148, 149, 150, 151, 152, 153, 154, 155, 156, 157, 158, 159, 160, 161, 162, 163, 164, 165] (by decide +kernel) (by decide +kernel)
set_option maxRecDepth 20000 in
theorem gX0_meet_X0_seek : GoodIn wsX0_meet (wsV RX0 137 RX0 yX0_seek wsX0_seek) := goodIn_app (goodIn_of _ (by decide +kernel)) ggX0_meet_X0_seek
theorem dX0_meet_0 : decode cX0_meet 0 = .ok (.iload_n 1, 1) := by decide +kernel
theorem dX0_meet_1 : decode cX0_meet 1 = .ok (.iload_n 3, 1) := by decide +kernel
theorem dX0_meet_2 : decode cX0_meet 2 = .ok (.if_icmp .lt 28, 3) := by decide +kernel
theorem dX0_meet_5 : decode cX0_meet 5 = .ok (.aload_n 0, 1) := by decide +kernel
