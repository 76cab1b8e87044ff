theorem kqX0_init_0 : ((cX0_init.data.toList.drop 0).take 34).map UInt8.toNat = [42, 183, 0, 3, 42, 16, 16, 188, 10, 181, 0, 9, 42, 16, 16, 188, 10, 181, 0, 15, 42, 43, 181, 0, 18, 177] := by decide +kernel
theorem dX0_init_0 : decode cX0_init 0 = .ok (.aload_n 0, 1) := oq_42 (bq_in kqX0_init_0 0 rfl)
theorem dX0_init_1 : decode cX0_init 1 = .ok (.invokespecial 3, 3) := oq_183 (bq_in kqX0_init_0 1 rfl) (bq_in kqX0_init_0 2 rfl) (bq_in kqX0_init_0 3 rfl) rfl
theorem dX0_init_4 : decode cX0_init 4 = .ok (.aload_n 0, 1) := oq_42 (bq_in kqX0_init_0 4 rfl)
theorem dX0_init_5 : decode cX0_init 5 = .ok (.bipush 16, 2) := oq_16 (bq_in kqX0_init_0 5 rfl) (bq_in kqX0_init_0 6 rfl) rfl
theorem dX0_init_7 : decode cX0_init 7 = .ok (.newarray .int, 2) := by decide +kernel
theorem dX0_init_9 : decode cX0_init 9 = .ok (.putfield 9, 3) := oq_181 (bq_in kqX0_init_0 9 rfl) (bq_in kqX0_init_0 10 rfl) (bq_in kqX0_init_0 11 rfl) rfl
theorem dX0_init_12 : decode cX0_init 12 = .ok (.aload_n 0, 1) := oq_42 (bq_in kqX0_init_0 12 rfl)
theorem dX0_init_13 : decode cX0_init 13 = .ok (.bipush 16, 2) := oq_16 (bq_in kqX0_init_0 13 rfl) (bq_in kqX0_init_0 14 rfl) rfl
theorem dX0_init_15 : decode cX0_init 15 = .ok (.newarray .int, 2) := by decide +kernel
theorem dX0_init_17 : decode cX0_init 17 = .ok (.putfield 15, 3) := oq_181 (bq_in kqX0_init_0 17 rfl) (bq_in kqX0_init_0 18 rfl) (bq_in kqX0_init_0 19 rfl) rfl
theorem dX0_init_20 : decode cX0_init 20 = .ok (.aload_n 0, 1) := oq_42 (bq_in kqX0_init_0 20 rfl)
theorem dX0_init_21 : decode cX0_init 21 = .ok (.aload_n 1, 1) := oq_43 (bq_in kqX0_init_0 21 rfl)
theorem dX0_init_22 : decode cX0_init 22 = .ok (.putfield 18, 3) := oq_181 (bq_in kqX0_init_0 22 rfl) (bq_in kqX0_init_0 23 rfl) (bq_in kqX0_init_0 24 rfl) rfl
theorem dX0_init_25 : decode cX0_init 25 = .ok (.return_, 1) := oq_177 (bq_in kqX0_init_0 25 rfl)
theorem kqX0_begin_0 : ((cX0_begin.data.toList.drop 0).take 34).map UInt8.toNat = [42, 43, 181, 0, 18, 42, 43, 180, 0, 22, 181, 0, 28, 42, 2, 181, 0, 31, 42, 2, 181, 0, 34, 42, 3, 181, 0, 37, 177] := by decide +kernel
theorem dX0_begin_0 : decode cX0_begin 0 = .ok (.aload_n 0, 1) := oq_42 (bq_in kqX0_begin_0 0 rfl)
theorem dX0_begin_1 : decode cX0_begin 1 = .ok (.aload_n 1, 1) := oq_43 (bq_in kqX0_begin_0 1 rfl)
theorem dX0_begin_2 : decode cX0_begin 2 = .ok (.putfield 18, 3) := oq_181 (bq_in kqX0_begin_0 2 rfl) (bq_in kqX0_begin_0 3 rfl) (bq_in kqX0_begin_0 4 rfl) rfl
theorem dX0_begin_5 : decode cX0_begin 5 = .ok (.aload_n 0, 1) := oq_42 (bq_in kqX0_begin_0 5 rfl)
theorem dX0_begin_6 : decode cX0_begin 6 = .ok (.aload_n 1, 1) := oq_43 (bq_in kqX0_begin_0 6 rfl)
theorem dX0_begin_7 : decode cX0_begin 7 = .ok (.getfield 22, 3) := oq_180 (bq_in kqX0_begin_0 7 rfl) (bq_in kqX0_begin_0 8 rfl) (bq_in kqX0_begin_0 9 rfl) rfl
theorem dX0_begin_10 : decode cX0_begin 10 = .ok (.putfield 28, 3) := oq_181 (bq_in kqX0_begin_0 10 rfl) (bq_in kqX0_begin_0 11 rfl) (bq_in kqX0_begin_0 12 rfl) rfl
theorem dX0_begin_13 : decode cX0_begin 13 = .ok (.aload_n 0, 1) := oq_42 (bq_in kqX0_begin_0 13 rfl)
theorem dX0_begin_14 : decode cX0_begin 14 = .ok (.iconst (-1), 1) := oq_2 (bq_in kqX0_begin_0 14 rfl)
theorem dX0_begin_15 : decode cX0_begin 15 = .ok (.putfield 31, 3) := oq_181 (bq_in kqX0_begin_0 15 rfl) (bq_in kqX0_begin_0 16 rfl) (bq_in kqX0_begin_0 17 rfl) rfl
theorem dX0_begin_18 : decode cX0_begin 18 = .ok (.aload_n 0, 1) := oq_42 (bq_in kqX0_begin_0 18 rfl)
theorem dX0_begin_19 : decode cX0_begin 19 = .ok (.iconst (-1), 1) := oq_2 (bq_in kqX0_begin_0 19 rfl)
theorem dX0_begin_20 : decode cX0_begin 20 = .ok (.putfield 34, 3) := oq_181 (bq_in kqX0_begin_0 20 rfl) (bq_in kqX0_begin_0 21 rfl) (bq_in kqX0_begin_0 22 rfl) rfl
theorem dX0_begin_23 : decode cX0_begin 23 = .ok (.aload_n 0, 1) := oq_42 (bq_in kqX0_begin_0 23 rfl)
theorem dX0_begin_24 : decode cX0_begin 24 = .ok (.iconst 0, 1) := oq_3 (bq_in kqX0_begin_0 24 rfl)
theorem dX0_begin_25 : decode cX0_begin 25 = .ok (.putfield 37, 3) := oq_181 (bq_in kqX0_begin_0 25 rfl) (bq_in kqX0_begin_0 26 rfl) (bq_in kqX0_begin_0 27 rfl) rfl
theorem dX0_begin_28 : decode cX0_begin 28 = .ok (.return_, 1) := oq_177 (bq_in kqX0_begin_0 28 rfl)
theorem kqX0_settle_0 : ((cX0_settle.data.toList.drop 0).take 34).map UInt8.toNat = [42, 180, 0, 31, 2, 160, 0, 8, 18, 40, 167, 0, 7, 42, 180, 0, 31, 60, 42, 42, 180, 0, 18, 42, 180, 0, 28, 182, 0, 41, 181, 0, 45, 42] := by decide +kernel
theorem dX0_settle_0 : decode cX0_settle 0 = .ok (.aload_n 0, 1) := oq_42 (bq_in kqX0_settle_0 0 rfl)
theorem dX0_settle_1 : decode cX0_settle 1 = .ok (.getfield 31, 3) := oq_180 (bq_in kqX0_settle_0 1 rfl) (bq_in kqX0_settle_0 2 rfl) (bq_in kqX0_settle_0 3 rfl) rfl
theorem dX0_settle_4 : decode cX0_settle 4 = .ok (.iconst (-1), 1) := oq_2 (bq_in kqX0_settle_0 4 rfl)
theorem dX0_settle_5 : decode cX0_settle 5 = .ok (.if_icmp .ne 8, 3) := oq_160 (bq_in kqX0_settle_0 5 rfl) (bq_in kqX0_settle_0 6 rfl) (bq_in kqX0_settle_0 7 rfl) rfl
theorem dX0_settle_8 : decode cX0_settle 8 = .ok (.ldc 40, 2) := oq_18 (bq_in kqX0_settle_0 8 rfl) (bq_in kqX0_settle_0 9 rfl)
theorem dX0_settle_10 : decode cX0_settle 10 = .ok (.goto 7, 3) := oq_167 (bq_in kqX0_settle_0 10 rfl) (bq_in kqX0_settle_0 11 rfl) (bq_in kqX0_settle_0 12 rfl) rfl
theorem dX0_settle_13 : decode cX0_settle 13 = .ok (.aload_n 0, 1) := oq_42 (bq_in kqX0_settle_0 13 rfl)
theorem dX0_settle_14 : decode cX0_settle 14 = .ok (.getfield 31, 3) := oq_180 (bq_in kqX0_settle_0 14 rfl) (bq_in kqX0_settle_0 15 rfl) (bq_in kqX0_settle_0 16 rfl) rfl
theorem dX0_settle_17 : decode cX0_settle 17 = .ok (.istore_n 1, 1) := oq_60 (bq_in kqX0_settle_0 17 rfl)
theorem dX0_settle_18 : decode cX0_settle 18 = .ok (.aload_n 0, 1) := oq_42 (bq_in kqX0_settle_0 18 rfl)
theorem dX0_settle_19 : decode cX0_settle 19 = .ok (.aload_n 0, 1) := oq_42 (bq_in kqX0_settle_0 19 rfl)
theorem dX0_settle_20 : decode cX0_settle 20 = .ok (.getfield 18, 3) := oq_180 (bq_in kqX0_settle_0 20 rfl) (bq_in kqX0_settle_0 21 rfl) (bq_in kqX0_settle_0 22 rfl) rfl
theorem dX0_settle_23 : decode cX0_settle 23 = .ok (.aload_n 0, 1) := oq_42 (bq_in kqX0_settle_0 23 rfl)
theorem dX0_settle_24 : decode cX0_settle 24 = .ok (.getfield 28, 3) := oq_180 (bq_in kqX0_settle_0 24 rfl) (bq_in kqX0_settle_0 25 rfl) (bq_in kqX0_settle_0 26 rfl) rfl
theorem dX0_settle_27 : decode cX0_settle 27 = .ok (.invokevirtual 41, 3) := oq_182 (bq_in kqX0_settle_0 27 rfl) (bq_in kqX0_settle_0 28 rfl) (bq_in kqX0_settle_0 29 rfl) rfl
theorem dX0_settle_30 : decode cX0_settle 30 = .ok (.putfield 45, 3) := oq_181 (bq_in kqX0_settle_0 30 rfl) (bq_in kqX0_settle_0 31 rfl) (bq_in kqX0_settle_0 32 rfl) rfl
theorem kqX0_settle_1 : ((cX0_settle.data.toList.drop 32).take 34).map UInt8.toNat = [45, 42, 42, 180, 0, 34, 2, 160, 0, 14, 42, 180, 0, 18, 27, 182, 0, 48, 167, 0, 7, 42, 182, 0, 51, 181, 0, 55, 42, 180, 0, 45, 2, 159] := by decide +kernel
theorem dX0_settle_33 : decode cX0_settle 33 = .ok (.aload_n 0, 1) := oq_42 (bq_in kqX0_settle_1 1 rfl)
theorem dX0_settle_34 : decode cX0_settle 34 = .ok (.aload_n 0, 1) := oq_42 (bq_in kqX0_settle_1 2 rfl)
theorem dX0_settle_35 : decode cX0_settle 35 = .ok (.getfield 34, 3) := oq_180 (bq_in kqX0_settle_1 3 rfl) (bq_in kqX0_settle_1 4 rfl) (bq_in kqX0_settle_1 5 rfl) rfl
theorem dX0_settle_38 : decode cX0_settle 38 = .ok (.iconst (-1), 1) := oq_2 (bq_in kqX0_settle_1 6 rfl)
theorem dX0_settle_39 : decode cX0_settle 39 = .ok (.if_icmp .ne 14, 3) := oq_160 (bq_in kqX0_settle_1 7 rfl) (bq_in kqX0_settle_1 8 rfl) (bq_in kqX0_settle_1 9 rfl) rfl
theorem dX0_settle_42 : decode cX0_settle 42 = .ok (.aload_n 0, 1) := oq_42 (bq_in kqX0_settle_1 10 rfl)
theorem dX0_settle_43 : decode cX0_settle 43 = .ok (.getfield 18, 3) := oq_180 (bq_in kqX0_settle_1 11 rfl) (bq_in kqX0_settle_1 12 rfl) (bq_in kqX0_settle_1 13 rfl) rfl
theorem dX0_settle_46 : decode cX0_settle 46 = .ok (.iload_n 1, 1) := oq_27 (bq_in kqX0_settle_1 14 rfl)
theorem dX0_settle_47 : decode cX0_settle 47 = .ok (.invokevirtual 48, 3) := oq_182 (bq_in kqX0_settle_1 15 rfl) (bq_in kqX0_settle_1 16 rfl) (bq_in kqX0_settle_1 17 rfl) rfl
theorem dX0_settle_50 : decode cX0_settle 50 = .ok (.goto 7, 3) := oq_167 (bq_in kqX0_settle_1 18 rfl) (bq_in kqX0_settle_1 19 rfl) (bq_in kqX0_settle_1 20 rfl) rfl
theorem dX0_settle_53 : decode cX0_settle 53 = .ok (.aload_n 0, 1) := oq_42 (bq_in kqX0_settle_1 21 rfl)
theorem dX0_settle_54 : decode cX0_settle 54 = .ok (.invokevirtual 51, 3) := oq_182 (bq_in kqX0_settle_1 22 rfl) (bq_in kqX0_settle_1 23 rfl) (bq_in kqX0_settle_1 24 rfl) rfl
theorem dX0_settle_57 : decode cX0_settle 57 = .ok (.putfield 55, 3) := oq_181 (bq_in kqX0_settle_1 25 rfl) (bq_in kqX0_settle_1 26 rfl) (bq_in kqX0_settle_1 27 rfl) rfl
theorem dX0_settle_60 : decode cX0_settle 60 = .ok (.aload_n 0, 1) := oq_42 (bq_in kqX0_settle_1 28 rfl)
theorem dX0_settle_61 : decode cX0_settle 61 = .ok (.getfield 45, 3) := oq_180 (bq_in kqX0_settle_1 29 rfl) (bq_in kqX0_settle_1 30 rfl) (bq_in kqX0_settle_1 31 rfl) rfl
theorem kqX0_settle_2 : ((cX0_settle.data.toList.drop 64).take 34).map UInt8.toNat = [2, 159, 0, 14, 42, 180, 0, 55, 42, 180, 0, 45, 162, 0, 13, 42, 2, 181, 0, 45, 42, 2, 181, 0, 55, 42, 42, 180, 0, 45, 2, 160, 0, 7] := by decide +kernel
theorem dX0_settle_64 : decode cX0_settle 64 = .ok (.iconst (-1), 1) := oq_2 (bq_in kqX0_settle_2 0 rfl)
theorem dX0_settle_65 : decode cX0_settle 65 = .ok (.if_icmp .eq 14, 3) := oq_159 (bq_in kqX0_settle_2 1 rfl) (bq_in kqX0_settle_2 2 rfl) (bq_in kqX0_settle_2 3 rfl) rfl
theorem dX0_settle_68 : decode cX0_settle 68 = .ok (.aload_n 0, 1) := oq_42 (bq_in kqX0_settle_2 4 rfl)
theorem dX0_settle_69 : decode cX0_settle 69 = .ok (.getfield 55, 3) := oq_180 (bq_in kqX0_settle_2 5 rfl) (bq_in kqX0_settle_2 6 rfl) (bq_in kqX0_settle_2 7 rfl) rfl
theorem dX0_settle_72 : decode cX0_settle 72 = .ok (.aload_n 0, 1) := oq_42 (bq_in kqX0_settle_2 8 rfl)
theorem dX0_settle_73 : decode cX0_settle 73 = .ok (.getfield 45, 3) := oq_180 (bq_in kqX0_settle_2 9 rfl) (bq_in kqX0_settle_2 10 rfl) (bq_in kqX0_settle_2 11 rfl) rfl
theorem dX0_settle_76 : decode cX0_settle 76 = .ok (.if_icmp .ge 13, 3) := oq_162 (bq_in kqX0_settle_2 12 rfl) (bq_in kqX0_settle_2 13 rfl) (bq_in kqX0_settle_2 14 rfl) rfl
theorem dX0_settle_79 : decode cX0_settle 79 = .ok (.aload_n 0, 1) := oq_42 (bq_in kqX0_settle_2 15 rfl)
theorem dX0_settle_80 : decode cX0_settle 80 = .ok (.iconst (-1), 1) := oq_2 (bq_in kqX0_settle_2 16 rfl)
theorem dX0_settle_81 : decode cX0_settle 81 = .ok (.putfield 45, 3) := oq_181 (bq_in kqX0_settle_2 17 rfl) (bq_in kqX0_settle_2 18 rfl) (bq_in kqX0_settle_2 19 rfl) rfl
theorem dX0_settle_84 : decode cX0_settle 84 = .ok (.aload_n 0, 1) := oq_42 (bq_in kqX0_settle_2 20 rfl)
theorem dX0_settle_85 : decode cX0_settle 85 = .ok (.iconst (-1), 1) := oq_2 (bq_in kqX0_settle_2 21 rfl)
theorem dX0_settle_86 : decode cX0_settle 86 = .ok (.putfield 55, 3) := oq_181 (bq_in kqX0_settle_2 22 rfl) (bq_in kqX0_settle_2 23 rfl) (bq_in kqX0_settle_2 24 rfl) rfl
theorem dX0_settle_89 : decode cX0_settle 89 = .ok (.aload_n 0, 1) := oq_42 (bq_in kqX0_settle_2 25 rfl)
theorem dX0_settle_90 : decode cX0_settle 90 = .ok (.aload_n 0, 1) := oq_42 (bq_in kqX0_settle_2 26 rfl)
theorem dX0_settle_91 : decode cX0_settle 91 = .ok (.getfield 45, 3) := oq_180 (bq_in kqX0_settle_2 27 rfl) (bq_in kqX0_settle_2 28 rfl) (bq_in kqX0_settle_2 29 rfl) rfl
theorem dX0_settle_94 : decode cX0_settle 94 = .ok (.iconst (-1), 1) := oq_2 (bq_in kqX0_settle_2 30 rfl)
theorem dX0_settle_95 : decode cX0_settle 95 = .ok (.if_icmp .ne 7, 3) := oq_160 (bq_in kqX0_settle_2 31 rfl) (bq_in kqX0_settle_2 32 rfl) (bq_in kqX0_settle_2 33 rfl) rfl
theorem kqX0_settle_3 : ((cX0_settle.data.toList.drop 96).take 34).map UInt8.toNat = [0, 7, 3, 167, 0, 18, 42, 180, 0, 18, 42, 180, 0, 45, 42, 180, 0, 55, 182, 0, 58, 181, 0, 62, 177] := by decide +kernel
theorem dX0_settle_98 : decode cX0_settle 98 = .ok (.iconst 0, 1) := oq_3 (bq_in kqX0_settle_3 2 rfl)
theorem dX0_settle_99 : decode cX0_settle 99 = .ok (.goto 18, 3) := oq_167 (bq_in kqX0_settle_3 3 rfl) (bq_in kqX0_settle_3 4 rfl) (bq_in kqX0_settle_3 5 rfl) rfl
theorem dX0_settle_102 : decode cX0_settle 102 = .ok (.aload_n 0, 1) := oq_42 (bq_in kqX0_settle_3 6 rfl)
theorem dX0_settle_103 : decode cX0_settle 103 = .ok (.getfield 18, 3) := oq_180 (bq_in kqX0_settle_3 7 rfl) (bq_in kqX0_settle_3 8 rfl) (bq_in kqX0_settle_3 9 rfl) rfl
theorem dX0_settle_106 : decode cX0_settle 106 = .ok (.aload_n 0, 1) := oq_42 (bq_in kqX0_settle_3 10 rfl)
theorem dX0_settle_107 : decode cX0_settle 107 = .ok (.getfield 45, 3) := oq_180 (bq_in kqX0_settle_3 11 rfl) (bq_in kqX0_settle_3 12 rfl) (bq_in kqX0_settle_3 13 rfl) rfl
theorem dX0_settle_110 : decode cX0_settle 110 = .ok (.aload_n 0, 1) := oq_42 (bq_in kqX0_settle_3 14 rfl)
theorem dX0_settle_111 : decode cX0_settle 111 = .ok (.getfield 55, 3) := oq_180 (bq_in kqX0_settle_3 15 rfl) (bq_in kqX0_settle_3 16 rfl) (bq_in kqX0_settle_3 17 rfl) rfl
theorem dX0_settle_114 : decode cX0_settle 114 = .ok (.invokevirtual 58, 3) := oq_182 (bq_in kqX0_settle_3 18 rfl) (bq_in kqX0_settle_3 19 rfl) (bq_in kqX0_settle_3 20 rfl) rfl
theorem dX0_settle_117 : decode cX0_settle 117 = .ok (.putfield 62, 3) := oq_181 (bq_in kqX0_settle_3 21 rfl) (bq_in kqX0_settle_3 22 rfl) (bq_in kqX0_settle_3 23 rfl) rfl
theorem dX0_settle_120 : decode cX0_settle 120 = .ok (.return_, 1) := oq_177 (bq_in kqX0_settle_3 24 rfl)
theorem kqX0_lastOfTimes_0 : ((cX0_lastOfTimes.data.toList.drop 0).take 34).map UInt8.toNat = [42, 180, 0, 45, 60, 4, 61, 28, 42, 180, 0, 34, 162, 0, 34, 27, 2, 159, 0, 29, 42, 180, 0, 18, 27, 4, 96, 182, 0, 41, 62, 29, 2, 160] := by decide +kernel
theorem dX0_lastOfTimes_0 : decode cX0_lastOfTimes 0 = .ok (.aload_n 0, 1) := oq_42 (bq_in kqX0_lastOfTimes_0 0 rfl)
theorem dX0_lastOfTimes_1 : decode cX0_lastOfTimes 1 = .ok (.getfield 45, 3) := oq_180 (bq_in kqX0_lastOfTimes_0 1 rfl) (bq_in kqX0_lastOfTimes_0 2 rfl) (bq_in kqX0_lastOfTimes_0 3 rfl) rfl
theorem dX0_lastOfTimes_4 : decode cX0_lastOfTimes 4 = .ok (.istore_n 1, 1) := oq_60 (bq_in kqX0_lastOfTimes_0 4 rfl)
theorem dX0_lastOfTimes_5 : decode cX0_lastOfTimes 5 = .ok (.iconst 1, 1) := oq_4 (bq_in kqX0_lastOfTimes_0 5 rfl)
theorem dX0_lastOfTimes_6 : decode cX0_lastOfTimes 6 = .ok (.istore_n 2, 1) := oq_61 (bq_in kqX0_lastOfTimes_0 6 rfl)
theorem dX0_lastOfTimes_7 : decode cX0_lastOfTimes 7 = .ok (.iload_n 2, 1) := oq_28 (bq_in kqX0_lastOfTimes_0 7 rfl)
theorem dX0_lastOfTimes_8 : decode cX0_lastOfTimes 8 = .ok (.aload_n 0, 1) := oq_42 (bq_in kqX0_lastOfTimes_0 8 rfl)
theorem dX0_lastOfTimes_9 : decode cX0_lastOfTimes 9 = .ok (.getfield 34, 3) := oq_180 (bq_in kqX0_lastOfTimes_0 9 rfl) (bq_in kqX0_lastOfTimes_0 10 rfl) (bq_in kqX0_lastOfTimes_0 11 rfl) rfl
theorem dX0_lastOfTimes_12 : decode cX0_lastOfTimes 12 = .ok (.if_icmp .ge 34, 3) := oq_162 (bq_in kqX0_lastOfTimes_0 12 rfl) (bq_in kqX0_lastOfTimes_0 13 rfl) (bq_in kqX0_lastOfTimes_0 14 rfl) rfl
theorem dX0_lastOfTimes_15 : decode cX0_lastOfTimes 15 = .ok (.iload_n 1, 1) := oq_27 (bq_in kqX0_lastOfTimes_0 15 rfl)
theorem dX0_lastOfTimes_16 : decode cX0_lastOfTimes 16 = .ok (.iconst (-1), 1) := oq_2 (bq_in kqX0_lastOfTimes_0 16 rfl)
theorem dX0_lastOfTimes_17 : decode cX0_lastOfTimes 17 = .ok (.if_icmp .eq 29, 3) := oq_159 (bq_in kqX0_lastOfTimes_0 17 rfl) (bq_in kqX0_lastOfTimes_0 18 rfl) (bq_in kqX0_lastOfTimes_0 19 rfl) rfl
theorem dX0_lastOfTimes_20 : decode cX0_lastOfTimes 20 = .ok (.aload_n 0, 1) := oq_42 (bq_in kqX0_lastOfTimes_0 20 rfl)
theorem dX0_lastOfTimes_21 : decode cX0_lastOfTimes 21 = .ok (.getfield 18, 3) := oq_180 (bq_in kqX0_lastOfTimes_0 21 rfl) (bq_in kqX0_lastOfTimes_0 22 rfl) (bq_in kqX0_lastOfTimes_0 23 rfl) rfl
theorem dX0_lastOfTimes_24 : decode cX0_lastOfTimes 24 = .ok (.iload_n 1, 1) := oq_27 (bq_in kqX0_lastOfTimes_0 24 rfl)
theorem dX0_lastOfTimes_25 : decode cX0_lastOfTimes 25 = .ok (.iconst 1, 1) := oq_4 (bq_in kqX0_lastOfTimes_0 25 rfl)
theorem dX0_lastOfTimes_26 : decode cX0_lastOfTimes 26 = .ok (.iadd, 1) := oq_96 (bq_in kqX0_lastOfTimes_0 26 rfl)
theorem dX0_lastOfTimes_27 : decode cX0_lastOfTimes 27 = .ok (.invokevirtual 41, 3) := oq_182 (bq_in kqX0_lastOfTimes_0 27 rfl) (bq_in kqX0_lastOfTimes_0 28 rfl) (bq_in kqX0_lastOfTimes_0 29 rfl) rfl
theorem dX0_lastOfTimes_30 : decode cX0_lastOfTimes 30 = .ok (.istore_n 3, 1) := oq_62 (bq_in kqX0_lastOfTimes_0 30 rfl)
theorem dX0_lastOfTimes_31 : decode cX0_lastOfTimes 31 = .ok (.iload_n 3, 1) := oq_29 (bq_in kqX0_lastOfTimes_0 31 rfl)
theorem kqX0_lastOfTimes_1 : ((cX0_lastOfTimes.data.toList.drop 32).take 34).map UInt8.toNat = [2, 160, 0, 5, 27, 172, 29, 60, 132, 2, 1, 167, 255, 220, 27, 172] := by decide +kernel
theorem dX0_lastOfTimes_32 : decode cX0_lastOfTimes 32 = .ok (.iconst (-1), 1) := oq_2 (bq_in kqX0_lastOfTimes_1 0 rfl)
theorem dX0_lastOfTimes_33 : decode cX0_lastOfTimes 33 = .ok (.if_icmp .ne 5, 3) := oq_160 (bq_in kqX0_lastOfTimes_1 1 rfl) (bq_in kqX0_lastOfTimes_1 2 rfl) (bq_in kqX0_lastOfTimes_1 3 rfl) rfl
theorem dX0_lastOfTimes_36 : decode cX0_lastOfTimes 36 = .ok (.iload_n 1, 1) := oq_27 (bq_in kqX0_lastOfTimes_1 4 rfl)
theorem dX0_lastOfTimes_37 : decode cX0_lastOfTimes 37 = .ok (.ireturn, 1) := oq_172 (bq_in kqX0_lastOfTimes_1 5 rfl)
theorem dX0_lastOfTimes_38 : decode cX0_lastOfTimes 38 = .ok (.iload_n 3, 1) := oq_29 (bq_in kqX0_lastOfTimes_1 6 rfl)
theorem dX0_lastOfTimes_39 : decode cX0_lastOfTimes 39 = .ok (.istore_n 1, 1) := oq_60 (bq_in kqX0_lastOfTimes_1 7 rfl)
theorem dX0_lastOfTimes_40 : decode cX0_lastOfTimes 40 = .ok (.iinc 2 1, 3) := oq_132 (bq_in kqX0_lastOfTimes_1 8 rfl) (bq_in kqX0_lastOfTimes_1 9 rfl) (bq_in kqX0_lastOfTimes_1 10 rfl) rfl
theorem dX0_lastOfTimes_43 : decode cX0_lastOfTimes 43 = .ok (.goto (-36), 3) := oq_167 (bq_in kqX0_lastOfTimes_1 11 rfl) (bq_in kqX0_lastOfTimes_1 12 rfl) (bq_in kqX0_lastOfTimes_1 13 rfl) rfl
theorem dX0_lastOfTimes_46 : decode cX0_lastOfTimes 46 = .ok (.iload_n 1, 1) := oq_27 (bq_in kqX0_lastOfTimes_1 14 rfl)
theorem dX0_lastOfTimes_47 : decode cX0_lastOfTimes 47 = .ok (.ireturn, 1) := oq_172 (bq_in kqX0_lastOfTimes_1 15 rfl)
theorem kqX0_copyFrom_0 : ((cX0_copyFrom.data.toList.drop 0).take 34).map UInt8.toNat = [42, 43, 180, 0, 65, 181, 0, 65, 42, 43, 180, 0, 68, 181, 0, 68, 42, 43, 180, 0, 71, 181, 0, 71, 42, 43, 180, 0, 18, 181, 0, 18, 42, 43] := by decide +kernel
theorem dX0_copyFrom_0 : decode cX0_copyFrom 0 = .ok (.aload_n 0, 1) := oq_42 (bq_in kqX0_copyFrom_0 0 rfl)
theorem dX0_copyFrom_1 : decode cX0_copyFrom 1 = .ok (.aload_n 1, 1) := oq_43 (bq_in kqX0_copyFrom_0 1 rfl)
theorem dX0_copyFrom_2 : decode cX0_copyFrom 2 = .ok (.getfield 65, 3) := oq_180 (bq_in kqX0_copyFrom_0 2 rfl) (bq_in kqX0_copyFrom_0 3 rfl) (bq_in kqX0_copyFrom_0 4 rfl) rfl
theorem dX0_copyFrom_5 : decode cX0_copyFrom 5 = .ok (.putfield 65, 3) := oq_181 (bq_in kqX0_copyFrom_0 5 rfl) (bq_in kqX0_copyFrom_0 6 rfl) (bq_in kqX0_copyFrom_0 7 rfl) rfl
theorem dX0_copyFrom_8 : decode cX0_copyFrom 8 = .ok (.aload_n 0, 1) := oq_42 (bq_in kqX0_copyFrom_0 8 rfl)
theorem dX0_copyFrom_9 : decode cX0_copyFrom 9 = .ok (.aload_n 1, 1) := oq_43 (bq_in kqX0_copyFrom_0 9 rfl)
theorem dX0_copyFrom_10 : decode cX0_copyFrom 10 = .ok (.getfield 68, 3) := oq_180 (bq_in kqX0_copyFrom_0 10 rfl) (bq_in kqX0_copyFrom_0 11 rfl) (bq_in kqX0_copyFrom_0 12 rfl) rfl
theorem dX0_copyFrom_13 : decode cX0_copyFrom 13 = .ok (.putfield 68, 3) := oq_181 (bq_in kqX0_copyFrom_0 13 rfl) (bq_in kqX0_copyFrom_0 14 rfl) (bq_in kqX0_copyFrom_0 15 rfl) rfl
theorem dX0_copyFrom_16 : decode cX0_copyFrom 16 = .ok (.aload_n 0, 1) := oq_42 (bq_in kqX0_copyFrom_0 16 rfl)
theorem dX0_copyFrom_17 : decode cX0_copyFrom 17 = .ok (.aload_n 1, 1) := oq_43 (bq_in kqX0_copyFrom_0 17 rfl)
theorem dX0_copyFrom_18 : decode cX0_copyFrom 18 = .ok (.getfield 71, 3) := oq_180 (bq_in kqX0_copyFrom_0 18 rfl) (bq_in kqX0_copyFrom_0 19 rfl) (bq_in kqX0_copyFrom_0 20 rfl) rfl
theorem dX0_copyFrom_21 : decode cX0_copyFrom 21 = .ok (.putfield 71, 3) := oq_181 (bq_in kqX0_copyFrom_0 21 rfl) (bq_in kqX0_copyFrom_0 22 rfl) (bq_in kqX0_copyFrom_0 23 rfl) rfl
theorem dX0_copyFrom_24 : decode cX0_copyFrom 24 = .ok (.aload_n 0, 1) := oq_42 (bq_in kqX0_copyFrom_0 24 rfl)
theorem dX0_copyFrom_25 : decode cX0_copyFrom 25 = .ok (.aload_n 1, 1) := oq_43 (bq_in kqX0_copyFrom_0 25 rfl)
theorem dX0_copyFrom_26 : decode cX0_copyFrom 26 = .ok (.getfield 18, 3) := oq_180 (bq_in kqX0_copyFrom_0 26 rfl) (bq_in kqX0_copyFrom_0 27 rfl) (bq_in kqX0_copyFrom_0 28 rfl) rfl
theorem dX0_copyFrom_29 : decode cX0_copyFrom 29 = .ok (.putfield 18, 3) := oq_181 (bq_in kqX0_copyFrom_0 29 rfl) (bq_in kqX0_copyFrom_0 30 rfl) (bq_in kqX0_copyFrom_0 31 rfl) rfl
theorem kqX0_copyFrom_1 : ((cX0_copyFrom.data.toList.drop 32).take 34).map UInt8.toNat = [42, 43, 180, 0, 31, 181, 0, 31, 42, 43, 180, 0, 34, 181, 0, 34, 42, 43, 180, 0, 28, 181, 0, 28, 42, 43, 180, 0, 45, 181, 0, 45, 42, 43] := by decide +kernel
theorem dX0_copyFrom_32 : decode cX0_copyFrom 32 = .ok (.aload_n 0, 1) := oq_42 (bq_in kqX0_copyFrom_1 0 rfl)
theorem dX0_copyFrom_33 : decode cX0_copyFrom 33 = .ok (.aload_n 1, 1) := oq_43 (bq_in kqX0_copyFrom_1 1 rfl)
theorem dX0_copyFrom_34 : decode cX0_copyFrom 34 = .ok (.getfield 31, 3) := oq_180 (bq_in kqX0_copyFrom_1 2 rfl) (bq_in kqX0_copyFrom_1 3 rfl) (bq_in kqX0_copyFrom_1 4 rfl) rfl
theorem dX0_copyFrom_37 : decode cX0_copyFrom 37 = .ok (.putfield 31, 3) := oq_181 (bq_in kqX0_copyFrom_1 5 rfl) (bq_in kqX0_copyFrom_1 6 rfl) (bq_in kqX0_copyFrom_1 7 rfl) rfl
theorem dX0_copyFrom_40 : decode cX0_copyFrom 40 = .ok (.aload_n 0, 1) := oq_42 (bq_in kqX0_copyFrom_1 8 rfl)
theorem dX0_copyFrom_41 : decode cX0_copyFrom 41 = .ok (.aload_n 1, 1) := oq_43 (bq_in kqX0_copyFrom_1 9 rfl)
theorem dX0_copyFrom_42 : decode cX0_copyFrom 42 = .ok (.getfield 34, 3) := oq_180 (bq_in kqX0_copyFrom_1 10 rfl) (bq_in kqX0_copyFrom_1 11 rfl) (bq_in kqX0_copyFrom_1 12 rfl) rfl
theorem dX0_copyFrom_45 : decode cX0_copyFrom 45 = .ok (.putfield 34, 3) := oq_181 (bq_in kqX0_copyFrom_1 13 rfl) (bq_in kqX0_copyFrom_1 14 rfl) (bq_in kqX0_copyFrom_1 15 rfl) rfl
theorem dX0_copyFrom_48 : decode cX0_copyFrom 48 = .ok (.aload_n 0, 1) := oq_42 (bq_in kqX0_copyFrom_1 16 rfl)
theorem dX0_copyFrom_49 : decode cX0_copyFrom 49 = .ok (.aload_n 1, 1) := oq_43 (bq_in kqX0_copyFrom_1 17 rfl)
theorem dX0_copyFrom_50 : decode cX0_copyFrom 50 = .ok (.getfield 28, 3) := oq_180 (bq_in kqX0_copyFrom_1 18 rfl) (bq_in kqX0_copyFrom_1 19 rfl) (bq_in kqX0_copyFrom_1 20 rfl) rfl
theorem dX0_copyFrom_53 : decode cX0_copyFrom 53 = .ok (.putfield 28, 3) := oq_181 (bq_in kqX0_copyFrom_1 21 rfl) (bq_in kqX0_copyFrom_1 22 rfl) (bq_in kqX0_copyFrom_1 23 rfl) rfl
theorem dX0_copyFrom_56 : decode cX0_copyFrom 56 = .ok (.aload_n 0, 1) := oq_42 (bq_in kqX0_copyFrom_1 24 rfl)
theorem dX0_copyFrom_57 : decode cX0_copyFrom 57 = .ok (.aload_n 1, 1) := oq_43 (bq_in kqX0_copyFrom_1 25 rfl)
theorem dX0_copyFrom_58 : decode cX0_copyFrom 58 = .ok (.getfield 45, 3) := oq_180 (bq_in kqX0_copyFrom_1 26 rfl) (bq_in kqX0_copyFrom_1 27 rfl) (bq_in kqX0_copyFrom_1 28 rfl) rfl
theorem dX0_copyFrom_61 : decode cX0_copyFrom 61 = .ok (.putfield 45, 3) := oq_181 (bq_in kqX0_copyFrom_1 29 rfl) (bq_in kqX0_copyFrom_1 30 rfl) (bq_in kqX0_copyFrom_1 31 rfl) rfl
theorem kqX0_copyFrom_2 : ((cX0_copyFrom.data.toList.drop 64).take 34).map UInt8.toNat = [42, 43, 180, 0, 55, 181, 0, 55, 42, 43, 180, 0, 62, 181, 0, 62, 42, 43, 180, 0, 37, 181, 0, 37, 43, 180, 0, 9, 3, 42, 180, 0, 9, 3] := by decide +kernel
theorem dX0_copyFrom_64 : decode cX0_copyFrom 64 = .ok (.aload_n 0, 1) := oq_42 (bq_in kqX0_copyFrom_2 0 rfl)
theorem dX0_copyFrom_65 : decode cX0_copyFrom 65 = .ok (.aload_n 1, 1) := oq_43 (bq_in kqX0_copyFrom_2 1 rfl)
theorem dX0_copyFrom_66 : decode cX0_copyFrom 66 = .ok (.getfield 55, 3) := oq_180 (bq_in kqX0_copyFrom_2 2 rfl) (bq_in kqX0_copyFrom_2 3 rfl) (bq_in kqX0_copyFrom_2 4 rfl) rfl
theorem dX0_copyFrom_69 : decode cX0_copyFrom 69 = .ok (.putfield 55, 3) := oq_181 (bq_in kqX0_copyFrom_2 5 rfl) (bq_in kqX0_copyFrom_2 6 rfl) (bq_in kqX0_copyFrom_2 7 rfl) rfl
theorem dX0_copyFrom_72 : decode cX0_copyFrom 72 = .ok (.aload_n 0, 1) := oq_42 (bq_in kqX0_copyFrom_2 8 rfl)
theorem dX0_copyFrom_73 : decode cX0_copyFrom 73 = .ok (.aload_n 1, 1) := oq_43 (bq_in kqX0_copyFrom_2 9 rfl)
theorem dX0_copyFrom_74 : decode cX0_copyFrom 74 = .ok (.getfield 62, 3) := oq_180 (bq_in kqX0_copyFrom_2 10 rfl) (bq_in kqX0_copyFrom_2 11 rfl) (bq_in kqX0_copyFrom_2 12 rfl) rfl
theorem dX0_copyFrom_77 : decode cX0_copyFrom 77 = .ok (.putfield 62, 3) := oq_181 (bq_in kqX0_copyFrom_2 13 rfl) (bq_in kqX0_copyFrom_2 14 rfl) (bq_in kqX0_copyFrom_2 15 rfl) rfl
theorem dX0_copyFrom_80 : decode cX0_copyFrom 80 = .ok (.aload_n 0, 1) := oq_42 (bq_in kqX0_copyFrom_2 16 rfl)
theorem dX0_copyFrom_81 : decode cX0_copyFrom 81 = .ok (.aload_n 1, 1) := oq_43 (bq_in kqX0_copyFrom_2 17 rfl)
theorem dX0_copyFrom_82 : decode cX0_copyFrom 82 = .ok (.getfield 37, 3) := oq_180 (bq_in kqX0_copyFrom_2 18 rfl) (bq_in kqX0_copyFrom_2 19 rfl) (bq_in kqX0_copyFrom_2 20 rfl) rfl
theorem dX0_copyFrom_85 : decode cX0_copyFrom 85 = .ok (.putfield 37, 3) := oq_181 (bq_in kqX0_copyFrom_2 21 rfl) (bq_in kqX0_copyFrom_2 22 rfl) (bq_in kqX0_copyFrom_2 23 rfl) rfl
theorem dX0_copyFrom_88 : decode cX0_copyFrom 88 = .ok (.aload_n 1, 1) := oq_43 (bq_in kqX0_copyFrom_2 24 rfl)
theorem dX0_copyFrom_89 : decode cX0_copyFrom 89 = .ok (.getfield 9, 3) := oq_180 (bq_in kqX0_copyFrom_2 25 rfl) (bq_in kqX0_copyFrom_2 26 rfl) (bq_in kqX0_copyFrom_2 27 rfl) rfl
theorem dX0_copyFrom_92 : decode cX0_copyFrom 92 = .ok (.iconst 0, 1) := oq_3 (bq_in kqX0_copyFrom_2 28 rfl)
theorem dX0_copyFrom_93 : decode cX0_copyFrom 93 = .ok (.aload_n 0, 1) := oq_42 (bq_in kqX0_copyFrom_2 29 rfl)
theorem dX0_copyFrom_94 : decode cX0_copyFrom 94 = .ok (.getfield 9, 3) := oq_180 (bq_in kqX0_copyFrom_2 30 rfl) (bq_in kqX0_copyFrom_2 31 rfl) (bq_in kqX0_copyFrom_2 32 rfl) rfl
theorem kqX0_copyFrom_3 : ((cX0_copyFrom.data.toList.drop 96).take 34).map UInt8.toNat = [9, 3, 16, 16, 184, 0, 74, 43, 180, 0, 15, 3, 42, 180, 0, 15, 3, 16, 16, 184, 0, 74, 177] := by decide +kernel
theorem dX0_copyFrom_97 : decode cX0_copyFrom 97 = .ok (.iconst 0, 1) := oq_3 (bq_in kqX0_copyFrom_3 1 rfl)
theorem dX0_copyFrom_98 : decode cX0_copyFrom 98 = .ok (.bipush 16, 2) := oq_16 (bq_in kqX0_copyFrom_3 2 rfl) (bq_in kqX0_copyFrom_3 3 rfl) rfl
theorem dX0_copyFrom_100 : decode cX0_copyFrom 100 = .ok (.invokestatic 74, 3) := oq_184 (bq_in kqX0_copyFrom_3 4 rfl) (bq_in kqX0_copyFrom_3 5 rfl) (bq_in kqX0_copyFrom_3 6 rfl) rfl
theorem dX0_copyFrom_103 : decode cX0_copyFrom 103 = .ok (.aload_n 1, 1) := oq_43 (bq_in kqX0_copyFrom_3 7 rfl)
theorem dX0_copyFrom_104 : decode cX0_copyFrom 104 = .ok (.getfield 15, 3) := oq_180 (bq_in kqX0_copyFrom_3 8 rfl) (bq_in kqX0_copyFrom_3 9 rfl) (bq_in kqX0_copyFrom_3 10 rfl) rfl
theorem dX0_copyFrom_107 : decode cX0_copyFrom 107 = .ok (.iconst 0, 1) := oq_3 (bq_in kqX0_copyFrom_3 11 rfl)
theorem dX0_copyFrom_108 : decode cX0_copyFrom 108 = .ok (.aload_n 0, 1) := oq_42 (bq_in kqX0_copyFrom_3 12 rfl)
theorem dX0_copyFrom_109 : decode cX0_copyFrom 109 = .ok (.getfield 15, 3) := oq_180 (bq_in kqX0_copyFrom_3 13 rfl) (bq_in kqX0_copyFrom_3 14 rfl) (bq_in kqX0_copyFrom_3 15 rfl) rfl
theorem dX0_copyFrom_112 : decode cX0_copyFrom 112 = .ok (.iconst 0, 1) := oq_3 (bq_in kqX0_copyFrom_3 16 rfl)
theorem dX0_copyFrom_113 : decode cX0_copyFrom 113 = .ok (.bipush 16, 2) := oq_16 (bq_in kqX0_copyFrom_3 17 rfl) (bq_in kqX0_copyFrom_3 18 rfl) rfl
theorem dX0_copyFrom_115 : decode cX0_copyFrom 115 = .ok (.invokestatic 74, 3) := oq_184 (bq_in kqX0_copyFrom_3 19 rfl) (bq_in kqX0_copyFrom_3 20 rfl) (bq_in kqX0_copyFrom_3 21 rfl) rfl
theorem dX0_copyFrom_118 : decode cX0_copyFrom 118 = .ok (.return_, 1) := oq_177 (bq_in kqX0_copyFrom_3 22 rfl)
theorem kqX0_cutInto_0 : ((cX0_cutInto.data.toList.drop 0).take 34).map UInt8.toNat = [43, 42, 182, 0, 80, 43, 28, 181, 0, 28, 42, 180, 0, 34, 2, 160, 0, 13, 42, 28, 4, 100, 181, 0, 31, 167, 0, 28, 42, 42, 3, 28, 4, 100] := by decide +kernel
theorem dX0_cutInto_0 : decode cX0_cutInto 0 = .ok (.aload_n 1, 1) := oq_43 (bq_in kqX0_cutInto_0 0 rfl)
theorem dX0_cutInto_1 : decode cX0_cutInto 1 = .ok (.aload_n 0, 1) := oq_42 (bq_in kqX0_cutInto_0 1 rfl)
theorem dX0_cutInto_2 : decode cX0_cutInto 2 = .ok (.invokevirtual 80, 3) := oq_182 (bq_in kqX0_cutInto_0 2 rfl) (bq_in kqX0_cutInto_0 3 rfl) (bq_in kqX0_cutInto_0 4 rfl) rfl
theorem dX0_cutInto_5 : decode cX0_cutInto 5 = .ok (.aload_n 1, 1) := oq_43 (bq_in kqX0_cutInto_0 5 rfl)
theorem dX0_cutInto_6 : decode cX0_cutInto 6 = .ok (.iload_n 2, 1) := oq_28 (bq_in kqX0_cutInto_0 6 rfl)
theorem dX0_cutInto_7 : decode cX0_cutInto 7 = .ok (.putfield 28, 3) := oq_181 (bq_in kqX0_cutInto_0 7 rfl) (bq_in kqX0_cutInto_0 8 rfl) (bq_in kqX0_cutInto_0 9 rfl) rfl
theorem dX0_cutInto_10 : decode cX0_cutInto 10 = .ok (.aload_n 0, 1) := oq_42 (bq_in kqX0_cutInto_0 10 rfl)
theorem dX0_cutInto_11 : decode cX0_cutInto 11 = .ok (.getfield 34, 3) := oq_180 (bq_in kqX0_cutInto_0 11 rfl) (bq_in kqX0_cutInto_0 12 rfl) (bq_in kqX0_cutInto_0 13 rfl) rfl
theorem dX0_cutInto_14 : decode cX0_cutInto 14 = .ok (.iconst (-1), 1) := oq_2 (bq_in kqX0_cutInto_0 14 rfl)
theorem dX0_cutInto_15 : decode cX0_cutInto 15 = .ok (.if_icmp .ne 13, 3) := oq_160 (bq_in kqX0_cutInto_0 15 rfl) (bq_in kqX0_cutInto_0 16 rfl) (bq_in kqX0_cutInto_0 17 rfl) rfl
theorem dX0_cutInto_18 : decode cX0_cutInto 18 = .ok (.aload_n 0, 1) := oq_42 (bq_in kqX0_cutInto_0 18 rfl)
theorem dX0_cutInto_19 : decode cX0_cutInto 19 = .ok (.iload_n 2, 1) := oq_28 (bq_in kqX0_cutInto_0 19 rfl)
theorem dX0_cutInto_20 : decode cX0_cutInto 20 = .ok (.iconst 1, 1) := oq_4 (bq_in kqX0_cutInto_0 20 rfl)
theorem dX0_cutInto_21 : decode cX0_cutInto 21 = .ok (.isub, 1) := oq_100 (bq_in kqX0_cutInto_0 21 rfl)
theorem dX0_cutInto_22 : decode cX0_cutInto 22 = .ok (.putfield 31, 3) := oq_181 (bq_in kqX0_cutInto_0 22 rfl) (bq_in kqX0_cutInto_0 23 rfl) (bq_in kqX0_cutInto_0 24 rfl) rfl
theorem dX0_cutInto_25 : decode cX0_cutInto 25 = .ok (.goto 28, 3) := oq_167 (bq_in kqX0_cutInto_0 25 rfl) (bq_in kqX0_cutInto_0 26 rfl) (bq_in kqX0_cutInto_0 27 rfl) rfl
theorem dX0_cutInto_28 : decode cX0_cutInto 28 = .ok (.aload_n 0, 1) := oq_42 (bq_in kqX0_cutInto_0 28 rfl)
theorem dX0_cutInto_29 : decode cX0_cutInto 29 = .ok (.aload_n 0, 1) := oq_42 (bq_in kqX0_cutInto_0 29 rfl)
theorem dX0_cutInto_30 : decode cX0_cutInto 30 = .ok (.iconst 0, 1) := oq_3 (bq_in kqX0_cutInto_0 30 rfl)
theorem dX0_cutInto_31 : decode cX0_cutInto 31 = .ok (.iload_n 2, 1) := oq_28 (bq_in kqX0_cutInto_0 31 rfl)
theorem kqX0_cutInto_1 : ((cX0_cutInto.data.toList.drop 32).take 34).map UInt8.toNat = [4, 100, 182, 0, 84, 181, 0, 34, 43, 42, 180, 0, 62, 42, 180, 0, 34, 100, 181, 0, 34, 16, 15, 62, 29, 155, 0, 55, 29, 43, 180, 0, 37, 162] := by decide +kernel
theorem dX0_cutInto_32 : decode cX0_cutInto 32 = .ok (.iconst 1, 1) := oq_4 (bq_in kqX0_cutInto_1 0 rfl)
theorem dX0_cutInto_33 : decode cX0_cutInto 33 = .ok (.isub, 1) := oq_100 (bq_in kqX0_cutInto_1 1 rfl)
theorem dX0_cutInto_34 : decode cX0_cutInto 34 = .ok (.invokevirtual 84, 3) := oq_182 (bq_in kqX0_cutInto_1 2 rfl) (bq_in kqX0_cutInto_1 3 rfl) (bq_in kqX0_cutInto_1 4 rfl) rfl
theorem dX0_cutInto_37 : decode cX0_cutInto 37 = .ok (.putfield 34, 3) := oq_181 (bq_in kqX0_cutInto_1 5 rfl) (bq_in kqX0_cutInto_1 6 rfl) (bq_in kqX0_cutInto_1 7 rfl) rfl
theorem dX0_cutInto_40 : decode cX0_cutInto 40 = .ok (.aload_n 1, 1) := oq_43 (bq_in kqX0_cutInto_1 8 rfl)
theorem dX0_cutInto_41 : decode cX0_cutInto 41 = .ok (.aload_n 0, 1) := oq_42 (bq_in kqX0_cutInto_1 9 rfl)
theorem dX0_cutInto_42 : decode cX0_cutInto 42 = .ok (.getfield 62, 3) := oq_180 (bq_in kqX0_cutInto_1 10 rfl) (bq_in kqX0_cutInto_1 11 rfl) (bq_in kqX0_cutInto_1 12 rfl) rfl
theorem dX0_cutInto_45 : decode cX0_cutInto 45 = .ok (.aload_n 0, 1) := oq_42 (bq_in kqX0_cutInto_1 13 rfl)
theorem dX0_cutInto_46 : decode cX0_cutInto 46 = .ok (.getfield 34, 3) := oq_180 (bq_in kqX0_cutInto_1 14 rfl) (bq_in kqX0_cutInto_1 15 rfl) (bq_in kqX0_cutInto_1 16 rfl) rfl
theorem dX0_cutInto_49 : decode cX0_cutInto 49 = .ok (.isub, 1) := oq_100 (bq_in kqX0_cutInto_1 17 rfl)
theorem dX0_cutInto_50 : decode cX0_cutInto 50 = .ok (.putfield 34, 3) := oq_181 (bq_in kqX0_cutInto_1 18 rfl) (bq_in kqX0_cutInto_1 19 rfl) (bq_in kqX0_cutInto_1 20 rfl) rfl
theorem dX0_cutInto_53 : decode cX0_cutInto 53 = .ok (.bipush 15, 2) := oq_16 (bq_in kqX0_cutInto_1 21 rfl) (bq_in kqX0_cutInto_1 22 rfl) rfl
theorem dX0_cutInto_55 : decode cX0_cutInto 55 = .ok (.istore_n 3, 1) := oq_62 (bq_in kqX0_cutInto_1 23 rfl)
theorem dX0_cutInto_56 : decode cX0_cutInto 56 = .ok (.iload_n 3, 1) := oq_29 (bq_in kqX0_cutInto_1 24 rfl)
theorem dX0_cutInto_57 : decode cX0_cutInto 57 = .ok (.ifCond .lt 55, 3) := oq_155 (bq_in kqX0_cutInto_1 25 rfl) (bq_in kqX0_cutInto_1 26 rfl) (bq_in kqX0_cutInto_1 27 rfl) rfl
theorem dX0_cutInto_60 : decode cX0_cutInto 60 = .ok (.iload_n 3, 1) := oq_29 (bq_in kqX0_cutInto_1 28 rfl)
theorem dX0_cutInto_61 : decode cX0_cutInto 61 = .ok (.aload_n 1, 1) := oq_43 (bq_in kqX0_cutInto_1 29 rfl)
theorem dX0_cutInto_62 : decode cX0_cutInto 62 = .ok (.getfield 37, 3) := oq_180 (bq_in kqX0_cutInto_1 30 rfl) (bq_in kqX0_cutInto_1 31 rfl) (bq_in kqX0_cutInto_1 32 rfl) rfl
theorem kqX0_cutInto_2 : ((cX0_cutInto.data.toList.drop 64).take 34).map UInt8.toNat = [37, 162, 0, 18, 43, 180, 0, 9, 29, 46, 28, 162, 0, 8, 43, 29, 182, 0, 87, 29, 42, 180, 0, 37, 162, 0, 18, 42, 180, 0, 9, 29, 46, 28] := by decide +kernel
theorem dX0_cutInto_65 : decode cX0_cutInto 65 = .ok (.if_icmp .ge 18, 3) := oq_162 (bq_in kqX0_cutInto_2 1 rfl) (bq_in kqX0_cutInto_2 2 rfl) (bq_in kqX0_cutInto_2 3 rfl) rfl
theorem dX0_cutInto_68 : decode cX0_cutInto 68 = .ok (.aload_n 1, 1) := oq_43 (bq_in kqX0_cutInto_2 4 rfl)
theorem dX0_cutInto_69 : decode cX0_cutInto 69 = .ok (.getfield 9, 3) := oq_180 (bq_in kqX0_cutInto_2 5 rfl) (bq_in kqX0_cutInto_2 6 rfl) (bq_in kqX0_cutInto_2 7 rfl) rfl
theorem dX0_cutInto_72 : decode cX0_cutInto 72 = .ok (.iload_n 3, 1) := oq_29 (bq_in kqX0_cutInto_2 8 rfl)
theorem dX0_cutInto_73 : decode cX0_cutInto 73 = .ok (.iaload, 1) := oq_46 (bq_in kqX0_cutInto_2 9 rfl)
theorem dX0_cutInto_74 : decode cX0_cutInto 74 = .ok (.iload_n 2, 1) := oq_28 (bq_in kqX0_cutInto_2 10 rfl)
theorem dX0_cutInto_75 : decode cX0_cutInto 75 = .ok (.if_icmp .ge 8, 3) := oq_162 (bq_in kqX0_cutInto_2 11 rfl) (bq_in kqX0_cutInto_2 12 rfl) (bq_in kqX0_cutInto_2 13 rfl) rfl
theorem dX0_cutInto_78 : decode cX0_cutInto 78 = .ok (.aload_n 1, 1) := oq_43 (bq_in kqX0_cutInto_2 14 rfl)
theorem dX0_cutInto_79 : decode cX0_cutInto 79 = .ok (.iload_n 3, 1) := oq_29 (bq_in kqX0_cutInto_2 15 rfl)
theorem dX0_cutInto_80 : decode cX0_cutInto 80 = .ok (.invokevirtual 87, 3) := oq_182 (bq_in kqX0_cutInto_2 16 rfl) (bq_in kqX0_cutInto_2 17 rfl) (bq_in kqX0_cutInto_2 18 rfl) rfl
theorem dX0_cutInto_83 : decode cX0_cutInto 83 = .ok (.iload_n 3, 1) := oq_29 (bq_in kqX0_cutInto_2 19 rfl)
theorem dX0_cutInto_84 : decode cX0_cutInto 84 = .ok (.aload_n 0, 1) := oq_42 (bq_in kqX0_cutInto_2 20 rfl)
theorem dX0_cutInto_85 : decode cX0_cutInto 85 = .ok (.getfield 37, 3) := oq_180 (bq_in kqX0_cutInto_2 21 rfl) (bq_in kqX0_cutInto_2 22 rfl) (bq_in kqX0_cutInto_2 23 rfl) rfl
theorem dX0_cutInto_88 : decode cX0_cutInto 88 = .ok (.if_icmp .ge 18, 3) := oq_162 (bq_in kqX0_cutInto_2 24 rfl) (bq_in kqX0_cutInto_2 25 rfl) (bq_in kqX0_cutInto_2 26 rfl) rfl
theorem dX0_cutInto_91 : decode cX0_cutInto 91 = .ok (.aload_n 0, 1) := oq_42 (bq_in kqX0_cutInto_2 27 rfl)
theorem dX0_cutInto_92 : decode cX0_cutInto 92 = .ok (.getfield 9, 3) := oq_180 (bq_in kqX0_cutInto_2 28 rfl) (bq_in kqX0_cutInto_2 29 rfl) (bq_in kqX0_cutInto_2 30 rfl) rfl
theorem dX0_cutInto_95 : decode cX0_cutInto 95 = .ok (.iload_n 3, 1) := oq_29 (bq_in kqX0_cutInto_2 31 rfl)
theorem kqX0_cutInto_3 : ((cX0_cutInto.data.toList.drop 96).take 34).map UInt8.toNat = [46, 28, 161, 0, 8, 42, 29, 182, 0, 87, 132, 3, 255, 167, 255, 203, 42, 182, 0, 91, 43, 182, 0, 91, 177] := by decide +kernel
theorem dX0_cutInto_96 : decode cX0_cutInto 96 = .ok (.iaload, 1) := oq_46 (bq_in kqX0_cutInto_3 0 rfl)
theorem dX0_cutInto_97 : decode cX0_cutInto 97 = .ok (.iload_n 2, 1) := oq_28 (bq_in kqX0_cutInto_3 1 rfl)
theorem dX0_cutInto_98 : decode cX0_cutInto 98 = .ok (.if_icmp .lt 8, 3) := oq_161 (bq_in kqX0_cutInto_3 2 rfl) (bq_in kqX0_cutInto_3 3 rfl) (bq_in kqX0_cutInto_3 4 rfl) rfl
theorem dX0_cutInto_101 : decode cX0_cutInto 101 = .ok (.aload_n 0, 1) := oq_42 (bq_in kqX0_cutInto_3 5 rfl)
theorem dX0_cutInto_102 : decode cX0_cutInto 102 = .ok (.iload_n 3, 1) := oq_29 (bq_in kqX0_cutInto_3 6 rfl)
theorem dX0_cutInto_103 : decode cX0_cutInto 103 = .ok (.invokevirtual 87, 3) := oq_182 (bq_in kqX0_cutInto_3 7 rfl) (bq_in kqX0_cutInto_3 8 rfl) (bq_in kqX0_cutInto_3 9 rfl) rfl
theorem dX0_cutInto_106 : decode cX0_cutInto 106 = .ok (.iinc 3 (-1), 3) := oq_132 (bq_in kqX0_cutInto_3 10 rfl) (bq_in kqX0_cutInto_3 11 rfl) (bq_in kqX0_cutInto_3 12 rfl) rfl
theorem dX0_cutInto_109 : decode cX0_cutInto 109 = .ok (.goto (-53), 3) := oq_167 (bq_in kqX0_cutInto_3 13 rfl) (bq_in kqX0_cutInto_3 14 rfl) (bq_in kqX0_cutInto_3 15 rfl) rfl
theorem dX0_cutInto_112 : decode cX0_cutInto 112 = .ok (.aload_n 0, 1) := oq_42 (bq_in kqX0_cutInto_3 16 rfl)
theorem dX0_cutInto_113 : decode cX0_cutInto 113 = .ok (.invokevirtual 91, 3) := oq_182 (bq_in kqX0_cutInto_3 17 rfl) (bq_in kqX0_cutInto_3 18 rfl) (bq_in kqX0_cutInto_3 19 rfl) rfl
theorem dX0_cutInto_116 : decode cX0_cutInto 116 = .ok (.aload_n 1, 1) := oq_43 (bq_in kqX0_cutInto_3 20 rfl)
theorem dX0_cutInto_117 : decode cX0_cutInto 117 = .ok (.invokevirtual 91, 3) := oq_182 (bq_in kqX0_cutInto_3 21 rfl) (bq_in kqX0_cutInto_3 22 rfl) (bq_in kqX0_cutInto_3 23 rfl) rfl
theorem dX0_cutInto_120 : decode cX0_cutInto 120 = .ok (.return_, 1) := oq_177 (bq_in kqX0_cutInto_3 24 rfl)
theorem kqX0_keyFrom_0 : ((cX0_keyFrom.data.toList.drop 0).take 34).map UInt8.toNat = [42, 180, 0, 45, 2, 159, 0, 11, 27, 42, 180, 0, 55, 164, 0, 5, 2, 172, 27, 42, 180, 0, 45, 163, 0, 10, 42, 180, 0, 45, 167, 0, 11, 42] := by decide +kernel
theorem dX0_keyFrom_0 : decode cX0_keyFrom 0 = .ok (.aload_n 0, 1) := oq_42 (bq_in kqX0_keyFrom_0 0 rfl)
theorem dX0_keyFrom_1 : decode cX0_keyFrom 1 = .ok (.getfield 45, 3) := oq_180 (bq_in kqX0_keyFrom_0 1 rfl) (bq_in kqX0_keyFrom_0 2 rfl) (bq_in kqX0_keyFrom_0 3 rfl) rfl
theorem dX0_keyFrom_4 : decode cX0_keyFrom 4 = .ok (.iconst (-1), 1) := oq_2 (bq_in kqX0_keyFrom_0 4 rfl)
theorem dX0_keyFrom_5 : decode cX0_keyFrom 5 = .ok (.if_icmp .eq 11, 3) := oq_159 (bq_in kqX0_keyFrom_0 5 rfl) (bq_in kqX0_keyFrom_0 6 rfl) (bq_in kqX0_keyFrom_0 7 rfl) rfl
theorem dX0_keyFrom_8 : decode cX0_keyFrom 8 = .ok (.iload_n 1, 1) := oq_27 (bq_in kqX0_keyFrom_0 8 rfl)
theorem dX0_keyFrom_9 : decode cX0_keyFrom 9 = .ok (.aload_n 0, 1) := oq_42 (bq_in kqX0_keyFrom_0 9 rfl)
theorem dX0_keyFrom_10 : decode cX0_keyFrom 10 = .ok (.getfield 55, 3) := oq_180 (bq_in kqX0_keyFrom_0 10 rfl) (bq_in kqX0_keyFrom_0 11 rfl) (bq_in kqX0_keyFrom_0 12 rfl) rfl
theorem dX0_keyFrom_13 : decode cX0_keyFrom 13 = .ok (.if_icmp .le 5, 3) := oq_164 (bq_in kqX0_keyFrom_0 13 rfl) (bq_in kqX0_keyFrom_0 14 rfl) (bq_in kqX0_keyFrom_0 15 rfl) rfl
theorem dX0_keyFrom_16 : decode cX0_keyFrom 16 = .ok (.iconst (-1), 1) := oq_2 (bq_in kqX0_keyFrom_0 16 rfl)
theorem dX0_keyFrom_17 : decode cX0_keyFrom 17 = .ok (.ireturn, 1) := oq_172 (bq_in kqX0_keyFrom_0 17 rfl)
theorem dX0_keyFrom_18 : decode cX0_keyFrom 18 = .ok (.iload_n 1, 1) := oq_27 (bq_in kqX0_keyFrom_0 18 rfl)
theorem dX0_keyFrom_19 : decode cX0_keyFrom 19 = .ok (.aload_n 0, 1) := oq_42 (bq_in kqX0_keyFrom_0 19 rfl)
theorem dX0_keyFrom_20 : decode cX0_keyFrom 20 = .ok (.getfield 45, 3) := oq_180 (bq_in kqX0_keyFrom_0 20 rfl) (bq_in kqX0_keyFrom_0 21 rfl) (bq_in kqX0_keyFrom_0 22 rfl) rfl
theorem dX0_keyFrom_23 : decode cX0_keyFrom 23 = .ok (.if_icmp .gt 10, 3) := oq_163 (bq_in kqX0_keyFrom_0 23 rfl) (bq_in kqX0_keyFrom_0 24 rfl) (bq_in kqX0_keyFrom_0 25 rfl) rfl
theorem dX0_keyFrom_26 : decode cX0_keyFrom 26 = .ok (.aload_n 0, 1) := oq_42 (bq_in kqX0_keyFrom_0 26 rfl)
theorem dX0_keyFrom_27 : decode cX0_keyFrom 27 = .ok (.getfield 45, 3) := oq_180 (bq_in kqX0_keyFrom_0 27 rfl) (bq_in kqX0_keyFrom_0 28 rfl) (bq_in kqX0_keyFrom_0 29 rfl) rfl
theorem dX0_keyFrom_30 : decode cX0_keyFrom 30 = .ok (.goto 11, 3) := oq_167 (bq_in kqX0_keyFrom_0 30 rfl) (bq_in kqX0_keyFrom_0 31 rfl) (bq_in kqX0_keyFrom_0 32 rfl) rfl
theorem kqX0_keyFrom_1 : ((cX0_keyFrom.data.toList.drop 32).take 34).map UInt8.toNat = [11, 42, 180, 0, 18, 27, 182, 0, 41, 172] := by decide +kernel
theorem dX0_keyFrom_33 : decode cX0_keyFrom 33 = .ok (.aload_n 0, 1) := oq_42 (bq_in kqX0_keyFrom_1 1 rfl)
theorem dX0_keyFrom_34 : decode cX0_keyFrom 34 = .ok (.getfield 18, 3) := oq_180 (bq_in kqX0_keyFrom_1 2 rfl) (bq_in kqX0_keyFrom_1 3 rfl) (bq_in kqX0_keyFrom_1 4 rfl) rfl
theorem dX0_keyFrom_37 : decode cX0_keyFrom 37 = .ok (.iload_n 1, 1) := oq_27 (bq_in kqX0_keyFrom_1 5 rfl)
theorem dX0_keyFrom_38 : decode cX0_keyFrom 38 = .ok (.invokevirtual 41, 3) := oq_182 (bq_in kqX0_keyFrom_1 6 rfl) (bq_in kqX0_keyFrom_1 7 rfl) (bq_in kqX0_keyFrom_1 8 rfl) rfl
theorem dX0_keyFrom_41 : decode cX0_keyFrom 41 = .ok (.ireturn, 1) := oq_172 (bq_in kqX0_keyFrom_1 9 rfl)
theorem kqX0_keyTo_0 : ((cX0_keyTo.data.toList.drop 0).take 34).map UInt8.toNat = [42, 180, 0, 45, 2, 159, 0, 11, 27, 42, 180, 0, 45, 162, 0, 5, 2, 172, 27, 42, 180, 0, 55, 161, 0, 10, 42, 180, 0, 55, 167, 0, 11, 42] := by decide +kernel
theorem dX0_keyTo_0 : decode cX0_keyTo 0 = .ok (.aload_n 0, 1) := oq_42 (bq_in kqX0_keyTo_0 0 rfl)
theorem dX0_keyTo_1 : decode cX0_keyTo 1 = .ok (.getfield 45, 3) := oq_180 (bq_in kqX0_keyTo_0 1 rfl) (bq_in kqX0_keyTo_0 2 rfl) (bq_in kqX0_keyTo_0 3 rfl) rfl
theorem dX0_keyTo_4 : decode cX0_keyTo 4 = .ok (.iconst (-1), 1) := oq_2 (bq_in kqX0_keyTo_0 4 rfl)
theorem dX0_keyTo_5 : decode cX0_keyTo 5 = .ok (.if_icmp .eq 11, 3) := oq_159 (bq_in kqX0_keyTo_0 5 rfl) (bq_in kqX0_keyTo_0 6 rfl) (bq_in kqX0_keyTo_0 7 rfl) rfl
theorem dX0_keyTo_8 : decode cX0_keyTo 8 = .ok (.iload_n 1, 1) := oq_27 (bq_in kqX0_keyTo_0 8 rfl)
theorem dX0_keyTo_9 : decode cX0_keyTo 9 = .ok (.aload_n 0, 1) := oq_42 (bq_in kqX0_keyTo_0 9 rfl)
theorem dX0_keyTo_10 : decode cX0_keyTo 10 = .ok (.getfield 45, 3) := oq_180 (bq_in kqX0_keyTo_0 10 rfl) (bq_in kqX0_keyTo_0 11 rfl) (bq_in kqX0_keyTo_0 12 rfl) rfl
theorem dX0_keyTo_13 : decode cX0_keyTo 13 = .ok (.if_icmp .ge 5, 3) := oq_162 (bq_in kqX0_keyTo_0 13 rfl) (bq_in kqX0_keyTo_0 14 rfl) (bq_in kqX0_keyTo_0 15 rfl) rfl
theorem dX0_keyTo_16 : decode cX0_keyTo 16 = .ok (.iconst (-1), 1) := oq_2 (bq_in kqX0_keyTo_0 16 rfl)
theorem dX0_keyTo_17 : decode cX0_keyTo 17 = .ok (.ireturn, 1) := oq_172 (bq_in kqX0_keyTo_0 17 rfl)
theorem dX0_keyTo_18 : decode cX0_keyTo 18 = .ok (.iload_n 1, 1) := oq_27 (bq_in kqX0_keyTo_0 18 rfl)
theorem dX0_keyTo_19 : decode cX0_keyTo 19 = .ok (.aload_n 0, 1) := oq_42 (bq_in kqX0_keyTo_0 19 rfl)
theorem dX0_keyTo_20 : decode cX0_keyTo 20 = .ok (.getfield 55, 3) := oq_180 (bq_in kqX0_keyTo_0 20 rfl) (bq_in kqX0_keyTo_0 21 rfl) (bq_in kqX0_keyTo_0 22 rfl) rfl
theorem dX0_keyTo_23 : decode cX0_keyTo 23 = .ok (.if_icmp .lt 10, 3) := oq_161 (bq_in kqX0_keyTo_0 23 rfl) (bq_in kqX0_keyTo_0 24 rfl) (bq_in kqX0_keyTo_0 25 rfl) rfl
theorem dX0_keyTo_26 : decode cX0_keyTo 26 = .ok (.aload_n 0, 1) := oq_42 (bq_in kqX0_keyTo_0 26 rfl)
theorem dX0_keyTo_27 : decode cX0_keyTo 27 = .ok (.getfield 55, 3) := oq_180 (bq_in kqX0_keyTo_0 27 rfl) (bq_in kqX0_keyTo_0 28 rfl) (bq_in kqX0_keyTo_0 29 rfl) rfl
theorem dX0_keyTo_30 : decode cX0_keyTo 30 = .ok (.goto 11, 3) := oq_167 (bq_in kqX0_keyTo_0 30 rfl) (bq_in kqX0_keyTo_0 31 rfl) (bq_in kqX0_keyTo_0 32 rfl) rfl
theorem kqX0_keyTo_1 : ((cX0_keyTo.data.toList.drop 32).take 34).map UInt8.toNat = [11, 42, 180, 0, 18, 27, 182, 0, 48, 172] := by decide +kernel
theorem dX0_keyTo_33 : decode cX0_keyTo 33 = .ok (.aload_n 0, 1) := oq_42 (bq_in kqX0_keyTo_1 1 rfl)
theorem dX0_keyTo_34 : decode cX0_keyTo 34 = .ok (.getfield 18, 3) := oq_180 (bq_in kqX0_keyTo_1 2 rfl) (bq_in kqX0_keyTo_1 3 rfl) (bq_in kqX0_keyTo_1 4 rfl) rfl
theorem dX0_keyTo_37 : decode cX0_keyTo 37 = .ok (.iload_n 1, 1) := oq_27 (bq_in kqX0_keyTo_1 5 rfl)
theorem dX0_keyTo_38 : decode cX0_keyTo 38 = .ok (.invokevirtual 48, 3) := oq_182 (bq_in kqX0_keyTo_1 6 rfl) (bq_in kqX0_keyTo_1 7 rfl) (bq_in kqX0_keyTo_1 8 rfl) rfl
theorem dX0_keyTo_41 : decode cX0_keyTo 41 = .ok (.ireturn, 1) := oq_172 (bq_in kqX0_keyTo_1 9 rfl)
theorem kqX0_isKey_0 : ((cX0_isKey.data.toList.drop 0).take 34).map UInt8.toNat = [27, 184, 0, 94, 153, 0, 16, 42, 27, 182, 0, 98, 27, 160, 0, 7, 4, 167, 0, 4, 3, 172] := by decide +kernel
theorem dX0_isKey_0 : decode cX0_isKey 0 = .ok (.iload_n 1, 1) := oq_27 (bq_in kqX0_isKey_0 0 rfl)
theorem dX0_isKey_1 : decode cX0_isKey 1 = .ok (.invokestatic 94, 3) := oq_184 (bq_in kqX0_isKey_0 1 rfl) (bq_in kqX0_isKey_0 2 rfl) (bq_in kqX0_isKey_0 3 rfl) rfl
theorem dX0_isKey_4 : decode cX0_isKey 4 = .ok (.ifCond .eq 16, 3) := oq_153 (bq_in kqX0_isKey_0 4 rfl) (bq_in kqX0_isKey_0 5 rfl) (bq_in kqX0_isKey_0 6 rfl) rfl
theorem dX0_isKey_7 : decode cX0_isKey 7 = .ok (.aload_n 0, 1) := oq_42 (bq_in kqX0_isKey_0 7 rfl)
theorem dX0_isKey_8 : decode cX0_isKey 8 = .ok (.iload_n 1, 1) := oq_27 (bq_in kqX0_isKey_0 8 rfl)
theorem dX0_isKey_9 : decode cX0_isKey 9 = .ok (.invokevirtual 98, 3) := oq_182 (bq_in kqX0_isKey_0 9 rfl) (bq_in kqX0_isKey_0 10 rfl) (bq_in kqX0_isKey_0 11 rfl) rfl
theorem dX0_isKey_12 : decode cX0_isKey 12 = .ok (.iload_n 1, 1) := oq_27 (bq_in kqX0_isKey_0 12 rfl)
theorem dX0_isKey_13 : decode cX0_isKey 13 = .ok (.if_icmp .ne 7, 3) := oq_160 (bq_in kqX0_isKey_0 13 rfl) (bq_in kqX0_isKey_0 14 rfl) (bq_in kqX0_isKey_0 15 rfl) rfl
theorem dX0_isKey_16 : decode cX0_isKey 16 = .ok (.iconst 1, 1) := oq_4 (bq_in kqX0_isKey_0 16 rfl)
theorem dX0_isKey_17 : decode cX0_isKey 17 = .ok (.goto 4, 3) := oq_167 (bq_in kqX0_isKey_0 17 rfl) (bq_in kqX0_isKey_0 18 rfl) (bq_in kqX0_isKey_0 19 rfl) rfl
theorem dX0_isKey_20 : decode cX0_isKey 20 = .ok (.iconst 0, 1) := oq_3 (bq_in kqX0_isKey_0 20 rfl)
theorem dX0_isKey_21 : decode cX0_isKey 21 = .ok (.ireturn, 1) := oq_172 (bq_in kqX0_isKey_0 21 rfl)
theorem kqX0_keysIn_0 : ((cX0_keysIn.data.toList.drop 0).take 34).map UInt8.toNat = [27, 42, 180, 0, 45, 184, 0, 101, 62, 28, 42, 180, 0, 55, 184, 0, 106, 54, 4, 42, 180, 0, 45, 2, 159, 0, 9, 29, 21, 4, 164, 0, 7, 3] := by decide +kernel
theorem dX0_keysIn_0 : decode cX0_keysIn 0 = .ok (.iload_n 1, 1) := oq_27 (bq_in kqX0_keysIn_0 0 rfl)
theorem dX0_keysIn_1 : decode cX0_keysIn 1 = .ok (.aload_n 0, 1) := oq_42 (bq_in kqX0_keysIn_0 1 rfl)
theorem dX0_keysIn_2 : decode cX0_keysIn 2 = .ok (.getfield 45, 3) := oq_180 (bq_in kqX0_keysIn_0 2 rfl) (bq_in kqX0_keysIn_0 3 rfl) (bq_in kqX0_keysIn_0 4 rfl) rfl
theorem dX0_keysIn_5 : decode cX0_keysIn 5 = .ok (.invokestatic 101, 3) := oq_184 (bq_in kqX0_keysIn_0 5 rfl) (bq_in kqX0_keysIn_0 6 rfl) (bq_in kqX0_keysIn_0 7 rfl) rfl
theorem dX0_keysIn_8 : decode cX0_keysIn 8 = .ok (.istore_n 3, 1) := oq_62 (bq_in kqX0_keysIn_0 8 rfl)
theorem dX0_keysIn_9 : decode cX0_keysIn 9 = .ok (.iload_n 2, 1) := oq_28 (bq_in kqX0_keysIn_0 9 rfl)
theorem dX0_keysIn_10 : decode cX0_keysIn 10 = .ok (.aload_n 0, 1) := oq_42 (bq_in kqX0_keysIn_0 10 rfl)
theorem dX0_keysIn_11 : decode cX0_keysIn 11 = .ok (.getfield 55, 3) := oq_180 (bq_in kqX0_keysIn_0 11 rfl) (bq_in kqX0_keysIn_0 12 rfl) (bq_in kqX0_keysIn_0 13 rfl) rfl
theorem dX0_keysIn_14 : decode cX0_keysIn 14 = .ok (.invokestatic 106, 3) := oq_184 (bq_in kqX0_keysIn_0 14 rfl) (bq_in kqX0_keysIn_0 15 rfl) (bq_in kqX0_keysIn_0 16 rfl) rfl
theorem dX0_keysIn_17 : decode cX0_keysIn 17 = .ok (.istore 4, 2) := oq_54 (bq_in kqX0_keysIn_0 17 rfl) (bq_in kqX0_keysIn_0 18 rfl)
theorem dX0_keysIn_19 : decode cX0_keysIn 19 = .ok (.aload_n 0, 1) := oq_42 (bq_in kqX0_keysIn_0 19 rfl)
theorem dX0_keysIn_20 : decode cX0_keysIn 20 = .ok (.getfield 45, 3) := oq_180 (bq_in kqX0_keysIn_0 20 rfl) (bq_in kqX0_keysIn_0 21 rfl) (bq_in kqX0_keysIn_0 22 rfl) rfl
theorem dX0_keysIn_23 : decode cX0_keysIn 23 = .ok (.iconst (-1), 1) := oq_2 (bq_in kqX0_keysIn_0 23 rfl)
theorem dX0_keysIn_24 : decode cX0_keysIn 24 = .ok (.if_icmp .eq 9, 3) := oq_159 (bq_in kqX0_keysIn_0 24 rfl) (bq_in kqX0_keysIn_0 25 rfl) (bq_in kqX0_keysIn_0 26 rfl) rfl
theorem dX0_keysIn_27 : decode cX0_keysIn 27 = .ok (.iload_n 3, 1) := oq_29 (bq_in kqX0_keysIn_0 27 rfl)
theorem dX0_keysIn_28 : decode cX0_keysIn 28 = .ok (.iload 4, 2) := oq_21 (bq_in kqX0_keysIn_0 28 rfl) (bq_in kqX0_keysIn_0 29 rfl)
theorem dX0_keysIn_30 : decode cX0_keysIn 30 = .ok (.if_icmp .le 7, 3) := oq_164 (bq_in kqX0_keysIn_0 30 rfl) (bq_in kqX0_keysIn_0 31 rfl) (bq_in kqX0_keysIn_0 32 rfl) rfl
theorem kqX0_keysIn_1 : ((cX0_keysIn.data.toList.drop 32).take 34).map UInt8.toNat = [7, 3, 167, 0, 13, 42, 180, 0, 18, 29, 21, 4, 182, 0, 58, 172] := by decide +kernel
theorem dX0_keysIn_33 : decode cX0_keysIn 33 = .ok (.iconst 0, 1) := oq_3 (bq_in kqX0_keysIn_1 1 rfl)
theorem dX0_keysIn_34 : decode cX0_keysIn 34 = .ok (.goto 13, 3) := oq_167 (bq_in kqX0_keysIn_1 2 rfl) (bq_in kqX0_keysIn_1 3 rfl) (bq_in kqX0_keysIn_1 4 rfl) rfl
theorem dX0_keysIn_37 : decode cX0_keysIn 37 = .ok (.aload_n 0, 1) := oq_42 (bq_in kqX0_keysIn_1 5 rfl)
theorem dX0_keysIn_38 : decode cX0_keysIn 38 = .ok (.getfield 18, 3) := oq_180 (bq_in kqX0_keysIn_1 6 rfl) (bq_in kqX0_keysIn_1 7 rfl) (bq_in kqX0_keysIn_1 8 rfl) rfl
theorem dX0_keysIn_41 : decode cX0_keysIn 41 = .ok (.iload_n 3, 1) := oq_29 (bq_in kqX0_keysIn_1 9 rfl)
theorem dX0_keysIn_42 : decode cX0_keysIn 42 = .ok (.iload 4, 2) := oq_21 (bq_in kqX0_keysIn_1 10 rfl) (bq_in kqX0_keysIn_1 11 rfl)
theorem dX0_keysIn_44 : decode cX0_keysIn 44 = .ok (.invokevirtual 58, 3) := oq_182 (bq_in kqX0_keysIn_1 12 rfl) (bq_in kqX0_keysIn_1 13 rfl) (bq_in kqX0_keysIn_1 14 rfl) rfl
theorem dX0_keysIn_47 : decode cX0_keysIn 47 = .ok (.ireturn, 1) := oq_172 (bq_in kqX0_keysIn_1 15 rfl)
theorem kqX0_timeOf_0 : ((cX0_timeOf.data.toList.drop 0).take 34).map UInt8.toNat = [27, 17, 5, 160, 104, 42, 180, 0, 68, 96, 172] := by decide +kernel
theorem dX0_timeOf_0 : decode cX0_timeOf 0 = .ok (.iload_n 1, 1) := oq_27 (bq_in kqX0_timeOf_0 0 rfl)
theorem dX0_timeOf_1 : decode cX0_timeOf 1 = .ok (.sipush 1440, 3) := oq_17 (bq_in kqX0_timeOf_0 1 rfl) (bq_in kqX0_timeOf_0 2 rfl) (bq_in kqX0_timeOf_0 3 rfl) rfl
theorem dX0_timeOf_4 : decode cX0_timeOf 4 = .ok (.imul, 1) := oq_104 (bq_in kqX0_timeOf_0 4 rfl)
theorem dX0_timeOf_5 : decode cX0_timeOf 5 = .ok (.aload_n 0, 1) := oq_42 (bq_in kqX0_timeOf_0 5 rfl)
theorem dX0_timeOf_6 : decode cX0_timeOf 6 = .ok (.getfield 68, 3) := oq_180 (bq_in kqX0_timeOf_0 6 rfl) (bq_in kqX0_timeOf_0 7 rfl) (bq_in kqX0_timeOf_0 8 rfl) rfl
theorem dX0_timeOf_9 : decode cX0_timeOf 9 = .ok (.iadd, 1) := oq_96 (bq_in kqX0_timeOf_0 9 rfl)
theorem dX0_timeOf_10 : decode cX0_timeOf 10 = .ok (.ireturn, 1) := oq_172 (bq_in kqX0_timeOf_0 10 rfl)
theorem kqX0_changeOf_0 : ((cX0_changeOf.data.toList.drop 0).take 34).map UInt8.toNat = [3, 61, 28, 42, 180, 0, 37, 162, 0, 21, 42, 180, 0, 9, 28, 46, 27, 160, 0, 5, 28, 172, 132, 2, 1, 167, 255, 233, 2, 172] := by decide +kernel
theorem dX0_changeOf_0 : decode cX0_changeOf 0 = .ok (.iconst 0, 1) := oq_3 (bq_in kqX0_changeOf_0 0 rfl)
theorem dX0_changeOf_1 : decode cX0_changeOf 1 = .ok (.istore_n 2, 1) := oq_61 (bq_in kqX0_changeOf_0 1 rfl)
theorem dX0_changeOf_2 : decode cX0_changeOf 2 = .ok (.iload_n 2, 1) := oq_28 (bq_in kqX0_changeOf_0 2 rfl)
theorem dX0_changeOf_3 : decode cX0_changeOf 3 = .ok (.aload_n 0, 1) := oq_42 (bq_in kqX0_changeOf_0 3 rfl)
theorem dX0_changeOf_4 : decode cX0_changeOf 4 = .ok (.getfield 37, 3) := oq_180 (bq_in kqX0_changeOf_0 4 rfl) (bq_in kqX0_changeOf_0 5 rfl) (bq_in kqX0_changeOf_0 6 rfl) rfl
theorem dX0_changeOf_7 : decode cX0_changeOf 7 = .ok (.if_icmp .ge 21, 3) := oq_162 (bq_in kqX0_changeOf_0 7 rfl) (bq_in kqX0_changeOf_0 8 rfl) (bq_in kqX0_changeOf_0 9 rfl) rfl
theorem dX0_changeOf_10 : decode cX0_changeOf 10 = .ok (.aload_n 0, 1) := oq_42 (bq_in kqX0_changeOf_0 10 rfl)
theorem dX0_changeOf_11 : decode cX0_changeOf 11 = .ok (.getfield 9, 3) := oq_180 (bq_in kqX0_changeOf_0 11 rfl) (bq_in kqX0_changeOf_0 12 rfl) (bq_in kqX0_changeOf_0 13 rfl) rfl
theorem dX0_changeOf_14 : decode cX0_changeOf 14 = .ok (.iload_n 2, 1) := oq_28 (bq_in kqX0_changeOf_0 14 rfl)
theorem dX0_changeOf_15 : decode cX0_changeOf 15 = .ok (.iaload, 1) := oq_46 (bq_in kqX0_changeOf_0 15 rfl)
theorem dX0_changeOf_16 : decode cX0_changeOf 16 = .ok (.iload_n 1, 1) := oq_27 (bq_in kqX0_changeOf_0 16 rfl)
theorem dX0_changeOf_17 : decode cX0_changeOf 17 = .ok (.if_icmp .ne 5, 3) := oq_160 (bq_in kqX0_changeOf_0 17 rfl) (bq_in kqX0_changeOf_0 18 rfl) (bq_in kqX0_changeOf_0 19 rfl) rfl
theorem dX0_changeOf_20 : decode cX0_changeOf 20 = .ok (.iload_n 2, 1) := oq_28 (bq_in kqX0_changeOf_0 20 rfl)
theorem dX0_changeOf_21 : decode cX0_changeOf 21 = .ok (.ireturn, 1) := oq_172 (bq_in kqX0_changeOf_0 21 rfl)
theorem dX0_changeOf_22 : decode cX0_changeOf 22 = .ok (.iinc 2 1, 3) := oq_132 (bq_in kqX0_changeOf_0 22 rfl) (bq_in kqX0_changeOf_0 23 rfl) (bq_in kqX0_changeOf_0 24 rfl) rfl
theorem dX0_changeOf_25 : decode cX0_changeOf 25 = .ok (.goto (-23), 3) := oq_167 (bq_in kqX0_changeOf_0 25 rfl) (bq_in kqX0_changeOf_0 26 rfl) (bq_in kqX0_changeOf_0 27 rfl) rfl
theorem dX0_changeOf_28 : decode cX0_changeOf 28 = .ok (.iconst (-1), 1) := oq_2 (bq_in kqX0_changeOf_0 28 rfl)
theorem dX0_changeOf_29 : decode cX0_changeOf 29 = .ok (.ireturn, 1) := oq_172 (bq_in kqX0_changeOf_0 29 rfl)
theorem kqX0_isDropped_0 : ((cX0_isDropped.data.toList.drop 0).take 34).map UInt8.toNat = [42, 27, 182, 0, 109, 61, 28, 2, 159, 0, 17, 42, 180, 0, 15, 28, 46, 2, 160, 0, 7, 4, 167, 0, 4, 3, 172] := by decide +kernel
theorem dX0_isDropped_0 : decode cX0_isDropped 0 = .ok (.aload_n 0, 1) := oq_42 (bq_in kqX0_isDropped_0 0 rfl)
theorem dX0_isDropped_1 : decode cX0_isDropped 1 = .ok (.iload_n 1, 1) := oq_27 (bq_in kqX0_isDropped_0 1 rfl)
theorem dX0_isDropped_2 : decode cX0_isDropped 2 = .ok (.invokevirtual 109, 3) := oq_182 (bq_in kqX0_isDropped_0 2 rfl) (bq_in kqX0_isDropped_0 3 rfl) (bq_in kqX0_isDropped_0 4 rfl) rfl
theorem dX0_isDropped_5 : decode cX0_isDropped 5 = .ok (.istore_n 2, 1) := oq_61 (bq_in kqX0_isDropped_0 5 rfl)
theorem dX0_isDropped_6 : decode cX0_isDropped 6 = .ok (.iload_n 2, 1) := oq_28 (bq_in kqX0_isDropped_0 6 rfl)
theorem dX0_isDropped_7 : decode cX0_isDropped 7 = .ok (.iconst (-1), 1) := oq_2 (bq_in kqX0_isDropped_0 7 rfl)
theorem dX0_isDropped_8 : decode cX0_isDropped 8 = .ok (.if_icmp .eq 17, 3) := oq_159 (bq_in kqX0_isDropped_0 8 rfl) (bq_in kqX0_isDropped_0 9 rfl) (bq_in kqX0_isDropped_0 10 rfl) rfl
theorem dX0_isDropped_11 : decode cX0_isDropped 11 = .ok (.aload_n 0, 1) := oq_42 (bq_in kqX0_isDropped_0 11 rfl)
theorem dX0_isDropped_12 : decode cX0_isDropped 12 = .ok (.getfield 15, 3) := oq_180 (bq_in kqX0_isDropped_0 12 rfl) (bq_in kqX0_isDropped_0 13 rfl) (bq_in kqX0_isDropped_0 14 rfl) rfl
theorem dX0_isDropped_15 : decode cX0_isDropped 15 = .ok (.iload_n 2, 1) := oq_28 (bq_in kqX0_isDropped_0 15 rfl)
theorem dX0_isDropped_16 : decode cX0_isDropped 16 = .ok (.iaload, 1) := oq_46 (bq_in kqX0_isDropped_0 16 rfl)
theorem dX0_isDropped_17 : decode cX0_isDropped 17 = .ok (.iconst (-1), 1) := oq_2 (bq_in kqX0_isDropped_0 17 rfl)
theorem dX0_isDropped_18 : decode cX0_isDropped 18 = .ok (.if_icmp .ne 7, 3) := oq_160 (bq_in kqX0_isDropped_0 18 rfl) (bq_in kqX0_isDropped_0 19 rfl) (bq_in kqX0_isDropped_0 20 rfl) rfl
theorem dX0_isDropped_21 : decode cX0_isDropped 21 = .ok (.iconst 1, 1) := oq_4 (bq_in kqX0_isDropped_0 21 rfl)
theorem dX0_isDropped_22 : decode cX0_isDropped 22 = .ok (.goto 4, 3) := oq_167 (bq_in kqX0_isDropped_0 22 rfl) (bq_in kqX0_isDropped_0 23 rfl) (bq_in kqX0_isDropped_0 24 rfl) rfl
theorem dX0_isDropped_25 : decode cX0_isDropped 25 = .ok (.iconst 0, 1) := oq_3 (bq_in kqX0_isDropped_0 25 rfl)
theorem dX0_isDropped_26 : decode cX0_isDropped 26 = .ok (.ireturn, 1) := oq_172 (bq_in kqX0_isDropped_0 26 rfl)
theorem kqX0_change_0 : ((cX0_change.data.toList.drop 0).take 34).map UInt8.toNat = [42, 27, 182, 0, 109, 62, 29, 2, 160, 0, 29, 42, 180, 0, 37, 16, 16, 161, 0, 5, 3, 172, 42, 180, 0, 37, 62, 42, 89, 180, 0, 37, 4, 96] := by decide +kernel
theorem dX0_change_0 : decode cX0_change 0 = .ok (.aload_n 0, 1) := oq_42 (bq_in kqX0_change_0 0 rfl)
theorem dX0_change_1 : decode cX0_change 1 = .ok (.iload_n 1, 1) := oq_27 (bq_in kqX0_change_0 1 rfl)
theorem dX0_change_2 : decode cX0_change 2 = .ok (.invokevirtual 109, 3) := oq_182 (bq_in kqX0_change_0 2 rfl) (bq_in kqX0_change_0 3 rfl) (bq_in kqX0_change_0 4 rfl) rfl
theorem dX0_change_5 : decode cX0_change 5 = .ok (.istore_n 3, 1) := oq_62 (bq_in kqX0_change_0 5 rfl)
theorem dX0_change_6 : decode cX0_change 6 = .ok (.iload_n 3, 1) := oq_29 (bq_in kqX0_change_0 6 rfl)
theorem dX0_change_7 : decode cX0_change 7 = .ok (.iconst (-1), 1) := oq_2 (bq_in kqX0_change_0 7 rfl)
theorem dX0_change_8 : decode cX0_change 8 = .ok (.if_icmp .ne 29, 3) := oq_160 (bq_in kqX0_change_0 8 rfl) (bq_in kqX0_change_0 9 rfl) (bq_in kqX0_change_0 10 rfl) rfl
theorem dX0_change_11 : decode cX0_change 11 = .ok (.aload_n 0, 1) := oq_42 (bq_in kqX0_change_0 11 rfl)
theorem dX0_change_12 : decode cX0_change 12 = .ok (.getfield 37, 3) := oq_180 (bq_in kqX0_change_0 12 rfl) (bq_in kqX0_change_0 13 rfl) (bq_in kqX0_change_0 14 rfl) rfl
theorem dX0_change_15 : decode cX0_change 15 = .ok (.bipush 16, 2) := oq_16 (bq_in kqX0_change_0 15 rfl) (bq_in kqX0_change_0 16 rfl) rfl
theorem dX0_change_17 : decode cX0_change 17 = .ok (.if_icmp .lt 5, 3) := oq_161 (bq_in kqX0_change_0 17 rfl) (bq_in kqX0_change_0 18 rfl) (bq_in kqX0_change_0 19 rfl) rfl
theorem dX0_change_20 : decode cX0_change 20 = .ok (.iconst 0, 1) := oq_3 (bq_in kqX0_change_0 20 rfl)
theorem dX0_change_21 : decode cX0_change 21 = .ok (.ireturn, 1) := oq_172 (bq_in kqX0_change_0 21 rfl)
theorem dX0_change_22 : decode cX0_change 22 = .ok (.aload_n 0, 1) := oq_42 (bq_in kqX0_change_0 22 rfl)
theorem dX0_change_23 : decode cX0_change 23 = .ok (.getfield 37, 3) := oq_180 (bq_in kqX0_change_0 23 rfl) (bq_in kqX0_change_0 24 rfl) (bq_in kqX0_change_0 25 rfl) rfl
theorem dX0_change_26 : decode cX0_change 26 = .ok (.istore_n 3, 1) := oq_62 (bq_in kqX0_change_0 26 rfl)
theorem dX0_change_27 : decode cX0_change 27 = .ok (.aload_n 0, 1) := oq_42 (bq_in kqX0_change_0 27 rfl)
theorem dX0_change_28 : decode cX0_change 28 = .ok (.dup, 1) := oq_89 (bq_in kqX0_change_0 28 rfl)
theorem dX0_change_29 : decode cX0_change 29 = .ok (.getfield 37, 3) := oq_180 (bq_in kqX0_change_0 29 rfl) (bq_in kqX0_change_0 30 rfl) (bq_in kqX0_change_0 31 rfl) rfl
theorem kqX0_change_1 : ((cX0_change.data.toList.drop 32).take 34).map UInt8.toNat = [4, 96, 181, 0, 37, 42, 180, 0, 9, 29, 27, 79, 42, 180, 0, 15, 29, 28, 79, 4, 172] := by decide +kernel
theorem dX0_change_32 : decode cX0_change 32 = .ok (.iconst 1, 1) := oq_4 (bq_in kqX0_change_1 0 rfl)
theorem dX0_change_33 : decode cX0_change 33 = .ok (.iadd, 1) := oq_96 (bq_in kqX0_change_1 1 rfl)
theorem dX0_change_34 : decode cX0_change 34 = .ok (.putfield 37, 3) := oq_181 (bq_in kqX0_change_1 2 rfl) (bq_in kqX0_change_1 3 rfl) (bq_in kqX0_change_1 4 rfl) rfl
theorem dX0_change_37 : decode cX0_change 37 = .ok (.aload_n 0, 1) := oq_42 (bq_in kqX0_change_1 5 rfl)
theorem dX0_change_38 : decode cX0_change 38 = .ok (.getfield 9, 3) := oq_180 (bq_in kqX0_change_1 6 rfl) (bq_in kqX0_change_1 7 rfl) (bq_in kqX0_change_1 8 rfl) rfl
theorem dX0_change_41 : decode cX0_change 41 = .ok (.iload_n 3, 1) := oq_29 (bq_in kqX0_change_1 9 rfl)
theorem dX0_change_42 : decode cX0_change 42 = .ok (.iload_n 1, 1) := oq_27 (bq_in kqX0_change_1 10 rfl)
theorem dX0_change_43 : decode cX0_change 43 = .ok (.iastore, 1) := oq_79 (bq_in kqX0_change_1 11 rfl)
theorem dX0_change_44 : decode cX0_change 44 = .ok (.aload_n 0, 1) := oq_42 (bq_in kqX0_change_1 12 rfl)
theorem dX0_change_45 : decode cX0_change 45 = .ok (.getfield 15, 3) := oq_180 (bq_in kqX0_change_1 13 rfl) (bq_in kqX0_change_1 14 rfl) (bq_in kqX0_change_1 15 rfl) rfl
theorem dX0_change_48 : decode cX0_change 48 = .ok (.iload_n 3, 1) := oq_29 (bq_in kqX0_change_1 16 rfl)
theorem dX0_change_49 : decode cX0_change 49 = .ok (.iload_n 2, 1) := oq_28 (bq_in kqX0_change_1 17 rfl)
theorem dX0_change_50 : decode cX0_change 50 = .ok (.iastore, 1) := oq_79 (bq_in kqX0_change_1 18 rfl)
theorem dX0_change_51 : decode cX0_change 51 = .ok (.iconst 1, 1) := oq_4 (bq_in kqX0_change_1 19 rfl)
theorem dX0_change_52 : decode cX0_change 52 = .ok (.ireturn, 1) := oq_172 (bq_in kqX0_change_1 20 rfl)
theorem kqX0_undoChange_0 : ((cX0_undoChange.data.toList.drop 0).take 34).map UInt8.toNat = [42, 27, 182, 0, 109, 61, 28, 2, 160, 0, 5, 3, 172, 42, 180, 0, 15, 28, 46, 2, 160, 0, 7, 4, 167, 0, 4, 5, 62, 42, 28, 182, 0, 87] := by decide +kernel
theorem dX0_undoChange_0 : decode cX0_undoChange 0 = .ok (.aload_n 0, 1) := oq_42 (bq_in kqX0_undoChange_0 0 rfl)
theorem dX0_undoChange_1 : decode cX0_undoChange 1 = .ok (.iload_n 1, 1) := oq_27 (bq_in kqX0_undoChange_0 1 rfl)
theorem dX0_undoChange_2 : decode cX0_undoChange 2 = .ok (.invokevirtual 109, 3) := oq_182 (bq_in kqX0_undoChange_0 2 rfl) (bq_in kqX0_undoChange_0 3 rfl) (bq_in kqX0_undoChange_0 4 rfl) rfl
theorem dX0_undoChange_5 : decode cX0_undoChange 5 = .ok (.istore_n 2, 1) := oq_61 (bq_in kqX0_undoChange_0 5 rfl)
theorem dX0_undoChange_6 : decode cX0_undoChange 6 = .ok (.iload_n 2, 1) := oq_28 (bq_in kqX0_undoChange_0 6 rfl)
theorem dX0_undoChange_7 : decode cX0_undoChange 7 = .ok (.iconst (-1), 1) := oq_2 (bq_in kqX0_undoChange_0 7 rfl)
theorem dX0_undoChange_8 : decode cX0_undoChange 8 = .ok (.if_icmp .ne 5, 3) := oq_160 (bq_in kqX0_undoChange_0 8 rfl) (bq_in kqX0_undoChange_0 9 rfl) (bq_in kqX0_undoChange_0 10 rfl) rfl
theorem dX0_undoChange_11 : decode cX0_undoChange 11 = .ok (.iconst 0, 1) := oq_3 (bq_in kqX0_undoChange_0 11 rfl)
theorem dX0_undoChange_12 : decode cX0_undoChange 12 = .ok (.ireturn, 1) := oq_172 (bq_in kqX0_undoChange_0 12 rfl)
theorem dX0_undoChange_13 : decode cX0_undoChange 13 = .ok (.aload_n 0, 1) := oq_42 (bq_in kqX0_undoChange_0 13 rfl)
theorem dX0_undoChange_14 : decode cX0_undoChange 14 = .ok (.getfield 15, 3) := oq_180 (bq_in kqX0_undoChange_0 14 rfl) (bq_in kqX0_undoChange_0 15 rfl) (bq_in kqX0_undoChange_0 16 rfl) rfl
theorem dX0_undoChange_17 : decode cX0_undoChange 17 = .ok (.iload_n 2, 1) := oq_28 (bq_in kqX0_undoChange_0 17 rfl)
theorem dX0_undoChange_18 : decode cX0_undoChange 18 = .ok (.iaload, 1) := oq_46 (bq_in kqX0_undoChange_0 18 rfl)
theorem dX0_undoChange_19 : decode cX0_undoChange 19 = .ok (.iconst (-1), 1) := oq_2 (bq_in kqX0_undoChange_0 19 rfl)
theorem dX0_undoChange_20 : decode cX0_undoChange 20 = .ok (.if_icmp .ne 7, 3) := oq_160 (bq_in kqX0_undoChange_0 20 rfl) (bq_in kqX0_undoChange_0 21 rfl) (bq_in kqX0_undoChange_0 22 rfl) rfl
theorem dX0_undoChange_23 : decode cX0_undoChange 23 = .ok (.iconst 1, 1) := oq_4 (bq_in kqX0_undoChange_0 23 rfl)
theorem dX0_undoChange_24 : decode cX0_undoChange 24 = .ok (.goto 4, 3) := oq_167 (bq_in kqX0_undoChange_0 24 rfl) (bq_in kqX0_undoChange_0 25 rfl) (bq_in kqX0_undoChange_0 26 rfl) rfl
theorem dX0_undoChange_27 : decode cX0_undoChange 27 = .ok (.iconst 2, 1) := oq_5 (bq_in kqX0_undoChange_0 27 rfl)
theorem dX0_undoChange_28 : decode cX0_undoChange 28 = .ok (.istore_n 3, 1) := oq_62 (bq_in kqX0_undoChange_0 28 rfl)
theorem dX0_undoChange_29 : decode cX0_undoChange 29 = .ok (.aload_n 0, 1) := oq_42 (bq_in kqX0_undoChange_0 29 rfl)
theorem dX0_undoChange_30 : decode cX0_undoChange 30 = .ok (.iload_n 2, 1) := oq_28 (bq_in kqX0_undoChange_0 30 rfl)
theorem dX0_undoChange_31 : decode cX0_undoChange 31 = .ok (.invokevirtual 87, 3) := oq_182 (bq_in kqX0_undoChange_0 31 rfl) (bq_in kqX0_undoChange_0 32 rfl) (bq_in kqX0_undoChange_0 33 rfl) rfl
theorem kqX0_undoChange_1 : ((cX0_undoChange.data.toList.drop 32).take 34).map UInt8.toNat = [0, 87, 29, 172] := by decide +kernel
theorem dX0_undoChange_34 : decode cX0_undoChange 34 = .ok (.iload_n 3, 1) := oq_29 (bq_in kqX0_undoChange_1 2 rfl)
theorem dX0_undoChange_35 : decode cX0_undoChange 35 = .ok (.ireturn, 1) := oq_172 (bq_in kqX0_undoChange_1 3 rfl)
theorem kqX0_forget_0 : ((cX0_forget.data.toList.drop 0).take 34).map UInt8.toNat = [42, 89, 180, 0, 37, 4, 100, 181, 0, 37, 42, 180, 0, 9, 27, 42, 180, 0, 9, 42, 180, 0, 37, 46, 79, 42, 180, 0, 15, 27, 42, 180, 0, 15] := by decide +kernel
theorem dX0_forget_0 : decode cX0_forget 0 = .ok (.aload_n 0, 1) := oq_42 (bq_in kqX0_forget_0 0 rfl)
theorem dX0_forget_1 : decode cX0_forget 1 = .ok (.dup, 1) := oq_89 (bq_in kqX0_forget_0 1 rfl)
theorem dX0_forget_2 : decode cX0_forget 2 = .ok (.getfield 37, 3) := oq_180 (bq_in kqX0_forget_0 2 rfl) (bq_in kqX0_forget_0 3 rfl) (bq_in kqX0_forget_0 4 rfl) rfl
theorem dX0_forget_5 : decode cX0_forget 5 = .ok (.iconst 1, 1) := oq_4 (bq_in kqX0_forget_0 5 rfl)
theorem dX0_forget_6 : decode cX0_forget 6 = .ok (.isub, 1) := oq_100 (bq_in kqX0_forget_0 6 rfl)
theorem dX0_forget_7 : decode cX0_forget 7 = .ok (.putfield 37, 3) := oq_181 (bq_in kqX0_forget_0 7 rfl) (bq_in kqX0_forget_0 8 rfl) (bq_in kqX0_forget_0 9 rfl) rfl
theorem dX0_forget_10 : decode cX0_forget 10 = .ok (.aload_n 0, 1) := oq_42 (bq_in kqX0_forget_0 10 rfl)
theorem dX0_forget_11 : decode cX0_forget 11 = .ok (.getfield 9, 3) := oq_180 (bq_in kqX0_forget_0 11 rfl) (bq_in kqX0_forget_0 12 rfl) (bq_in kqX0_forget_0 13 rfl) rfl
theorem dX0_forget_14 : decode cX0_forget 14 = .ok (.iload_n 1, 1) := oq_27 (bq_in kqX0_forget_0 14 rfl)
theorem dX0_forget_15 : decode cX0_forget 15 = .ok (.aload_n 0, 1) := oq_42 (bq_in kqX0_forget_0 15 rfl)
theorem dX0_forget_16 : decode cX0_forget 16 = .ok (.getfield 9, 3) := oq_180 (bq_in kqX0_forget_0 16 rfl) (bq_in kqX0_forget_0 17 rfl) (bq_in kqX0_forget_0 18 rfl) rfl
theorem dX0_forget_19 : decode cX0_forget 19 = .ok (.aload_n 0, 1) := oq_42 (bq_in kqX0_forget_0 19 rfl)
theorem dX0_forget_20 : decode cX0_forget 20 = .ok (.getfield 37, 3) := oq_180 (bq_in kqX0_forget_0 20 rfl) (bq_in kqX0_forget_0 21 rfl) (bq_in kqX0_forget_0 22 rfl) rfl
theorem dX0_forget_23 : decode cX0_forget 23 = .ok (.iaload, 1) := oq_46 (bq_in kqX0_forget_0 23 rfl)
theorem dX0_forget_24 : decode cX0_forget 24 = .ok (.iastore, 1) := oq_79 (bq_in kqX0_forget_0 24 rfl)
theorem dX0_forget_25 : decode cX0_forget 25 = .ok (.aload_n 0, 1) := oq_42 (bq_in kqX0_forget_0 25 rfl)
theorem dX0_forget_26 : decode cX0_forget 26 = .ok (.getfield 15, 3) := oq_180 (bq_in kqX0_forget_0 26 rfl) (bq_in kqX0_forget_0 27 rfl) (bq_in kqX0_forget_0 28 rfl) rfl
theorem dX0_forget_29 : decode cX0_forget 29 = .ok (.iload_n 1, 1) := oq_27 (bq_in kqX0_forget_0 29 rfl)
theorem dX0_forget_30 : decode cX0_forget 30 = .ok (.aload_n 0, 1) := oq_42 (bq_in kqX0_forget_0 30 rfl)
theorem dX0_forget_31 : decode cX0_forget 31 = .ok (.getfield 15, 3) := oq_180 (bq_in kqX0_forget_0 31 rfl) (bq_in kqX0_forget_0 32 rfl) (bq_in kqX0_forget_0 33 rfl) rfl
theorem kqX0_forget_1 : ((cX0_forget.data.toList.drop 32).take 34).map UInt8.toNat = [0, 15, 42, 180, 0, 37, 46, 79, 177] := by decide +kernel
theorem dX0_forget_34 : decode cX0_forget 34 = .ok (.aload_n 0, 1) := oq_42 (bq_in kqX0_forget_1 2 rfl)
theorem dX0_forget_35 : decode cX0_forget 35 = .ok (.getfield 37, 3) := oq_180 (bq_in kqX0_forget_1 3 rfl) (bq_in kqX0_forget_1 4 rfl) (bq_in kqX0_forget_1 5 rfl) rfl
theorem dX0_forget_38 : decode cX0_forget 38 = .ok (.iaload, 1) := oq_46 (bq_in kqX0_forget_1 6 rfl)
theorem dX0_forget_39 : decode cX0_forget 39 = .ok (.iastore, 1) := oq_79 (bq_in kqX0_forget_1 7 rfl)
theorem dX0_forget_40 : decode cX0_forget 40 = .ok (.return_, 1) := oq_177 (bq_in kqX0_forget_1 8 rfl)
theorem kqX0_droppedOnes_0 : ((cX0_droppedOnes.data.toList.drop 0).take 34).map UInt8.toNat = [3, 60, 3, 61, 28, 42, 180, 0, 37, 162, 0, 22, 42, 180, 0, 15, 28, 46, 2, 160, 0, 6, 132, 1, 1, 132, 2, 1, 167, 255, 232, 27, 172] := by decide +kernel
theorem dX0_droppedOnes_0 : decode cX0_droppedOnes 0 = .ok (.iconst 0, 1) := oq_3 (bq_in kqX0_droppedOnes_0 0 rfl)
theorem dX0_droppedOnes_1 : decode cX0_droppedOnes 1 = .ok (.istore_n 1, 1) := oq_60 (bq_in kqX0_droppedOnes_0 1 rfl)
theorem dX0_droppedOnes_2 : decode cX0_droppedOnes 2 = .ok (.iconst 0, 1) := oq_3 (bq_in kqX0_droppedOnes_0 2 rfl)
theorem dX0_droppedOnes_3 : decode cX0_droppedOnes 3 = .ok (.istore_n 2, 1) := oq_61 (bq_in kqX0_droppedOnes_0 3 rfl)
theorem dX0_droppedOnes_4 : decode cX0_droppedOnes 4 = .ok (.iload_n 2, 1) := oq_28 (bq_in kqX0_droppedOnes_0 4 rfl)
theorem dX0_droppedOnes_5 : decode cX0_droppedOnes 5 = .ok (.aload_n 0, 1) := oq_42 (bq_in kqX0_droppedOnes_0 5 rfl)
theorem dX0_droppedOnes_6 : decode cX0_droppedOnes 6 = .ok (.getfield 37, 3) := oq_180 (bq_in kqX0_droppedOnes_0 6 rfl) (bq_in kqX0_droppedOnes_0 7 rfl) (bq_in kqX0_droppedOnes_0 8 rfl) rfl
theorem dX0_droppedOnes_9 : decode cX0_droppedOnes 9 = .ok (.if_icmp .ge 22, 3) := oq_162 (bq_in kqX0_droppedOnes_0 9 rfl) (bq_in kqX0_droppedOnes_0 10 rfl) (bq_in kqX0_droppedOnes_0 11 rfl) rfl
theorem dX0_droppedOnes_12 : decode cX0_droppedOnes 12 = .ok (.aload_n 0, 1) := oq_42 (bq_in kqX0_droppedOnes_0 12 rfl)
theorem dX0_droppedOnes_13 : decode cX0_droppedOnes 13 = .ok (.getfield 15, 3) := oq_180 (bq_in kqX0_droppedOnes_0 13 rfl) (bq_in kqX0_droppedOnes_0 14 rfl) (bq_in kqX0_droppedOnes_0 15 rfl) rfl
theorem dX0_droppedOnes_16 : decode cX0_droppedOnes 16 = .ok (.iload_n 2, 1) := oq_28 (bq_in kqX0_droppedOnes_0 16 rfl)
theorem dX0_droppedOnes_17 : decode cX0_droppedOnes 17 = .ok (.iaload, 1) := oq_46 (bq_in kqX0_droppedOnes_0 17 rfl)
theorem dX0_droppedOnes_18 : decode cX0_droppedOnes 18 = .ok (.iconst (-1), 1) := oq_2 (bq_in kqX0_droppedOnes_0 18 rfl)
theorem dX0_droppedOnes_19 : decode cX0_droppedOnes 19 = .ok (.if_icmp .ne 6, 3) := oq_160 (bq_in kqX0_droppedOnes_0 19 rfl) (bq_in kqX0_droppedOnes_0 20 rfl) (bq_in kqX0_droppedOnes_0 21 rfl) rfl
theorem dX0_droppedOnes_22 : decode cX0_droppedOnes 22 = .ok (.iinc 1 1, 3) := oq_132 (bq_in kqX0_droppedOnes_0 22 rfl) (bq_in kqX0_droppedOnes_0 23 rfl) (bq_in kqX0_droppedOnes_0 24 rfl) rfl
theorem dX0_droppedOnes_25 : decode cX0_droppedOnes 25 = .ok (.iinc 2 1, 3) := oq_132 (bq_in kqX0_droppedOnes_0 25 rfl) (bq_in kqX0_droppedOnes_0 26 rfl) (bq_in kqX0_droppedOnes_0 27 rfl) rfl
theorem dX0_droppedOnes_28 : decode cX0_droppedOnes 28 = .ok (.goto (-24), 3) := oq_167 (bq_in kqX0_droppedOnes_0 28 rfl) (bq_in kqX0_droppedOnes_0 29 rfl) (bq_in kqX0_droppedOnes_0 30 rfl) rfl
theorem dX0_droppedOnes_31 : decode cX0_droppedOnes 31 = .ok (.iload_n 1, 1) := oq_27 (bq_in kqX0_droppedOnes_0 31 rfl)
theorem kqX0_droppedOnes_1 : ((cX0_droppedOnes.data.toList.drop 32).take 34).map UInt8.toNat = [172] := by decide +kernel
theorem dX0_droppedOnes_32 : decode cX0_droppedOnes 32 = .ok (.ireturn, 1) := oq_172 (bq_in kqX0_droppedOnes_1 0 rfl)
theorem kqX0_ruledFrom_0 : ((cX0_ruledFrom.data.toList.drop 0).take 34).map UInt8.toNat = [27, 42, 180, 0, 68, 100, 17, 5, 160, 96, 4, 100, 17, 5, 160, 184, 0, 112, 172] := by decide +kernel
theorem dX0_ruledFrom_0 : decode cX0_ruledFrom 0 = .ok (.iload_n 1, 1) := oq_27 (bq_in kqX0_ruledFrom_0 0 rfl)
theorem dX0_ruledFrom_1 : decode cX0_ruledFrom 1 = .ok (.aload_n 0, 1) := oq_42 (bq_in kqX0_ruledFrom_0 1 rfl)
theorem dX0_ruledFrom_2 : decode cX0_ruledFrom 2 = .ok (.getfield 68, 3) := oq_180 (bq_in kqX0_ruledFrom_0 2 rfl) (bq_in kqX0_ruledFrom_0 3 rfl) (bq_in kqX0_ruledFrom_0 4 rfl) rfl
theorem dX0_ruledFrom_5 : decode cX0_ruledFrom 5 = .ok (.isub, 1) := oq_100 (bq_in kqX0_ruledFrom_0 5 rfl)
theorem dX0_ruledFrom_6 : decode cX0_ruledFrom 6 = .ok (.sipush 1440, 3) := oq_17 (bq_in kqX0_ruledFrom_0 6 rfl) (bq_in kqX0_ruledFrom_0 7 rfl) (bq_in kqX0_ruledFrom_0 8 rfl) rfl
theorem dX0_ruledFrom_9 : decode cX0_ruledFrom 9 = .ok (.iadd, 1) := oq_96 (bq_in kqX0_ruledFrom_0 9 rfl)
theorem dX0_ruledFrom_10 : decode cX0_ruledFrom 10 = .ok (.iconst 1, 1) := oq_4 (bq_in kqX0_ruledFrom_0 10 rfl)
theorem dX0_ruledFrom_11 : decode cX0_ruledFrom 11 = .ok (.isub, 1) := oq_100 (bq_in kqX0_ruledFrom_0 11 rfl)
theorem dX0_ruledFrom_12 : decode cX0_ruledFrom 12 = .ok (.sipush 1440, 3) := oq_17 (bq_in kqX0_ruledFrom_0 12 rfl) (bq_in kqX0_ruledFrom_0 13 rfl) (bq_in kqX0_ruledFrom_0 14 rfl) rfl
theorem dX0_ruledFrom_15 : decode cX0_ruledFrom 15 = .ok (.invokestatic 112, 3) := oq_184 (bq_in kqX0_ruledFrom_0 15 rfl) (bq_in kqX0_ruledFrom_0 16 rfl) (bq_in kqX0_ruledFrom_0 17 rfl) rfl
theorem dX0_ruledFrom_18 : decode cX0_ruledFrom 18 = .ok (.ireturn, 1) := oq_172 (bq_in kqX0_ruledFrom_0 18 rfl)
theorem kqX0_ruledTo_0 : ((cX0_ruledTo.data.toList.drop 0).take 34).map UInt8.toNat = [27, 42, 180, 0, 68, 100, 17, 5, 160, 184, 0, 112, 172] := by decide +kernel
theorem dX0_ruledTo_0 : decode cX0_ruledTo 0 = .ok (.iload_n 1, 1) := oq_27 (bq_in kqX0_ruledTo_0 0 rfl)
theorem dX0_ruledTo_1 : decode cX0_ruledTo 1 = .ok (.aload_n 0, 1) := oq_42 (bq_in kqX0_ruledTo_0 1 rfl)
theorem dX0_ruledTo_2 : decode cX0_ruledTo 2 = .ok (.getfield 68, 3) := oq_180 (bq_in kqX0_ruledTo_0 2 rfl) (bq_in kqX0_ruledTo_0 3 rfl) (bq_in kqX0_ruledTo_0 4 rfl) rfl
theorem dX0_ruledTo_5 : decode cX0_ruledTo 5 = .ok (.isub, 1) := oq_100 (bq_in kqX0_ruledTo_0 5 rfl)
theorem dX0_ruledTo_6 : decode cX0_ruledTo 6 = .ok (.sipush 1440, 3) := oq_17 (bq_in kqX0_ruledTo_0 6 rfl) (bq_in kqX0_ruledTo_0 7 rfl) (bq_in kqX0_ruledTo_0 8 rfl) rfl
theorem dX0_ruledTo_9 : decode cX0_ruledTo 9 = .ok (.invokestatic 112, 3) := oq_184 (bq_in kqX0_ruledTo_0 9 rfl) (bq_in kqX0_ruledTo_0 10 rfl) (bq_in kqX0_ruledTo_0 11 rfl) rfl
theorem dX0_ruledTo_12 : decode cX0_ruledTo 12 = .ok (.ireturn, 1) := oq_172 (bq_in kqX0_ruledTo_0 12 rfl)
theorem kqX0_seek_0 : ((cX0_seek.data.toList.drop 0).take 34).map UInt8.toNat = [42, 42, 27, 182, 0, 115, 182, 0, 98, 62, 29, 2, 159, 0, 25, 29, 28, 162, 0, 20, 42, 29, 182, 0, 118, 27, 160, 0, 11, 42, 29, 4, 96, 182] := by decide +kernel
theorem dX0_seek_0 : decode cX0_seek 0 = .ok (.aload_n 0, 1) := oq_42 (bq_in kqX0_seek_0 0 rfl)
theorem dX0_seek_1 : decode cX0_seek 1 = .ok (.aload_n 0, 1) := oq_42 (bq_in kqX0_seek_0 1 rfl)
theorem dX0_seek_2 : decode cX0_seek 2 = .ok (.iload_n 1, 1) := oq_27 (bq_in kqX0_seek_0 2 rfl)
theorem dX0_seek_3 : decode cX0_seek 3 = .ok (.invokevirtual 115, 3) := oq_182 (bq_in kqX0_seek_0 3 rfl) (bq_in kqX0_seek_0 4 rfl) (bq_in kqX0_seek_0 5 rfl) rfl
theorem dX0_seek_6 : decode cX0_seek 6 = .ok (.invokevirtual 98, 3) := oq_182 (bq_in kqX0_seek_0 6 rfl) (bq_in kqX0_seek_0 7 rfl) (bq_in kqX0_seek_0 8 rfl) rfl
theorem dX0_seek_9 : decode cX0_seek 9 = .ok (.istore_n 3, 1) := oq_62 (bq_in kqX0_seek_0 9 rfl)
theorem dX0_seek_10 : decode cX0_seek 10 = .ok (.iload_n 3, 1) := oq_29 (bq_in kqX0_seek_0 10 rfl)
theorem dX0_seek_11 : decode cX0_seek 11 = .ok (.iconst (-1), 1) := oq_2 (bq_in kqX0_seek_0 11 rfl)
theorem dX0_seek_12 : decode cX0_seek 12 = .ok (.if_icmp .eq 25, 3) := oq_159 (bq_in kqX0_seek_0 12 rfl) (bq_in kqX0_seek_0 13 rfl) (bq_in kqX0_seek_0 14 rfl) rfl
theorem dX0_seek_15 : decode cX0_seek 15 = .ok (.iload_n 3, 1) := oq_29 (bq_in kqX0_seek_0 15 rfl)
theorem dX0_seek_16 : decode cX0_seek 16 = .ok (.iload_n 2, 1) := oq_28 (bq_in kqX0_seek_0 16 rfl)
theorem dX0_seek_17 : decode cX0_seek 17 = .ok (.if_icmp .ge 20, 3) := oq_162 (bq_in kqX0_seek_0 17 rfl) (bq_in kqX0_seek_0 18 rfl) (bq_in kqX0_seek_0 19 rfl) rfl
theorem dX0_seek_20 : decode cX0_seek 20 = .ok (.aload_n 0, 1) := oq_42 (bq_in kqX0_seek_0 20 rfl)
theorem dX0_seek_21 : decode cX0_seek 21 = .ok (.iload_n 3, 1) := oq_29 (bq_in kqX0_seek_0 21 rfl)
theorem dX0_seek_22 : decode cX0_seek 22 = .ok (.invokevirtual 118, 3) := oq_182 (bq_in kqX0_seek_0 22 rfl) (bq_in kqX0_seek_0 23 rfl) (bq_in kqX0_seek_0 24 rfl) rfl
theorem dX0_seek_25 : decode cX0_seek 25 = .ok (.iload_n 1, 1) := oq_27 (bq_in kqX0_seek_0 25 rfl)
theorem dX0_seek_26 : decode cX0_seek 26 = .ok (.if_icmp .ne 11, 3) := oq_160 (bq_in kqX0_seek_0 26 rfl) (bq_in kqX0_seek_0 27 rfl) (bq_in kqX0_seek_0 28 rfl) rfl
theorem dX0_seek_29 : decode cX0_seek 29 = .ok (.aload_n 0, 1) := oq_42 (bq_in kqX0_seek_0 29 rfl)
theorem dX0_seek_30 : decode cX0_seek 30 = .ok (.iload_n 3, 1) := oq_29 (bq_in kqX0_seek_0 30 rfl)
theorem dX0_seek_31 : decode cX0_seek 31 = .ok (.iconst 1, 1) := oq_4 (bq_in kqX0_seek_0 31 rfl)
theorem kqX0_seek_1 : ((cX0_seek.data.toList.drop 32).take 34).map UInt8.toNat = [96, 182, 0, 98, 62, 3, 54, 4, 21, 4, 42, 180, 0, 37, 162, 0, 31, 29, 2, 159, 0, 26, 42, 29, 182, 0, 109, 2, 159, 0, 17, 42, 29, 4] := by decide +kernel
theorem dX0_seek_32 : decode cX0_seek 32 = .ok (.iadd, 1) := oq_96 (bq_in kqX0_seek_1 0 rfl)
theorem dX0_seek_33 : decode cX0_seek 33 = .ok (.invokevirtual 98, 3) := oq_182 (bq_in kqX0_seek_1 1 rfl) (bq_in kqX0_seek_1 2 rfl) (bq_in kqX0_seek_1 3 rfl) rfl
theorem dX0_seek_36 : decode cX0_seek 36 = .ok (.istore_n 3, 1) := oq_62 (bq_in kqX0_seek_1 4 rfl)
theorem dX0_seek_37 : decode cX0_seek 37 = .ok (.iconst 0, 1) := oq_3 (bq_in kqX0_seek_1 5 rfl)
theorem dX0_seek_38 : decode cX0_seek 38 = .ok (.istore 4, 2) := oq_54 (bq_in kqX0_seek_1 6 rfl) (bq_in kqX0_seek_1 7 rfl)
theorem dX0_seek_40 : decode cX0_seek 40 = .ok (.iload 4, 2) := oq_21 (bq_in kqX0_seek_1 8 rfl) (bq_in kqX0_seek_1 9 rfl)
theorem dX0_seek_42 : decode cX0_seek 42 = .ok (.aload_n 0, 1) := oq_42 (bq_in kqX0_seek_1 10 rfl)
theorem dX0_seek_43 : decode cX0_seek 43 = .ok (.getfield 37, 3) := oq_180 (bq_in kqX0_seek_1 11 rfl) (bq_in kqX0_seek_1 12 rfl) (bq_in kqX0_seek_1 13 rfl) rfl
theorem dX0_seek_46 : decode cX0_seek 46 = .ok (.if_icmp .ge 31, 3) := oq_162 (bq_in kqX0_seek_1 14 rfl) (bq_in kqX0_seek_1 15 rfl) (bq_in kqX0_seek_1 16 rfl) rfl
theorem dX0_seek_49 : decode cX0_seek 49 = .ok (.iload_n 3, 1) := oq_29 (bq_in kqX0_seek_1 17 rfl)
theorem dX0_seek_50 : decode cX0_seek 50 = .ok (.iconst (-1), 1) := oq_2 (bq_in kqX0_seek_1 18 rfl)
theorem dX0_seek_51 : decode cX0_seek 51 = .ok (.if_icmp .eq 26, 3) := oq_159 (bq_in kqX0_seek_1 19 rfl) (bq_in kqX0_seek_1 20 rfl) (bq_in kqX0_seek_1 21 rfl) rfl
theorem dX0_seek_54 : decode cX0_seek 54 = .ok (.aload_n 0, 1) := oq_42 (bq_in kqX0_seek_1 22 rfl)
theorem dX0_seek_55 : decode cX0_seek 55 = .ok (.iload_n 3, 1) := oq_29 (bq_in kqX0_seek_1 23 rfl)
theorem dX0_seek_56 : decode cX0_seek 56 = .ok (.invokevirtual 109, 3) := oq_182 (bq_in kqX0_seek_1 24 rfl) (bq_in kqX0_seek_1 25 rfl) (bq_in kqX0_seek_1 26 rfl) rfl
theorem dX0_seek_59 : decode cX0_seek 59 = .ok (.iconst (-1), 1) := oq_2 (bq_in kqX0_seek_1 27 rfl)
theorem dX0_seek_60 : decode cX0_seek 60 = .ok (.if_icmp .eq 17, 3) := oq_159 (bq_in kqX0_seek_1 28 rfl) (bq_in kqX0_seek_1 29 rfl) (bq_in kqX0_seek_1 30 rfl) rfl
theorem dX0_seek_63 : decode cX0_seek 63 = .ok (.aload_n 0, 1) := oq_42 (bq_in kqX0_seek_1 31 rfl)
theorem kqX0_seek_2 : ((cX0_seek.data.toList.drop 64).take 34).map UInt8.toNat = [29, 4, 96, 182, 0, 98, 62, 132, 4, 1, 167, 255, 222, 42, 29, 181, 0, 121, 42, 29, 2, 160, 0, 8, 18, 124, 167, 0, 8, 42, 29, 182, 0, 118] := by decide +kernel
theorem dX0_seek_64 : decode cX0_seek 64 = .ok (.iload_n 3, 1) := oq_29 (bq_in kqX0_seek_2 0 rfl)
theorem dX0_seek_65 : decode cX0_seek 65 = .ok (.iconst 1, 1) := oq_4 (bq_in kqX0_seek_2 1 rfl)
theorem dX0_seek_66 : decode cX0_seek 66 = .ok (.iadd, 1) := oq_96 (bq_in kqX0_seek_2 2 rfl)
theorem dX0_seek_67 : decode cX0_seek 67 = .ok (.invokevirtual 98, 3) := oq_182 (bq_in kqX0_seek_2 3 rfl) (bq_in kqX0_seek_2 4 rfl) (bq_in kqX0_seek_2 5 rfl) rfl
theorem dX0_seek_70 : decode cX0_seek 70 = .ok (.istore_n 3, 1) := oq_62 (bq_in kqX0_seek_2 6 rfl)
theorem dX0_seek_71 : decode cX0_seek 71 = .ok (.iinc 4 1, 3) := oq_132 (bq_in kqX0_seek_2 7 rfl) (bq_in kqX0_seek_2 8 rfl) (bq_in kqX0_seek_2 9 rfl) rfl
theorem dX0_seek_74 : decode cX0_seek 74 = .ok (.goto (-34), 3) := oq_167 (bq_in kqX0_seek_2 10 rfl) (bq_in kqX0_seek_2 11 rfl) (bq_in kqX0_seek_2 12 rfl) rfl
theorem dX0_seek_77 : decode cX0_seek 77 = .ok (.aload_n 0, 1) := oq_42 (bq_in kqX0_seek_2 13 rfl)
theorem dX0_seek_78 : decode cX0_seek 78 = .ok (.iload_n 3, 1) := oq_29 (bq_in kqX0_seek_2 14 rfl)
theorem dX0_seek_79 : decode cX0_seek 79 = .ok (.putfield 121, 3) := oq_181 (bq_in kqX0_seek_2 15 rfl) (bq_in kqX0_seek_2 16 rfl) (bq_in kqX0_seek_2 17 rfl) rfl
theorem dX0_seek_82 : decode cX0_seek 82 = .ok (.aload_n 0, 1) := oq_42 (bq_in kqX0_seek_2 18 rfl)
theorem dX0_seek_83 : decode cX0_seek 83 = .ok (.iload_n 3, 1) := oq_29 (bq_in kqX0_seek_2 19 rfl)
theorem dX0_seek_84 : decode cX0_seek 84 = .ok (.iconst (-1), 1) := oq_2 (bq_in kqX0_seek_2 20 rfl)
theorem dX0_seek_85 : decode cX0_seek 85 = .ok (.if_icmp .ne 8, 3) := oq_160 (bq_in kqX0_seek_2 21 rfl) (bq_in kqX0_seek_2 22 rfl) (bq_in kqX0_seek_2 23 rfl) rfl
theorem dX0_seek_88 : decode cX0_seek 88 = .ok (.ldc 124, 2) := oq_18 (bq_in kqX0_seek_2 24 rfl) (bq_in kqX0_seek_2 25 rfl)
theorem dX0_seek_90 : decode cX0_seek 90 = .ok (.goto 8, 3) := oq_167 (bq_in kqX0_seek_2 26 rfl) (bq_in kqX0_seek_2 27 rfl) (bq_in kqX0_seek_2 28 rfl) rfl
theorem dX0_seek_93 : decode cX0_seek 93 = .ok (.aload_n 0, 1) := oq_42 (bq_in kqX0_seek_2 29 rfl)
theorem dX0_seek_94 : decode cX0_seek 94 = .ok (.iload_n 3, 1) := oq_29 (bq_in kqX0_seek_2 30 rfl)
theorem dX0_seek_95 : decode cX0_seek 95 = .ok (.invokevirtual 118, 3) := oq_182 (bq_in kqX0_seek_2 31 rfl) (bq_in kqX0_seek_2 32 rfl) (bq_in kqX0_seek_2 33 rfl) rfl
theorem kqX0_seek_3 : ((cX0_seek.data.toList.drop 96).take 34).map UInt8.toNat = [0, 118, 181, 0, 125, 3, 54, 4, 21, 4, 42, 180, 0, 37, 162, 0, 102, 42, 180, 0, 15, 21, 4, 46, 54, 5, 42, 180, 0, 9, 21, 4, 46, 54] := by decide +kernel
theorem dX0_seek_98 : decode cX0_seek 98 = .ok (.putfield 125, 3) := oq_181 (bq_in kqX0_seek_3 2 rfl) (bq_in kqX0_seek_3 3 rfl) (bq_in kqX0_seek_3 4 rfl) rfl
theorem dX0_seek_101 : decode cX0_seek 101 = .ok (.iconst 0, 1) := oq_3 (bq_in kqX0_seek_3 5 rfl)
theorem dX0_seek_102 : decode cX0_seek 102 = .ok (.istore 4, 2) := oq_54 (bq_in kqX0_seek_3 6 rfl) (bq_in kqX0_seek_3 7 rfl)
theorem dX0_seek_104 : decode cX0_seek 104 = .ok (.iload 4, 2) := oq_21 (bq_in kqX0_seek_3 8 rfl) (bq_in kqX0_seek_3 9 rfl)
theorem dX0_seek_106 : decode cX0_seek 106 = .ok (.aload_n 0, 1) := oq_42 (bq_in kqX0_seek_3 10 rfl)
theorem dX0_seek_107 : decode cX0_seek 107 = .ok (.getfield 37, 3) := oq_180 (bq_in kqX0_seek_3 11 rfl) (bq_in kqX0_seek_3 12 rfl) (bq_in kqX0_seek_3 13 rfl) rfl
theorem dX0_seek_110 : decode cX0_seek 110 = .ok (.if_icmp .ge 102, 3) := oq_162 (bq_in kqX0_seek_3 14 rfl) (bq_in kqX0_seek_3 15 rfl) (bq_in kqX0_seek_3 16 rfl) rfl
theorem dX0_seek_113 : decode cX0_seek 113 = .ok (.aload_n 0, 1) := oq_42 (bq_in kqX0_seek_3 17 rfl)
theorem dX0_seek_114 : decode cX0_seek 114 = .ok (.getfield 15, 3) := oq_180 (bq_in kqX0_seek_3 18 rfl) (bq_in kqX0_seek_3 19 rfl) (bq_in kqX0_seek_3 20 rfl) rfl
theorem dX0_seek_117 : decode cX0_seek 117 = .ok (.iload 4, 2) := oq_21 (bq_in kqX0_seek_3 21 rfl) (bq_in kqX0_seek_3 22 rfl)
theorem dX0_seek_119 : decode cX0_seek 119 = .ok (.iaload, 1) := oq_46 (bq_in kqX0_seek_3 23 rfl)
theorem dX0_seek_120 : decode cX0_seek 120 = .ok (.istore 5, 2) := oq_54 (bq_in kqX0_seek_3 24 rfl) (bq_in kqX0_seek_3 25 rfl)
theorem dX0_seek_122 : decode cX0_seek 122 = .ok (.aload_n 0, 1) := oq_42 (bq_in kqX0_seek_3 26 rfl)
theorem dX0_seek_123 : decode cX0_seek 123 = .ok (.getfield 9, 3) := oq_180 (bq_in kqX0_seek_3 27 rfl) (bq_in kqX0_seek_3 28 rfl) (bq_in kqX0_seek_3 29 rfl) rfl
theorem dX0_seek_126 : decode cX0_seek 126 = .ok (.iload 4, 2) := oq_21 (bq_in kqX0_seek_3 30 rfl) (bq_in kqX0_seek_3 31 rfl)
theorem kqX0_seek_4 : ((cX0_seek.data.toList.drop 128).take 34).map UInt8.toNat = [46, 54, 6, 21, 5, 27, 163, 0, 15, 21, 5, 27, 160, 0, 13, 21, 6, 28, 161, 0, 7, 4, 167, 0, 4, 3, 54, 7, 21, 5, 2, 159, 0, 47] := by decide +kernel
theorem dX0_seek_128 : decode cX0_seek 128 = .ok (.iaload, 1) := oq_46 (bq_in kqX0_seek_4 0 rfl)
theorem dX0_seek_129 : decode cX0_seek 129 = .ok (.istore 6, 2) := oq_54 (bq_in kqX0_seek_4 1 rfl) (bq_in kqX0_seek_4 2 rfl)
theorem dX0_seek_131 : decode cX0_seek 131 = .ok (.iload 5, 2) := oq_21 (bq_in kqX0_seek_4 3 rfl) (bq_in kqX0_seek_4 4 rfl)
theorem dX0_seek_133 : decode cX0_seek 133 = .ok (.iload_n 1, 1) := oq_27 (bq_in kqX0_seek_4 5 rfl)
theorem dX0_seek_134 : decode cX0_seek 134 = .ok (.if_icmp .gt 15, 3) := oq_163 (bq_in kqX0_seek_4 6 rfl) (bq_in kqX0_seek_4 7 rfl) (bq_in kqX0_seek_4 8 rfl) rfl
theorem dX0_seek_137 : decode cX0_seek 137 = .ok (.iload 5, 2) := oq_21 (bq_in kqX0_seek_4 9 rfl) (bq_in kqX0_seek_4 10 rfl)
theorem dX0_seek_139 : decode cX0_seek 139 = .ok (.iload_n 1, 1) := oq_27 (bq_in kqX0_seek_4 11 rfl)
theorem dX0_seek_140 : decode cX0_seek 140 = .ok (.if_icmp .ne 13, 3) := oq_160 (bq_in kqX0_seek_4 12 rfl) (bq_in kqX0_seek_4 13 rfl) (bq_in kqX0_seek_4 14 rfl) rfl
theorem dX0_seek_143 : decode cX0_seek 143 = .ok (.iload 6, 2) := oq_21 (bq_in kqX0_seek_4 15 rfl) (bq_in kqX0_seek_4 16 rfl)
theorem dX0_seek_145 : decode cX0_seek 145 = .ok (.iload_n 2, 1) := oq_28 (bq_in kqX0_seek_4 17 rfl)
theorem dX0_seek_146 : decode cX0_seek 146 = .ok (.if_icmp .lt 7, 3) := oq_161 (bq_in kqX0_seek_4 18 rfl) (bq_in kqX0_seek_4 19 rfl) (bq_in kqX0_seek_4 20 rfl) rfl
theorem dX0_seek_149 : decode cX0_seek 149 = .ok (.iconst 1, 1) := oq_4 (bq_in kqX0_seek_4 21 rfl)
theorem dX0_seek_150 : decode cX0_seek 150 = .ok (.goto 4, 3) := oq_167 (bq_in kqX0_seek_4 22 rfl) (bq_in kqX0_seek_4 23 rfl) (bq_in kqX0_seek_4 24 rfl) rfl
theorem dX0_seek_153 : decode cX0_seek 153 = .ok (.iconst 0, 1) := oq_3 (bq_in kqX0_seek_4 25 rfl)
theorem dX0_seek_154 : decode cX0_seek 154 = .ok (.istore 7, 2) := oq_54 (bq_in kqX0_seek_4 26 rfl) (bq_in kqX0_seek_4 27 rfl)
theorem dX0_seek_156 : decode cX0_seek 156 = .ok (.iload 5, 2) := oq_21 (bq_in kqX0_seek_4 28 rfl) (bq_in kqX0_seek_4 29 rfl)
theorem dX0_seek_158 : decode cX0_seek 158 = .ok (.iconst (-1), 1) := oq_2 (bq_in kqX0_seek_4 30 rfl)
theorem dX0_seek_159 : decode cX0_seek 159 = .ok (.if_icmp .eq 47, 3) := oq_159 (bq_in kqX0_seek_4 31 rfl) (bq_in kqX0_seek_4 32 rfl) (bq_in kqX0_seek_4 33 rfl) rfl
theorem kqX0_seek_5 : ((cX0_seek.data.toList.drop 160).take 34).map UInt8.toNat = [0, 47, 21, 7, 153, 0, 42, 21, 5, 42, 180, 0, 125, 161, 0, 21, 21, 5, 42, 180, 0, 125, 160, 0, 24, 21, 6, 42, 180, 0, 121, 162, 0, 15] := by decide +kernel
theorem dX0_seek_162 : decode cX0_seek 162 = .ok (.iload 7, 2) := oq_21 (bq_in kqX0_seek_5 2 rfl) (bq_in kqX0_seek_5 3 rfl)
theorem dX0_seek_164 : decode cX0_seek 164 = .ok (.ifCond .eq 42, 3) := oq_153 (bq_in kqX0_seek_5 4 rfl) (bq_in kqX0_seek_5 5 rfl) (bq_in kqX0_seek_5 6 rfl) rfl
theorem dX0_seek_167 : decode cX0_seek 167 = .ok (.iload 5, 2) := oq_21 (bq_in kqX0_seek_5 7 rfl) (bq_in kqX0_seek_5 8 rfl)
theorem dX0_seek_169 : decode cX0_seek 169 = .ok (.aload_n 0, 1) := oq_42 (bq_in kqX0_seek_5 9 rfl)
theorem dX0_seek_170 : decode cX0_seek 170 = .ok (.getfield 125, 3) := oq_180 (bq_in kqX0_seek_5 10 rfl) (bq_in kqX0_seek_5 11 rfl) (bq_in kqX0_seek_5 12 rfl) rfl
theorem dX0_seek_173 : decode cX0_seek 173 = .ok (.if_icmp .lt 21, 3) := oq_161 (bq_in kqX0_seek_5 13 rfl) (bq_in kqX0_seek_5 14 rfl) (bq_in kqX0_seek_5 15 rfl) rfl
theorem dX0_seek_176 : decode cX0_seek 176 = .ok (.iload 5, 2) := oq_21 (bq_in kqX0_seek_5 16 rfl) (bq_in kqX0_seek_5 17 rfl)
theorem dX0_seek_178 : decode cX0_seek 178 = .ok (.aload_n 0, 1) := oq_42 (bq_in kqX0_seek_5 18 rfl)
theorem dX0_seek_179 : decode cX0_seek 179 = .ok (.getfield 125, 3) := oq_180 (bq_in kqX0_seek_5 19 rfl) (bq_in kqX0_seek_5 20 rfl) (bq_in kqX0_seek_5 21 rfl) rfl
theorem dX0_seek_182 : decode cX0_seek 182 = .ok (.if_icmp .ne 24, 3) := oq_160 (bq_in kqX0_seek_5 22 rfl) (bq_in kqX0_seek_5 23 rfl) (bq_in kqX0_seek_5 24 rfl) rfl
theorem dX0_seek_185 : decode cX0_seek 185 = .ok (.iload 6, 2) := oq_21 (bq_in kqX0_seek_5 25 rfl) (bq_in kqX0_seek_5 26 rfl)
theorem dX0_seek_187 : decode cX0_seek 187 = .ok (.aload_n 0, 1) := oq_42 (bq_in kqX0_seek_5 27 rfl)
theorem dX0_seek_188 : decode cX0_seek 188 = .ok (.getfield 121, 3) := oq_180 (bq_in kqX0_seek_5 28 rfl) (bq_in kqX0_seek_5 29 rfl) (bq_in kqX0_seek_5 30 rfl) rfl
theorem dX0_seek_191 : decode cX0_seek 191 = .ok (.if_icmp .ge 15, 3) := oq_162 (bq_in kqX0_seek_5 31 rfl) (bq_in kqX0_seek_5 32 rfl) (bq_in kqX0_seek_5 33 rfl) rfl
theorem kqX0_seek_6 : ((cX0_seek.data.toList.drop 192).take 34).map UInt8.toNat = [0, 15, 42, 21, 5, 181, 0, 125, 42, 21, 6, 181, 0, 121, 132, 4, 1, 167, 255, 151, 42, 180, 0, 121, 2, 159, 0, 7, 4, 167, 0, 4, 3, 172] := by decide +kernel
theorem dX0_seek_194 : decode cX0_seek 194 = .ok (.aload_n 0, 1) := oq_42 (bq_in kqX0_seek_6 2 rfl)
theorem dX0_seek_195 : decode cX0_seek 195 = .ok (.iload 5, 2) := oq_21 (bq_in kqX0_seek_6 3 rfl) (bq_in kqX0_seek_6 4 rfl)
theorem dX0_seek_197 : decode cX0_seek 197 = .ok (.putfield 125, 3) := oq_181 (bq_in kqX0_seek_6 5 rfl) (bq_in kqX0_seek_6 6 rfl) (bq_in kqX0_seek_6 7 rfl) rfl
theorem dX0_seek_200 : decode cX0_seek 200 = .ok (.aload_n 0, 1) := oq_42 (bq_in kqX0_seek_6 8 rfl)
theorem dX0_seek_201 : decode cX0_seek 201 = .ok (.iload 6, 2) := oq_21 (bq_in kqX0_seek_6 9 rfl) (bq_in kqX0_seek_6 10 rfl)
theorem dX0_seek_203 : decode cX0_seek 203 = .ok (.putfield 121, 3) := oq_181 (bq_in kqX0_seek_6 11 rfl) (bq_in kqX0_seek_6 12 rfl) (bq_in kqX0_seek_6 13 rfl) rfl
theorem dX0_seek_206 : decode cX0_seek 206 = .ok (.iinc 4 1, 3) := oq_132 (bq_in kqX0_seek_6 14 rfl) (bq_in kqX0_seek_6 15 rfl) (bq_in kqX0_seek_6 16 rfl) rfl
theorem dX0_seek_209 : decode cX0_seek 209 = .ok (.goto (-105), 3) := oq_167 (bq_in kqX0_seek_6 17 rfl) (bq_in kqX0_seek_6 18 rfl) (bq_in kqX0_seek_6 19 rfl) rfl
theorem dX0_seek_212 : decode cX0_seek 212 = .ok (.aload_n 0, 1) := oq_42 (bq_in kqX0_seek_6 20 rfl)
theorem dX0_seek_213 : decode cX0_seek 213 = .ok (.getfield 121, 3) := oq_180 (bq_in kqX0_seek_6 21 rfl) (bq_in kqX0_seek_6 22 rfl) (bq_in kqX0_seek_6 23 rfl) rfl
theorem dX0_seek_216 : decode cX0_seek 216 = .ok (.iconst (-1), 1) := oq_2 (bq_in kqX0_seek_6 24 rfl)
theorem dX0_seek_217 : decode cX0_seek 217 = .ok (.if_icmp .eq 7, 3) := oq_159 (bq_in kqX0_seek_6 25 rfl) (bq_in kqX0_seek_6 26 rfl) (bq_in kqX0_seek_6 27 rfl) rfl
theorem dX0_seek_220 : decode cX0_seek 220 = .ok (.iconst 1, 1) := oq_4 (bq_in kqX0_seek_6 28 rfl)
theorem dX0_seek_221 : decode cX0_seek 221 = .ok (.goto 4, 3) := oq_167 (bq_in kqX0_seek_6 29 rfl) (bq_in kqX0_seek_6 30 rfl) (bq_in kqX0_seek_6 31 rfl) rfl
theorem kqX0_seek_7 : ((cX0_seek.data.toList.drop 224).take 34).map UInt8.toNat = [3, 172] := by decide +kernel
theorem dX0_seek_224 : decode cX0_seek 224 = .ok (.iconst 0, 1) := oq_3 (bq_in kqX0_seek_7 0 rfl)
theorem dX0_seek_225 : decode cX0_seek 225 = .ok (.ireturn, 1) := oq_172 (bq_in kqX0_seek_7 1 rfl)
theorem kqX0_seekAhead_0 : ((cX0_seekAhead.data.toList.drop 0).take 34).map UInt8.toNat = [42, 42, 27, 4, 100, 182, 0, 128, 182, 0, 131, 61, 3, 62, 29, 42, 180, 0, 37, 162, 0, 31, 28, 2, 159, 0, 26, 42, 28, 182, 0, 109, 2, 159] := by decide +kernel
theorem dX0_seekAhead_0 : decode cX0_seekAhead 0 = .ok (.aload_n 0, 1) := oq_42 (bq_in kqX0_seekAhead_0 0 rfl)
theorem dX0_seekAhead_1 : decode cX0_seekAhead 1 = .ok (.aload_n 0, 1) := oq_42 (bq_in kqX0_seekAhead_0 1 rfl)
theorem dX0_seekAhead_2 : decode cX0_seekAhead 2 = .ok (.iload_n 1, 1) := oq_27 (bq_in kqX0_seekAhead_0 2 rfl)
theorem dX0_seekAhead_3 : decode cX0_seekAhead 3 = .ok (.iconst 1, 1) := oq_4 (bq_in kqX0_seekAhead_0 3 rfl)
theorem dX0_seekAhead_4 : decode cX0_seekAhead 4 = .ok (.isub, 1) := oq_100 (bq_in kqX0_seekAhead_0 4 rfl)
theorem dX0_seekAhead_5 : decode cX0_seekAhead 5 = .ok (.invokevirtual 128, 3) := oq_182 (bq_in kqX0_seekAhead_0 5 rfl) (bq_in kqX0_seekAhead_0 6 rfl) (bq_in kqX0_seekAhead_0 7 rfl) rfl
theorem dX0_seekAhead_8 : decode cX0_seekAhead 8 = .ok (.invokevirtual 131, 3) := oq_182 (bq_in kqX0_seekAhead_0 8 rfl) (bq_in kqX0_seekAhead_0 9 rfl) (bq_in kqX0_seekAhead_0 10 rfl) rfl
theorem dX0_seekAhead_11 : decode cX0_seekAhead 11 = .ok (.istore_n 2, 1) := oq_61 (bq_in kqX0_seekAhead_0 11 rfl)
theorem dX0_seekAhead_12 : decode cX0_seekAhead 12 = .ok (.iconst 0, 1) := oq_3 (bq_in kqX0_seekAhead_0 12 rfl)
theorem dX0_seekAhead_13 : decode cX0_seekAhead 13 = .ok (.istore_n 3, 1) := oq_62 (bq_in kqX0_seekAhead_0 13 rfl)
theorem dX0_seekAhead_14 : decode cX0_seekAhead 14 = .ok (.iload_n 3, 1) := oq_29 (bq_in kqX0_seekAhead_0 14 rfl)
theorem dX0_seekAhead_15 : decode cX0_seekAhead 15 = .ok (.aload_n 0, 1) := oq_42 (bq_in kqX0_seekAhead_0 15 rfl)
theorem dX0_seekAhead_16 : decode cX0_seekAhead 16 = .ok (.getfield 37, 3) := oq_180 (bq_in kqX0_seekAhead_0 16 rfl) (bq_in kqX0_seekAhead_0 17 rfl) (bq_in kqX0_seekAhead_0 18 rfl) rfl
theorem dX0_seekAhead_19 : decode cX0_seekAhead 19 = .ok (.if_icmp .ge 31, 3) := oq_162 (bq_in kqX0_seekAhead_0 19 rfl) (bq_in kqX0_seekAhead_0 20 rfl) (bq_in kqX0_seekAhead_0 21 rfl) rfl
theorem dX0_seekAhead_22 : decode cX0_seekAhead 22 = .ok (.iload_n 2, 1) := oq_28 (bq_in kqX0_seekAhead_0 22 rfl)
theorem dX0_seekAhead_23 : decode cX0_seekAhead 23 = .ok (.iconst (-1), 1) := oq_2 (bq_in kqX0_seekAhead_0 23 rfl)
theorem dX0_seekAhead_24 : decode cX0_seekAhead 24 = .ok (.if_icmp .eq 26, 3) := oq_159 (bq_in kqX0_seekAhead_0 24 rfl) (bq_in kqX0_seekAhead_0 25 rfl) (bq_in kqX0_seekAhead_0 26 rfl) rfl
theorem dX0_seekAhead_27 : decode cX0_seekAhead 27 = .ok (.aload_n 0, 1) := oq_42 (bq_in kqX0_seekAhead_0 27 rfl)
theorem dX0_seekAhead_28 : decode cX0_seekAhead 28 = .ok (.iload_n 2, 1) := oq_28 (bq_in kqX0_seekAhead_0 28 rfl)
theorem dX0_seekAhead_29 : decode cX0_seekAhead 29 = .ok (.invokevirtual 109, 3) := oq_182 (bq_in kqX0_seekAhead_0 29 rfl) (bq_in kqX0_seekAhead_0 30 rfl) (bq_in kqX0_seekAhead_0 31 rfl) rfl
theorem kqX0_seekAhead_1 : ((cX0_seekAhead.data.toList.drop 32).take 34).map UInt8.toNat = [2, 159, 0, 17, 42, 28, 4, 100, 182, 0, 131, 61, 132, 3, 1, 167, 255, 223, 42, 28, 181, 0, 121, 42, 28, 2, 160, 0, 7, 2, 167, 0, 8, 42] := by decide +kernel
theorem dX0_seekAhead_32 : decode cX0_seekAhead 32 = .ok (.iconst (-1), 1) := oq_2 (bq_in kqX0_seekAhead_1 0 rfl)
theorem dX0_seekAhead_33 : decode cX0_seekAhead 33 = .ok (.if_icmp .eq 17, 3) := oq_159 (bq_in kqX0_seekAhead_1 1 rfl) (bq_in kqX0_seekAhead_1 2 rfl) (bq_in kqX0_seekAhead_1 3 rfl) rfl
theorem dX0_seekAhead_36 : decode cX0_seekAhead 36 = .ok (.aload_n 0, 1) := oq_42 (bq_in kqX0_seekAhead_1 4 rfl)
theorem dX0_seekAhead_37 : decode cX0_seekAhead 37 = .ok (.iload_n 2, 1) := oq_28 (bq_in kqX0_seekAhead_1 5 rfl)
theorem dX0_seekAhead_38 : decode cX0_seekAhead 38 = .ok (.iconst 1, 1) := oq_4 (bq_in kqX0_seekAhead_1 6 rfl)
theorem dX0_seekAhead_39 : decode cX0_seekAhead 39 = .ok (.isub, 1) := oq_100 (bq_in kqX0_seekAhead_1 7 rfl)
theorem dX0_seekAhead_40 : decode cX0_seekAhead 40 = .ok (.invokevirtual 131, 3) := oq_182 (bq_in kqX0_seekAhead_1 8 rfl) (bq_in kqX0_seekAhead_1 9 rfl) (bq_in kqX0_seekAhead_1 10 rfl) rfl
theorem dX0_seekAhead_43 : decode cX0_seekAhead 43 = .ok (.istore_n 2, 1) := oq_61 (bq_in kqX0_seekAhead_1 11 rfl)
theorem dX0_seekAhead_44 : decode cX0_seekAhead 44 = .ok (.iinc 3 1, 3) := oq_132 (bq_in kqX0_seekAhead_1 12 rfl) (bq_in kqX0_seekAhead_1 13 rfl) (bq_in kqX0_seekAhead_1 14 rfl) rfl
theorem dX0_seekAhead_47 : decode cX0_seekAhead 47 = .ok (.goto (-33), 3) := oq_167 (bq_in kqX0_seekAhead_1 15 rfl) (bq_in kqX0_seekAhead_1 16 rfl) (bq_in kqX0_seekAhead_1 17 rfl) rfl
theorem dX0_seekAhead_50 : decode cX0_seekAhead 50 = .ok (.aload_n 0, 1) := oq_42 (bq_in kqX0_seekAhead_1 18 rfl)
theorem dX0_seekAhead_51 : decode cX0_seekAhead 51 = .ok (.iload_n 2, 1) := oq_28 (bq_in kqX0_seekAhead_1 19 rfl)
theorem dX0_seekAhead_52 : decode cX0_seekAhead 52 = .ok (.putfield 121, 3) := oq_181 (bq_in kqX0_seekAhead_1 20 rfl) (bq_in kqX0_seekAhead_1 21 rfl) (bq_in kqX0_seekAhead_1 22 rfl) rfl
theorem dX0_seekAhead_55 : decode cX0_seekAhead 55 = .ok (.aload_n 0, 1) := oq_42 (bq_in kqX0_seekAhead_1 23 rfl)
theorem dX0_seekAhead_56 : decode cX0_seekAhead 56 = .ok (.iload_n 2, 1) := oq_28 (bq_in kqX0_seekAhead_1 24 rfl)
theorem dX0_seekAhead_57 : decode cX0_seekAhead 57 = .ok (.iconst (-1), 1) := oq_2 (bq_in kqX0_seekAhead_1 25 rfl)
theorem dX0_seekAhead_58 : decode cX0_seekAhead 58 = .ok (.if_icmp .ne 7, 3) := oq_160 (bq_in kqX0_seekAhead_1 26 rfl) (bq_in kqX0_seekAhead_1 27 rfl) (bq_in kqX0_seekAhead_1 28 rfl) rfl
theorem dX0_seekAhead_61 : decode cX0_seekAhead 61 = .ok (.iconst (-1), 1) := oq_2 (bq_in kqX0_seekAhead_1 29 rfl)
theorem dX0_seekAhead_62 : decode cX0_seekAhead 62 = .ok (.goto 8, 3) := oq_167 (bq_in kqX0_seekAhead_1 30 rfl) (bq_in kqX0_seekAhead_1 31 rfl) (bq_in kqX0_seekAhead_1 32 rfl) rfl
theorem kqX0_seekAhead_2 : ((cX0_seekAhead.data.toList.drop 64).take 34).map UInt8.toNat = [8, 42, 28, 182, 0, 118, 181, 0, 125, 3, 62, 29, 42, 180, 0, 37, 162, 0, 76, 42, 180, 0, 15, 29, 46, 54, 4, 42, 180, 0, 9, 29, 46, 54] := by decide +kernel
theorem dX0_seekAhead_65 : decode cX0_seekAhead 65 = .ok (.aload_n 0, 1) := oq_42 (bq_in kqX0_seekAhead_2 1 rfl)
theorem dX0_seekAhead_66 : decode cX0_seekAhead 66 = .ok (.iload_n 2, 1) := oq_28 (bq_in kqX0_seekAhead_2 2 rfl)
theorem dX0_seekAhead_67 : decode cX0_seekAhead 67 = .ok (.invokevirtual 118, 3) := oq_182 (bq_in kqX0_seekAhead_2 3 rfl) (bq_in kqX0_seekAhead_2 4 rfl) (bq_in kqX0_seekAhead_2 5 rfl) rfl
theorem dX0_seekAhead_70 : decode cX0_seekAhead 70 = .ok (.putfield 125, 3) := oq_181 (bq_in kqX0_seekAhead_2 6 rfl) (bq_in kqX0_seekAhead_2 7 rfl) (bq_in kqX0_seekAhead_2 8 rfl) rfl
theorem dX0_seekAhead_73 : decode cX0_seekAhead 73 = .ok (.iconst 0, 1) := oq_3 (bq_in kqX0_seekAhead_2 9 rfl)
theorem dX0_seekAhead_74 : decode cX0_seekAhead 74 = .ok (.istore_n 3, 1) := oq_62 (bq_in kqX0_seekAhead_2 10 rfl)
theorem dX0_seekAhead_75 : decode cX0_seekAhead 75 = .ok (.iload_n 3, 1) := oq_29 (bq_in kqX0_seekAhead_2 11 rfl)
theorem dX0_seekAhead_76 : decode cX0_seekAhead 76 = .ok (.aload_n 0, 1) := oq_42 (bq_in kqX0_seekAhead_2 12 rfl)
theorem dX0_seekAhead_77 : decode cX0_seekAhead 77 = .ok (.getfield 37, 3) := oq_180 (bq_in kqX0_seekAhead_2 13 rfl) (bq_in kqX0_seekAhead_2 14 rfl) (bq_in kqX0_seekAhead_2 15 rfl) rfl
theorem dX0_seekAhead_80 : decode cX0_seekAhead 80 = .ok (.if_icmp .ge 76, 3) := oq_162 (bq_in kqX0_seekAhead_2 16 rfl) (bq_in kqX0_seekAhead_2 17 rfl) (bq_in kqX0_seekAhead_2 18 rfl) rfl
theorem dX0_seekAhead_83 : decode cX0_seekAhead 83 = .ok (.aload_n 0, 1) := oq_42 (bq_in kqX0_seekAhead_2 19 rfl)
theorem dX0_seekAhead_84 : decode cX0_seekAhead 84 = .ok (.getfield 15, 3) := oq_180 (bq_in kqX0_seekAhead_2 20 rfl) (bq_in kqX0_seekAhead_2 21 rfl) (bq_in kqX0_seekAhead_2 22 rfl) rfl
theorem dX0_seekAhead_87 : decode cX0_seekAhead 87 = .ok (.iload_n 3, 1) := oq_29 (bq_in kqX0_seekAhead_2 23 rfl)
theorem dX0_seekAhead_88 : decode cX0_seekAhead 88 = .ok (.iaload, 1) := oq_46 (bq_in kqX0_seekAhead_2 24 rfl)
theorem dX0_seekAhead_89 : decode cX0_seekAhead 89 = .ok (.istore 4, 2) := oq_54 (bq_in kqX0_seekAhead_2 25 rfl) (bq_in kqX0_seekAhead_2 26 rfl)
theorem dX0_seekAhead_91 : decode cX0_seekAhead 91 = .ok (.aload_n 0, 1) := oq_42 (bq_in kqX0_seekAhead_2 27 rfl)
theorem dX0_seekAhead_92 : decode cX0_seekAhead 92 = .ok (.getfield 9, 3) := oq_180 (bq_in kqX0_seekAhead_2 28 rfl) (bq_in kqX0_seekAhead_2 29 rfl) (bq_in kqX0_seekAhead_2 30 rfl) rfl
theorem dX0_seekAhead_95 : decode cX0_seekAhead 95 = .ok (.iload_n 3, 1) := oq_29 (bq_in kqX0_seekAhead_2 31 rfl)
theorem kqX0_seekAhead_3 : ((cX0_seekAhead.data.toList.drop 96).take 34).map UInt8.toNat = [46, 54, 5, 21, 4, 2, 159, 0, 48, 21, 4, 27, 162, 0, 42, 21, 4, 42, 180, 0, 125, 163, 0, 21, 21, 4, 42, 180, 0, 125, 160, 0, 24, 21] := by decide +kernel
theorem dX0_seekAhead_96 : decode cX0_seekAhead 96 = .ok (.iaload, 1) := oq_46 (bq_in kqX0_seekAhead_3 0 rfl)
theorem dX0_seekAhead_97 : decode cX0_seekAhead 97 = .ok (.istore 5, 2) := oq_54 (bq_in kqX0_seekAhead_3 1 rfl) (bq_in kqX0_seekAhead_3 2 rfl)
theorem dX0_seekAhead_99 : decode cX0_seekAhead 99 = .ok (.iload 4, 2) := oq_21 (bq_in kqX0_seekAhead_3 3 rfl) (bq_in kqX0_seekAhead_3 4 rfl)
theorem dX0_seekAhead_101 : decode cX0_seekAhead 101 = .ok (.iconst (-1), 1) := oq_2 (bq_in kqX0_seekAhead_3 5 rfl)
theorem dX0_seekAhead_102 : decode cX0_seekAhead 102 = .ok (.if_icmp .eq 48, 3) := oq_159 (bq_in kqX0_seekAhead_3 6 rfl) (bq_in kqX0_seekAhead_3 7 rfl) (bq_in kqX0_seekAhead_3 8 rfl) rfl
theorem dX0_seekAhead_105 : decode cX0_seekAhead 105 = .ok (.iload 4, 2) := oq_21 (bq_in kqX0_seekAhead_3 9 rfl) (bq_in kqX0_seekAhead_3 10 rfl)
theorem dX0_seekAhead_107 : decode cX0_seekAhead 107 = .ok (.iload_n 1, 1) := oq_27 (bq_in kqX0_seekAhead_3 11 rfl)
theorem dX0_seekAhead_108 : decode cX0_seekAhead 108 = .ok (.if_icmp .ge 42, 3) := oq_162 (bq_in kqX0_seekAhead_3 12 rfl) (bq_in kqX0_seekAhead_3 13 rfl) (bq_in kqX0_seekAhead_3 14 rfl) rfl
theorem dX0_seekAhead_111 : decode cX0_seekAhead 111 = .ok (.iload 4, 2) := oq_21 (bq_in kqX0_seekAhead_3 15 rfl) (bq_in kqX0_seekAhead_3 16 rfl)
theorem dX0_seekAhead_113 : decode cX0_seekAhead 113 = .ok (.aload_n 0, 1) := oq_42 (bq_in kqX0_seekAhead_3 17 rfl)
theorem dX0_seekAhead_114 : decode cX0_seekAhead 114 = .ok (.getfield 125, 3) := oq_180 (bq_in kqX0_seekAhead_3 18 rfl) (bq_in kqX0_seekAhead_3 19 rfl) (bq_in kqX0_seekAhead_3 20 rfl) rfl
theorem dX0_seekAhead_117 : decode cX0_seekAhead 117 = .ok (.if_icmp .gt 21, 3) := oq_163 (bq_in kqX0_seekAhead_3 21 rfl) (bq_in kqX0_seekAhead_3 22 rfl) (bq_in kqX0_seekAhead_3 23 rfl) rfl
theorem dX0_seekAhead_120 : decode cX0_seekAhead 120 = .ok (.iload 4, 2) := oq_21 (bq_in kqX0_seekAhead_3 24 rfl) (bq_in kqX0_seekAhead_3 25 rfl)
theorem dX0_seekAhead_122 : decode cX0_seekAhead 122 = .ok (.aload_n 0, 1) := oq_42 (bq_in kqX0_seekAhead_3 26 rfl)
theorem dX0_seekAhead_123 : decode cX0_seekAhead 123 = .ok (.getfield 125, 3) := oq_180 (bq_in kqX0_seekAhead_3 27 rfl) (bq_in kqX0_seekAhead_3 28 rfl) (bq_in kqX0_seekAhead_3 29 rfl) rfl
theorem dX0_seekAhead_126 : decode cX0_seekAhead 126 = .ok (.if_icmp .ne 24, 3) := oq_160 (bq_in kqX0_seekAhead_3 30 rfl) (bq_in kqX0_seekAhead_3 31 rfl) (bq_in kqX0_seekAhead_3 32 rfl) rfl
theorem kqX0_seekAhead_4 : ((cX0_seekAhead.data.toList.drop 128).take 34).map UInt8.toNat = [24, 21, 5, 42, 180, 0, 121, 164, 0, 15, 42, 21, 4, 181, 0, 125, 42, 21, 5, 181, 0, 121, 132, 3, 1, 167, 255, 178, 42, 180, 0, 121, 2, 159] := by decide +kernel
theorem dX0_seekAhead_129 : decode cX0_seekAhead 129 = .ok (.iload 5, 2) := oq_21 (bq_in kqX0_seekAhead_4 1 rfl) (bq_in kqX0_seekAhead_4 2 rfl)
theorem dX0_seekAhead_131 : decode cX0_seekAhead 131 = .ok (.aload_n 0, 1) := oq_42 (bq_in kqX0_seekAhead_4 3 rfl)
theorem dX0_seekAhead_132 : decode cX0_seekAhead 132 = .ok (.getfield 121, 3) := oq_180 (bq_in kqX0_seekAhead_4 4 rfl) (bq_in kqX0_seekAhead_4 5 rfl) (bq_in kqX0_seekAhead_4 6 rfl) rfl
theorem dX0_seekAhead_135 : decode cX0_seekAhead 135 = .ok (.if_icmp .le 15, 3) := oq_164 (bq_in kqX0_seekAhead_4 7 rfl) (bq_in kqX0_seekAhead_4 8 rfl) (bq_in kqX0_seekAhead_4 9 rfl) rfl
theorem dX0_seekAhead_138 : decode cX0_seekAhead 138 = .ok (.aload_n 0, 1) := oq_42 (bq_in kqX0_seekAhead_4 10 rfl)
theorem dX0_seekAhead_139 : decode cX0_seekAhead 139 = .ok (.iload 4, 2) := oq_21 (bq_in kqX0_seekAhead_4 11 rfl) (bq_in kqX0_seekAhead_4 12 rfl)
theorem dX0_seekAhead_141 : decode cX0_seekAhead 141 = .ok (.putfield 125, 3) := oq_181 (bq_in kqX0_seekAhead_4 13 rfl) (bq_in kqX0_seekAhead_4 14 rfl) (bq_in kqX0_seekAhead_4 15 rfl) rfl
theorem dX0_seekAhead_144 : decode cX0_seekAhead 144 = .ok (.aload_n 0, 1) := oq_42 (bq_in kqX0_seekAhead_4 16 rfl)
theorem dX0_seekAhead_145 : decode cX0_seekAhead 145 = .ok (.iload 5, 2) := oq_21 (bq_in kqX0_seekAhead_4 17 rfl) (bq_in kqX0_seekAhead_4 18 rfl)
theorem dX0_seekAhead_147 : decode cX0_seekAhead 147 = .ok (.putfield 121, 3) := oq_181 (bq_in kqX0_seekAhead_4 19 rfl) (bq_in kqX0_seekAhead_4 20 rfl) (bq_in kqX0_seekAhead_4 21 rfl) rfl
theorem dX0_seekAhead_150 : decode cX0_seekAhead 150 = .ok (.iinc 3 1, 3) := oq_132 (bq_in kqX0_seekAhead_4 22 rfl) (bq_in kqX0_seekAhead_4 23 rfl) (bq_in kqX0_seekAhead_4 24 rfl) rfl
theorem dX0_seekAhead_153 : decode cX0_seekAhead 153 = .ok (.goto (-78), 3) := oq_167 (bq_in kqX0_seekAhead_4 25 rfl) (bq_in kqX0_seekAhead_4 26 rfl) (bq_in kqX0_seekAhead_4 27 rfl) rfl
theorem dX0_seekAhead_156 : decode cX0_seekAhead 156 = .ok (.aload_n 0, 1) := oq_42 (bq_in kqX0_seekAhead_4 28 rfl)
theorem dX0_seekAhead_157 : decode cX0_seekAhead 157 = .ok (.getfield 121, 3) := oq_180 (bq_in kqX0_seekAhead_4 29 rfl) (bq_in kqX0_seekAhead_4 30 rfl) (bq_in kqX0_seekAhead_4 31 rfl) rfl
theorem kqX0_seekAhead_5 : ((cX0_seekAhead.data.toList.drop 160).take 34).map UInt8.toNat = [2, 159, 0, 7, 4, 167, 0, 4, 3, 172] := by decide +kernel
theorem dX0_seekAhead_160 : decode cX0_seekAhead 160 = .ok (.iconst (-1), 1) := oq_2 (bq_in kqX0_seekAhead_5 0 rfl)
theorem dX0_seekAhead_161 : decode cX0_seekAhead 161 = .ok (.if_icmp .eq 7, 3) := oq_159 (bq_in kqX0_seekAhead_5 1 rfl) (bq_in kqX0_seekAhead_5 2 rfl) (bq_in kqX0_seekAhead_5 3 rfl) rfl
theorem dX0_seekAhead_164 : decode cX0_seekAhead 164 = .ok (.iconst 1, 1) := oq_4 (bq_in kqX0_seekAhead_5 4 rfl)
theorem dX0_seekAhead_165 : decode cX0_seekAhead 165 = .ok (.goto 4, 3) := oq_167 (bq_in kqX0_seekAhead_5 5 rfl) (bq_in kqX0_seekAhead_5 6 rfl) (bq_in kqX0_seekAhead_5 7 rfl) rfl
theorem dX0_seekAhead_168 : decode cX0_seekAhead 168 = .ok (.iconst 0, 1) := oq_3 (bq_in kqX0_seekAhead_5 8 rfl)
theorem dX0_seekAhead_169 : decode cX0_seekAhead 169 = .ok (.ireturn, 1) := oq_172 (bq_in kqX0_seekAhead_5 9 rfl)
theorem kqX0_found_0 : ((cX0_found.data.toList.drop 0).take 34).map UInt8.toNat = [42, 180, 0, 121, 2, 159, 0, 12, 27, 155, 0, 8, 27, 4, 164, 0, 5, 2, 172, 27, 154, 0, 10, 42, 180, 0, 125, 167, 0, 7, 42, 180, 0, 121] := by decide +kernel
theorem dX0_found_0 : decode cX0_found 0 = .ok (.aload_n 0, 1) := oq_42 (bq_in kqX0_found_0 0 rfl)
theorem dX0_found_1 : decode cX0_found 1 = .ok (.getfield 121, 3) := oq_180 (bq_in kqX0_found_0 1 rfl) (bq_in kqX0_found_0 2 rfl) (bq_in kqX0_found_0 3 rfl) rfl
theorem dX0_found_4 : decode cX0_found 4 = .ok (.iconst (-1), 1) := oq_2 (bq_in kqX0_found_0 4 rfl)
theorem dX0_found_5 : decode cX0_found 5 = .ok (.if_icmp .eq 12, 3) := oq_159 (bq_in kqX0_found_0 5 rfl) (bq_in kqX0_found_0 6 rfl) (bq_in kqX0_found_0 7 rfl) rfl
theorem dX0_found_8 : decode cX0_found 8 = .ok (.iload_n 1, 1) := oq_27 (bq_in kqX0_found_0 8 rfl)
theorem dX0_found_9 : decode cX0_found 9 = .ok (.ifCond .lt 8, 3) := oq_155 (bq_in kqX0_found_0 9 rfl) (bq_in kqX0_found_0 10 rfl) (bq_in kqX0_found_0 11 rfl) rfl
theorem dX0_found_12 : decode cX0_found 12 = .ok (.iload_n 1, 1) := oq_27 (bq_in kqX0_found_0 12 rfl)
theorem dX0_found_13 : decode cX0_found 13 = .ok (.iconst 1, 1) := oq_4 (bq_in kqX0_found_0 13 rfl)
theorem dX0_found_14 : decode cX0_found 14 = .ok (.if_icmp .le 5, 3) := oq_164 (bq_in kqX0_found_0 14 rfl) (bq_in kqX0_found_0 15 rfl) (bq_in kqX0_found_0 16 rfl) rfl
theorem dX0_found_17 : decode cX0_found 17 = .ok (.iconst (-1), 1) := oq_2 (bq_in kqX0_found_0 17 rfl)
theorem dX0_found_18 : decode cX0_found 18 = .ok (.ireturn, 1) := oq_172 (bq_in kqX0_found_0 18 rfl)
theorem dX0_found_19 : decode cX0_found 19 = .ok (.iload_n 1, 1) := oq_27 (bq_in kqX0_found_0 19 rfl)
theorem dX0_found_20 : decode cX0_found 20 = .ok (.ifCond .ne 10, 3) := oq_154 (bq_in kqX0_found_0 20 rfl) (bq_in kqX0_found_0 21 rfl) (bq_in kqX0_found_0 22 rfl) rfl
theorem dX0_found_23 : decode cX0_found 23 = .ok (.aload_n 0, 1) := oq_42 (bq_in kqX0_found_0 23 rfl)
theorem dX0_found_24 : decode cX0_found 24 = .ok (.getfield 125, 3) := oq_180 (bq_in kqX0_found_0 24 rfl) (bq_in kqX0_found_0 25 rfl) (bq_in kqX0_found_0 26 rfl) rfl
theorem dX0_found_27 : decode cX0_found 27 = .ok (.goto 7, 3) := oq_167 (bq_in kqX0_found_0 27 rfl) (bq_in kqX0_found_0 28 rfl) (bq_in kqX0_found_0 29 rfl) rfl
theorem dX0_found_30 : decode cX0_found 30 = .ok (.aload_n 0, 1) := oq_42 (bq_in kqX0_found_0 30 rfl)
theorem dX0_found_31 : decode cX0_found 31 = .ok (.getfield 121, 3) := oq_180 (bq_in kqX0_found_0 31 rfl) (bq_in kqX0_found_0 32 rfl) (bq_in kqX0_found_0 33 rfl) rfl
theorem kqX0_found_1 : ((cX0_found.data.toList.drop 32).take 34).map UInt8.toNat = [0, 121, 172] := by decide +kernel
theorem dX0_found_34 : decode cX0_found 34 = .ok (.ireturn, 1) := oq_172 (bq_in kqX0_found_1 2 rfl)
theorem kqX0_beginsIn_0 : ((cX0_beginsIn.data.toList.drop 0).take 34).map UInt8.toNat = [42, 27, 182, 0, 115, 62, 42, 28, 182, 0, 128, 54, 4, 42, 29, 21, 4, 182, 0, 84, 54, 5, 3, 54, 6, 21, 6, 42, 180, 0, 37, 162, 0, 71] := by decide +kernel
theorem dX0_beginsIn_0 : decode cX0_beginsIn 0 = .ok (.aload_n 0, 1) := oq_42 (bq_in kqX0_beginsIn_0 0 rfl)
theorem dX0_beginsIn_1 : decode cX0_beginsIn 1 = .ok (.iload_n 1, 1) := oq_27 (bq_in kqX0_beginsIn_0 1 rfl)
theorem dX0_beginsIn_2 : decode cX0_beginsIn 2 = .ok (.invokevirtual 115, 3) := oq_182 (bq_in kqX0_beginsIn_0 2 rfl) (bq_in kqX0_beginsIn_0 3 rfl) (bq_in kqX0_beginsIn_0 4 rfl) rfl
theorem dX0_beginsIn_5 : decode cX0_beginsIn 5 = .ok (.istore_n 3, 1) := oq_62 (bq_in kqX0_beginsIn_0 5 rfl)
theorem dX0_beginsIn_6 : decode cX0_beginsIn 6 = .ok (.aload_n 0, 1) := oq_42 (bq_in kqX0_beginsIn_0 6 rfl)
theorem dX0_beginsIn_7 : decode cX0_beginsIn 7 = .ok (.iload_n 2, 1) := oq_28 (bq_in kqX0_beginsIn_0 7 rfl)
theorem dX0_beginsIn_8 : decode cX0_beginsIn 8 = .ok (.invokevirtual 128, 3) := oq_182 (bq_in kqX0_beginsIn_0 8 rfl) (bq_in kqX0_beginsIn_0 9 rfl) (bq_in kqX0_beginsIn_0 10 rfl) rfl
theorem dX0_beginsIn_11 : decode cX0_beginsIn 11 = .ok (.istore 4, 2) := oq_54 (bq_in kqX0_beginsIn_0 11 rfl) (bq_in kqX0_beginsIn_0 12 rfl)
theorem dX0_beginsIn_13 : decode cX0_beginsIn 13 = .ok (.aload_n 0, 1) := oq_42 (bq_in kqX0_beginsIn_0 13 rfl)
theorem dX0_beginsIn_14 : decode cX0_beginsIn 14 = .ok (.iload_n 3, 1) := oq_29 (bq_in kqX0_beginsIn_0 14 rfl)
theorem dX0_beginsIn_15 : decode cX0_beginsIn 15 = .ok (.iload 4, 2) := oq_21 (bq_in kqX0_beginsIn_0 15 rfl) (bq_in kqX0_beginsIn_0 16 rfl)
theorem dX0_beginsIn_17 : decode cX0_beginsIn 17 = .ok (.invokevirtual 84, 3) := oq_182 (bq_in kqX0_beginsIn_0 17 rfl) (bq_in kqX0_beginsIn_0 18 rfl) (bq_in kqX0_beginsIn_0 19 rfl) rfl
theorem dX0_beginsIn_20 : decode cX0_beginsIn 20 = .ok (.istore 5, 2) := oq_54 (bq_in kqX0_beginsIn_0 20 rfl) (bq_in kqX0_beginsIn_0 21 rfl)
theorem dX0_beginsIn_22 : decode cX0_beginsIn 22 = .ok (.iconst 0, 1) := oq_3 (bq_in kqX0_beginsIn_0 22 rfl)
theorem dX0_beginsIn_23 : decode cX0_beginsIn 23 = .ok (.istore 6, 2) := oq_54 (bq_in kqX0_beginsIn_0 23 rfl) (bq_in kqX0_beginsIn_0 24 rfl)
theorem dX0_beginsIn_25 : decode cX0_beginsIn 25 = .ok (.iload 6, 2) := oq_21 (bq_in kqX0_beginsIn_0 25 rfl) (bq_in kqX0_beginsIn_0 26 rfl)
theorem dX0_beginsIn_27 : decode cX0_beginsIn 27 = .ok (.aload_n 0, 1) := oq_42 (bq_in kqX0_beginsIn_0 27 rfl)
theorem dX0_beginsIn_28 : decode cX0_beginsIn 28 = .ok (.getfield 37, 3) := oq_180 (bq_in kqX0_beginsIn_0 28 rfl) (bq_in kqX0_beginsIn_0 29 rfl) (bq_in kqX0_beginsIn_0 30 rfl) rfl
theorem dX0_beginsIn_31 : decode cX0_beginsIn 31 = .ok (.if_icmp .ge 71, 3) := oq_162 (bq_in kqX0_beginsIn_0 31 rfl) (bq_in kqX0_beginsIn_0 32 rfl) (bq_in kqX0_beginsIn_0 33 rfl) rfl
theorem kqX0_beginsIn_1 : ((cX0_beginsIn.data.toList.drop 32).take 34).map UInt8.toNat = [0, 71, 42, 180, 0, 9, 21, 6, 46, 29, 161, 0, 18, 42, 180, 0, 9, 21, 6, 46, 21, 4, 163, 0, 6, 132, 5, 255, 42, 180, 0, 15, 21, 6] := by decide +kernel
theorem dX0_beginsIn_34 : decode cX0_beginsIn 34 = .ok (.aload_n 0, 1) := oq_42 (bq_in kqX0_beginsIn_1 2 rfl)
theorem dX0_beginsIn_35 : decode cX0_beginsIn 35 = .ok (.getfield 9, 3) := oq_180 (bq_in kqX0_beginsIn_1 3 rfl) (bq_in kqX0_beginsIn_1 4 rfl) (bq_in kqX0_beginsIn_1 5 rfl) rfl
theorem dX0_beginsIn_38 : decode cX0_beginsIn 38 = .ok (.iload 6, 2) := oq_21 (bq_in kqX0_beginsIn_1 6 rfl) (bq_in kqX0_beginsIn_1 7 rfl)
theorem dX0_beginsIn_40 : decode cX0_beginsIn 40 = .ok (.iaload, 1) := oq_46 (bq_in kqX0_beginsIn_1 8 rfl)
theorem dX0_beginsIn_41 : decode cX0_beginsIn 41 = .ok (.iload_n 3, 1) := oq_29 (bq_in kqX0_beginsIn_1 9 rfl)
theorem dX0_beginsIn_42 : decode cX0_beginsIn 42 = .ok (.if_icmp .lt 18, 3) := oq_161 (bq_in kqX0_beginsIn_1 10 rfl) (bq_in kqX0_beginsIn_1 11 rfl) (bq_in kqX0_beginsIn_1 12 rfl) rfl
theorem dX0_beginsIn_45 : decode cX0_beginsIn 45 = .ok (.aload_n 0, 1) := oq_42 (bq_in kqX0_beginsIn_1 13 rfl)
theorem dX0_beginsIn_46 : decode cX0_beginsIn 46 = .ok (.getfield 9, 3) := oq_180 (bq_in kqX0_beginsIn_1 14 rfl) (bq_in kqX0_beginsIn_1 15 rfl) (bq_in kqX0_beginsIn_1 16 rfl) rfl
theorem dX0_beginsIn_49 : decode cX0_beginsIn 49 = .ok (.iload 6, 2) := oq_21 (bq_in kqX0_beginsIn_1 17 rfl) (bq_in kqX0_beginsIn_1 18 rfl)
theorem dX0_beginsIn_51 : decode cX0_beginsIn 51 = .ok (.iaload, 1) := oq_46 (bq_in kqX0_beginsIn_1 19 rfl)
theorem dX0_beginsIn_52 : decode cX0_beginsIn 52 = .ok (.iload 4, 2) := oq_21 (bq_in kqX0_beginsIn_1 20 rfl) (bq_in kqX0_beginsIn_1 21 rfl)
theorem dX0_beginsIn_54 : decode cX0_beginsIn 54 = .ok (.if_icmp .gt 6, 3) := oq_163 (bq_in kqX0_beginsIn_1 22 rfl) (bq_in kqX0_beginsIn_1 23 rfl) (bq_in kqX0_beginsIn_1 24 rfl) rfl
theorem dX0_beginsIn_57 : decode cX0_beginsIn 57 = .ok (.iinc 5 (-1), 3) := oq_132 (bq_in kqX0_beginsIn_1 25 rfl) (bq_in kqX0_beginsIn_1 26 rfl) (bq_in kqX0_beginsIn_1 27 rfl) rfl
theorem dX0_beginsIn_60 : decode cX0_beginsIn 60 = .ok (.aload_n 0, 1) := oq_42 (bq_in kqX0_beginsIn_1 28 rfl)
theorem dX0_beginsIn_61 : decode cX0_beginsIn 61 = .ok (.getfield 15, 3) := oq_180 (bq_in kqX0_beginsIn_1 29 rfl) (bq_in kqX0_beginsIn_1 30 rfl) (bq_in kqX0_beginsIn_1 31 rfl) rfl
theorem kqX0_beginsIn_2 : ((cX0_beginsIn.data.toList.drop 64).take 34).map UInt8.toNat = [21, 6, 46, 2, 159, 0, 28, 42, 180, 0, 15, 21, 6, 46, 27, 161, 0, 17, 42, 180, 0, 15, 21, 6, 46, 28, 163, 0, 6, 132, 5, 1, 132, 6] := by decide +kernel
theorem dX0_beginsIn_64 : decode cX0_beginsIn 64 = .ok (.iload 6, 2) := oq_21 (bq_in kqX0_beginsIn_2 0 rfl) (bq_in kqX0_beginsIn_2 1 rfl)
theorem dX0_beginsIn_66 : decode cX0_beginsIn 66 = .ok (.iaload, 1) := oq_46 (bq_in kqX0_beginsIn_2 2 rfl)
theorem dX0_beginsIn_67 : decode cX0_beginsIn 67 = .ok (.iconst (-1), 1) := oq_2 (bq_in kqX0_beginsIn_2 3 rfl)
theorem dX0_beginsIn_68 : decode cX0_beginsIn 68 = .ok (.if_icmp .eq 28, 3) := oq_159 (bq_in kqX0_beginsIn_2 4 rfl) (bq_in kqX0_beginsIn_2 5 rfl) (bq_in kqX0_beginsIn_2 6 rfl) rfl
theorem dX0_beginsIn_71 : decode cX0_beginsIn 71 = .ok (.aload_n 0, 1) := oq_42 (bq_in kqX0_beginsIn_2 7 rfl)
theorem dX0_beginsIn_72 : decode cX0_beginsIn 72 = .ok (.getfield 15, 3) := oq_180 (bq_in kqX0_beginsIn_2 8 rfl) (bq_in kqX0_beginsIn_2 9 rfl) (bq_in kqX0_beginsIn_2 10 rfl) rfl
theorem dX0_beginsIn_75 : decode cX0_beginsIn 75 = .ok (.iload 6, 2) := oq_21 (bq_in kqX0_beginsIn_2 11 rfl) (bq_in kqX0_beginsIn_2 12 rfl)
theorem dX0_beginsIn_77 : decode cX0_beginsIn 77 = .ok (.iaload, 1) := oq_46 (bq_in kqX0_beginsIn_2 13 rfl)
theorem dX0_beginsIn_78 : decode cX0_beginsIn 78 = .ok (.iload_n 1, 1) := oq_27 (bq_in kqX0_beginsIn_2 14 rfl)
theorem dX0_beginsIn_79 : decode cX0_beginsIn 79 = .ok (.if_icmp .lt 17, 3) := oq_161 (bq_in kqX0_beginsIn_2 15 rfl) (bq_in kqX0_beginsIn_2 16 rfl) (bq_in kqX0_beginsIn_2 17 rfl) rfl
theorem dX0_beginsIn_82 : decode cX0_beginsIn 82 = .ok (.aload_n 0, 1) := oq_42 (bq_in kqX0_beginsIn_2 18 rfl)
theorem dX0_beginsIn_83 : decode cX0_beginsIn 83 = .ok (.getfield 15, 3) := oq_180 (bq_in kqX0_beginsIn_2 19 rfl) (bq_in kqX0_beginsIn_2 20 rfl) (bq_in kqX0_beginsIn_2 21 rfl) rfl
theorem dX0_beginsIn_86 : decode cX0_beginsIn 86 = .ok (.iload 6, 2) := oq_21 (bq_in kqX0_beginsIn_2 22 rfl) (bq_in kqX0_beginsIn_2 23 rfl)
theorem dX0_beginsIn_88 : decode cX0_beginsIn 88 = .ok (.iaload, 1) := oq_46 (bq_in kqX0_beginsIn_2 24 rfl)
theorem dX0_beginsIn_89 : decode cX0_beginsIn 89 = .ok (.iload_n 2, 1) := oq_28 (bq_in kqX0_beginsIn_2 25 rfl)
theorem dX0_beginsIn_90 : decode cX0_beginsIn 90 = .ok (.if_icmp .gt 6, 3) := oq_163 (bq_in kqX0_beginsIn_2 26 rfl) (bq_in kqX0_beginsIn_2 27 rfl) (bq_in kqX0_beginsIn_2 28 rfl) rfl
theorem dX0_beginsIn_93 : decode cX0_beginsIn 93 = .ok (.iinc 5 1, 3) := oq_132 (bq_in kqX0_beginsIn_2 29 rfl) (bq_in kqX0_beginsIn_2 30 rfl) (bq_in kqX0_beginsIn_2 31 rfl) rfl
theorem kqX0_beginsIn_3 : ((cX0_beginsIn.data.toList.drop 96).take 34).map UInt8.toNat = [132, 6, 1, 167, 255, 182, 21, 5, 172] := by decide +kernel
theorem dX0_beginsIn_96 : decode cX0_beginsIn 96 = .ok (.iinc 6 1, 3) := oq_132 (bq_in kqX0_beginsIn_3 0 rfl) (bq_in kqX0_beginsIn_3 1 rfl) (bq_in kqX0_beginsIn_3 2 rfl) rfl
theorem dX0_beginsIn_99 : decode cX0_beginsIn 99 = .ok (.goto (-74), 3) := oq_167 (bq_in kqX0_beginsIn_3 3 rfl) (bq_in kqX0_beginsIn_3 4 rfl) (bq_in kqX0_beginsIn_3 5 rfl) rfl
theorem dX0_beginsIn_102 : decode cX0_beginsIn 102 = .ok (.iload 5, 2) := oq_21 (bq_in kqX0_beginsIn_3 6 rfl) (bq_in kqX0_beginsIn_3 7 rfl)
theorem dX0_beginsIn_104 : decode cX0_beginsIn 104 = .ok (.ireturn, 1) := oq_172 (bq_in kqX0_beginsIn_3 8 rfl)
theorem kqX0_meet_0 : ((cX0_meet.data.toList.drop 0).take 34).map UInt8.toNat = [27, 29, 161, 0, 28, 42, 27, 4, 96, 182, 0, 134, 153, 0, 18, 42, 180, 0, 125, 42, 180, 0, 71, 96, 27, 164, 0, 5, 27, 172, 42, 27, 4, 96] := by decide +kernel
theorem dX0_meet_0 : decode cX0_meet 0 = .ok (.iload_n 1, 1) := oq_27 (bq_in kqX0_meet_0 0 rfl)
theorem dX0_meet_1 : decode cX0_meet 1 = .ok (.iload_n 3, 1) := oq_29 (bq_in kqX0_meet_0 1 rfl)
theorem dX0_meet_2 : decode cX0_meet 2 = .ok (.if_icmp .lt 28, 3) := oq_161 (bq_in kqX0_meet_0 2 rfl) (bq_in kqX0_meet_0 3 rfl) (bq_in kqX0_meet_0 4 rfl) rfl
theorem dX0_meet_5 : decode cX0_meet 5 = .ok (.aload_n 0, 1) := oq_42 (bq_in kqX0_meet_0 5 rfl)
theorem dX0_meet_6 : decode cX0_meet 6 = .ok (.iload_n 1, 1) := oq_27 (bq_in kqX0_meet_0 6 rfl)
theorem dX0_meet_7 : decode cX0_meet 7 = .ok (.iconst 1, 1) := oq_4 (bq_in kqX0_meet_0 7 rfl)
theorem dX0_meet_8 : decode cX0_meet 8 = .ok (.iadd, 1) := oq_96 (bq_in kqX0_meet_0 8 rfl)
theorem dX0_meet_9 : decode cX0_meet 9 = .ok (.invokevirtual 134, 3) := oq_182 (bq_in kqX0_meet_0 9 rfl) (bq_in kqX0_meet_0 10 rfl) (bq_in kqX0_meet_0 11 rfl) rfl
theorem dX0_meet_12 : decode cX0_meet 12 = .ok (.ifCond .eq 18, 3) := oq_153 (bq_in kqX0_meet_0 12 rfl) (bq_in kqX0_meet_0 13 rfl) (bq_in kqX0_meet_0 14 rfl) rfl
theorem dX0_meet_15 : decode cX0_meet 15 = .ok (.aload_n 0, 1) := oq_42 (bq_in kqX0_meet_0 15 rfl)
theorem dX0_meet_16 : decode cX0_meet 16 = .ok (.getfield 125, 3) := oq_180 (bq_in kqX0_meet_0 16 rfl) (bq_in kqX0_meet_0 17 rfl) (bq_in kqX0_meet_0 18 rfl) rfl
theorem dX0_meet_19 : decode cX0_meet 19 = .ok (.aload_n 0, 1) := oq_42 (bq_in kqX0_meet_0 19 rfl)
theorem dX0_meet_20 : decode cX0_meet 20 = .ok (.getfield 71, 3) := oq_180 (bq_in kqX0_meet_0 20 rfl) (bq_in kqX0_meet_0 21 rfl) (bq_in kqX0_meet_0 22 rfl) rfl
theorem dX0_meet_23 : decode cX0_meet 23 = .ok (.iadd, 1) := oq_96 (bq_in kqX0_meet_0 23 rfl)
theorem dX0_meet_24 : decode cX0_meet 24 = .ok (.iload_n 1, 1) := oq_27 (bq_in kqX0_meet_0 24 rfl)
theorem dX0_meet_25 : decode cX0_meet 25 = .ok (.if_icmp .le 5, 3) := oq_164 (bq_in kqX0_meet_0 25 rfl) (bq_in kqX0_meet_0 26 rfl) (bq_in kqX0_meet_0 27 rfl) rfl
theorem dX0_meet_28 : decode cX0_meet 28 = .ok (.iload_n 1, 1) := oq_27 (bq_in kqX0_meet_0 28 rfl)
theorem dX0_meet_29 : decode cX0_meet 29 = .ok (.ireturn, 1) := oq_172 (bq_in kqX0_meet_0 29 rfl)
theorem dX0_meet_30 : decode cX0_meet 30 = .ok (.aload_n 0, 1) := oq_42 (bq_in kqX0_meet_0 30 rfl)
theorem dX0_meet_31 : decode cX0_meet 31 = .ok (.iload_n 1, 1) := oq_27 (bq_in kqX0_meet_0 31 rfl)
theorem kqX0_meet_1 : ((cX0_meet.data.toList.drop 32).take 34).map UInt8.toNat = [4, 96, 29, 184, 0, 101, 3, 182, 0, 137, 153, 0, 18, 42, 180, 0, 125, 27, 28, 96, 162, 0, 8, 42, 180, 0, 125, 172, 18, 124, 172] := by decide +kernel
theorem dX0_meet_32 : decode cX0_meet 32 = .ok (.iconst 1, 1) := oq_4 (bq_in kqX0_meet_1 0 rfl)
theorem dX0_meet_33 : decode cX0_meet 33 = .ok (.iadd, 1) := oq_96 (bq_in kqX0_meet_1 1 rfl)
theorem dX0_meet_34 : decode cX0_meet 34 = .ok (.iload_n 3, 1) := oq_29 (bq_in kqX0_meet_1 2 rfl)
theorem dX0_meet_35 : decode cX0_meet 35 = .ok (.invokestatic 101, 3) := oq_184 (bq_in kqX0_meet_1 3 rfl) (bq_in kqX0_meet_1 4 rfl) (bq_in kqX0_meet_1 5 rfl) rfl
theorem dX0_meet_38 : decode cX0_meet 38 = .ok (.iconst 0, 1) := oq_3 (bq_in kqX0_meet_1 6 rfl)
theorem dX0_meet_39 : decode cX0_meet 39 = .ok (.invokevirtual 137, 3) := oq_182 (bq_in kqX0_meet_1 7 rfl) (bq_in kqX0_meet_1 8 rfl) (bq_in kqX0_meet_1 9 rfl) rfl
theorem dX0_meet_42 : decode cX0_meet 42 = .ok (.ifCond .eq 18, 3) := oq_153 (bq_in kqX0_meet_1 10 rfl) (bq_in kqX0_meet_1 11 rfl) (bq_in kqX0_meet_1 12 rfl) rfl
theorem dX0_meet_45 : decode cX0_meet 45 = .ok (.aload_n 0, 1) := oq_42 (bq_in kqX0_meet_1 13 rfl)
theorem dX0_meet_46 : decode cX0_meet 46 = .ok (.getfield 125, 3) := oq_180 (bq_in kqX0_meet_1 14 rfl) (bq_in kqX0_meet_1 15 rfl) (bq_in kqX0_meet_1 16 rfl) rfl
theorem dX0_meet_49 : decode cX0_meet 49 = .ok (.iload_n 1, 1) := oq_27 (bq_in kqX0_meet_1 17 rfl)
theorem dX0_meet_50 : decode cX0_meet 50 = .ok (.iload_n 2, 1) := oq_28 (bq_in kqX0_meet_1 18 rfl)
theorem dX0_meet_51 : decode cX0_meet 51 = .ok (.iadd, 1) := oq_96 (bq_in kqX0_meet_1 19 rfl)
theorem dX0_meet_52 : decode cX0_meet 52 = .ok (.if_icmp .ge 8, 3) := oq_162 (bq_in kqX0_meet_1 20 rfl) (bq_in kqX0_meet_1 21 rfl) (bq_in kqX0_meet_1 22 rfl) rfl
theorem dX0_meet_55 : decode cX0_meet 55 = .ok (.aload_n 0, 1) := oq_42 (bq_in kqX0_meet_1 23 rfl)
theorem dX0_meet_56 : decode cX0_meet 56 = .ok (.getfield 125, 3) := oq_180 (bq_in kqX0_meet_1 24 rfl) (bq_in kqX0_meet_1 25 rfl) (bq_in kqX0_meet_1 26 rfl) rfl
theorem dX0_meet_59 : decode cX0_meet 59 = .ok (.ireturn, 1) := oq_172 (bq_in kqX0_meet_1 27 rfl)
theorem dX0_meet_60 : decode cX0_meet 60 = .ok (.ldc 124, 2) := oq_18 (bq_in kqX0_meet_1 28 rfl) (bq_in kqX0_meet_1 29 rfl)
theorem dX0_meet_62 : decode cX0_meet 62 = .ok (.ireturn, 1) := oq_172 (bq_in kqX0_meet_1 30 rfl)
theorem kqX0_tell_0 : ((cX0_tell.data.toList.drop 0).take 34).map UInt8.toNat = [27, 170, 0, 0, 0, 0, 0, 161, 0, 0, 0, 0, 0, 0, 0, 13, 0, 0, 0, 71, 0, 0, 0, 76, 0, 0, 0, 81, 0, 0, 0, 86, 0, 0] := by decide +kernel
theorem dX0_tell_0 : decode cX0_tell 0 = .ok (.iload_n 1, 1) := oq_27 (bq_in kqX0_tell_0 0 rfl)
theorem dX0_tell_1 : decode cX0_tell 1 = .ok (.tableswitch 161 0 13 #[71, 76, 81, 86, 94, 102, 110, 118, 126, 131, 136, 141, 151, 156], 71) := by decide +kernel
theorem kqX0_tell_2 : ((cX0_tell.data.toList.drop 64).take 34).map UInt8.toNat = [0, 0, 0, 151, 0, 0, 0, 156, 42, 180, 0, 65, 172, 42, 180, 0, 68, 172, 42, 180, 0, 71, 172, 42, 180, 0, 18, 180, 0, 141, 172, 42, 180, 0] := by decide +kernel
theorem dX0_tell_72 : decode cX0_tell 72 = .ok (.aload_n 0, 1) := oq_42 (bq_in kqX0_tell_2 8 rfl)
theorem dX0_tell_73 : decode cX0_tell 73 = .ok (.getfield 65, 3) := oq_180 (bq_in kqX0_tell_2 9 rfl) (bq_in kqX0_tell_2 10 rfl) (bq_in kqX0_tell_2 11 rfl) rfl
theorem dX0_tell_76 : decode cX0_tell 76 = .ok (.ireturn, 1) := oq_172 (bq_in kqX0_tell_2 12 rfl)
theorem dX0_tell_77 : decode cX0_tell 77 = .ok (.aload_n 0, 1) := oq_42 (bq_in kqX0_tell_2 13 rfl)
theorem dX0_tell_78 : decode cX0_tell 78 = .ok (.getfield 68, 3) := oq_180 (bq_in kqX0_tell_2 14 rfl) (bq_in kqX0_tell_2 15 rfl) (bq_in kqX0_tell_2 16 rfl) rfl
theorem dX0_tell_81 : decode cX0_tell 81 = .ok (.ireturn, 1) := oq_172 (bq_in kqX0_tell_2 17 rfl)
theorem dX0_tell_82 : decode cX0_tell 82 = .ok (.aload_n 0, 1) := oq_42 (bq_in kqX0_tell_2 18 rfl)
theorem dX0_tell_83 : decode cX0_tell 83 = .ok (.getfield 71, 3) := oq_180 (bq_in kqX0_tell_2 19 rfl) (bq_in kqX0_tell_2 20 rfl) (bq_in kqX0_tell_2 21 rfl) rfl
theorem dX0_tell_86 : decode cX0_tell 86 = .ok (.ireturn, 1) := oq_172 (bq_in kqX0_tell_2 22 rfl)
theorem dX0_tell_87 : decode cX0_tell 87 = .ok (.aload_n 0, 1) := oq_42 (bq_in kqX0_tell_2 23 rfl)
theorem dX0_tell_88 : decode cX0_tell 88 = .ok (.getfield 18, 3) := oq_180 (bq_in kqX0_tell_2 24 rfl) (bq_in kqX0_tell_2 25 rfl) (bq_in kqX0_tell_2 26 rfl) rfl
theorem dX0_tell_91 : decode cX0_tell 91 = .ok (.getfield 141, 3) := oq_180 (bq_in kqX0_tell_2 27 rfl) (bq_in kqX0_tell_2 28 rfl) (bq_in kqX0_tell_2 29 rfl) rfl
theorem dX0_tell_94 : decode cX0_tell 94 = .ok (.ireturn, 1) := oq_172 (bq_in kqX0_tell_2 30 rfl)
theorem dX0_tell_95 : decode cX0_tell 95 = .ok (.aload_n 0, 1) := oq_42 (bq_in kqX0_tell_2 31 rfl)
theorem kqX0_tell_3 : ((cX0_tell.data.toList.drop 96).take 34).map UInt8.toNat = [180, 0, 18, 180, 0, 144, 172, 42, 180, 0, 18, 180, 0, 22, 172, 42, 180, 0, 18, 182, 0, 147, 172, 42, 180, 0, 18, 182, 0, 150, 172, 42, 180, 0] := by decide +kernel
theorem dX0_tell_96 : decode cX0_tell 96 = .ok (.getfield 18, 3) := oq_180 (bq_in kqX0_tell_3 0 rfl) (bq_in kqX0_tell_3 1 rfl) (bq_in kqX0_tell_3 2 rfl) rfl
theorem dX0_tell_99 : decode cX0_tell 99 = .ok (.getfield 144, 3) := oq_180 (bq_in kqX0_tell_3 3 rfl) (bq_in kqX0_tell_3 4 rfl) (bq_in kqX0_tell_3 5 rfl) rfl
theorem dX0_tell_102 : decode cX0_tell 102 = .ok (.ireturn, 1) := oq_172 (bq_in kqX0_tell_3 6 rfl)
theorem dX0_tell_103 : decode cX0_tell 103 = .ok (.aload_n 0, 1) := oq_42 (bq_in kqX0_tell_3 7 rfl)
theorem dX0_tell_104 : decode cX0_tell 104 = .ok (.getfield 18, 3) := oq_180 (bq_in kqX0_tell_3 8 rfl) (bq_in kqX0_tell_3 9 rfl) (bq_in kqX0_tell_3 10 rfl) rfl
theorem dX0_tell_107 : decode cX0_tell 107 = .ok (.getfield 22, 3) := oq_180 (bq_in kqX0_tell_3 11 rfl) (bq_in kqX0_tell_3 12 rfl) (bq_in kqX0_tell_3 13 rfl) rfl
theorem dX0_tell_110 : decode cX0_tell 110 = .ok (.ireturn, 1) := oq_172 (bq_in kqX0_tell_3 14 rfl)
theorem dX0_tell_111 : decode cX0_tell 111 = .ok (.aload_n 0, 1) := oq_42 (bq_in kqX0_tell_3 15 rfl)
theorem dX0_tell_112 : decode cX0_tell 112 = .ok (.getfield 18, 3) := oq_180 (bq_in kqX0_tell_3 16 rfl) (bq_in kqX0_tell_3 17 rfl) (bq_in kqX0_tell_3 18 rfl) rfl
theorem dX0_tell_115 : decode cX0_tell 115 = .ok (.invokevirtual 147, 3) := oq_182 (bq_in kqX0_tell_3 19 rfl) (bq_in kqX0_tell_3 20 rfl) (bq_in kqX0_tell_3 21 rfl) rfl
theorem dX0_tell_118 : decode cX0_tell 118 = .ok (.ireturn, 1) := oq_172 (bq_in kqX0_tell_3 22 rfl)
theorem dX0_tell_119 : decode cX0_tell 119 = .ok (.aload_n 0, 1) := oq_42 (bq_in kqX0_tell_3 23 rfl)
theorem dX0_tell_120 : decode cX0_tell 120 = .ok (.getfield 18, 3) := oq_180 (bq_in kqX0_tell_3 24 rfl) (bq_in kqX0_tell_3 25 rfl) (bq_in kqX0_tell_3 26 rfl) rfl
theorem dX0_tell_123 : decode cX0_tell 123 = .ok (.invokevirtual 150, 3) := oq_182 (bq_in kqX0_tell_3 27 rfl) (bq_in kqX0_tell_3 28 rfl) (bq_in kqX0_tell_3 29 rfl) rfl
theorem dX0_tell_126 : decode cX0_tell 126 = .ok (.ireturn, 1) := oq_172 (bq_in kqX0_tell_3 30 rfl)
theorem dX0_tell_127 : decode cX0_tell 127 = .ok (.aload_n 0, 1) := oq_42 (bq_in kqX0_tell_3 31 rfl)
theorem kqX0_tell_4 : ((cX0_tell.data.toList.drop 128).take 34).map UInt8.toNat = [180, 0, 31, 172, 42, 180, 0, 34, 172, 42, 182, 0, 153, 172, 42, 180, 0, 37, 42, 182, 0, 153, 100, 172, 42, 180, 0, 45, 172, 42, 180, 0, 55, 172] := by decide +kernel
theorem dX0_tell_128 : decode cX0_tell 128 = .ok (.getfield 31, 3) := oq_180 (bq_in kqX0_tell_4 0 rfl) (bq_in kqX0_tell_4 1 rfl) (bq_in kqX0_tell_4 2 rfl) rfl
theorem dX0_tell_131 : decode cX0_tell 131 = .ok (.ireturn, 1) := oq_172 (bq_in kqX0_tell_4 3 rfl)
theorem dX0_tell_132 : decode cX0_tell 132 = .ok (.aload_n 0, 1) := oq_42 (bq_in kqX0_tell_4 4 rfl)
theorem dX0_tell_133 : decode cX0_tell 133 = .ok (.getfield 34, 3) := oq_180 (bq_in kqX0_tell_4 5 rfl) (bq_in kqX0_tell_4 6 rfl) (bq_in kqX0_tell_4 7 rfl) rfl
theorem dX0_tell_136 : decode cX0_tell 136 = .ok (.ireturn, 1) := oq_172 (bq_in kqX0_tell_4 8 rfl)
theorem dX0_tell_137 : decode cX0_tell 137 = .ok (.aload_n 0, 1) := oq_42 (bq_in kqX0_tell_4 9 rfl)
theorem dX0_tell_138 : decode cX0_tell 138 = .ok (.invokevirtual 153, 3) := oq_182 (bq_in kqX0_tell_4 10 rfl) (bq_in kqX0_tell_4 11 rfl) (bq_in kqX0_tell_4 12 rfl) rfl
theorem dX0_tell_141 : decode cX0_tell 141 = .ok (.ireturn, 1) := oq_172 (bq_in kqX0_tell_4 13 rfl)
theorem dX0_tell_142 : decode cX0_tell 142 = .ok (.aload_n 0, 1) := oq_42 (bq_in kqX0_tell_4 14 rfl)
theorem dX0_tell_143 : decode cX0_tell 143 = .ok (.getfield 37, 3) := oq_180 (bq_in kqX0_tell_4 15 rfl) (bq_in kqX0_tell_4 16 rfl) (bq_in kqX0_tell_4 17 rfl) rfl
theorem dX0_tell_146 : decode cX0_tell 146 = .ok (.aload_n 0, 1) := oq_42 (bq_in kqX0_tell_4 18 rfl)
theorem dX0_tell_147 : decode cX0_tell 147 = .ok (.invokevirtual 153, 3) := oq_182 (bq_in kqX0_tell_4 19 rfl) (bq_in kqX0_tell_4 20 rfl) (bq_in kqX0_tell_4 21 rfl) rfl
theorem dX0_tell_150 : decode cX0_tell 150 = .ok (.isub, 1) := oq_100 (bq_in kqX0_tell_4 22 rfl)
theorem dX0_tell_151 : decode cX0_tell 151 = .ok (.ireturn, 1) := oq_172 (bq_in kqX0_tell_4 23 rfl)
theorem dX0_tell_152 : decode cX0_tell 152 = .ok (.aload_n 0, 1) := oq_42 (bq_in kqX0_tell_4 24 rfl)
theorem dX0_tell_153 : decode cX0_tell 153 = .ok (.getfield 45, 3) := oq_180 (bq_in kqX0_tell_4 25 rfl) (bq_in kqX0_tell_4 26 rfl) (bq_in kqX0_tell_4 27 rfl) rfl
theorem dX0_tell_156 : decode cX0_tell 156 = .ok (.ireturn, 1) := oq_172 (bq_in kqX0_tell_4 28 rfl)
theorem dX0_tell_157 : decode cX0_tell 157 = .ok (.aload_n 0, 1) := oq_42 (bq_in kqX0_tell_4 29 rfl)
theorem dX0_tell_158 : decode cX0_tell 158 = .ok (.getfield 55, 3) := oq_180 (bq_in kqX0_tell_4 30 rfl) (bq_in kqX0_tell_4 31 rfl) (bq_in kqX0_tell_4 32 rfl) rfl
theorem kqX0_tell_5 : ((cX0_tell.data.toList.drop 160).take 34).map UInt8.toNat = [55, 172, 16, 254, 172] := by decide +kernel
theorem dX0_tell_161 : decode cX0_tell 161 = .ok (.ireturn, 1) := oq_172 (bq_in kqX0_tell_5 1 rfl)
theorem dX0_tell_162 : decode cX0_tell 162 = .ok (.bipush (-2), 2) := oq_16 (bq_in kqX0_tell_5 2 rfl) (bq_in kqX0_tell_5 3 rfl) rfl
theorem dX0_tell_164 : decode cX0_tell 164 = .ok (.ireturn, 1) := oq_172 (bq_in kqX0_tell_5 4 rfl)
theorem kqX7_init_0 : ((cX7_init.data.toList.drop 0).take 34).map UInt8.toNat = [42, 183, 0, 3, 42, 16, 12, 189, 0, 9, 181, 0, 11, 42, 3, 181, 0, 17, 187, 0, 21, 89, 3, 183, 0, 23, 76, 3, 61, 28, 42, 180, 0, 11] := by decide +kernel
theorem dX7_init_0 : decode cX7_init 0 = .ok (.aload_n 0, 1) := oq_42 (bq_in kqX7_init_0 0 rfl)
theorem dX7_init_1 : decode cX7_init 1 = .ok (.invokespecial 3, 3) := oq_183 (bq_in kqX7_init_0 1 rfl) (bq_in kqX7_init_0 2 rfl) (bq_in kqX7_init_0 3 rfl) rfl
theorem dX7_init_4 : decode cX7_init 4 = .ok (.aload_n 0, 1) := oq_42 (bq_in kqX7_init_0 4 rfl)
theorem dX7_init_5 : decode cX7_init 5 = .ok (.bipush 12, 2) := oq_16 (bq_in kqX7_init_0 5 rfl) (bq_in kqX7_init_0 6 rfl) rfl
theorem dX7_init_7 : decode cX7_init 7 = .ok (.anewarray 9, 3) := oq_189 (bq_in kqX7_init_0 7 rfl) (bq_in kqX7_init_0 8 rfl) (bq_in kqX7_init_0 9 rfl) rfl
theorem dX7_init_10 : decode cX7_init 10 = .ok (.putfield 11, 3) := oq_181 (bq_in kqX7_init_0 10 rfl) (bq_in kqX7_init_0 11 rfl) (bq_in kqX7_init_0 12 rfl) rfl
theorem dX7_init_13 : decode cX7_init 13 = .ok (.aload_n 0, 1) := oq_42 (bq_in kqX7_init_0 13 rfl)
theorem dX7_init_14 : decode cX7_init 14 = .ok (.iconst 0, 1) := oq_3 (bq_in kqX7_init_0 14 rfl)
theorem dX7_init_15 : decode cX7_init 15 = .ok (.putfield 17, 3) := oq_181 (bq_in kqX7_init_0 15 rfl) (bq_in kqX7_init_0 16 rfl) (bq_in kqX7_init_0 17 rfl) rfl
theorem dX7_init_18 : decode cX7_init 18 = .ok (.new 21, 3) := oq_187 (bq_in kqX7_init_0 18 rfl) (bq_in kqX7_init_0 19 rfl) (bq_in kqX7_init_0 20 rfl) rfl
theorem dX7_init_21 : decode cX7_init 21 = .ok (.dup, 1) := oq_89 (bq_in kqX7_init_0 21 rfl)
theorem dX7_init_22 : decode cX7_init 22 = .ok (.iconst 0, 1) := oq_3 (bq_in kqX7_init_0 22 rfl)
theorem dX7_init_23 : decode cX7_init 23 = .ok (.invokespecial 23, 3) := oq_183 (bq_in kqX7_init_0 23 rfl) (bq_in kqX7_init_0 24 rfl) (bq_in kqX7_init_0 25 rfl) rfl
theorem dX7_init_26 : decode cX7_init 26 = .ok (.astore_n 1, 1) := oq_76 (bq_in kqX7_init_0 26 rfl)
theorem dX7_init_27 : decode cX7_init 27 = .ok (.iconst 0, 1) := oq_3 (bq_in kqX7_init_0 27 rfl)
theorem dX7_init_28 : decode cX7_init 28 = .ok (.istore_n 2, 1) := oq_61 (bq_in kqX7_init_0 28 rfl)
theorem dX7_init_29 : decode cX7_init 29 = .ok (.iload_n 2, 1) := oq_28 (bq_in kqX7_init_0 29 rfl)
theorem dX7_init_30 : decode cX7_init 30 = .ok (.aload_n 0, 1) := oq_42 (bq_in kqX7_init_0 30 rfl)
theorem dX7_init_31 : decode cX7_init 31 = .ok (.getfield 11, 3) := oq_180 (bq_in kqX7_init_0 31 rfl) (bq_in kqX7_init_0 32 rfl) (bq_in kqX7_init_0 33 rfl) rfl
theorem kqX7_init_1 : ((cX7_init.data.toList.drop 32).take 34).map UInt8.toNat = [0, 11, 190, 162, 0, 23, 42, 180, 0, 11, 28, 187, 0, 9, 89, 43, 183, 0, 26, 83, 132, 2, 1, 167, 255, 230, 177] := by decide +kernel
theorem dX7_init_34 : decode cX7_init 34 = .ok (.arraylength, 1) := oq_190 (bq_in kqX7_init_1 2 rfl)
theorem dX7_init_35 : decode cX7_init 35 = .ok (.if_icmp .ge 23, 3) := oq_162 (bq_in kqX7_init_1 3 rfl) (bq_in kqX7_init_1 4 rfl) (bq_in kqX7_init_1 5 rfl) rfl
theorem dX7_init_38 : decode cX7_init 38 = .ok (.aload_n 0, 1) := oq_42 (bq_in kqX7_init_1 6 rfl)
theorem dX7_init_39 : decode cX7_init 39 = .ok (.getfield 11, 3) := oq_180 (bq_in kqX7_init_1 7 rfl) (bq_in kqX7_init_1 8 rfl) (bq_in kqX7_init_1 9 rfl) rfl
theorem dX7_init_42 : decode cX7_init 42 = .ok (.iload_n 2, 1) := oq_28 (bq_in kqX7_init_1 10 rfl)
theorem dX7_init_43 : decode cX7_init 43 = .ok (.new 9, 3) := oq_187 (bq_in kqX7_init_1 11 rfl) (bq_in kqX7_init_1 12 rfl) (bq_in kqX7_init_1 13 rfl) rfl
theorem dX7_init_46 : decode cX7_init 46 = .ok (.dup, 1) := oq_89 (bq_in kqX7_init_1 14 rfl)
theorem dX7_init_47 : decode cX7_init 47 = .ok (.aload_n 1, 1) := oq_43 (bq_in kqX7_init_1 15 rfl)
theorem dX7_init_48 : decode cX7_init 48 = .ok (.invokespecial 26, 3) := oq_183 (bq_in kqX7_init_1 16 rfl) (bq_in kqX7_init_1 17 rfl) (bq_in kqX7_init_1 18 rfl) rfl
theorem dX7_init_51 : decode cX7_init 51 = .ok (.aastore, 1) := oq_83 (bq_in kqX7_init_1 19 rfl)
theorem dX7_init_52 : decode cX7_init 52 = .ok (.iinc 2 1, 3) := oq_132 (bq_in kqX7_init_1 20 rfl) (bq_in kqX7_init_1 21 rfl) (bq_in kqX7_init_1 22 rfl) rfl
theorem dX7_init_55 : decode cX7_init 55 = .ok (.goto (-26), 3) := oq_167 (bq_in kqX7_init_1 23 rfl) (bq_in kqX7_init_1 24 rfl) (bq_in kqX7_init_1 25 rfl) rfl
theorem dX7_init_58 : decode cX7_init 58 = .ok (.return_, 1) := oq_177 (bq_in kqX7_init_1 26 rfl)
theorem kqX7_has_0 : ((cX7_has.data.toList.drop 0).take 34).map UInt8.toNat = [27, 155, 0, 15, 27, 42, 180, 0, 17, 162, 0, 7, 4, 167, 0, 4, 3, 172] := by decide +kernel
theorem dX7_has_0 : decode cX7_has 0 = .ok (.iload_n 1, 1) := oq_27 (bq_in kqX7_has_0 0 rfl)
theorem dX7_has_1 : decode cX7_has 1 = .ok (.ifCond .lt 15, 3) := oq_155 (bq_in kqX7_has_0 1 rfl) (bq_in kqX7_has_0 2 rfl) (bq_in kqX7_has_0 3 rfl) rfl
theorem dX7_has_4 : decode cX7_has 4 = .ok (.iload_n 1, 1) := oq_27 (bq_in kqX7_has_0 4 rfl)
theorem dX7_has_5 : decode cX7_has 5 = .ok (.aload_n 0, 1) := oq_42 (bq_in kqX7_has_0 5 rfl)
theorem dX7_has_6 : decode cX7_has 6 = .ok (.getfield 17, 3) := oq_180 (bq_in kqX7_has_0 6 rfl) (bq_in kqX7_has_0 7 rfl) (bq_in kqX7_has_0 8 rfl) rfl
theorem dX7_has_9 : decode cX7_has 9 = .ok (.if_icmp .ge 7, 3) := oq_162 (bq_in kqX7_has_0 9 rfl) (bq_in kqX7_has_0 10 rfl) (bq_in kqX7_has_0 11 rfl) rfl
theorem dX7_has_12 : decode cX7_has 12 = .ok (.iconst 1, 1) := oq_4 (bq_in kqX7_has_0 12 rfl)
theorem dX7_has_13 : decode cX7_has 13 = .ok (.goto 4, 3) := oq_167 (bq_in kqX7_has_0 13 rfl) (bq_in kqX7_has_0 14 rfl) (bq_in kqX7_has_0 15 rfl) rfl
theorem dX7_has_16 : decode cX7_has 16 = .ok (.iconst 0, 1) := oq_3 (bq_in kqX7_has_0 16 rfl)
theorem dX7_has_17 : decode cX7_has 17 = .ok (.ireturn, 1) := oq_172 (bq_in kqX7_has_0 17 rfl)
theorem kqX7_isFull_0 : ((cX7_isFull.data.toList.drop 0).take 34).map UInt8.toNat = [42, 180, 0, 17, 42, 180, 0, 11, 190, 161, 0, 7, 4, 167, 0, 4, 3, 172] := by decide +kernel
theorem dX7_isFull_0 : decode cX7_isFull 0 = .ok (.aload_n 0, 1) := oq_42 (bq_in kqX7_isFull_0 0 rfl)
theorem dX7_isFull_1 : decode cX7_isFull 1 = .ok (.getfield 17, 3) := oq_180 (bq_in kqX7_isFull_0 1 rfl) (bq_in kqX7_isFull_0 2 rfl) (bq_in kqX7_isFull_0 3 rfl) rfl
theorem dX7_isFull_4 : decode cX7_isFull 4 = .ok (.aload_n 0, 1) := oq_42 (bq_in kqX7_isFull_0 4 rfl)
theorem dX7_isFull_5 : decode cX7_isFull 5 = .ok (.getfield 11, 3) := oq_180 (bq_in kqX7_isFull_0 5 rfl) (bq_in kqX7_isFull_0 6 rfl) (bq_in kqX7_isFull_0 7 rfl) rfl
theorem dX7_isFull_8 : decode cX7_isFull 8 = .ok (.arraylength, 1) := oq_190 (bq_in kqX7_isFull_0 8 rfl)
theorem dX7_isFull_9 : decode cX7_isFull 9 = .ok (.if_icmp .lt 7, 3) := oq_161 (bq_in kqX7_isFull_0 9 rfl) (bq_in kqX7_isFull_0 10 rfl) (bq_in kqX7_isFull_0 11 rfl) rfl
theorem dX7_isFull_12 : decode cX7_isFull 12 = .ok (.iconst 1, 1) := oq_4 (bq_in kqX7_isFull_0 12 rfl)
theorem dX7_isFull_13 : decode cX7_isFull 13 = .ok (.goto 4, 3) := oq_167 (bq_in kqX7_isFull_0 13 rfl) (bq_in kqX7_isFull_0 14 rfl) (bq_in kqX7_isFull_0 15 rfl) rfl
theorem dX7_isFull_16 : decode cX7_isFull 16 = .ok (.iconst 0, 1) := oq_3 (bq_in kqX7_isFull_0 16 rfl)
theorem dX7_isFull_17 : decode cX7_isFull 17 = .ok (.ireturn, 1) := oq_172 (bq_in kqX7_isFull_0 17 rfl)
theorem kqX7_at_0 : ((cX7_at.data.toList.drop 0).take 34).map UInt8.toNat = [42, 180, 0, 11, 27, 50, 176] := by decide +kernel
theorem dX7_at_0 : decode cX7_at 0 = .ok (.aload_n 0, 1) := oq_42 (bq_in kqX7_at_0 0 rfl)
theorem dX7_at_1 : decode cX7_at 1 = .ok (.getfield 11, 3) := oq_180 (bq_in kqX7_at_0 1 rfl) (bq_in kqX7_at_0 2 rfl) (bq_in kqX7_at_0 3 rfl) rfl
theorem dX7_at_4 : decode cX7_at 4 = .ok (.iload_n 1, 1) := oq_27 (bq_in kqX7_at_0 4 rfl)
theorem dX7_at_5 : decode cX7_at 5 = .ok (.aaload, 1) := oq_50 (bq_in kqX7_at_0 5 rfl)
theorem dX7_at_6 : decode cX7_at 6 = .ok (.areturn, 1) := oq_176 (bq_in kqX7_at_0 6 rfl)
theorem kqX7_isOf_0 : ((cX7_isOf.data.toList.drop 0).take 34).map UInt8.toNat = [28, 2, 159, 0, 16, 42, 180, 0, 11, 27, 50, 180, 0, 29, 28, 160, 0, 7, 4, 167, 0, 4, 3, 172] := by decide +kernel
theorem dX7_isOf_0 : decode cX7_isOf 0 = .ok (.iload_n 2, 1) := oq_28 (bq_in kqX7_isOf_0 0 rfl)
theorem dX7_isOf_1 : decode cX7_isOf 1 = .ok (.iconst (-1), 1) := oq_2 (bq_in kqX7_isOf_0 1 rfl)
theorem dX7_isOf_2 : decode cX7_isOf 2 = .ok (.if_icmp .eq 16, 3) := oq_159 (bq_in kqX7_isOf_0 2 rfl) (bq_in kqX7_isOf_0 3 rfl) (bq_in kqX7_isOf_0 4 rfl) rfl
theorem dX7_isOf_5 : decode cX7_isOf 5 = .ok (.aload_n 0, 1) := oq_42 (bq_in kqX7_isOf_0 5 rfl)
theorem dX7_isOf_6 : decode cX7_isOf 6 = .ok (.getfield 11, 3) := oq_180 (bq_in kqX7_isOf_0 6 rfl) (bq_in kqX7_isOf_0 7 rfl) (bq_in kqX7_isOf_0 8 rfl) rfl
theorem dX7_isOf_9 : decode cX7_isOf 9 = .ok (.iload_n 1, 1) := oq_27 (bq_in kqX7_isOf_0 9 rfl)
theorem dX7_isOf_10 : decode cX7_isOf 10 = .ok (.aaload, 1) := oq_50 (bq_in kqX7_isOf_0 10 rfl)
theorem dX7_isOf_11 : decode cX7_isOf 11 = .ok (.getfield 29, 3) := oq_180 (bq_in kqX7_isOf_0 11 rfl) (bq_in kqX7_isOf_0 12 rfl) (bq_in kqX7_isOf_0 13 rfl) rfl
theorem dX7_isOf_14 : decode cX7_isOf 14 = .ok (.iload_n 2, 1) := oq_28 (bq_in kqX7_isOf_0 14 rfl)
theorem dX7_isOf_15 : decode cX7_isOf 15 = .ok (.if_icmp .ne 7, 3) := oq_160 (bq_in kqX7_isOf_0 15 rfl) (bq_in kqX7_isOf_0 16 rfl) (bq_in kqX7_isOf_0 17 rfl) rfl
theorem dX7_isOf_18 : decode cX7_isOf 18 = .ok (.iconst 1, 1) := oq_4 (bq_in kqX7_isOf_0 18 rfl)
theorem dX7_isOf_19 : decode cX7_isOf 19 = .ok (.goto 4, 3) := oq_167 (bq_in kqX7_isOf_0 19 rfl) (bq_in kqX7_isOf_0 20 rfl) (bq_in kqX7_isOf_0 21 rfl) rfl
theorem dX7_isOf_22 : decode cX7_isOf 22 = .ok (.iconst 0, 1) := oq_3 (bq_in kqX7_isOf_0 22 rfl)
theorem dX7_isOf_23 : decode cX7_isOf 23 = .ok (.ireturn, 1) := oq_172 (bq_in kqX7_isOf_0 23 rfl)
theorem kqX7_spare_0 : ((cX7_spare.data.toList.drop 0).take 34).map UInt8.toNat = [42, 180, 0, 11, 42, 180, 0, 17, 42, 180, 0, 11, 190, 4, 100, 184, 0, 32, 50, 176] := by decide +kernel
theorem dX7_spare_0 : decode cX7_spare 0 = .ok (.aload_n 0, 1) := oq_42 (bq_in kqX7_spare_0 0 rfl)
theorem dX7_spare_1 : decode cX7_spare 1 = .ok (.getfield 11, 3) := oq_180 (bq_in kqX7_spare_0 1 rfl) (bq_in kqX7_spare_0 2 rfl) (bq_in kqX7_spare_0 3 rfl) rfl
theorem dX7_spare_4 : decode cX7_spare 4 = .ok (.aload_n 0, 1) := oq_42 (bq_in kqX7_spare_0 4 rfl)
theorem dX7_spare_5 : decode cX7_spare 5 = .ok (.getfield 17, 3) := oq_180 (bq_in kqX7_spare_0 5 rfl) (bq_in kqX7_spare_0 6 rfl) (bq_in kqX7_spare_0 7 rfl) rfl
theorem dX7_spare_8 : decode cX7_spare 8 = .ok (.aload_n 0, 1) := oq_42 (bq_in kqX7_spare_0 8 rfl)
theorem dX7_spare_9 : decode cX7_spare 9 = .ok (.getfield 11, 3) := oq_180 (bq_in kqX7_spare_0 9 rfl) (bq_in kqX7_spare_0 10 rfl) (bq_in kqX7_spare_0 11 rfl) rfl
theorem dX7_spare_12 : decode cX7_spare 12 = .ok (.arraylength, 1) := oq_190 (bq_in kqX7_spare_0 12 rfl)
theorem dX7_spare_13 : decode cX7_spare 13 = .ok (.iconst 1, 1) := oq_4 (bq_in kqX7_spare_0 13 rfl)
theorem dX7_spare_14 : decode cX7_spare 14 = .ok (.isub, 1) := oq_100 (bq_in kqX7_spare_0 14 rfl)
theorem dX7_spare_15 : decode cX7_spare 15 = .ok (.invokestatic 32, 3) := oq_184 (bq_in kqX7_spare_0 15 rfl) (bq_in kqX7_spare_0 16 rfl) (bq_in kqX7_spare_0 17 rfl) rfl
theorem dX7_spare_18 : decode cX7_spare 18 = .ok (.aaload, 1) := oq_50 (bq_in kqX7_spare_0 18 rfl)
theorem dX7_spare_19 : decode cX7_spare 19 = .ok (.areturn, 1) := oq_176 (bq_in kqX7_spare_0 19 rfl)
theorem kqX7_keepSpare_0 : ((cX7_keepSpare.data.toList.drop 0).take 34).map UInt8.toNat = [42, 42, 180, 0, 17, 4, 96, 42, 180, 0, 11, 190, 184, 0, 32, 181, 0, 17, 42, 180, 0, 17, 4, 100, 172] := by decide +kernel
theorem dX7_keepSpare_0 : decode cX7_keepSpare 0 = .ok (.aload_n 0, 1) := oq_42 (bq_in kqX7_keepSpare_0 0 rfl)
theorem dX7_keepSpare_1 : decode cX7_keepSpare 1 = .ok (.aload_n 0, 1) := oq_42 (bq_in kqX7_keepSpare_0 1 rfl)
theorem dX7_keepSpare_2 : decode cX7_keepSpare 2 = .ok (.getfield 17, 3) := oq_180 (bq_in kqX7_keepSpare_0 2 rfl) (bq_in kqX7_keepSpare_0 3 rfl) (bq_in kqX7_keepSpare_0 4 rfl) rfl
theorem dX7_keepSpare_5 : decode cX7_keepSpare 5 = .ok (.iconst 1, 1) := oq_4 (bq_in kqX7_keepSpare_0 5 rfl)
theorem dX7_keepSpare_6 : decode cX7_keepSpare 6 = .ok (.iadd, 1) := oq_96 (bq_in kqX7_keepSpare_0 6 rfl)
theorem dX7_keepSpare_7 : decode cX7_keepSpare 7 = .ok (.aload_n 0, 1) := oq_42 (bq_in kqX7_keepSpare_0 7 rfl)
theorem dX7_keepSpare_8 : decode cX7_keepSpare 8 = .ok (.getfield 11, 3) := oq_180 (bq_in kqX7_keepSpare_0 8 rfl) (bq_in kqX7_keepSpare_0 9 rfl) (bq_in kqX7_keepSpare_0 10 rfl) rfl
theorem dX7_keepSpare_11 : decode cX7_keepSpare 11 = .ok (.arraylength, 1) := oq_190 (bq_in kqX7_keepSpare_0 11 rfl)
theorem dX7_keepSpare_12 : decode cX7_keepSpare 12 = .ok (.invokestatic 32, 3) := oq_184 (bq_in kqX7_keepSpare_0 12 rfl) (bq_in kqX7_keepSpare_0 13 rfl) (bq_in kqX7_keepSpare_0 14 rfl) rfl
theorem dX7_keepSpare_15 : decode cX7_keepSpare 15 = .ok (.putfield 17, 3) := oq_181 (bq_in kqX7_keepSpare_0 15 rfl) (bq_in kqX7_keepSpare_0 16 rfl) (bq_in kqX7_keepSpare_0 17 rfl) rfl
theorem dX7_keepSpare_18 : decode cX7_keepSpare 18 = .ok (.aload_n 0, 1) := oq_42 (bq_in kqX7_keepSpare_0 18 rfl)
theorem dX7_keepSpare_19 : decode cX7_keepSpare 19 = .ok (.getfield 17, 3) := oq_180 (bq_in kqX7_keepSpare_0 19 rfl) (bq_in kqX7_keepSpare_0 20 rfl) (bq_in kqX7_keepSpare_0 21 rfl) rfl
theorem dX7_keepSpare_22 : decode cX7_keepSpare 22 = .ok (.iconst 1, 1) := oq_4 (bq_in kqX7_keepSpare_0 22 rfl)
theorem dX7_keepSpare_23 : decode cX7_keepSpare 23 = .ok (.isub, 1) := oq_100 (bq_in kqX7_keepSpare_0 23 rfl)
theorem dX7_keepSpare_24 : decode cX7_keepSpare 24 = .ok (.ireturn, 1) := oq_172 (bq_in kqX7_keepSpare_0 24 rfl)
theorem kqX7_remove_0 : ((cX7_remove.data.toList.drop 0).take 34).map UInt8.toNat = [42, 180, 0, 11, 27, 50, 77, 42, 89, 180, 0, 17, 4, 100, 181, 0, 17, 27, 62, 29, 42, 180, 0, 17, 162, 0, 23, 42, 180, 0, 11, 29, 42, 180] := by decide +kernel
theorem dX7_remove_0 : decode cX7_remove 0 = .ok (.aload_n 0, 1) := oq_42 (bq_in kqX7_remove_0 0 rfl)
theorem dX7_remove_1 : decode cX7_remove 1 = .ok (.getfield 11, 3) := oq_180 (bq_in kqX7_remove_0 1 rfl) (bq_in kqX7_remove_0 2 rfl) (bq_in kqX7_remove_0 3 rfl) rfl
theorem dX7_remove_4 : decode cX7_remove 4 = .ok (.iload_n 1, 1) := oq_27 (bq_in kqX7_remove_0 4 rfl)
theorem dX7_remove_5 : decode cX7_remove 5 = .ok (.aaload, 1) := oq_50 (bq_in kqX7_remove_0 5 rfl)
theorem dX7_remove_6 : decode cX7_remove 6 = .ok (.astore_n 2, 1) := oq_77 (bq_in kqX7_remove_0 6 rfl)
theorem dX7_remove_7 : decode cX7_remove 7 = .ok (.aload_n 0, 1) := oq_42 (bq_in kqX7_remove_0 7 rfl)
theorem dX7_remove_8 : decode cX7_remove 8 = .ok (.dup, 1) := oq_89 (bq_in kqX7_remove_0 8 rfl)
theorem dX7_remove_9 : decode cX7_remove 9 = .ok (.getfield 17, 3) := oq_180 (bq_in kqX7_remove_0 9 rfl) (bq_in kqX7_remove_0 10 rfl) (bq_in kqX7_remove_0 11 rfl) rfl
theorem dX7_remove_12 : decode cX7_remove 12 = .ok (.iconst 1, 1) := oq_4 (bq_in kqX7_remove_0 12 rfl)
theorem dX7_remove_13 : decode cX7_remove 13 = .ok (.isub, 1) := oq_100 (bq_in kqX7_remove_0 13 rfl)
theorem dX7_remove_14 : decode cX7_remove 14 = .ok (.putfield 17, 3) := oq_181 (bq_in kqX7_remove_0 14 rfl) (bq_in kqX7_remove_0 15 rfl) (bq_in kqX7_remove_0 16 rfl) rfl
theorem dX7_remove_17 : decode cX7_remove 17 = .ok (.iload_n 1, 1) := oq_27 (bq_in kqX7_remove_0 17 rfl)
theorem dX7_remove_18 : decode cX7_remove 18 = .ok (.istore_n 3, 1) := oq_62 (bq_in kqX7_remove_0 18 rfl)
theorem dX7_remove_19 : decode cX7_remove 19 = .ok (.iload_n 3, 1) := oq_29 (bq_in kqX7_remove_0 19 rfl)
theorem dX7_remove_20 : decode cX7_remove 20 = .ok (.aload_n 0, 1) := oq_42 (bq_in kqX7_remove_0 20 rfl)
theorem dX7_remove_21 : decode cX7_remove 21 = .ok (.getfield 17, 3) := oq_180 (bq_in kqX7_remove_0 21 rfl) (bq_in kqX7_remove_0 22 rfl) (bq_in kqX7_remove_0 23 rfl) rfl
theorem dX7_remove_24 : decode cX7_remove 24 = .ok (.if_icmp .ge 23, 3) := oq_162 (bq_in kqX7_remove_0 24 rfl) (bq_in kqX7_remove_0 25 rfl) (bq_in kqX7_remove_0 26 rfl) rfl
theorem dX7_remove_27 : decode cX7_remove 27 = .ok (.aload_n 0, 1) := oq_42 (bq_in kqX7_remove_0 27 rfl)
theorem dX7_remove_28 : decode cX7_remove 28 = .ok (.getfield 11, 3) := oq_180 (bq_in kqX7_remove_0 28 rfl) (bq_in kqX7_remove_0 29 rfl) (bq_in kqX7_remove_0 30 rfl) rfl
theorem dX7_remove_31 : decode cX7_remove 31 = .ok (.iload_n 3, 1) := oq_29 (bq_in kqX7_remove_0 31 rfl)
theorem kqX7_remove_1 : ((cX7_remove.data.toList.drop 32).take 34).map UInt8.toNat = [42, 180, 0, 11, 29, 4, 96, 50, 83, 132, 3, 1, 167, 255, 231, 42, 180, 0, 11, 42, 180, 0, 17, 44, 83, 177] := by decide +kernel
theorem dX7_remove_32 : decode cX7_remove 32 = .ok (.aload_n 0, 1) := oq_42 (bq_in kqX7_remove_1 0 rfl)
theorem dX7_remove_33 : decode cX7_remove 33 = .ok (.getfield 11, 3) := oq_180 (bq_in kqX7_remove_1 1 rfl) (bq_in kqX7_remove_1 2 rfl) (bq_in kqX7_remove_1 3 rfl) rfl
theorem dX7_remove_36 : decode cX7_remove 36 = .ok (.iload_n 3, 1) := oq_29 (bq_in kqX7_remove_1 4 rfl)
theorem dX7_remove_37 : decode cX7_remove 37 = .ok (.iconst 1, 1) := oq_4 (bq_in kqX7_remove_1 5 rfl)
theorem dX7_remove_38 : decode cX7_remove 38 = .ok (.iadd, 1) := oq_96 (bq_in kqX7_remove_1 6 rfl)
theorem dX7_remove_39 : decode cX7_remove 39 = .ok (.aaload, 1) := oq_50 (bq_in kqX7_remove_1 7 rfl)
theorem dX7_remove_40 : decode cX7_remove 40 = .ok (.aastore, 1) := oq_83 (bq_in kqX7_remove_1 8 rfl)
theorem dX7_remove_41 : decode cX7_remove 41 = .ok (.iinc 3 1, 3) := oq_132 (bq_in kqX7_remove_1 9 rfl) (bq_in kqX7_remove_1 10 rfl) (bq_in kqX7_remove_1 11 rfl) rfl
theorem dX7_remove_44 : decode cX7_remove 44 = .ok (.goto (-25), 3) := oq_167 (bq_in kqX7_remove_1 12 rfl) (bq_in kqX7_remove_1 13 rfl) (bq_in kqX7_remove_1 14 rfl) rfl
theorem dX7_remove_47 : decode cX7_remove 47 = .ok (.aload_n 0, 1) := oq_42 (bq_in kqX7_remove_1 15 rfl)
theorem dX7_remove_48 : decode cX7_remove 48 = .ok (.getfield 11, 3) := oq_180 (bq_in kqX7_remove_1 16 rfl) (bq_in kqX7_remove_1 17 rfl) (bq_in kqX7_remove_1 18 rfl) rfl
theorem dX7_remove_51 : decode cX7_remove 51 = .ok (.aload_n 0, 1) := oq_42 (bq_in kqX7_remove_1 19 rfl)
theorem dX7_remove_52 : decode cX7_remove 52 = .ok (.getfield 17, 3) := oq_180 (bq_in kqX7_remove_1 20 rfl) (bq_in kqX7_remove_1 21 rfl) (bq_in kqX7_remove_1 22 rfl) rfl
theorem dX7_remove_55 : decode cX7_remove 55 = .ok (.aload_n 2, 1) := oq_44 (bq_in kqX7_remove_1 23 rfl)
theorem dX7_remove_56 : decode cX7_remove 56 = .ok (.aastore, 1) := oq_83 (bq_in kqX7_remove_1 24 rfl)
theorem dX7_remove_57 : decode cX7_remove 57 = .ok (.return_, 1) := oq_177 (bq_in kqX7_remove_1 25 rfl)
theorem kqX7_copyFrom_0 : ((cX7_copyFrom.data.toList.drop 0).take 34).map UInt8.toNat = [42, 43, 180, 0, 17, 181, 0, 17, 3, 61, 28, 42, 180, 0, 17, 162, 0, 24, 42, 180, 0, 11, 28, 50, 43, 180, 0, 11, 28, 50, 182, 0, 38, 132] := by decide +kernel
theorem dX7_copyFrom_0 : decode cX7_copyFrom 0 = .ok (.aload_n 0, 1) := oq_42 (bq_in kqX7_copyFrom_0 0 rfl)
theorem dX7_copyFrom_1 : decode cX7_copyFrom 1 = .ok (.aload_n 1, 1) := oq_43 (bq_in kqX7_copyFrom_0 1 rfl)
theorem dX7_copyFrom_2 : decode cX7_copyFrom 2 = .ok (.getfield 17, 3) := oq_180 (bq_in kqX7_copyFrom_0 2 rfl) (bq_in kqX7_copyFrom_0 3 rfl) (bq_in kqX7_copyFrom_0 4 rfl) rfl
theorem dX7_copyFrom_5 : decode cX7_copyFrom 5 = .ok (.putfield 17, 3) := oq_181 (bq_in kqX7_copyFrom_0 5 rfl) (bq_in kqX7_copyFrom_0 6 rfl) (bq_in kqX7_copyFrom_0 7 rfl) rfl
theorem dX7_copyFrom_8 : decode cX7_copyFrom 8 = .ok (.iconst 0, 1) := oq_3 (bq_in kqX7_copyFrom_0 8 rfl)
theorem dX7_copyFrom_9 : decode cX7_copyFrom 9 = .ok (.istore_n 2, 1) := oq_61 (bq_in kqX7_copyFrom_0 9 rfl)
theorem dX7_copyFrom_10 : decode cX7_copyFrom 10 = .ok (.iload_n 2, 1) := oq_28 (bq_in kqX7_copyFrom_0 10 rfl)
theorem dX7_copyFrom_11 : decode cX7_copyFrom 11 = .ok (.aload_n 0, 1) := oq_42 (bq_in kqX7_copyFrom_0 11 rfl)
theorem dX7_copyFrom_12 : decode cX7_copyFrom 12 = .ok (.getfield 17, 3) := oq_180 (bq_in kqX7_copyFrom_0 12 rfl) (bq_in kqX7_copyFrom_0 13 rfl) (bq_in kqX7_copyFrom_0 14 rfl) rfl
theorem dX7_copyFrom_15 : decode cX7_copyFrom 15 = .ok (.if_icmp .ge 24, 3) := oq_162 (bq_in kqX7_copyFrom_0 15 rfl) (bq_in kqX7_copyFrom_0 16 rfl) (bq_in kqX7_copyFrom_0 17 rfl) rfl
theorem dX7_copyFrom_18 : decode cX7_copyFrom 18 = .ok (.aload_n 0, 1) := oq_42 (bq_in kqX7_copyFrom_0 18 rfl)
theorem dX7_copyFrom_19 : decode cX7_copyFrom 19 = .ok (.getfield 11, 3) := oq_180 (bq_in kqX7_copyFrom_0 19 rfl) (bq_in kqX7_copyFrom_0 20 rfl) (bq_in kqX7_copyFrom_0 21 rfl) rfl
theorem dX7_copyFrom_22 : decode cX7_copyFrom 22 = .ok (.iload_n 2, 1) := oq_28 (bq_in kqX7_copyFrom_0 22 rfl)
theorem dX7_copyFrom_23 : decode cX7_copyFrom 23 = .ok (.aaload, 1) := oq_50 (bq_in kqX7_copyFrom_0 23 rfl)
theorem dX7_copyFrom_24 : decode cX7_copyFrom 24 = .ok (.aload_n 1, 1) := oq_43 (bq_in kqX7_copyFrom_0 24 rfl)
theorem dX7_copyFrom_25 : decode cX7_copyFrom 25 = .ok (.getfield 11, 3) := oq_180 (bq_in kqX7_copyFrom_0 25 rfl) (bq_in kqX7_copyFrom_0 26 rfl) (bq_in kqX7_copyFrom_0 27 rfl) rfl
theorem dX7_copyFrom_28 : decode cX7_copyFrom 28 = .ok (.iload_n 2, 1) := oq_28 (bq_in kqX7_copyFrom_0 28 rfl)
theorem dX7_copyFrom_29 : decode cX7_copyFrom 29 = .ok (.aaload, 1) := oq_50 (bq_in kqX7_copyFrom_0 29 rfl)
theorem dX7_copyFrom_30 : decode cX7_copyFrom 30 = .ok (.invokevirtual 38, 3) := oq_182 (bq_in kqX7_copyFrom_0 30 rfl) (bq_in kqX7_copyFrom_0 31 rfl) (bq_in kqX7_copyFrom_0 32 rfl) rfl
theorem kqX7_copyFrom_1 : ((cX7_copyFrom.data.toList.drop 32).take 34).map UInt8.toNat = [38, 132, 2, 1, 167, 255, 230, 177] := by decide +kernel
theorem dX7_copyFrom_33 : decode cX7_copyFrom 33 = .ok (.iinc 2 1, 3) := oq_132 (bq_in kqX7_copyFrom_1 1 rfl) (bq_in kqX7_copyFrom_1 2 rfl) (bq_in kqX7_copyFrom_1 3 rfl) rfl
theorem dX7_copyFrom_36 : decode cX7_copyFrom 36 = .ok (.goto (-26), 3) := oq_167 (bq_in kqX7_copyFrom_1 4 rfl) (bq_in kqX7_copyFrom_1 5 rfl) (bq_in kqX7_copyFrom_1 6 rfl) rfl
theorem dX7_copyFrom_39 : decode cX7_copyFrom 39 = .ok (.return_, 1) := oq_177 (bq_in kqX7_copyFrom_1 7 rfl)
theorem kqX7_roomBits_0 : ((cX7_roomBits.data.toList.drop 0).take 34).map UInt8.toNat = [3, 60, 3, 61, 28, 42, 180, 0, 17, 162, 0, 23, 27, 4, 42, 180, 0, 11, 28, 50, 180, 0, 29, 120, 128, 60, 132, 2, 1, 167, 255, 231, 27, 172] := by decide +kernel
theorem dX7_roomBits_0 : decode cX7_roomBits 0 = .ok (.iconst 0, 1) := oq_3 (bq_in kqX7_roomBits_0 0 rfl)
theorem dX7_roomBits_1 : decode cX7_roomBits 1 = .ok (.istore_n 1, 1) := oq_60 (bq_in kqX7_roomBits_0 1 rfl)
theorem dX7_roomBits_2 : decode cX7_roomBits 2 = .ok (.iconst 0, 1) := oq_3 (bq_in kqX7_roomBits_0 2 rfl)
theorem dX7_roomBits_3 : decode cX7_roomBits 3 = .ok (.istore_n 2, 1) := oq_61 (bq_in kqX7_roomBits_0 3 rfl)
theorem dX7_roomBits_4 : decode cX7_roomBits 4 = .ok (.iload_n 2, 1) := oq_28 (bq_in kqX7_roomBits_0 4 rfl)
theorem dX7_roomBits_5 : decode cX7_roomBits 5 = .ok (.aload_n 0, 1) := oq_42 (bq_in kqX7_roomBits_0 5 rfl)
theorem dX7_roomBits_6 : decode cX7_roomBits 6 = .ok (.getfield 17, 3) := oq_180 (bq_in kqX7_roomBits_0 6 rfl) (bq_in kqX7_roomBits_0 7 rfl) (bq_in kqX7_roomBits_0 8 rfl) rfl
theorem dX7_roomBits_9 : decode cX7_roomBits 9 = .ok (.if_icmp .ge 23, 3) := oq_162 (bq_in kqX7_roomBits_0 9 rfl) (bq_in kqX7_roomBits_0 10 rfl) (bq_in kqX7_roomBits_0 11 rfl) rfl
theorem dX7_roomBits_12 : decode cX7_roomBits 12 = .ok (.iload_n 1, 1) := oq_27 (bq_in kqX7_roomBits_0 12 rfl)
theorem dX7_roomBits_13 : decode cX7_roomBits 13 = .ok (.iconst 1, 1) := oq_4 (bq_in kqX7_roomBits_0 13 rfl)
theorem dX7_roomBits_14 : decode cX7_roomBits 14 = .ok (.aload_n 0, 1) := oq_42 (bq_in kqX7_roomBits_0 14 rfl)
theorem dX7_roomBits_15 : decode cX7_roomBits 15 = .ok (.getfield 11, 3) := oq_180 (bq_in kqX7_roomBits_0 15 rfl) (bq_in kqX7_roomBits_0 16 rfl) (bq_in kqX7_roomBits_0 17 rfl) rfl
theorem dX7_roomBits_18 : decode cX7_roomBits 18 = .ok (.iload_n 2, 1) := oq_28 (bq_in kqX7_roomBits_0 18 rfl)
theorem dX7_roomBits_19 : decode cX7_roomBits 19 = .ok (.aaload, 1) := oq_50 (bq_in kqX7_roomBits_0 19 rfl)
theorem dX7_roomBits_20 : decode cX7_roomBits 20 = .ok (.getfield 29, 3) := oq_180 (bq_in kqX7_roomBits_0 20 rfl) (bq_in kqX7_roomBits_0 21 rfl) (bq_in kqX7_roomBits_0 22 rfl) rfl
theorem dX7_roomBits_23 : decode cX7_roomBits 23 = .ok (.ishl, 1) := oq_120 (bq_in kqX7_roomBits_0 23 rfl)
theorem dX7_roomBits_24 : decode cX7_roomBits 24 = .ok (.ior, 1) := oq_128 (bq_in kqX7_roomBits_0 24 rfl)
theorem dX7_roomBits_25 : decode cX7_roomBits 25 = .ok (.istore_n 1, 1) := oq_60 (bq_in kqX7_roomBits_0 25 rfl)
theorem dX7_roomBits_26 : decode cX7_roomBits 26 = .ok (.iinc 2 1, 3) := oq_132 (bq_in kqX7_roomBits_0 26 rfl) (bq_in kqX7_roomBits_0 27 rfl) (bq_in kqX7_roomBits_0 28 rfl) rfl
theorem dX7_roomBits_29 : decode cX7_roomBits 29 = .ok (.goto (-25), 3) := oq_167 (bq_in kqX7_roomBits_0 29 rfl) (bq_in kqX7_roomBits_0 30 rfl) (bq_in kqX7_roomBits_0 31 rfl) rfl
theorem kqX7_roomBits_1 : ((cX7_roomBits.data.toList.drop 32).take 34).map UInt8.toNat = [27, 172] := by decide +kernel
theorem dX7_roomBits_32 : decode cX7_roomBits 32 = .ok (.iload_n 1, 1) := oq_27 (bq_in kqX7_roomBits_1 0 rfl)
theorem dX7_roomBits_33 : decode cX7_roomBits 33 = .ok (.ireturn, 1) := oq_172 (bq_in kqX7_roomBits_1 1 rfl)
