theorem kqJ6_bitCount_0f7a4_0 : ((cJ6_bitCount_0f7a4.data.toList.drop 0).take 34).map UInt8.toNat = [26, 26, 4, 124, 19, 1, 9, 126, 100, 59, 26, 19, 1, 10, 126, 26, 5, 124, 19, 1, 10, 126, 96, 59, 26, 26, 7, 124, 96, 19, 1, 11, 126, 59] := by decide +kernel
theorem dJ6_bitCount_0f7a4_0 : decode cJ6_bitCount_0f7a4 0 = .ok (.iload_n 0, 1) := oq_26 (bq_in kqJ6_bitCount_0f7a4_0 0 rfl)
theorem dJ6_bitCount_0f7a4_1 : decode cJ6_bitCount_0f7a4 1 = .ok (.iload_n 0, 1) := oq_26 (bq_in kqJ6_bitCount_0f7a4_0 1 rfl)
theorem dJ6_bitCount_0f7a4_2 : decode cJ6_bitCount_0f7a4 2 = .ok (.iconst 1, 1) := oq_4 (bq_in kqJ6_bitCount_0f7a4_0 2 rfl)
theorem dJ6_bitCount_0f7a4_3 : decode cJ6_bitCount_0f7a4 3 = .ok (.iushr, 1) := oq_124 (bq_in kqJ6_bitCount_0f7a4_0 3 rfl)
theorem dJ6_bitCount_0f7a4_4 : decode cJ6_bitCount_0f7a4 4 = .ok (.ldc_w 265, 3) := oq_19 (bq_in kqJ6_bitCount_0f7a4_0 4 rfl) (bq_in kqJ6_bitCount_0f7a4_0 5 rfl) (bq_in kqJ6_bitCount_0f7a4_0 6 rfl) rfl
theorem dJ6_bitCount_0f7a4_7 : decode cJ6_bitCount_0f7a4 7 = .ok (.iand, 1) := oq_126 (bq_in kqJ6_bitCount_0f7a4_0 7 rfl)
theorem dJ6_bitCount_0f7a4_8 : decode cJ6_bitCount_0f7a4 8 = .ok (.isub, 1) := oq_100 (bq_in kqJ6_bitCount_0f7a4_0 8 rfl)
theorem dJ6_bitCount_0f7a4_9 : decode cJ6_bitCount_0f7a4 9 = .ok (.istore_n 0, 1) := oq_59 (bq_in kqJ6_bitCount_0f7a4_0 9 rfl)
theorem dJ6_bitCount_0f7a4_10 : decode cJ6_bitCount_0f7a4 10 = .ok (.iload_n 0, 1) := oq_26 (bq_in kqJ6_bitCount_0f7a4_0 10 rfl)
theorem dJ6_bitCount_0f7a4_11 : decode cJ6_bitCount_0f7a4 11 = .ok (.ldc_w 266, 3) := oq_19 (bq_in kqJ6_bitCount_0f7a4_0 11 rfl) (bq_in kqJ6_bitCount_0f7a4_0 12 rfl) (bq_in kqJ6_bitCount_0f7a4_0 13 rfl) rfl
theorem dJ6_bitCount_0f7a4_14 : decode cJ6_bitCount_0f7a4 14 = .ok (.iand, 1) := oq_126 (bq_in kqJ6_bitCount_0f7a4_0 14 rfl)
theorem dJ6_bitCount_0f7a4_15 : decode cJ6_bitCount_0f7a4 15 = .ok (.iload_n 0, 1) := oq_26 (bq_in kqJ6_bitCount_0f7a4_0 15 rfl)
theorem dJ6_bitCount_0f7a4_16 : decode cJ6_bitCount_0f7a4 16 = .ok (.iconst 2, 1) := oq_5 (bq_in kqJ6_bitCount_0f7a4_0 16 rfl)
theorem dJ6_bitCount_0f7a4_17 : decode cJ6_bitCount_0f7a4 17 = .ok (.iushr, 1) := oq_124 (bq_in kqJ6_bitCount_0f7a4_0 17 rfl)
theorem dJ6_bitCount_0f7a4_18 : decode cJ6_bitCount_0f7a4 18 = .ok (.ldc_w 266, 3) := oq_19 (bq_in kqJ6_bitCount_0f7a4_0 18 rfl) (bq_in kqJ6_bitCount_0f7a4_0 19 rfl) (bq_in kqJ6_bitCount_0f7a4_0 20 rfl) rfl
theorem dJ6_bitCount_0f7a4_21 : decode cJ6_bitCount_0f7a4 21 = .ok (.iand, 1) := oq_126 (bq_in kqJ6_bitCount_0f7a4_0 21 rfl)
theorem dJ6_bitCount_0f7a4_22 : decode cJ6_bitCount_0f7a4 22 = .ok (.iadd, 1) := oq_96 (bq_in kqJ6_bitCount_0f7a4_0 22 rfl)
theorem dJ6_bitCount_0f7a4_23 : decode cJ6_bitCount_0f7a4 23 = .ok (.istore_n 0, 1) := oq_59 (bq_in kqJ6_bitCount_0f7a4_0 23 rfl)
theorem dJ6_bitCount_0f7a4_24 : decode cJ6_bitCount_0f7a4 24 = .ok (.iload_n 0, 1) := oq_26 (bq_in kqJ6_bitCount_0f7a4_0 24 rfl)
theorem dJ6_bitCount_0f7a4_25 : decode cJ6_bitCount_0f7a4 25 = .ok (.iload_n 0, 1) := oq_26 (bq_in kqJ6_bitCount_0f7a4_0 25 rfl)
theorem dJ6_bitCount_0f7a4_26 : decode cJ6_bitCount_0f7a4 26 = .ok (.iconst 4, 1) := oq_7 (bq_in kqJ6_bitCount_0f7a4_0 26 rfl)
theorem dJ6_bitCount_0f7a4_27 : decode cJ6_bitCount_0f7a4 27 = .ok (.iushr, 1) := oq_124 (bq_in kqJ6_bitCount_0f7a4_0 27 rfl)
theorem dJ6_bitCount_0f7a4_28 : decode cJ6_bitCount_0f7a4 28 = .ok (.iadd, 1) := oq_96 (bq_in kqJ6_bitCount_0f7a4_0 28 rfl)
theorem dJ6_bitCount_0f7a4_29 : decode cJ6_bitCount_0f7a4 29 = .ok (.ldc_w 267, 3) := oq_19 (bq_in kqJ6_bitCount_0f7a4_0 29 rfl) (bq_in kqJ6_bitCount_0f7a4_0 30 rfl) (bq_in kqJ6_bitCount_0f7a4_0 31 rfl) rfl
theorem kqJ6_bitCount_0f7a4_1 : ((cJ6_bitCount_0f7a4.data.toList.drop 32).take 34).map UInt8.toNat = [126, 59, 26, 26, 16, 8, 124, 96, 59, 26, 26, 16, 16, 124, 96, 59, 26, 16, 63, 126, 172] := by decide +kernel
theorem dJ6_bitCount_0f7a4_32 : decode cJ6_bitCount_0f7a4 32 = .ok (.iand, 1) := oq_126 (bq_in kqJ6_bitCount_0f7a4_1 0 rfl)
theorem dJ6_bitCount_0f7a4_33 : decode cJ6_bitCount_0f7a4 33 = .ok (.istore_n 0, 1) := oq_59 (bq_in kqJ6_bitCount_0f7a4_1 1 rfl)
theorem dJ6_bitCount_0f7a4_34 : decode cJ6_bitCount_0f7a4 34 = .ok (.iload_n 0, 1) := oq_26 (bq_in kqJ6_bitCount_0f7a4_1 2 rfl)
theorem dJ6_bitCount_0f7a4_35 : decode cJ6_bitCount_0f7a4 35 = .ok (.iload_n 0, 1) := oq_26 (bq_in kqJ6_bitCount_0f7a4_1 3 rfl)
theorem dJ6_bitCount_0f7a4_36 : decode cJ6_bitCount_0f7a4 36 = .ok (.bipush 8, 2) := oq_16 (bq_in kqJ6_bitCount_0f7a4_1 4 rfl) (bq_in kqJ6_bitCount_0f7a4_1 5 rfl) rfl
theorem dJ6_bitCount_0f7a4_38 : decode cJ6_bitCount_0f7a4 38 = .ok (.iushr, 1) := oq_124 (bq_in kqJ6_bitCount_0f7a4_1 6 rfl)
theorem dJ6_bitCount_0f7a4_39 : decode cJ6_bitCount_0f7a4 39 = .ok (.iadd, 1) := oq_96 (bq_in kqJ6_bitCount_0f7a4_1 7 rfl)
theorem dJ6_bitCount_0f7a4_40 : decode cJ6_bitCount_0f7a4 40 = .ok (.istore_n 0, 1) := oq_59 (bq_in kqJ6_bitCount_0f7a4_1 8 rfl)
theorem dJ6_bitCount_0f7a4_41 : decode cJ6_bitCount_0f7a4 41 = .ok (.iload_n 0, 1) := oq_26 (bq_in kqJ6_bitCount_0f7a4_1 9 rfl)
theorem dJ6_bitCount_0f7a4_42 : decode cJ6_bitCount_0f7a4 42 = .ok (.iload_n 0, 1) := oq_26 (bq_in kqJ6_bitCount_0f7a4_1 10 rfl)
theorem dJ6_bitCount_0f7a4_43 : decode cJ6_bitCount_0f7a4 43 = .ok (.bipush 16, 2) := oq_16 (bq_in kqJ6_bitCount_0f7a4_1 11 rfl) (bq_in kqJ6_bitCount_0f7a4_1 12 rfl) rfl
theorem dJ6_bitCount_0f7a4_45 : decode cJ6_bitCount_0f7a4 45 = .ok (.iushr, 1) := oq_124 (bq_in kqJ6_bitCount_0f7a4_1 13 rfl)
theorem dJ6_bitCount_0f7a4_46 : decode cJ6_bitCount_0f7a4 46 = .ok (.iadd, 1) := oq_96 (bq_in kqJ6_bitCount_0f7a4_1 14 rfl)
theorem dJ6_bitCount_0f7a4_47 : decode cJ6_bitCount_0f7a4 47 = .ok (.istore_n 0, 1) := oq_59 (bq_in kqJ6_bitCount_0f7a4_1 15 rfl)
theorem dJ6_bitCount_0f7a4_48 : decode cJ6_bitCount_0f7a4 48 = .ok (.iload_n 0, 1) := oq_26 (bq_in kqJ6_bitCount_0f7a4_1 16 rfl)
theorem dJ6_bitCount_0f7a4_49 : decode cJ6_bitCount_0f7a4 49 = .ok (.bipush 63, 2) := oq_16 (bq_in kqJ6_bitCount_0f7a4_1 17 rfl) (bq_in kqJ6_bitCount_0f7a4_1 18 rfl) rfl
theorem dJ6_bitCount_0f7a4_51 : decode cJ6_bitCount_0f7a4 51 = .ok (.iand, 1) := oq_126 (bq_in kqJ6_bitCount_0f7a4_1 19 rfl)
theorem dJ6_bitCount_0f7a4_52 : decode cJ6_bitCount_0f7a4 52 = .ok (.ireturn, 1) := oq_172 (bq_in kqJ6_bitCount_0f7a4_1 20 rfl)
theorem kqJ9_floorDiv_7cf53_0 : ((cJ9_floorDiv_7cf53.data.toList.drop 0).take 34).map UInt8.toNat = [26, 27, 108, 61, 26, 27, 130, 156, 0, 14, 28, 27, 104, 26, 159, 0, 7, 28, 4, 100, 172, 28, 172] := by decide +kernel
theorem dJ9_floorDiv_7cf53_0 : decode cJ9_floorDiv_7cf53 0 = .ok (.iload_n 0, 1) := oq_26 (bq_in kqJ9_floorDiv_7cf53_0 0 rfl)
theorem dJ9_floorDiv_7cf53_1 : decode cJ9_floorDiv_7cf53 1 = .ok (.iload_n 1, 1) := oq_27 (bq_in kqJ9_floorDiv_7cf53_0 1 rfl)
theorem dJ9_floorDiv_7cf53_2 : decode cJ9_floorDiv_7cf53 2 = .ok (.idiv, 1) := oq_108 (bq_in kqJ9_floorDiv_7cf53_0 2 rfl)
theorem dJ9_floorDiv_7cf53_3 : decode cJ9_floorDiv_7cf53 3 = .ok (.istore_n 2, 1) := oq_61 (bq_in kqJ9_floorDiv_7cf53_0 3 rfl)
theorem dJ9_floorDiv_7cf53_4 : decode cJ9_floorDiv_7cf53 4 = .ok (.iload_n 0, 1) := oq_26 (bq_in kqJ9_floorDiv_7cf53_0 4 rfl)
theorem dJ9_floorDiv_7cf53_5 : decode cJ9_floorDiv_7cf53 5 = .ok (.iload_n 1, 1) := oq_27 (bq_in kqJ9_floorDiv_7cf53_0 5 rfl)
theorem dJ9_floorDiv_7cf53_6 : decode cJ9_floorDiv_7cf53 6 = .ok (.ixor, 1) := oq_130 (bq_in kqJ9_floorDiv_7cf53_0 6 rfl)
theorem dJ9_floorDiv_7cf53_7 : decode cJ9_floorDiv_7cf53 7 = .ok (.ifCond .ge 14, 3) := oq_156 (bq_in kqJ9_floorDiv_7cf53_0 7 rfl) (bq_in kqJ9_floorDiv_7cf53_0 8 rfl) (bq_in kqJ9_floorDiv_7cf53_0 9 rfl) rfl
theorem dJ9_floorDiv_7cf53_10 : decode cJ9_floorDiv_7cf53 10 = .ok (.iload_n 2, 1) := oq_28 (bq_in kqJ9_floorDiv_7cf53_0 10 rfl)
theorem dJ9_floorDiv_7cf53_11 : decode cJ9_floorDiv_7cf53 11 = .ok (.iload_n 1, 1) := oq_27 (bq_in kqJ9_floorDiv_7cf53_0 11 rfl)
theorem dJ9_floorDiv_7cf53_12 : decode cJ9_floorDiv_7cf53 12 = .ok (.imul, 1) := oq_104 (bq_in kqJ9_floorDiv_7cf53_0 12 rfl)
theorem dJ9_floorDiv_7cf53_13 : decode cJ9_floorDiv_7cf53 13 = .ok (.iload_n 0, 1) := oq_26 (bq_in kqJ9_floorDiv_7cf53_0 13 rfl)
theorem dJ9_floorDiv_7cf53_14 : decode cJ9_floorDiv_7cf53 14 = .ok (.if_icmp .eq 7, 3) := oq_159 (bq_in kqJ9_floorDiv_7cf53_0 14 rfl) (bq_in kqJ9_floorDiv_7cf53_0 15 rfl) (bq_in kqJ9_floorDiv_7cf53_0 16 rfl) rfl
theorem dJ9_floorDiv_7cf53_17 : decode cJ9_floorDiv_7cf53 17 = .ok (.iload_n 2, 1) := oq_28 (bq_in kqJ9_floorDiv_7cf53_0 17 rfl)
theorem dJ9_floorDiv_7cf53_18 : decode cJ9_floorDiv_7cf53 18 = .ok (.iconst 1, 1) := oq_4 (bq_in kqJ9_floorDiv_7cf53_0 18 rfl)
theorem dJ9_floorDiv_7cf53_19 : decode cJ9_floorDiv_7cf53 19 = .ok (.isub, 1) := oq_100 (bq_in kqJ9_floorDiv_7cf53_0 19 rfl)
theorem dJ9_floorDiv_7cf53_20 : decode cJ9_floorDiv_7cf53 20 = .ok (.ireturn, 1) := oq_172 (bq_in kqJ9_floorDiv_7cf53_0 20 rfl)
theorem dJ9_floorDiv_7cf53_21 : decode cJ9_floorDiv_7cf53 21 = .ok (.iload_n 2, 1) := oq_28 (bq_in kqJ9_floorDiv_7cf53_0 21 rfl)
theorem dJ9_floorDiv_7cf53_22 : decode cJ9_floorDiv_7cf53 22 = .ok (.ireturn, 1) := oq_172 (bq_in kqJ9_floorDiv_7cf53_0 22 rfl)
theorem kqJ9_max_7cf53_0 : ((cJ9_max_7cf53.data.toList.drop 0).take 34).map UInt8.toNat = [26, 27, 161, 0, 7, 26, 167, 0, 4, 27, 172] := by decide +kernel
theorem dJ9_max_7cf53_0 : decode cJ9_max_7cf53 0 = .ok (.iload_n 0, 1) := oq_26 (bq_in kqJ9_max_7cf53_0 0 rfl)
theorem dJ9_max_7cf53_1 : decode cJ9_max_7cf53 1 = .ok (.iload_n 1, 1) := oq_27 (bq_in kqJ9_max_7cf53_0 1 rfl)
theorem dJ9_max_7cf53_2 : decode cJ9_max_7cf53 2 = .ok (.if_icmp .lt 7, 3) := oq_161 (bq_in kqJ9_max_7cf53_0 2 rfl) (bq_in kqJ9_max_7cf53_0 3 rfl) (bq_in kqJ9_max_7cf53_0 4 rfl) rfl
theorem dJ9_max_7cf53_5 : decode cJ9_max_7cf53 5 = .ok (.iload_n 0, 1) := oq_26 (bq_in kqJ9_max_7cf53_0 5 rfl)
theorem dJ9_max_7cf53_6 : decode cJ9_max_7cf53 6 = .ok (.goto 4, 3) := oq_167 (bq_in kqJ9_max_7cf53_0 6 rfl) (bq_in kqJ9_max_7cf53_0 7 rfl) (bq_in kqJ9_max_7cf53_0 8 rfl) rfl
theorem dJ9_max_7cf53_9 : decode cJ9_max_7cf53 9 = .ok (.iload_n 1, 1) := oq_27 (bq_in kqJ9_max_7cf53_0 9 rfl)
theorem dJ9_max_7cf53_10 : decode cJ9_max_7cf53 10 = .ok (.ireturn, 1) := oq_172 (bq_in kqJ9_max_7cf53_0 10 rfl)
theorem kqJ9_min_7cf53_0 : ((cJ9_min_7cf53.data.toList.drop 0).take 34).map UInt8.toNat = [26, 27, 163, 0, 7, 26, 167, 0, 4, 27, 172] := by decide +kernel
theorem dJ9_min_7cf53_0 : decode cJ9_min_7cf53 0 = .ok (.iload_n 0, 1) := oq_26 (bq_in kqJ9_min_7cf53_0 0 rfl)
theorem dJ9_min_7cf53_1 : decode cJ9_min_7cf53 1 = .ok (.iload_n 1, 1) := oq_27 (bq_in kqJ9_min_7cf53_0 1 rfl)
theorem dJ9_min_7cf53_2 : decode cJ9_min_7cf53 2 = .ok (.if_icmp .gt 7, 3) := oq_163 (bq_in kqJ9_min_7cf53_0 2 rfl) (bq_in kqJ9_min_7cf53_0 3 rfl) (bq_in kqJ9_min_7cf53_0 4 rfl) rfl
theorem dJ9_min_7cf53_5 : decode cJ9_min_7cf53 5 = .ok (.iload_n 0, 1) := oq_26 (bq_in kqJ9_min_7cf53_0 5 rfl)
theorem dJ9_min_7cf53_6 : decode cJ9_min_7cf53 6 = .ok (.goto 4, 3) := oq_167 (bq_in kqJ9_min_7cf53_0 6 rfl) (bq_in kqJ9_min_7cf53_0 7 rfl) (bq_in kqJ9_min_7cf53_0 8 rfl) rfl
theorem dJ9_min_7cf53_9 : decode cJ9_min_7cf53 9 = .ok (.iload_n 1, 1) := oq_27 (bq_in kqJ9_min_7cf53_0 9 rfl)
theorem dJ9_min_7cf53_10 : decode cJ9_min_7cf53 10 = .ok (.ireturn, 1) := oq_172 (bq_in kqJ9_min_7cf53_0 10 rfl)
theorem kqJ9_min_f86c9_0 : ((cJ9_min_f86c9.data.toList.drop 0).take 34).map UInt8.toNat = [30, 32, 148, 157, 0, 7, 30, 167, 0, 4, 32, 173] := by decide +kernel
theorem dJ9_min_f86c9_0 : decode cJ9_min_f86c9 0 = .ok (.lload_n 0, 1) := oq_30 (bq_in kqJ9_min_f86c9_0 0 rfl)
theorem dJ9_min_f86c9_1 : decode cJ9_min_f86c9 1 = .ok (.lload_n 2, 1) := oq_32 (bq_in kqJ9_min_f86c9_0 1 rfl)
theorem dJ9_min_f86c9_2 : decode cJ9_min_f86c9 2 = .ok (.lcmp, 1) := oq_148 (bq_in kqJ9_min_f86c9_0 2 rfl)
theorem dJ9_min_f86c9_3 : decode cJ9_min_f86c9 3 = .ok (.ifCond .gt 7, 3) := oq_157 (bq_in kqJ9_min_f86c9_0 3 rfl) (bq_in kqJ9_min_f86c9_0 4 rfl) (bq_in kqJ9_min_f86c9_0 5 rfl) rfl
theorem dJ9_min_f86c9_6 : decode cJ9_min_f86c9 6 = .ok (.lload_n 0, 1) := oq_30 (bq_in kqJ9_min_f86c9_0 6 rfl)
theorem dJ9_min_f86c9_7 : decode cJ9_min_f86c9 7 = .ok (.goto 4, 3) := oq_167 (bq_in kqJ9_min_f86c9_0 7 rfl) (bq_in kqJ9_min_f86c9_0 8 rfl) (bq_in kqJ9_min_f86c9_0 9 rfl) rfl
theorem dJ9_min_f86c9_10 : decode cJ9_min_f86c9 10 = .ok (.lload_n 2, 1) := oq_32 (bq_in kqJ9_min_f86c9_0 10 rfl)
theorem dJ9_min_f86c9_11 : decode cJ9_min_f86c9 11 = .ok (.lreturn, 1) := oq_173 (bq_in kqJ9_min_f86c9_0 11 rfl)
theorem kqJ0_length_8abf5_0 : ((cJ0_length_8abf5.data.toList.drop 0).take 34).map UInt8.toNat = [42, 180, 0, 9, 190, 42, 182, 1, 79, 122, 172] := by decide +kernel
theorem dJ0_length_8abf5_0 : decode cJ0_length_8abf5 0 = .ok (.aload_n 0, 1) := oq_42 (bq_in kqJ0_length_8abf5_0 0 rfl)
theorem dJ0_length_8abf5_1 : decode cJ0_length_8abf5 1 = .ok (.getfield 9, 3) := oq_180 (bq_in kqJ0_length_8abf5_0 1 rfl) (bq_in kqJ0_length_8abf5_0 2 rfl) (bq_in kqJ0_length_8abf5_0 3 rfl) rfl
theorem dJ0_length_8abf5_4 : decode cJ0_length_8abf5 4 = .ok (.arraylength, 1) := oq_190 (bq_in kqJ0_length_8abf5_0 4 rfl)
theorem dJ0_length_8abf5_5 : decode cJ0_length_8abf5 5 = .ok (.aload_n 0, 1) := oq_42 (bq_in kqJ0_length_8abf5_0 5 rfl)
theorem dJ0_length_8abf5_6 : decode cJ0_length_8abf5 6 = .ok (.invokevirtual 335, 3) := oq_182 (bq_in kqJ0_length_8abf5_0 6 rfl) (bq_in kqJ0_length_8abf5_0 7 rfl) (bq_in kqJ0_length_8abf5_0 8 rfl) rfl
theorem dJ0_length_8abf5_9 : decode cJ0_length_8abf5 9 = .ok (.ishr, 1) := oq_122 (bq_in kqJ0_length_8abf5_0 9 rfl)
theorem dJ0_length_8abf5_10 : decode cJ0_length_8abf5 10 = .ok (.ireturn, 1) := oq_172 (bq_in kqJ0_length_8abf5_0 10 rfl)
theorem kqJ0_charAt_5068e_0 : ((cJ0_charAt_5068e.data.toList.drop 0).take 34).map UInt8.toNat = [42, 182, 1, 236, 153, 0, 12, 42, 180, 0, 9, 27, 184, 1, 239, 172, 42, 180, 0, 9, 27, 184, 1, 242, 172] := by decide +kernel
theorem dJ0_charAt_5068e_0 : decode cJ0_charAt_5068e 0 = .ok (.aload_n 0, 1) := oq_42 (bq_in kqJ0_charAt_5068e_0 0 rfl)
theorem dJ0_charAt_5068e_1 : decode cJ0_charAt_5068e 1 = .ok (.invokevirtual 492, 3) := oq_182 (bq_in kqJ0_charAt_5068e_0 1 rfl) (bq_in kqJ0_charAt_5068e_0 2 rfl) (bq_in kqJ0_charAt_5068e_0 3 rfl) rfl
theorem dJ0_charAt_5068e_4 : decode cJ0_charAt_5068e 4 = .ok (.ifCond .eq 12, 3) := oq_153 (bq_in kqJ0_charAt_5068e_0 4 rfl) (bq_in kqJ0_charAt_5068e_0 5 rfl) (bq_in kqJ0_charAt_5068e_0 6 rfl) rfl
theorem dJ0_charAt_5068e_7 : decode cJ0_charAt_5068e 7 = .ok (.aload_n 0, 1) := oq_42 (bq_in kqJ0_charAt_5068e_0 7 rfl)
theorem dJ0_charAt_5068e_8 : decode cJ0_charAt_5068e 8 = .ok (.getfield 9, 3) := oq_180 (bq_in kqJ0_charAt_5068e_0 8 rfl) (bq_in kqJ0_charAt_5068e_0 9 rfl) (bq_in kqJ0_charAt_5068e_0 10 rfl) rfl
theorem dJ0_charAt_5068e_11 : decode cJ0_charAt_5068e 11 = .ok (.iload_n 1, 1) := oq_27 (bq_in kqJ0_charAt_5068e_0 11 rfl)
theorem dJ0_charAt_5068e_12 : decode cJ0_charAt_5068e 12 = .ok (.invokestatic 495, 3) := oq_184 (bq_in kqJ0_charAt_5068e_0 12 rfl) (bq_in kqJ0_charAt_5068e_0 13 rfl) (bq_in kqJ0_charAt_5068e_0 14 rfl) rfl
theorem dJ0_charAt_5068e_15 : decode cJ0_charAt_5068e 15 = .ok (.ireturn, 1) := oq_172 (bq_in kqJ0_charAt_5068e_0 15 rfl)
theorem dJ0_charAt_5068e_16 : decode cJ0_charAt_5068e 16 = .ok (.aload_n 0, 1) := oq_42 (bq_in kqJ0_charAt_5068e_0 16 rfl)
theorem dJ0_charAt_5068e_17 : decode cJ0_charAt_5068e 17 = .ok (.getfield 9, 3) := oq_180 (bq_in kqJ0_charAt_5068e_0 17 rfl) (bq_in kqJ0_charAt_5068e_0 18 rfl) (bq_in kqJ0_charAt_5068e_0 19 rfl) rfl
theorem dJ0_charAt_5068e_20 : decode cJ0_charAt_5068e 20 = .ok (.iload_n 1, 1) := oq_27 (bq_in kqJ0_charAt_5068e_0 20 rfl)
theorem dJ0_charAt_5068e_21 : decode cJ0_charAt_5068e 21 = .ok (.invokestatic 498, 3) := oq_184 (bq_in kqJ0_charAt_5068e_0 21 rfl) (bq_in kqJ0_charAt_5068e_0 22 rfl) (bq_in kqJ0_charAt_5068e_0 23 rfl) rfl
theorem dJ0_charAt_5068e_24 : decode cJ0_charAt_5068e 24 = .ok (.ireturn, 1) := oq_172 (bq_in kqJ0_charAt_5068e_0 24 rfl)
theorem kqJ0_coder_7d493_0 : ((cJ0_coder_7d493.data.toList.drop 0).take 34).map UInt8.toNat = [178, 0, 38, 153, 0, 10, 42, 180, 0, 15, 167, 0, 4, 4, 172] := by decide +kernel
theorem dJ0_coder_7d493_0 : decode cJ0_coder_7d493 0 = .ok (.getstatic 38, 3) := oq_178 (bq_in kqJ0_coder_7d493_0 0 rfl) (bq_in kqJ0_coder_7d493_0 1 rfl) (bq_in kqJ0_coder_7d493_0 2 rfl) rfl
theorem dJ0_coder_7d493_3 : decode cJ0_coder_7d493 3 = .ok (.ifCond .eq 10, 3) := oq_153 (bq_in kqJ0_coder_7d493_0 3 rfl) (bq_in kqJ0_coder_7d493_0 4 rfl) (bq_in kqJ0_coder_7d493_0 5 rfl) rfl
theorem dJ0_coder_7d493_6 : decode cJ0_coder_7d493 6 = .ok (.aload_n 0, 1) := oq_42 (bq_in kqJ0_coder_7d493_0 6 rfl)
theorem dJ0_coder_7d493_7 : decode cJ0_coder_7d493 7 = .ok (.getfield 15, 3) := oq_180 (bq_in kqJ0_coder_7d493_0 7 rfl) (bq_in kqJ0_coder_7d493_0 8 rfl) (bq_in kqJ0_coder_7d493_0 9 rfl) rfl
theorem dJ0_coder_7d493_10 : decode cJ0_coder_7d493 10 = .ok (.goto 4, 3) := oq_167 (bq_in kqJ0_coder_7d493_0 10 rfl) (bq_in kqJ0_coder_7d493_0 11 rfl) (bq_in kqJ0_coder_7d493_0 12 rfl) rfl
theorem dJ0_coder_7d493_13 : decode cJ0_coder_7d493 13 = .ok (.iconst 1, 1) := oq_4 (bq_in kqJ0_coder_7d493_0 13 rfl)
theorem dJ0_coder_7d493_14 : decode cJ0_coder_7d493 14 = .ok (.ireturn, 1) := oq_172 (bq_in kqJ0_coder_7d493_0 14 rfl)
theorem kqJ0_isLatin1_aae02_0 : ((cJ0_isLatin1_aae02.data.toList.drop 0).take 34).map UInt8.toNat = [178, 0, 38, 153, 0, 14, 42, 180, 0, 15, 154, 0, 7, 4, 167, 0, 4, 3, 172] := by decide +kernel
theorem dJ0_isLatin1_aae02_0 : decode cJ0_isLatin1_aae02 0 = .ok (.getstatic 38, 3) := oq_178 (bq_in kqJ0_isLatin1_aae02_0 0 rfl) (bq_in kqJ0_isLatin1_aae02_0 1 rfl) (bq_in kqJ0_isLatin1_aae02_0 2 rfl) rfl
theorem dJ0_isLatin1_aae02_3 : decode cJ0_isLatin1_aae02 3 = .ok (.ifCond .eq 14, 3) := oq_153 (bq_in kqJ0_isLatin1_aae02_0 3 rfl) (bq_in kqJ0_isLatin1_aae02_0 4 rfl) (bq_in kqJ0_isLatin1_aae02_0 5 rfl) rfl
theorem dJ0_isLatin1_aae02_6 : decode cJ0_isLatin1_aae02 6 = .ok (.aload_n 0, 1) := oq_42 (bq_in kqJ0_isLatin1_aae02_0 6 rfl)
theorem dJ0_isLatin1_aae02_7 : decode cJ0_isLatin1_aae02 7 = .ok (.getfield 15, 3) := oq_180 (bq_in kqJ0_isLatin1_aae02_0 7 rfl) (bq_in kqJ0_isLatin1_aae02_0 8 rfl) (bq_in kqJ0_isLatin1_aae02_0 9 rfl) rfl
theorem dJ0_isLatin1_aae02_10 : decode cJ0_isLatin1_aae02 10 = .ok (.ifCond .ne 7, 3) := oq_154 (bq_in kqJ0_isLatin1_aae02_0 10 rfl) (bq_in kqJ0_isLatin1_aae02_0 11 rfl) (bq_in kqJ0_isLatin1_aae02_0 12 rfl) rfl
theorem dJ0_isLatin1_aae02_13 : decode cJ0_isLatin1_aae02 13 = .ok (.iconst 1, 1) := oq_4 (bq_in kqJ0_isLatin1_aae02_0 13 rfl)
theorem dJ0_isLatin1_aae02_14 : decode cJ0_isLatin1_aae02 14 = .ok (.goto 4, 3) := oq_167 (bq_in kqJ0_isLatin1_aae02_0 14 rfl) (bq_in kqJ0_isLatin1_aae02_0 15 rfl) (bq_in kqJ0_isLatin1_aae02_0 16 rfl) rfl
theorem dJ0_isLatin1_aae02_17 : decode cJ0_isLatin1_aae02 17 = .ok (.iconst 0, 1) := oq_3 (bq_in kqJ0_isLatin1_aae02_0 17 rfl)
theorem dJ0_isLatin1_aae02_18 : decode cJ0_isLatin1_aae02 18 = .ok (.ireturn, 1) := oq_172 (bq_in kqJ0_isLatin1_aae02_0 18 rfl)
theorem kqJ0_checkIndex_df160_0 : ((cJ0_checkIndex_df160.data.toList.drop 0).take 34).map UInt8.toNat = [26, 27, 178, 4, 29, 184, 4, 35, 87, 177] := by decide +kernel
theorem dJ0_checkIndex_df160_0 : decode cJ0_checkIndex_df160 0 = .ok (.iload_n 0, 1) := oq_26 (bq_in kqJ0_checkIndex_df160_0 0 rfl)
theorem dJ0_checkIndex_df160_1 : decode cJ0_checkIndex_df160 1 = .ok (.iload_n 1, 1) := oq_27 (bq_in kqJ0_checkIndex_df160_0 1 rfl)
theorem dJ0_checkIndex_df160_2 : decode cJ0_checkIndex_df160 2 = .ok (.getstatic 1053, 3) := oq_178 (bq_in kqJ0_checkIndex_df160_0 2 rfl) (bq_in kqJ0_checkIndex_df160_0 3 rfl) (bq_in kqJ0_checkIndex_df160_0 4 rfl) rfl
theorem dJ0_checkIndex_df160_5 : decode cJ0_checkIndex_df160 5 = .ok (.invokestatic 1059, 3) := oq_184 (bq_in kqJ0_checkIndex_df160_0 5 rfl) (bq_in kqJ0_checkIndex_df160_0 6 rfl) (bq_in kqJ0_checkIndex_df160_0 7 rfl) rfl
theorem dJ0_checkIndex_df160_8 : decode cJ0_checkIndex_df160 8 = .ok (.pop, 1) := oq_87 (bq_in kqJ0_checkIndex_df160_0 8 rfl)
theorem dJ0_checkIndex_df160_9 : decode cJ0_checkIndex_df160 9 = .ok (.return_, 1) := oq_177 (bq_in kqJ0_checkIndex_df160_0 9 rfl)
theorem kqJ1_charAt_3b067_0 : ((cJ1_charAt_3b067.data.toList.drop 0).take 34).map UInt8.toNat = [27, 42, 190, 184, 0, 9, 42, 27, 51, 17, 0, 255, 126, 146, 172] := by decide +kernel
theorem dJ1_charAt_3b067_0 : decode cJ1_charAt_3b067 0 = .ok (.iload_n 1, 1) := oq_27 (bq_in kqJ1_charAt_3b067_0 0 rfl)
theorem dJ1_charAt_3b067_1 : decode cJ1_charAt_3b067 1 = .ok (.aload_n 0, 1) := oq_42 (bq_in kqJ1_charAt_3b067_0 1 rfl)
theorem dJ1_charAt_3b067_2 : decode cJ1_charAt_3b067 2 = .ok (.arraylength, 1) := oq_190 (bq_in kqJ1_charAt_3b067_0 2 rfl)
theorem dJ1_charAt_3b067_3 : decode cJ1_charAt_3b067 3 = .ok (.invokestatic 9, 3) := oq_184 (bq_in kqJ1_charAt_3b067_0 3 rfl) (bq_in kqJ1_charAt_3b067_0 4 rfl) (bq_in kqJ1_charAt_3b067_0 5 rfl) rfl
theorem dJ1_charAt_3b067_6 : decode cJ1_charAt_3b067 6 = .ok (.aload_n 0, 1) := oq_42 (bq_in kqJ1_charAt_3b067_0 6 rfl)
theorem dJ1_charAt_3b067_7 : decode cJ1_charAt_3b067 7 = .ok (.iload_n 1, 1) := oq_27 (bq_in kqJ1_charAt_3b067_0 7 rfl)
theorem dJ1_charAt_3b067_8 : decode cJ1_charAt_3b067 8 = .ok (.baload, 1) := oq_51 (bq_in kqJ1_charAt_3b067_0 8 rfl)
theorem dJ1_charAt_3b067_9 : decode cJ1_charAt_3b067 9 = .ok (.sipush 255, 3) := oq_17 (bq_in kqJ1_charAt_3b067_0 9 rfl) (bq_in kqJ1_charAt_3b067_0 10 rfl) (bq_in kqJ1_charAt_3b067_0 11 rfl) rfl
theorem dJ1_charAt_3b067_12 : decode cJ1_charAt_3b067 12 = .ok (.iand, 1) := oq_126 (bq_in kqJ1_charAt_3b067_0 12 rfl)
theorem dJ1_charAt_3b067_13 : decode cJ1_charAt_3b067 13 = .ok (.i2c, 1) := oq_146 (bq_in kqJ1_charAt_3b067_0 13 rfl)
theorem dJ1_charAt_3b067_14 : decode cJ1_charAt_3b067 14 = .ok (.ireturn, 1) := oq_172 (bq_in kqJ1_charAt_3b067_0 14 rfl)
theorem kqJ2_getChar_3b067_0 : ((cJ2_getChar_3b067.data.toList.drop 0).take 34).map UInt8.toNat = [178, 0, 44, 154, 0, 25, 27, 155, 0, 11, 27, 42, 184, 0, 48, 161, 0, 13, 187, 0, 52, 89, 18, 54, 183, 0, 56, 191, 27, 4, 120, 60, 42, 27] := by decide +kernel
theorem dJ2_getChar_3b067_0 : decode cJ2_getChar_3b067 0 = .ok (.getstatic 44, 3) := oq_178 (bq_in kqJ2_getChar_3b067_0 0 rfl) (bq_in kqJ2_getChar_3b067_0 1 rfl) (bq_in kqJ2_getChar_3b067_0 2 rfl) rfl
theorem dJ2_getChar_3b067_3 : decode cJ2_getChar_3b067 3 = .ok (.ifCond .ne 25, 3) := oq_154 (bq_in kqJ2_getChar_3b067_0 3 rfl) (bq_in kqJ2_getChar_3b067_0 4 rfl) (bq_in kqJ2_getChar_3b067_0 5 rfl) rfl
theorem dJ2_getChar_3b067_6 : decode cJ2_getChar_3b067 6 = .ok (.iload_n 1, 1) := oq_27 (bq_in kqJ2_getChar_3b067_0 6 rfl)
theorem dJ2_getChar_3b067_7 : decode cJ2_getChar_3b067 7 = .ok (.ifCond .lt 11, 3) := oq_155 (bq_in kqJ2_getChar_3b067_0 7 rfl) (bq_in kqJ2_getChar_3b067_0 8 rfl) (bq_in kqJ2_getChar_3b067_0 9 rfl) rfl
theorem dJ2_getChar_3b067_10 : decode cJ2_getChar_3b067 10 = .ok (.iload_n 1, 1) := oq_27 (bq_in kqJ2_getChar_3b067_0 10 rfl)
theorem dJ2_getChar_3b067_11 : decode cJ2_getChar_3b067 11 = .ok (.aload_n 0, 1) := oq_42 (bq_in kqJ2_getChar_3b067_0 11 rfl)
theorem dJ2_getChar_3b067_12 : decode cJ2_getChar_3b067 12 = .ok (.invokestatic 48, 3) := oq_184 (bq_in kqJ2_getChar_3b067_0 12 rfl) (bq_in kqJ2_getChar_3b067_0 13 rfl) (bq_in kqJ2_getChar_3b067_0 14 rfl) rfl
theorem dJ2_getChar_3b067_15 : decode cJ2_getChar_3b067 15 = .ok (.if_icmp .lt 13, 3) := oq_161 (bq_in kqJ2_getChar_3b067_0 15 rfl) (bq_in kqJ2_getChar_3b067_0 16 rfl) (bq_in kqJ2_getChar_3b067_0 17 rfl) rfl
theorem dJ2_getChar_3b067_18 : decode cJ2_getChar_3b067 18 = .ok (.new 52, 3) := oq_187 (bq_in kqJ2_getChar_3b067_0 18 rfl) (bq_in kqJ2_getChar_3b067_0 19 rfl) (bq_in kqJ2_getChar_3b067_0 20 rfl) rfl
theorem dJ2_getChar_3b067_21 : decode cJ2_getChar_3b067 21 = .ok (.dup, 1) := oq_89 (bq_in kqJ2_getChar_3b067_0 21 rfl)
theorem dJ2_getChar_3b067_22 : decode cJ2_getChar_3b067 22 = .ok (.ldc 54, 2) := oq_18 (bq_in kqJ2_getChar_3b067_0 22 rfl) (bq_in kqJ2_getChar_3b067_0 23 rfl)
theorem dJ2_getChar_3b067_24 : decode cJ2_getChar_3b067 24 = .ok (.invokespecial 56, 3) := oq_183 (bq_in kqJ2_getChar_3b067_0 24 rfl) (bq_in kqJ2_getChar_3b067_0 25 rfl) (bq_in kqJ2_getChar_3b067_0 26 rfl) rfl
theorem dJ2_getChar_3b067_27 : decode cJ2_getChar_3b067 27 = .ok (.athrow, 1) := oq_191 (bq_in kqJ2_getChar_3b067_0 27 rfl)
theorem dJ2_getChar_3b067_28 : decode cJ2_getChar_3b067 28 = .ok (.iload_n 1, 1) := oq_27 (bq_in kqJ2_getChar_3b067_0 28 rfl)
theorem dJ2_getChar_3b067_29 : decode cJ2_getChar_3b067 29 = .ok (.iconst 1, 1) := oq_4 (bq_in kqJ2_getChar_3b067_0 29 rfl)
theorem dJ2_getChar_3b067_30 : decode cJ2_getChar_3b067 30 = .ok (.ishl, 1) := oq_120 (bq_in kqJ2_getChar_3b067_0 30 rfl)
theorem dJ2_getChar_3b067_31 : decode cJ2_getChar_3b067 31 = .ok (.istore_n 1, 1) := oq_60 (bq_in kqJ2_getChar_3b067_0 31 rfl)
theorem kqJ2_getChar_3b067_1 : ((cJ2_getChar_3b067.data.toList.drop 32).take 34).map UInt8.toNat = [42, 27, 132, 1, 1, 51, 17, 0, 255, 126, 178, 0, 59, 120, 42, 27, 51, 17, 0, 255, 126, 178, 0, 63, 120, 128, 146, 172] := by decide +kernel
theorem dJ2_getChar_3b067_32 : decode cJ2_getChar_3b067 32 = .ok (.aload_n 0, 1) := oq_42 (bq_in kqJ2_getChar_3b067_1 0 rfl)
theorem dJ2_getChar_3b067_33 : decode cJ2_getChar_3b067 33 = .ok (.iload_n 1, 1) := oq_27 (bq_in kqJ2_getChar_3b067_1 1 rfl)
theorem dJ2_getChar_3b067_34 : decode cJ2_getChar_3b067 34 = .ok (.iinc 1 1, 3) := oq_132 (bq_in kqJ2_getChar_3b067_1 2 rfl) (bq_in kqJ2_getChar_3b067_1 3 rfl) (bq_in kqJ2_getChar_3b067_1 4 rfl) rfl
theorem dJ2_getChar_3b067_37 : decode cJ2_getChar_3b067 37 = .ok (.baload, 1) := oq_51 (bq_in kqJ2_getChar_3b067_1 5 rfl)
theorem dJ2_getChar_3b067_38 : decode cJ2_getChar_3b067 38 = .ok (.sipush 255, 3) := oq_17 (bq_in kqJ2_getChar_3b067_1 6 rfl) (bq_in kqJ2_getChar_3b067_1 7 rfl) (bq_in kqJ2_getChar_3b067_1 8 rfl) rfl
theorem dJ2_getChar_3b067_41 : decode cJ2_getChar_3b067 41 = .ok (.iand, 1) := oq_126 (bq_in kqJ2_getChar_3b067_1 9 rfl)
theorem dJ2_getChar_3b067_42 : decode cJ2_getChar_3b067 42 = .ok (.getstatic 59, 3) := oq_178 (bq_in kqJ2_getChar_3b067_1 10 rfl) (bq_in kqJ2_getChar_3b067_1 11 rfl) (bq_in kqJ2_getChar_3b067_1 12 rfl) rfl
theorem dJ2_getChar_3b067_45 : decode cJ2_getChar_3b067 45 = .ok (.ishl, 1) := oq_120 (bq_in kqJ2_getChar_3b067_1 13 rfl)
theorem dJ2_getChar_3b067_46 : decode cJ2_getChar_3b067 46 = .ok (.aload_n 0, 1) := oq_42 (bq_in kqJ2_getChar_3b067_1 14 rfl)
theorem dJ2_getChar_3b067_47 : decode cJ2_getChar_3b067 47 = .ok (.iload_n 1, 1) := oq_27 (bq_in kqJ2_getChar_3b067_1 15 rfl)
theorem dJ2_getChar_3b067_48 : decode cJ2_getChar_3b067 48 = .ok (.baload, 1) := oq_51 (bq_in kqJ2_getChar_3b067_1 16 rfl)
theorem dJ2_getChar_3b067_49 : decode cJ2_getChar_3b067 49 = .ok (.sipush 255, 3) := oq_17 (bq_in kqJ2_getChar_3b067_1 17 rfl) (bq_in kqJ2_getChar_3b067_1 18 rfl) (bq_in kqJ2_getChar_3b067_1 19 rfl) rfl
theorem dJ2_getChar_3b067_52 : decode cJ2_getChar_3b067 52 = .ok (.iand, 1) := oq_126 (bq_in kqJ2_getChar_3b067_1 20 rfl)
theorem dJ2_getChar_3b067_53 : decode cJ2_getChar_3b067 53 = .ok (.getstatic 63, 3) := oq_178 (bq_in kqJ2_getChar_3b067_1 21 rfl) (bq_in kqJ2_getChar_3b067_1 22 rfl) (bq_in kqJ2_getChar_3b067_1 23 rfl) rfl
theorem dJ2_getChar_3b067_56 : decode cJ2_getChar_3b067 56 = .ok (.ishl, 1) := oq_120 (bq_in kqJ2_getChar_3b067_1 24 rfl)
theorem dJ2_getChar_3b067_57 : decode cJ2_getChar_3b067 57 = .ok (.ior, 1) := oq_128 (bq_in kqJ2_getChar_3b067_1 25 rfl)
theorem dJ2_getChar_3b067_58 : decode cJ2_getChar_3b067 58 = .ok (.i2c, 1) := oq_146 (bq_in kqJ2_getChar_3b067_1 26 rfl)
theorem dJ2_getChar_3b067_59 : decode cJ2_getChar_3b067 59 = .ok (.ireturn, 1) := oq_172 (bq_in kqJ2_getChar_3b067_1 27 rfl)
theorem kqJ2_length_9d52b_0 : ((cJ2_length_9d52b.data.toList.drop 0).take 34).map UInt8.toNat = [42, 190, 4, 122, 172] := by decide +kernel
theorem dJ2_length_9d52b_0 : decode cJ2_length_9d52b 0 = .ok (.aload_n 0, 1) := oq_42 (bq_in kqJ2_length_9d52b_0 0 rfl)
theorem dJ2_length_9d52b_1 : decode cJ2_length_9d52b 1 = .ok (.arraylength, 1) := oq_190 (bq_in kqJ2_length_9d52b_0 1 rfl)
theorem dJ2_length_9d52b_2 : decode cJ2_length_9d52b 2 = .ok (.iconst 1, 1) := oq_4 (bq_in kqJ2_length_9d52b_0 2 rfl)
theorem dJ2_length_9d52b_3 : decode cJ2_length_9d52b 3 = .ok (.ishr, 1) := oq_122 (bq_in kqJ2_length_9d52b_0 3 rfl)
theorem dJ2_length_9d52b_4 : decode cJ2_length_9d52b 4 = .ok (.ireturn, 1) := oq_172 (bq_in kqJ2_length_9d52b_0 4 rfl)
theorem kqJ2_charAt_3b067_0 : ((cJ2_charAt_3b067.data.toList.drop 0).take 34).map UInt8.toNat = [27, 42, 184, 0, 67, 42, 27, 184, 0, 71, 172] := by decide +kernel
theorem dJ2_charAt_3b067_0 : decode cJ2_charAt_3b067 0 = .ok (.iload_n 1, 1) := oq_27 (bq_in kqJ2_charAt_3b067_0 0 rfl)
theorem dJ2_charAt_3b067_1 : decode cJ2_charAt_3b067 1 = .ok (.aload_n 0, 1) := oq_42 (bq_in kqJ2_charAt_3b067_0 1 rfl)
theorem dJ2_charAt_3b067_2 : decode cJ2_charAt_3b067 2 = .ok (.invokestatic 67, 3) := oq_184 (bq_in kqJ2_charAt_3b067_0 2 rfl) (bq_in kqJ2_charAt_3b067_0 3 rfl) (bq_in kqJ2_charAt_3b067_0 4 rfl) rfl
theorem dJ2_charAt_3b067_5 : decode cJ2_charAt_3b067 5 = .ok (.aload_n 0, 1) := oq_42 (bq_in kqJ2_charAt_3b067_0 5 rfl)
theorem dJ2_charAt_3b067_6 : decode cJ2_charAt_3b067 6 = .ok (.iload_n 1, 1) := oq_27 (bq_in kqJ2_charAt_3b067_0 6 rfl)
theorem dJ2_charAt_3b067_7 : decode cJ2_charAt_3b067 7 = .ok (.invokestatic 71, 3) := oq_184 (bq_in kqJ2_charAt_3b067_0 7 rfl) (bq_in kqJ2_charAt_3b067_0 8 rfl) (bq_in kqJ2_charAt_3b067_0 9 rfl) rfl
theorem dJ2_charAt_3b067_10 : decode cJ2_charAt_3b067 10 = .ok (.ireturn, 1) := oq_172 (bq_in kqJ2_charAt_3b067_0 10 rfl)
theorem kqJ2_checkIndex_2214a_0 : ((cJ2_checkIndex_2214a.data.toList.drop 0).take 34).map UInt8.toNat = [26, 43, 184, 0, 48, 184, 1, 158, 177] := by decide +kernel
theorem dJ2_checkIndex_2214a_0 : decode cJ2_checkIndex_2214a 0 = .ok (.iload_n 0, 1) := oq_26 (bq_in kqJ2_checkIndex_2214a_0 0 rfl)
theorem dJ2_checkIndex_2214a_1 : decode cJ2_checkIndex_2214a 1 = .ok (.aload_n 1, 1) := oq_43 (bq_in kqJ2_checkIndex_2214a_0 1 rfl)
theorem dJ2_checkIndex_2214a_2 : decode cJ2_checkIndex_2214a 2 = .ok (.invokestatic 48, 3) := oq_184 (bq_in kqJ2_checkIndex_2214a_0 2 rfl) (bq_in kqJ2_checkIndex_2214a_0 3 rfl) (bq_in kqJ2_checkIndex_2214a_0 4 rfl) rfl
theorem dJ2_checkIndex_2214a_5 : decode cJ2_checkIndex_2214a 5 = .ok (.invokestatic 414, 3) := oq_184 (bq_in kqJ2_checkIndex_2214a_0 5 rfl) (bq_in kqJ2_checkIndex_2214a_0 6 rfl) (bq_in kqJ2_checkIndex_2214a_0 7 rfl) rfl
theorem dJ2_checkIndex_2214a_8 : decode cJ2_checkIndex_2214a 8 = .ok (.return_, 1) := oq_177 (bq_in kqJ2_checkIndex_2214a_0 8 rfl)
theorem kqJ3_checkIndex_8e157_0 : ((cJ3_checkIndex_8e157.data.toList.drop 0).take 34).map UInt8.toNat = [26, 155, 0, 8, 26, 27, 161, 0, 10, 44, 26, 27, 184, 0, 95, 191, 26, 172] := by decide +kernel
theorem dJ3_checkIndex_8e157_0 : decode cJ3_checkIndex_8e157 0 = .ok (.iload_n 0, 1) := oq_26 (bq_in kqJ3_checkIndex_8e157_0 0 rfl)
theorem dJ3_checkIndex_8e157_1 : decode cJ3_checkIndex_8e157 1 = .ok (.ifCond .lt 8, 3) := oq_155 (bq_in kqJ3_checkIndex_8e157_0 1 rfl) (bq_in kqJ3_checkIndex_8e157_0 2 rfl) (bq_in kqJ3_checkIndex_8e157_0 3 rfl) rfl
theorem dJ3_checkIndex_8e157_4 : decode cJ3_checkIndex_8e157 4 = .ok (.iload_n 0, 1) := oq_26 (bq_in kqJ3_checkIndex_8e157_0 4 rfl)
theorem dJ3_checkIndex_8e157_5 : decode cJ3_checkIndex_8e157 5 = .ok (.iload_n 1, 1) := oq_27 (bq_in kqJ3_checkIndex_8e157_0 5 rfl)
theorem dJ3_checkIndex_8e157_6 : decode cJ3_checkIndex_8e157 6 = .ok (.if_icmp .lt 10, 3) := oq_161 (bq_in kqJ3_checkIndex_8e157_0 6 rfl) (bq_in kqJ3_checkIndex_8e157_0 7 rfl) (bq_in kqJ3_checkIndex_8e157_0 8 rfl) rfl
theorem dJ3_checkIndex_8e157_9 : decode cJ3_checkIndex_8e157 9 = .ok (.aload_n 2, 1) := oq_44 (bq_in kqJ3_checkIndex_8e157_0 9 rfl)
theorem dJ3_checkIndex_8e157_10 : decode cJ3_checkIndex_8e157 10 = .ok (.iload_n 0, 1) := oq_26 (bq_in kqJ3_checkIndex_8e157_0 10 rfl)
theorem dJ3_checkIndex_8e157_11 : decode cJ3_checkIndex_8e157 11 = .ok (.iload_n 1, 1) := oq_27 (bq_in kqJ3_checkIndex_8e157_0 11 rfl)
theorem dJ3_checkIndex_8e157_12 : decode cJ3_checkIndex_8e157 12 = .ok (.invokestatic 95, 3) := oq_184 (bq_in kqJ3_checkIndex_8e157_0 12 rfl) (bq_in kqJ3_checkIndex_8e157_0 13 rfl) (bq_in kqJ3_checkIndex_8e157_0 14 rfl) rfl
theorem dJ3_checkIndex_8e157_15 : decode cJ3_checkIndex_8e157 15 = .ok (.athrow, 1) := oq_191 (bq_in kqJ3_checkIndex_8e157_0 15 rfl)
theorem dJ3_checkIndex_8e157_16 : decode cJ3_checkIndex_8e157 16 = .ok (.iload_n 0, 1) := oq_26 (bq_in kqJ3_checkIndex_8e157_0 16 rfl)
theorem dJ3_checkIndex_8e157_17 : decode cJ3_checkIndex_8e157 17 = .ok (.ireturn, 1) := oq_172 (bq_in kqJ3_checkIndex_8e157_0 17 rfl)
theorem kqX1_monthNumber_0 : ((cX1_monthNumber.data.toList.drop 0).take 34).map UInt8.toNat = [26, 17, 7, 208, 100, 16, 12, 104, 27, 96, 4, 100, 172] := by decide +kernel
theorem dX1_monthNumber_0 : decode cX1_monthNumber 0 = .ok (.iload_n 0, 1) := oq_26 (bq_in kqX1_monthNumber_0 0 rfl)
theorem dX1_monthNumber_1 : decode cX1_monthNumber 1 = .ok (.sipush 2000, 3) := oq_17 (bq_in kqX1_monthNumber_0 1 rfl) (bq_in kqX1_monthNumber_0 2 rfl) (bq_in kqX1_monthNumber_0 3 rfl) rfl
theorem dX1_monthNumber_4 : decode cX1_monthNumber 4 = .ok (.isub, 1) := oq_100 (bq_in kqX1_monthNumber_0 4 rfl)
theorem dX1_monthNumber_5 : decode cX1_monthNumber 5 = .ok (.bipush 12, 2) := oq_16 (bq_in kqX1_monthNumber_0 5 rfl) (bq_in kqX1_monthNumber_0 6 rfl) rfl
theorem dX1_monthNumber_7 : decode cX1_monthNumber 7 = .ok (.imul, 1) := oq_104 (bq_in kqX1_monthNumber_0 7 rfl)
theorem dX1_monthNumber_8 : decode cX1_monthNumber 8 = .ok (.iload_n 1, 1) := oq_27 (bq_in kqX1_monthNumber_0 8 rfl)
theorem dX1_monthNumber_9 : decode cX1_monthNumber 9 = .ok (.iadd, 1) := oq_96 (bq_in kqX1_monthNumber_0 9 rfl)
theorem dX1_monthNumber_10 : decode cX1_monthNumber 10 = .ok (.iconst 1, 1) := oq_4 (bq_in kqX1_monthNumber_0 10 rfl)
theorem dX1_monthNumber_11 : decode cX1_monthNumber 11 = .ok (.isub, 1) := oq_100 (bq_in kqX1_monthNumber_0 11 rfl)
theorem dX1_monthNumber_12 : decode cX1_monthNumber 12 = .ok (.ireturn, 1) := oq_172 (bq_in kqX1_monthNumber_0 12 rfl)
theorem kqX1_monthStart_0 : ((cX1_monthStart.data.toList.drop 0).take 34).map UInt8.toNat = [26, 156, 0, 5, 3, 172, 26, 16, 48, 108, 17, 5, 181, 104, 178, 0, 9, 26, 16, 48, 112, 46, 96, 172] := by decide +kernel
theorem dX1_monthStart_0 : decode cX1_monthStart 0 = .ok (.iload_n 0, 1) := oq_26 (bq_in kqX1_monthStart_0 0 rfl)
theorem dX1_monthStart_1 : decode cX1_monthStart 1 = .ok (.ifCond .ge 5, 3) := oq_156 (bq_in kqX1_monthStart_0 1 rfl) (bq_in kqX1_monthStart_0 2 rfl) (bq_in kqX1_monthStart_0 3 rfl) rfl
theorem dX1_monthStart_4 : decode cX1_monthStart 4 = .ok (.iconst 0, 1) := oq_3 (bq_in kqX1_monthStart_0 4 rfl)
theorem dX1_monthStart_5 : decode cX1_monthStart 5 = .ok (.ireturn, 1) := oq_172 (bq_in kqX1_monthStart_0 5 rfl)
theorem dX1_monthStart_6 : decode cX1_monthStart 6 = .ok (.iload_n 0, 1) := oq_26 (bq_in kqX1_monthStart_0 6 rfl)
theorem dX1_monthStart_7 : decode cX1_monthStart 7 = .ok (.bipush 48, 2) := oq_16 (bq_in kqX1_monthStart_0 7 rfl) (bq_in kqX1_monthStart_0 8 rfl) rfl
theorem dX1_monthStart_9 : decode cX1_monthStart 9 = .ok (.idiv, 1) := oq_108 (bq_in kqX1_monthStart_0 9 rfl)
theorem dX1_monthStart_10 : decode cX1_monthStart 10 = .ok (.sipush 1461, 3) := oq_17 (bq_in kqX1_monthStart_0 10 rfl) (bq_in kqX1_monthStart_0 11 rfl) (bq_in kqX1_monthStart_0 12 rfl) rfl
theorem dX1_monthStart_13 : decode cX1_monthStart 13 = .ok (.imul, 1) := oq_104 (bq_in kqX1_monthStart_0 13 rfl)
theorem dX1_monthStart_14 : decode cX1_monthStart 14 = .ok (.getstatic 9, 3) := oq_178 (bq_in kqX1_monthStart_0 14 rfl) (bq_in kqX1_monthStart_0 15 rfl) (bq_in kqX1_monthStart_0 16 rfl) rfl
theorem dX1_monthStart_17 : decode cX1_monthStart 17 = .ok (.iload_n 0, 1) := oq_26 (bq_in kqX1_monthStart_0 17 rfl)
theorem dX1_monthStart_18 : decode cX1_monthStart 18 = .ok (.bipush 48, 2) := oq_16 (bq_in kqX1_monthStart_0 18 rfl) (bq_in kqX1_monthStart_0 19 rfl) rfl
theorem dX1_monthStart_20 : decode cX1_monthStart 20 = .ok (.irem, 1) := oq_112 (bq_in kqX1_monthStart_0 20 rfl)
theorem dX1_monthStart_21 : decode cX1_monthStart 21 = .ok (.iaload, 1) := oq_46 (bq_in kqX1_monthStart_0 21 rfl)
theorem dX1_monthStart_22 : decode cX1_monthStart 22 = .ok (.iadd, 1) := oq_96 (bq_in kqX1_monthStart_0 22 rfl)
theorem dX1_monthStart_23 : decode cX1_monthStart 23 = .ok (.ireturn, 1) := oq_172 (bq_in kqX1_monthStart_0 23 rfl)
theorem kqX1_monthOf_0 : ((cX1_monthOf.data.toList.drop 0).take 34).map UInt8.toNat = [26, 156, 0, 5, 3, 172, 26, 17, 5, 181, 112, 60, 27, 16, 31, 108, 61, 28, 4, 96, 16, 48, 162, 0, 20, 178, 0, 9, 28, 4, 96, 46, 27, 163] := by decide +kernel
theorem dX1_monthOf_0 : decode cX1_monthOf 0 = .ok (.iload_n 0, 1) := oq_26 (bq_in kqX1_monthOf_0 0 rfl)
theorem dX1_monthOf_1 : decode cX1_monthOf 1 = .ok (.ifCond .ge 5, 3) := oq_156 (bq_in kqX1_monthOf_0 1 rfl) (bq_in kqX1_monthOf_0 2 rfl) (bq_in kqX1_monthOf_0 3 rfl) rfl
theorem dX1_monthOf_4 : decode cX1_monthOf 4 = .ok (.iconst 0, 1) := oq_3 (bq_in kqX1_monthOf_0 4 rfl)
theorem dX1_monthOf_5 : decode cX1_monthOf 5 = .ok (.ireturn, 1) := oq_172 (bq_in kqX1_monthOf_0 5 rfl)
theorem dX1_monthOf_6 : decode cX1_monthOf 6 = .ok (.iload_n 0, 1) := oq_26 (bq_in kqX1_monthOf_0 6 rfl)
theorem dX1_monthOf_7 : decode cX1_monthOf 7 = .ok (.sipush 1461, 3) := oq_17 (bq_in kqX1_monthOf_0 7 rfl) (bq_in kqX1_monthOf_0 8 rfl) (bq_in kqX1_monthOf_0 9 rfl) rfl
theorem dX1_monthOf_10 : decode cX1_monthOf 10 = .ok (.irem, 1) := oq_112 (bq_in kqX1_monthOf_0 10 rfl)
theorem dX1_monthOf_11 : decode cX1_monthOf 11 = .ok (.istore_n 1, 1) := oq_60 (bq_in kqX1_monthOf_0 11 rfl)
theorem dX1_monthOf_12 : decode cX1_monthOf 12 = .ok (.iload_n 1, 1) := oq_27 (bq_in kqX1_monthOf_0 12 rfl)
theorem dX1_monthOf_13 : decode cX1_monthOf 13 = .ok (.bipush 31, 2) := oq_16 (bq_in kqX1_monthOf_0 13 rfl) (bq_in kqX1_monthOf_0 14 rfl) rfl
theorem dX1_monthOf_15 : decode cX1_monthOf 15 = .ok (.idiv, 1) := oq_108 (bq_in kqX1_monthOf_0 15 rfl)
theorem dX1_monthOf_16 : decode cX1_monthOf 16 = .ok (.istore_n 2, 1) := oq_61 (bq_in kqX1_monthOf_0 16 rfl)
theorem dX1_monthOf_17 : decode cX1_monthOf 17 = .ok (.iload_n 2, 1) := oq_28 (bq_in kqX1_monthOf_0 17 rfl)
theorem dX1_monthOf_18 : decode cX1_monthOf 18 = .ok (.iconst 1, 1) := oq_4 (bq_in kqX1_monthOf_0 18 rfl)
theorem dX1_monthOf_19 : decode cX1_monthOf 19 = .ok (.iadd, 1) := oq_96 (bq_in kqX1_monthOf_0 19 rfl)
theorem dX1_monthOf_20 : decode cX1_monthOf 20 = .ok (.bipush 48, 2) := oq_16 (bq_in kqX1_monthOf_0 20 rfl) (bq_in kqX1_monthOf_0 21 rfl) rfl
theorem dX1_monthOf_22 : decode cX1_monthOf 22 = .ok (.if_icmp .ge 20, 3) := oq_162 (bq_in kqX1_monthOf_0 22 rfl) (bq_in kqX1_monthOf_0 23 rfl) (bq_in kqX1_monthOf_0 24 rfl) rfl
theorem dX1_monthOf_25 : decode cX1_monthOf 25 = .ok (.getstatic 9, 3) := oq_178 (bq_in kqX1_monthOf_0 25 rfl) (bq_in kqX1_monthOf_0 26 rfl) (bq_in kqX1_monthOf_0 27 rfl) rfl
theorem dX1_monthOf_28 : decode cX1_monthOf 28 = .ok (.iload_n 2, 1) := oq_28 (bq_in kqX1_monthOf_0 28 rfl)
theorem dX1_monthOf_29 : decode cX1_monthOf 29 = .ok (.iconst 1, 1) := oq_4 (bq_in kqX1_monthOf_0 29 rfl)
theorem dX1_monthOf_30 : decode cX1_monthOf 30 = .ok (.iadd, 1) := oq_96 (bq_in kqX1_monthOf_0 30 rfl)
theorem dX1_monthOf_31 : decode cX1_monthOf 31 = .ok (.iaload, 1) := oq_46 (bq_in kqX1_monthOf_0 31 rfl)
theorem kqX1_monthOf_1 : ((cX1_monthOf.data.toList.drop 32).take 34).map UInt8.toNat = [27, 163, 0, 9, 132, 2, 1, 167, 255, 234, 26, 17, 5, 181, 108, 16, 48, 104, 28, 96, 172] := by decide +kernel
theorem dX1_monthOf_32 : decode cX1_monthOf 32 = .ok (.iload_n 1, 1) := oq_27 (bq_in kqX1_monthOf_1 0 rfl)
theorem dX1_monthOf_33 : decode cX1_monthOf 33 = .ok (.if_icmp .gt 9, 3) := oq_163 (bq_in kqX1_monthOf_1 1 rfl) (bq_in kqX1_monthOf_1 2 rfl) (bq_in kqX1_monthOf_1 3 rfl) rfl
theorem dX1_monthOf_36 : decode cX1_monthOf 36 = .ok (.iinc 2 1, 3) := oq_132 (bq_in kqX1_monthOf_1 4 rfl) (bq_in kqX1_monthOf_1 5 rfl) (bq_in kqX1_monthOf_1 6 rfl) rfl
theorem dX1_monthOf_39 : decode cX1_monthOf 39 = .ok (.goto (-22), 3) := oq_167 (bq_in kqX1_monthOf_1 7 rfl) (bq_in kqX1_monthOf_1 8 rfl) (bq_in kqX1_monthOf_1 9 rfl) rfl
theorem dX1_monthOf_42 : decode cX1_monthOf 42 = .ok (.iload_n 0, 1) := oq_26 (bq_in kqX1_monthOf_1 10 rfl)
theorem dX1_monthOf_43 : decode cX1_monthOf 43 = .ok (.sipush 1461, 3) := oq_17 (bq_in kqX1_monthOf_1 11 rfl) (bq_in kqX1_monthOf_1 12 rfl) (bq_in kqX1_monthOf_1 13 rfl) rfl
theorem dX1_monthOf_46 : decode cX1_monthOf 46 = .ok (.idiv, 1) := oq_108 (bq_in kqX1_monthOf_1 14 rfl)
theorem dX1_monthOf_47 : decode cX1_monthOf 47 = .ok (.bipush 48, 2) := oq_16 (bq_in kqX1_monthOf_1 15 rfl) (bq_in kqX1_monthOf_1 16 rfl) rfl
theorem dX1_monthOf_49 : decode cX1_monthOf 49 = .ok (.imul, 1) := oq_104 (bq_in kqX1_monthOf_1 17 rfl)
theorem dX1_monthOf_50 : decode cX1_monthOf 50 = .ok (.iload_n 2, 1) := oq_28 (bq_in kqX1_monthOf_1 18 rfl)
theorem dX1_monthOf_51 : decode cX1_monthOf 51 = .ok (.iadd, 1) := oq_96 (bq_in kqX1_monthOf_1 19 rfl)
theorem dX1_monthOf_52 : decode cX1_monthOf 52 = .ok (.ireturn, 1) := oq_172 (bq_in kqX1_monthOf_1 20 rfl)
theorem kqX1_weekdayOf_0 : ((cX1_weekdayOf.data.toList.drop 0).take 34).map UInt8.toNat = [26, 8, 96, 16, 7, 112, 172] := by decide +kernel
theorem dX1_weekdayOf_0 : decode cX1_weekdayOf 0 = .ok (.iload_n 0, 1) := oq_26 (bq_in kqX1_weekdayOf_0 0 rfl)
theorem dX1_weekdayOf_1 : decode cX1_weekdayOf 1 = .ok (.iconst 5, 1) := oq_8 (bq_in kqX1_weekdayOf_0 1 rfl)
theorem dX1_weekdayOf_2 : decode cX1_weekdayOf 2 = .ok (.iadd, 1) := oq_96 (bq_in kqX1_weekdayOf_0 2 rfl)
theorem dX1_weekdayOf_3 : decode cX1_weekdayOf 3 = .ok (.bipush 7, 2) := oq_16 (bq_in kqX1_weekdayOf_0 3 rfl) (bq_in kqX1_weekdayOf_0 4 rfl) rfl
theorem dX1_weekdayOf_5 : decode cX1_weekdayOf 5 = .ok (.irem, 1) := oq_112 (bq_in kqX1_weekdayOf_0 5 rfl)
theorem dX1_weekdayOf_6 : decode cX1_weekdayOf 6 = .ok (.ireturn, 1) := oq_172 (bq_in kqX1_weekdayOf_0 6 rfl)
theorem kqX1_daysOfMonth_0 : ((cX1_daysOfMonth.data.toList.drop 0).take 34).map UInt8.toNat = [26, 17, 7, 208, 161, 0, 21, 26, 17, 8, 51, 163, 0, 14, 27, 4, 161, 0, 9, 27, 16, 12, 164, 0, 5, 3, 172, 26, 27, 184, 0, 13, 61, 28] := by decide +kernel
theorem dX1_daysOfMonth_0 : decode cX1_daysOfMonth 0 = .ok (.iload_n 0, 1) := oq_26 (bq_in kqX1_daysOfMonth_0 0 rfl)
theorem dX1_daysOfMonth_1 : decode cX1_daysOfMonth 1 = .ok (.sipush 2000, 3) := oq_17 (bq_in kqX1_daysOfMonth_0 1 rfl) (bq_in kqX1_daysOfMonth_0 2 rfl) (bq_in kqX1_daysOfMonth_0 3 rfl) rfl
theorem dX1_daysOfMonth_4 : decode cX1_daysOfMonth 4 = .ok (.if_icmp .lt 21, 3) := oq_161 (bq_in kqX1_daysOfMonth_0 4 rfl) (bq_in kqX1_daysOfMonth_0 5 rfl) (bq_in kqX1_daysOfMonth_0 6 rfl) rfl
theorem dX1_daysOfMonth_7 : decode cX1_daysOfMonth 7 = .ok (.iload_n 0, 1) := oq_26 (bq_in kqX1_daysOfMonth_0 7 rfl)
theorem dX1_daysOfMonth_8 : decode cX1_daysOfMonth 8 = .ok (.sipush 2099, 3) := oq_17 (bq_in kqX1_daysOfMonth_0 8 rfl) (bq_in kqX1_daysOfMonth_0 9 rfl) (bq_in kqX1_daysOfMonth_0 10 rfl) rfl
theorem dX1_daysOfMonth_11 : decode cX1_daysOfMonth 11 = .ok (.if_icmp .gt 14, 3) := oq_163 (bq_in kqX1_daysOfMonth_0 11 rfl) (bq_in kqX1_daysOfMonth_0 12 rfl) (bq_in kqX1_daysOfMonth_0 13 rfl) rfl
theorem dX1_daysOfMonth_14 : decode cX1_daysOfMonth 14 = .ok (.iload_n 1, 1) := oq_27 (bq_in kqX1_daysOfMonth_0 14 rfl)
theorem dX1_daysOfMonth_15 : decode cX1_daysOfMonth 15 = .ok (.iconst 1, 1) := oq_4 (bq_in kqX1_daysOfMonth_0 15 rfl)
theorem dX1_daysOfMonth_16 : decode cX1_daysOfMonth 16 = .ok (.if_icmp .lt 9, 3) := oq_161 (bq_in kqX1_daysOfMonth_0 16 rfl) (bq_in kqX1_daysOfMonth_0 17 rfl) (bq_in kqX1_daysOfMonth_0 18 rfl) rfl
theorem dX1_daysOfMonth_19 : decode cX1_daysOfMonth 19 = .ok (.iload_n 1, 1) := oq_27 (bq_in kqX1_daysOfMonth_0 19 rfl)
theorem dX1_daysOfMonth_20 : decode cX1_daysOfMonth 20 = .ok (.bipush 12, 2) := oq_16 (bq_in kqX1_daysOfMonth_0 20 rfl) (bq_in kqX1_daysOfMonth_0 21 rfl) rfl
theorem dX1_daysOfMonth_22 : decode cX1_daysOfMonth 22 = .ok (.if_icmp .le 5, 3) := oq_164 (bq_in kqX1_daysOfMonth_0 22 rfl) (bq_in kqX1_daysOfMonth_0 23 rfl) (bq_in kqX1_daysOfMonth_0 24 rfl) rfl
theorem dX1_daysOfMonth_25 : decode cX1_daysOfMonth 25 = .ok (.iconst 0, 1) := oq_3 (bq_in kqX1_daysOfMonth_0 25 rfl)
theorem dX1_daysOfMonth_26 : decode cX1_daysOfMonth 26 = .ok (.ireturn, 1) := oq_172 (bq_in kqX1_daysOfMonth_0 26 rfl)
theorem dX1_daysOfMonth_27 : decode cX1_daysOfMonth 27 = .ok (.iload_n 0, 1) := oq_26 (bq_in kqX1_daysOfMonth_0 27 rfl)
theorem dX1_daysOfMonth_28 : decode cX1_daysOfMonth 28 = .ok (.iload_n 1, 1) := oq_27 (bq_in kqX1_daysOfMonth_0 28 rfl)
theorem dX1_daysOfMonth_29 : decode cX1_daysOfMonth 29 = .ok (.invokestatic 13, 3) := oq_184 (bq_in kqX1_daysOfMonth_0 29 rfl) (bq_in kqX1_daysOfMonth_0 30 rfl) (bq_in kqX1_daysOfMonth_0 31 rfl) rfl
theorem kqX1_daysOfMonth_1 : ((cX1_daysOfMonth.data.toList.drop 32).take 34).map UInt8.toNat = [61, 28, 4, 96, 184, 0, 17, 28, 184, 0, 17, 100, 172] := by decide +kernel
theorem dX1_daysOfMonth_32 : decode cX1_daysOfMonth 32 = .ok (.istore_n 2, 1) := oq_61 (bq_in kqX1_daysOfMonth_1 0 rfl)
theorem dX1_daysOfMonth_33 : decode cX1_daysOfMonth 33 = .ok (.iload_n 2, 1) := oq_28 (bq_in kqX1_daysOfMonth_1 1 rfl)
theorem dX1_daysOfMonth_34 : decode cX1_daysOfMonth 34 = .ok (.iconst 1, 1) := oq_4 (bq_in kqX1_daysOfMonth_1 2 rfl)
theorem dX1_daysOfMonth_35 : decode cX1_daysOfMonth 35 = .ok (.iadd, 1) := oq_96 (bq_in kqX1_daysOfMonth_1 3 rfl)
theorem dX1_daysOfMonth_36 : decode cX1_daysOfMonth 36 = .ok (.invokestatic 17, 3) := oq_184 (bq_in kqX1_daysOfMonth_1 4 rfl) (bq_in kqX1_daysOfMonth_1 5 rfl) (bq_in kqX1_daysOfMonth_1 6 rfl) rfl
theorem dX1_daysOfMonth_39 : decode cX1_daysOfMonth 39 = .ok (.iload_n 2, 1) := oq_28 (bq_in kqX1_daysOfMonth_1 7 rfl)
theorem dX1_daysOfMonth_40 : decode cX1_daysOfMonth 40 = .ok (.invokestatic 17, 3) := oq_184 (bq_in kqX1_daysOfMonth_1 8 rfl) (bq_in kqX1_daysOfMonth_1 9 rfl) (bq_in kqX1_daysOfMonth_1 10 rfl) rfl
theorem dX1_daysOfMonth_43 : decode cX1_daysOfMonth 43 = .ok (.isub, 1) := oq_100 (bq_in kqX1_daysOfMonth_1 11 rfl)
theorem dX1_daysOfMonth_44 : decode cX1_daysOfMonth 44 = .ok (.ireturn, 1) := oq_172 (bq_in kqX1_daysOfMonth_1 12 rfl)
theorem kqX6_init_0 : ((cX6_init.data.toList.drop 0).take 34).map UInt8.toNat = [42, 183, 0, 3, 42, 27, 181, 0, 9, 42, 28, 181, 0, 15, 42, 29, 181, 0, 18, 177] := by decide +kernel
theorem dX6_init_0 : decode cX6_init 0 = .ok (.aload_n 0, 1) := oq_42 (bq_in kqX6_init_0 0 rfl)
theorem dX6_init_1 : decode cX6_init 1 = .ok (.invokespecial 3, 3) := oq_183 (bq_in kqX6_init_0 1 rfl) (bq_in kqX6_init_0 2 rfl) (bq_in kqX6_init_0 3 rfl) rfl
theorem dX6_init_4 : decode cX6_init 4 = .ok (.aload_n 0, 1) := oq_42 (bq_in kqX6_init_0 4 rfl)
theorem dX6_init_5 : decode cX6_init 5 = .ok (.iload_n 1, 1) := oq_27 (bq_in kqX6_init_0 5 rfl)
theorem dX6_init_6 : decode cX6_init 6 = .ok (.putfield 9, 3) := oq_181 (bq_in kqX6_init_0 6 rfl) (bq_in kqX6_init_0 7 rfl) (bq_in kqX6_init_0 8 rfl) rfl
theorem dX6_init_9 : decode cX6_init 9 = .ok (.aload_n 0, 1) := oq_42 (bq_in kqX6_init_0 9 rfl)
theorem dX6_init_10 : decode cX6_init 10 = .ok (.iload_n 2, 1) := oq_28 (bq_in kqX6_init_0 10 rfl)
theorem dX6_init_11 : decode cX6_init 11 = .ok (.putfield 15, 3) := oq_181 (bq_in kqX6_init_0 11 rfl) (bq_in kqX6_init_0 12 rfl) (bq_in kqX6_init_0 13 rfl) rfl
theorem dX6_init_14 : decode cX6_init 14 = .ok (.aload_n 0, 1) := oq_42 (bq_in kqX6_init_0 14 rfl)
theorem dX6_init_15 : decode cX6_init 15 = .ok (.iload_n 3, 1) := oq_29 (bq_in kqX6_init_0 15 rfl)
theorem dX6_init_16 : decode cX6_init 16 = .ok (.putfield 18, 3) := oq_181 (bq_in kqX6_init_0 16 rfl) (bq_in kqX6_init_0 17 rfl) (bq_in kqX6_init_0 18 rfl) rfl
theorem dX6_init_19 : decode cX6_init 19 = .ok (.return_, 1) := oq_177 (bq_in kqX6_init_0 19 rfl)
theorem kqX6_detail_0 : ((cX6_detail.data.toList.drop 0).take 34).map UInt8.toNat = [3, 172] := by decide +kernel
theorem dX6_detail_0 : decode cX6_detail 0 = .ok (.iconst 0, 1) := oq_3 (bq_in kqX6_detail_0 0 rfl)
theorem dX6_detail_1 : decode cX6_detail 1 = .ok (.ireturn, 1) := oq_172 (bq_in kqX6_detail_0 1 rfl)
theorem kqX6_nthWeekday_0 : ((cX6_nthWeekday.data.toList.drop 0).take 34).map UInt8.toNat = [2, 172] := by decide +kernel
theorem dX6_nthWeekday_0 : decode cX6_nthWeekday 0 = .ok (.iconst (-1), 1) := oq_2 (bq_in kqX6_nthWeekday_0 0 rfl)
theorem dX6_nthWeekday_1 : decode cX6_nthWeekday 1 = .ok (.ireturn, 1) := oq_172 (bq_in kqX6_nthWeekday_0 1 rfl)
theorem kqX2_init_0 : ((cX2_init.data.toList.drop 0).take 34).map UInt8.toNat = [42, 4, 27, 28, 183, 0, 3, 42, 27, 4, 184, 0, 9, 181, 0, 15, 177] := by decide +kernel
theorem dX2_init_0 : decode cX2_init 0 = .ok (.aload_n 0, 1) := oq_42 (bq_in kqX2_init_0 0 rfl)
theorem dX2_init_1 : decode cX2_init 1 = .ok (.iconst 1, 1) := oq_4 (bq_in kqX2_init_0 1 rfl)
theorem dX2_init_2 : decode cX2_init 2 = .ok (.iload_n 1, 1) := oq_27 (bq_in kqX2_init_0 2 rfl)
theorem dX2_init_3 : decode cX2_init 3 = .ok (.iload_n 2, 1) := oq_28 (bq_in kqX2_init_0 3 rfl)
theorem dX2_init_4 : decode cX2_init 4 = .ok (.invokespecial 3, 3) := oq_183 (bq_in kqX2_init_0 4 rfl) (bq_in kqX2_init_0 5 rfl) (bq_in kqX2_init_0 6 rfl) rfl
theorem dX2_init_7 : decode cX2_init 7 = .ok (.aload_n 0, 1) := oq_42 (bq_in kqX2_init_0 7 rfl)
theorem dX2_init_8 : decode cX2_init 8 = .ok (.iload_n 1, 1) := oq_27 (bq_in kqX2_init_0 8 rfl)
theorem dX2_init_9 : decode cX2_init 9 = .ok (.iconst 1, 1) := oq_4 (bq_in kqX2_init_0 9 rfl)
theorem dX2_init_10 : decode cX2_init 10 = .ok (.invokestatic 9, 3) := oq_184 (bq_in kqX2_init_0 10 rfl) (bq_in kqX2_init_0 11 rfl) (bq_in kqX2_init_0 12 rfl) rfl
theorem dX2_init_13 : decode cX2_init 13 = .ok (.putfield 15, 3) := oq_181 (bq_in kqX2_init_0 13 rfl) (bq_in kqX2_init_0 14 rfl) (bq_in kqX2_init_0 15 rfl) rfl
theorem dX2_init_16 : decode cX2_init 16 = .ok (.return_, 1) := oq_177 (bq_in kqX2_init_0 16 rfl)
theorem kqX2_dayFrom_0 : ((cX2_dayFrom.data.toList.drop 0).take 34).map UInt8.toNat = [27, 42, 180, 0, 21, 163, 0, 8, 42, 180, 0, 21, 172, 42, 180, 0, 21, 27, 42, 180, 0, 21, 100, 42, 180, 0, 15, 96, 4, 100, 42, 180, 0, 15] := by decide +kernel
theorem dX2_dayFrom_0 : decode cX2_dayFrom 0 = .ok (.iload_n 1, 1) := oq_27 (bq_in kqX2_dayFrom_0 0 rfl)
theorem dX2_dayFrom_1 : decode cX2_dayFrom 1 = .ok (.aload_n 0, 1) := oq_42 (bq_in kqX2_dayFrom_0 1 rfl)
theorem dX2_dayFrom_2 : decode cX2_dayFrom 2 = .ok (.getfield 21, 3) := oq_180 (bq_in kqX2_dayFrom_0 2 rfl) (bq_in kqX2_dayFrom_0 3 rfl) (bq_in kqX2_dayFrom_0 4 rfl) rfl
theorem dX2_dayFrom_5 : decode cX2_dayFrom 5 = .ok (.if_icmp .gt 8, 3) := oq_163 (bq_in kqX2_dayFrom_0 5 rfl) (bq_in kqX2_dayFrom_0 6 rfl) (bq_in kqX2_dayFrom_0 7 rfl) rfl
theorem dX2_dayFrom_8 : decode cX2_dayFrom 8 = .ok (.aload_n 0, 1) := oq_42 (bq_in kqX2_dayFrom_0 8 rfl)
theorem dX2_dayFrom_9 : decode cX2_dayFrom 9 = .ok (.getfield 21, 3) := oq_180 (bq_in kqX2_dayFrom_0 9 rfl) (bq_in kqX2_dayFrom_0 10 rfl) (bq_in kqX2_dayFrom_0 11 rfl) rfl
theorem dX2_dayFrom_12 : decode cX2_dayFrom 12 = .ok (.ireturn, 1) := oq_172 (bq_in kqX2_dayFrom_0 12 rfl)
theorem dX2_dayFrom_13 : decode cX2_dayFrom 13 = .ok (.aload_n 0, 1) := oq_42 (bq_in kqX2_dayFrom_0 13 rfl)
theorem dX2_dayFrom_14 : decode cX2_dayFrom 14 = .ok (.getfield 21, 3) := oq_180 (bq_in kqX2_dayFrom_0 14 rfl) (bq_in kqX2_dayFrom_0 15 rfl) (bq_in kqX2_dayFrom_0 16 rfl) rfl
theorem dX2_dayFrom_17 : decode cX2_dayFrom 17 = .ok (.iload_n 1, 1) := oq_27 (bq_in kqX2_dayFrom_0 17 rfl)
theorem dX2_dayFrom_18 : decode cX2_dayFrom 18 = .ok (.aload_n 0, 1) := oq_42 (bq_in kqX2_dayFrom_0 18 rfl)
theorem dX2_dayFrom_19 : decode cX2_dayFrom 19 = .ok (.getfield 21, 3) := oq_180 (bq_in kqX2_dayFrom_0 19 rfl) (bq_in kqX2_dayFrom_0 20 rfl) (bq_in kqX2_dayFrom_0 21 rfl) rfl
theorem dX2_dayFrom_22 : decode cX2_dayFrom 22 = .ok (.isub, 1) := oq_100 (bq_in kqX2_dayFrom_0 22 rfl)
theorem dX2_dayFrom_23 : decode cX2_dayFrom 23 = .ok (.aload_n 0, 1) := oq_42 (bq_in kqX2_dayFrom_0 23 rfl)
theorem dX2_dayFrom_24 : decode cX2_dayFrom 24 = .ok (.getfield 15, 3) := oq_180 (bq_in kqX2_dayFrom_0 24 rfl) (bq_in kqX2_dayFrom_0 25 rfl) (bq_in kqX2_dayFrom_0 26 rfl) rfl
theorem dX2_dayFrom_27 : decode cX2_dayFrom 27 = .ok (.iadd, 1) := oq_96 (bq_in kqX2_dayFrom_0 27 rfl)
theorem dX2_dayFrom_28 : decode cX2_dayFrom 28 = .ok (.iconst 1, 1) := oq_4 (bq_in kqX2_dayFrom_0 28 rfl)
theorem dX2_dayFrom_29 : decode cX2_dayFrom 29 = .ok (.isub, 1) := oq_100 (bq_in kqX2_dayFrom_0 29 rfl)
theorem dX2_dayFrom_30 : decode cX2_dayFrom 30 = .ok (.aload_n 0, 1) := oq_42 (bq_in kqX2_dayFrom_0 30 rfl)
theorem dX2_dayFrom_31 : decode cX2_dayFrom 31 = .ok (.getfield 15, 3) := oq_180 (bq_in kqX2_dayFrom_0 31 rfl) (bq_in kqX2_dayFrom_0 32 rfl) (bq_in kqX2_dayFrom_0 33 rfl) rfl
theorem kqX2_dayFrom_1 : ((cX2_dayFrom.data.toList.drop 32).take 34).map UInt8.toNat = [0, 15, 108, 42, 180, 0, 15, 104, 96, 61, 28, 18, 24, 163, 0, 7, 28, 167, 0, 4, 2, 172] := by decide +kernel
theorem dX2_dayFrom_34 : decode cX2_dayFrom 34 = .ok (.idiv, 1) := oq_108 (bq_in kqX2_dayFrom_1 2 rfl)
theorem dX2_dayFrom_35 : decode cX2_dayFrom 35 = .ok (.aload_n 0, 1) := oq_42 (bq_in kqX2_dayFrom_1 3 rfl)
theorem dX2_dayFrom_36 : decode cX2_dayFrom 36 = .ok (.getfield 15, 3) := oq_180 (bq_in kqX2_dayFrom_1 4 rfl) (bq_in kqX2_dayFrom_1 5 rfl) (bq_in kqX2_dayFrom_1 6 rfl) rfl
theorem dX2_dayFrom_39 : decode cX2_dayFrom 39 = .ok (.imul, 1) := oq_104 (bq_in kqX2_dayFrom_1 7 rfl)
theorem dX2_dayFrom_40 : decode cX2_dayFrom 40 = .ok (.iadd, 1) := oq_96 (bq_in kqX2_dayFrom_1 8 rfl)
theorem dX2_dayFrom_41 : decode cX2_dayFrom 41 = .ok (.istore_n 2, 1) := oq_61 (bq_in kqX2_dayFrom_1 9 rfl)
theorem dX2_dayFrom_42 : decode cX2_dayFrom 42 = .ok (.iload_n 2, 1) := oq_28 (bq_in kqX2_dayFrom_1 10 rfl)
theorem dX2_dayFrom_43 : decode cX2_dayFrom 43 = .ok (.ldc 24, 2) := oq_18 (bq_in kqX2_dayFrom_1 11 rfl) (bq_in kqX2_dayFrom_1 12 rfl)
theorem dX2_dayFrom_45 : decode cX2_dayFrom 45 = .ok (.if_icmp .gt 7, 3) := oq_163 (bq_in kqX2_dayFrom_1 13 rfl) (bq_in kqX2_dayFrom_1 14 rfl) (bq_in kqX2_dayFrom_1 15 rfl) rfl
theorem dX2_dayFrom_48 : decode cX2_dayFrom 48 = .ok (.iload_n 2, 1) := oq_28 (bq_in kqX2_dayFrom_1 16 rfl)
theorem dX2_dayFrom_49 : decode cX2_dayFrom 49 = .ok (.goto 4, 3) := oq_167 (bq_in kqX2_dayFrom_1 17 rfl) (bq_in kqX2_dayFrom_1 18 rfl) (bq_in kqX2_dayFrom_1 19 rfl) rfl
theorem dX2_dayFrom_52 : decode cX2_dayFrom 52 = .ok (.iconst (-1), 1) := oq_2 (bq_in kqX2_dayFrom_1 20 rfl)
theorem dX2_dayFrom_53 : decode cX2_dayFrom 53 = .ok (.ireturn, 1) := oq_172 (bq_in kqX2_dayFrom_1 21 rfl)
theorem kqX2_dayTo_0 : ((cX2_dayTo.data.toList.drop 0).take 34).map UInt8.toNat = [27, 42, 180, 0, 21, 162, 0, 7, 2, 167, 0, 16, 27, 27, 42, 180, 0, 21, 100, 42, 180, 0, 15, 112, 100, 172] := by decide +kernel
theorem dX2_dayTo_0 : decode cX2_dayTo 0 = .ok (.iload_n 1, 1) := oq_27 (bq_in kqX2_dayTo_0 0 rfl)
theorem dX2_dayTo_1 : decode cX2_dayTo 1 = .ok (.aload_n 0, 1) := oq_42 (bq_in kqX2_dayTo_0 1 rfl)
theorem dX2_dayTo_2 : decode cX2_dayTo 2 = .ok (.getfield 21, 3) := oq_180 (bq_in kqX2_dayTo_0 2 rfl) (bq_in kqX2_dayTo_0 3 rfl) (bq_in kqX2_dayTo_0 4 rfl) rfl
theorem dX2_dayTo_5 : decode cX2_dayTo 5 = .ok (.if_icmp .ge 7, 3) := oq_162 (bq_in kqX2_dayTo_0 5 rfl) (bq_in kqX2_dayTo_0 6 rfl) (bq_in kqX2_dayTo_0 7 rfl) rfl
theorem dX2_dayTo_8 : decode cX2_dayTo 8 = .ok (.iconst (-1), 1) := oq_2 (bq_in kqX2_dayTo_0 8 rfl)
theorem dX2_dayTo_9 : decode cX2_dayTo 9 = .ok (.goto 16, 3) := oq_167 (bq_in kqX2_dayTo_0 9 rfl) (bq_in kqX2_dayTo_0 10 rfl) (bq_in kqX2_dayTo_0 11 rfl) rfl
theorem dX2_dayTo_12 : decode cX2_dayTo 12 = .ok (.iload_n 1, 1) := oq_27 (bq_in kqX2_dayTo_0 12 rfl)
theorem dX2_dayTo_13 : decode cX2_dayTo 13 = .ok (.iload_n 1, 1) := oq_27 (bq_in kqX2_dayTo_0 13 rfl)
theorem dX2_dayTo_14 : decode cX2_dayTo 14 = .ok (.aload_n 0, 1) := oq_42 (bq_in kqX2_dayTo_0 14 rfl)
theorem dX2_dayTo_15 : decode cX2_dayTo 15 = .ok (.getfield 21, 3) := oq_180 (bq_in kqX2_dayTo_0 15 rfl) (bq_in kqX2_dayTo_0 16 rfl) (bq_in kqX2_dayTo_0 17 rfl) rfl
theorem dX2_dayTo_18 : decode cX2_dayTo 18 = .ok (.isub, 1) := oq_100 (bq_in kqX2_dayTo_0 18 rfl)
theorem dX2_dayTo_19 : decode cX2_dayTo 19 = .ok (.aload_n 0, 1) := oq_42 (bq_in kqX2_dayTo_0 19 rfl)
theorem dX2_dayTo_20 : decode cX2_dayTo 20 = .ok (.getfield 15, 3) := oq_180 (bq_in kqX2_dayTo_0 20 rfl) (bq_in kqX2_dayTo_0 21 rfl) (bq_in kqX2_dayTo_0 22 rfl) rfl
theorem dX2_dayTo_23 : decode cX2_dayTo 23 = .ok (.irem, 1) := oq_112 (bq_in kqX2_dayTo_0 23 rfl)
theorem dX2_dayTo_24 : decode cX2_dayTo 24 = .ok (.isub, 1) := oq_100 (bq_in kqX2_dayTo_0 24 rfl)
theorem dX2_dayTo_25 : decode cX2_dayTo 25 = .ok (.ireturn, 1) := oq_172 (bq_in kqX2_dayTo_0 25 rfl)
theorem kqX2_daysIn_0 : ((cX2_daysIn.data.toList.drop 0).take 34).map UInt8.toNat = [42, 28, 182, 0, 25, 42, 27, 4, 100, 182, 0, 25, 100, 172] := by decide +kernel
theorem dX2_daysIn_0 : decode cX2_daysIn 0 = .ok (.aload_n 0, 1) := oq_42 (bq_in kqX2_daysIn_0 0 rfl)
theorem dX2_daysIn_1 : decode cX2_daysIn 1 = .ok (.iload_n 2, 1) := oq_28 (bq_in kqX2_daysIn_0 1 rfl)
theorem dX2_daysIn_2 : decode cX2_daysIn 2 = .ok (.invokevirtual 25, 3) := oq_182 (bq_in kqX2_daysIn_0 2 rfl) (bq_in kqX2_daysIn_0 3 rfl) (bq_in kqX2_daysIn_0 4 rfl) rfl
theorem dX2_daysIn_5 : decode cX2_daysIn 5 = .ok (.aload_n 0, 1) := oq_42 (bq_in kqX2_daysIn_0 5 rfl)
theorem dX2_daysIn_6 : decode cX2_daysIn 6 = .ok (.iload_n 1, 1) := oq_27 (bq_in kqX2_daysIn_0 6 rfl)
theorem dX2_daysIn_7 : decode cX2_daysIn 7 = .ok (.iconst 1, 1) := oq_4 (bq_in kqX2_daysIn_0 7 rfl)
theorem dX2_daysIn_8 : decode cX2_daysIn 8 = .ok (.isub, 1) := oq_100 (bq_in kqX2_daysIn_0 8 rfl)
theorem dX2_daysIn_9 : decode cX2_daysIn 9 = .ok (.invokevirtual 25, 3) := oq_182 (bq_in kqX2_daysIn_0 9 rfl) (bq_in kqX2_daysIn_0 10 rfl) (bq_in kqX2_daysIn_0 11 rfl) rfl
theorem dX2_daysIn_12 : decode cX2_daysIn 12 = .ok (.isub, 1) := oq_100 (bq_in kqX2_daysIn_0 12 rfl)
theorem dX2_daysIn_13 : decode cX2_daysIn 13 = .ok (.ireturn, 1) := oq_172 (bq_in kqX2_daysIn_0 13 rfl)
theorem kqX2_daysUpTo_0 : ((cX2_daysUpTo.data.toList.drop 0).take 34).map UInt8.toNat = [27, 42, 180, 0, 21, 162, 0, 7, 3, 167, 0, 16, 27, 42, 180, 0, 21, 100, 42, 180, 0, 15, 108, 4, 96, 172] := by decide +kernel
theorem dX2_daysUpTo_0 : decode cX2_daysUpTo 0 = .ok (.iload_n 1, 1) := oq_27 (bq_in kqX2_daysUpTo_0 0 rfl)
theorem dX2_daysUpTo_1 : decode cX2_daysUpTo 1 = .ok (.aload_n 0, 1) := oq_42 (bq_in kqX2_daysUpTo_0 1 rfl)
theorem dX2_daysUpTo_2 : decode cX2_daysUpTo 2 = .ok (.getfield 21, 3) := oq_180 (bq_in kqX2_daysUpTo_0 2 rfl) (bq_in kqX2_daysUpTo_0 3 rfl) (bq_in kqX2_daysUpTo_0 4 rfl) rfl
theorem dX2_daysUpTo_5 : decode cX2_daysUpTo 5 = .ok (.if_icmp .ge 7, 3) := oq_162 (bq_in kqX2_daysUpTo_0 5 rfl) (bq_in kqX2_daysUpTo_0 6 rfl) (bq_in kqX2_daysUpTo_0 7 rfl) rfl
theorem dX2_daysUpTo_8 : decode cX2_daysUpTo 8 = .ok (.iconst 0, 1) := oq_3 (bq_in kqX2_daysUpTo_0 8 rfl)
theorem dX2_daysUpTo_9 : decode cX2_daysUpTo 9 = .ok (.goto 16, 3) := oq_167 (bq_in kqX2_daysUpTo_0 9 rfl) (bq_in kqX2_daysUpTo_0 10 rfl) (bq_in kqX2_daysUpTo_0 11 rfl) rfl
theorem dX2_daysUpTo_12 : decode cX2_daysUpTo 12 = .ok (.iload_n 1, 1) := oq_27 (bq_in kqX2_daysUpTo_0 12 rfl)
theorem dX2_daysUpTo_13 : decode cX2_daysUpTo 13 = .ok (.aload_n 0, 1) := oq_42 (bq_in kqX2_daysUpTo_0 13 rfl)
theorem dX2_daysUpTo_14 : decode cX2_daysUpTo 14 = .ok (.getfield 21, 3) := oq_180 (bq_in kqX2_daysUpTo_0 14 rfl) (bq_in kqX2_daysUpTo_0 15 rfl) (bq_in kqX2_daysUpTo_0 16 rfl) rfl
theorem dX2_daysUpTo_17 : decode cX2_daysUpTo 17 = .ok (.isub, 1) := oq_100 (bq_in kqX2_daysUpTo_0 17 rfl)
theorem dX2_daysUpTo_18 : decode cX2_daysUpTo 18 = .ok (.aload_n 0, 1) := oq_42 (bq_in kqX2_daysUpTo_0 18 rfl)
theorem dX2_daysUpTo_19 : decode cX2_daysUpTo 19 = .ok (.getfield 15, 3) := oq_180 (bq_in kqX2_daysUpTo_0 19 rfl) (bq_in kqX2_daysUpTo_0 20 rfl) (bq_in kqX2_daysUpTo_0 21 rfl) rfl
theorem dX2_daysUpTo_22 : decode cX2_daysUpTo 22 = .ok (.idiv, 1) := oq_108 (bq_in kqX2_daysUpTo_0 22 rfl)
theorem dX2_daysUpTo_23 : decode cX2_daysUpTo 23 = .ok (.iconst 1, 1) := oq_4 (bq_in kqX2_daysUpTo_0 23 rfl)
theorem dX2_daysUpTo_24 : decode cX2_daysUpTo 24 = .ok (.iadd, 1) := oq_96 (bq_in kqX2_daysUpTo_0 24 rfl)
theorem dX2_daysUpTo_25 : decode cX2_daysUpTo 25 = .ok (.ireturn, 1) := oq_172 (bq_in kqX2_daysUpTo_0 25 rfl)
theorem kqX2_cycle_0 : ((cX2_cycle.data.toList.drop 0).take 34).map UInt8.toNat = [42, 180, 0, 15, 133, 173] := by decide +kernel
theorem dX2_cycle_0 : decode cX2_cycle 0 = .ok (.aload_n 0, 1) := oq_42 (bq_in kqX2_cycle_0 0 rfl)
theorem dX2_cycle_1 : decode cX2_cycle 1 = .ok (.getfield 15, 3) := oq_180 (bq_in kqX2_cycle_0 1 rfl) (bq_in kqX2_cycle_0 2 rfl) (bq_in kqX2_cycle_0 3 rfl) rfl
theorem dX2_cycle_4 : decode cX2_cycle 4 = .ok (.i2l, 1) := oq_133 (bq_in kqX2_cycle_0 4 rfl)
theorem dX2_cycle_5 : decode cX2_cycle 5 = .ok (.lreturn, 1) := oq_173 (bq_in kqX2_cycle_0 5 rfl)
theorem kqX3_init_0 : ((cX3_init.data.toList.drop 0).take 34).map UInt8.toNat = [42, 27, 28, 29, 183, 0, 3, 42, 27, 16, 7, 160, 0, 10, 16, 12, 28, 104, 167, 0, 4, 28, 4, 184, 0, 9, 181, 0, 15, 42, 29, 184, 0, 21] := by decide +kernel
theorem dX3_init_0 : decode cX3_init 0 = .ok (.aload_n 0, 1) := oq_42 (bq_in kqX3_init_0 0 rfl)
theorem dX3_init_1 : decode cX3_init 1 = .ok (.iload_n 1, 1) := oq_27 (bq_in kqX3_init_0 1 rfl)
theorem dX3_init_2 : decode cX3_init 2 = .ok (.iload_n 2, 1) := oq_28 (bq_in kqX3_init_0 2 rfl)
theorem dX3_init_3 : decode cX3_init 3 = .ok (.iload_n 3, 1) := oq_29 (bq_in kqX3_init_0 3 rfl)
theorem dX3_init_4 : decode cX3_init 4 = .ok (.invokespecial 3, 3) := oq_183 (bq_in kqX3_init_0 4 rfl) (bq_in kqX3_init_0 5 rfl) (bq_in kqX3_init_0 6 rfl) rfl
theorem dX3_init_7 : decode cX3_init 7 = .ok (.aload_n 0, 1) := oq_42 (bq_in kqX3_init_0 7 rfl)
theorem dX3_init_8 : decode cX3_init 8 = .ok (.iload_n 1, 1) := oq_27 (bq_in kqX3_init_0 8 rfl)
theorem dX3_init_9 : decode cX3_init 9 = .ok (.bipush 7, 2) := oq_16 (bq_in kqX3_init_0 9 rfl) (bq_in kqX3_init_0 10 rfl) rfl
theorem dX3_init_11 : decode cX3_init 11 = .ok (.if_icmp .ne 10, 3) := oq_160 (bq_in kqX3_init_0 11 rfl) (bq_in kqX3_init_0 12 rfl) (bq_in kqX3_init_0 13 rfl) rfl
theorem dX3_init_14 : decode cX3_init 14 = .ok (.bipush 12, 2) := oq_16 (bq_in kqX3_init_0 14 rfl) (bq_in kqX3_init_0 15 rfl) rfl
theorem dX3_init_16 : decode cX3_init 16 = .ok (.iload_n 2, 1) := oq_28 (bq_in kqX3_init_0 16 rfl)
theorem dX3_init_17 : decode cX3_init 17 = .ok (.imul, 1) := oq_104 (bq_in kqX3_init_0 17 rfl)
theorem dX3_init_18 : decode cX3_init 18 = .ok (.goto 4, 3) := oq_167 (bq_in kqX3_init_0 18 rfl) (bq_in kqX3_init_0 19 rfl) (bq_in kqX3_init_0 20 rfl) rfl
theorem dX3_init_21 : decode cX3_init 21 = .ok (.iload_n 2, 1) := oq_28 (bq_in kqX3_init_0 21 rfl)
theorem dX3_init_22 : decode cX3_init 22 = .ok (.iconst 1, 1) := oq_4 (bq_in kqX3_init_0 22 rfl)
theorem dX3_init_23 : decode cX3_init 23 = .ok (.invokestatic 9, 3) := oq_184 (bq_in kqX3_init_0 23 rfl) (bq_in kqX3_init_0 24 rfl) (bq_in kqX3_init_0 25 rfl) rfl
theorem dX3_init_26 : decode cX3_init 26 = .ok (.putfield 15, 3) := oq_181 (bq_in kqX3_init_0 26 rfl) (bq_in kqX3_init_0 27 rfl) (bq_in kqX3_init_0 28 rfl) rfl
theorem dX3_init_29 : decode cX3_init 29 = .ok (.aload_n 0, 1) := oq_42 (bq_in kqX3_init_0 29 rfl)
theorem dX3_init_30 : decode cX3_init 30 = .ok (.iload_n 3, 1) := oq_29 (bq_in kqX3_init_0 30 rfl)
theorem dX3_init_31 : decode cX3_init 31 = .ok (.invokestatic 21, 3) := oq_184 (bq_in kqX3_init_0 31 rfl) (bq_in kqX3_init_0 32 rfl) (bq_in kqX3_init_0 33 rfl) rfl
theorem kqX3_init_1 : ((cX3_init.data.toList.drop 32).take 34).map UInt8.toNat = [0, 21, 181, 0, 27, 42, 27, 16, 7, 160, 0, 17, 29, 42, 180, 0, 27, 184, 0, 30, 100, 4, 96, 167, 0, 5, 21, 4, 181, 0, 33, 42, 21, 5] := by decide +kernel
theorem dX3_init_34 : decode cX3_init 34 = .ok (.putfield 27, 3) := oq_181 (bq_in kqX3_init_1 2 rfl) (bq_in kqX3_init_1 3 rfl) (bq_in kqX3_init_1 4 rfl) rfl
theorem dX3_init_37 : decode cX3_init 37 = .ok (.aload_n 0, 1) := oq_42 (bq_in kqX3_init_1 5 rfl)
theorem dX3_init_38 : decode cX3_init 38 = .ok (.iload_n 1, 1) := oq_27 (bq_in kqX3_init_1 6 rfl)
theorem dX3_init_39 : decode cX3_init 39 = .ok (.bipush 7, 2) := oq_16 (bq_in kqX3_init_1 7 rfl) (bq_in kqX3_init_1 8 rfl) rfl
theorem dX3_init_41 : decode cX3_init 41 = .ok (.if_icmp .ne 17, 3) := oq_160 (bq_in kqX3_init_1 9 rfl) (bq_in kqX3_init_1 10 rfl) (bq_in kqX3_init_1 11 rfl) rfl
theorem dX3_init_44 : decode cX3_init 44 = .ok (.iload_n 3, 1) := oq_29 (bq_in kqX3_init_1 12 rfl)
theorem dX3_init_45 : decode cX3_init 45 = .ok (.aload_n 0, 1) := oq_42 (bq_in kqX3_init_1 13 rfl)
theorem dX3_init_46 : decode cX3_init 46 = .ok (.getfield 27, 3) := oq_180 (bq_in kqX3_init_1 14 rfl) (bq_in kqX3_init_1 15 rfl) (bq_in kqX3_init_1 16 rfl) rfl
theorem dX3_init_49 : decode cX3_init 49 = .ok (.invokestatic 30, 3) := oq_184 (bq_in kqX3_init_1 17 rfl) (bq_in kqX3_init_1 18 rfl) (bq_in kqX3_init_1 19 rfl) rfl
theorem dX3_init_52 : decode cX3_init 52 = .ok (.isub, 1) := oq_100 (bq_in kqX3_init_1 20 rfl)
theorem dX3_init_53 : decode cX3_init 53 = .ok (.iconst 1, 1) := oq_4 (bq_in kqX3_init_1 21 rfl)
theorem dX3_init_54 : decode cX3_init 54 = .ok (.iadd, 1) := oq_96 (bq_in kqX3_init_1 22 rfl)
theorem dX3_init_55 : decode cX3_init 55 = .ok (.goto 5, 3) := oq_167 (bq_in kqX3_init_1 23 rfl) (bq_in kqX3_init_1 24 rfl) (bq_in kqX3_init_1 25 rfl) rfl
theorem dX3_init_58 : decode cX3_init 58 = .ok (.iload 4, 2) := oq_21 (bq_in kqX3_init_1 26 rfl) (bq_in kqX3_init_1 27 rfl)
theorem dX3_init_60 : decode cX3_init 60 = .ok (.putfield 33, 3) := oq_181 (bq_in kqX3_init_1 28 rfl) (bq_in kqX3_init_1 29 rfl) (bq_in kqX3_init_1 30 rfl) rfl
theorem dX3_init_63 : decode cX3_init 63 = .ok (.aload_n 0, 1) := oq_42 (bq_in kqX3_init_1 31 rfl)
theorem kqX3_init_2 : ((cX3_init.data.toList.drop 64).take 34).map UInt8.toNat = [21, 5, 181, 0, 36, 177] := by decide +kernel
theorem dX3_init_64 : decode cX3_init 64 = .ok (.iload 5, 2) := oq_21 (bq_in kqX3_init_2 0 rfl) (bq_in kqX3_init_2 1 rfl)
theorem dX3_init_66 : decode cX3_init 66 = .ok (.putfield 36, 3) := oq_181 (bq_in kqX3_init_2 2 rfl) (bq_in kqX3_init_2 3 rfl) (bq_in kqX3_init_2 4 rfl) rfl
theorem dX3_init_69 : decode cX3_init 69 = .ok (.return_, 1) := oq_177 (bq_in kqX3_init_2 5 rfl)
theorem kqX3_dayFrom_0 : ((cX3_dayFrom.data.toList.drop 0).take 34).map UInt8.toNat = [27, 42, 180, 0, 39, 184, 0, 9, 61, 42, 28, 182, 0, 42, 62, 29, 17, 4, 176, 162, 0, 29, 42, 29, 182, 0, 45, 54, 4, 21, 4, 28, 161, 0] := by decide +kernel
theorem dX3_dayFrom_0 : decode cX3_dayFrom 0 = .ok (.iload_n 1, 1) := oq_27 (bq_in kqX3_dayFrom_0 0 rfl)
theorem dX3_dayFrom_1 : decode cX3_dayFrom 1 = .ok (.aload_n 0, 1) := oq_42 (bq_in kqX3_dayFrom_0 1 rfl)
theorem dX3_dayFrom_2 : decode cX3_dayFrom 2 = .ok (.getfield 39, 3) := oq_180 (bq_in kqX3_dayFrom_0 2 rfl) (bq_in kqX3_dayFrom_0 3 rfl) (bq_in kqX3_dayFrom_0 4 rfl) rfl
theorem dX3_dayFrom_5 : decode cX3_dayFrom 5 = .ok (.invokestatic 9, 3) := oq_184 (bq_in kqX3_dayFrom_0 5 rfl) (bq_in kqX3_dayFrom_0 6 rfl) (bq_in kqX3_dayFrom_0 7 rfl) rfl
theorem dX3_dayFrom_8 : decode cX3_dayFrom 8 = .ok (.istore_n 2, 1) := oq_61 (bq_in kqX3_dayFrom_0 8 rfl)
theorem dX3_dayFrom_9 : decode cX3_dayFrom 9 = .ok (.aload_n 0, 1) := oq_42 (bq_in kqX3_dayFrom_0 9 rfl)
theorem dX3_dayFrom_10 : decode cX3_dayFrom 10 = .ok (.iload_n 2, 1) := oq_28 (bq_in kqX3_dayFrom_0 10 rfl)
theorem dX3_dayFrom_11 : decode cX3_dayFrom 11 = .ok (.invokevirtual 42, 3) := oq_182 (bq_in kqX3_dayFrom_0 11 rfl) (bq_in kqX3_dayFrom_0 12 rfl) (bq_in kqX3_dayFrom_0 13 rfl) rfl
theorem dX3_dayFrom_14 : decode cX3_dayFrom 14 = .ok (.istore_n 3, 1) := oq_62 (bq_in kqX3_dayFrom_0 14 rfl)
theorem dX3_dayFrom_15 : decode cX3_dayFrom 15 = .ok (.iload_n 3, 1) := oq_29 (bq_in kqX3_dayFrom_0 15 rfl)
theorem dX3_dayFrom_16 : decode cX3_dayFrom 16 = .ok (.sipush 1200, 3) := oq_17 (bq_in kqX3_dayFrom_0 16 rfl) (bq_in kqX3_dayFrom_0 17 rfl) (bq_in kqX3_dayFrom_0 18 rfl) rfl
theorem dX3_dayFrom_19 : decode cX3_dayFrom 19 = .ok (.if_icmp .ge 29, 3) := oq_162 (bq_in kqX3_dayFrom_0 19 rfl) (bq_in kqX3_dayFrom_0 20 rfl) (bq_in kqX3_dayFrom_0 21 rfl) rfl
theorem dX3_dayFrom_22 : decode cX3_dayFrom 22 = .ok (.aload_n 0, 1) := oq_42 (bq_in kqX3_dayFrom_0 22 rfl)
theorem dX3_dayFrom_23 : decode cX3_dayFrom 23 = .ok (.iload_n 3, 1) := oq_29 (bq_in kqX3_dayFrom_0 23 rfl)
theorem dX3_dayFrom_24 : decode cX3_dayFrom 24 = .ok (.invokevirtual 45, 3) := oq_182 (bq_in kqX3_dayFrom_0 24 rfl) (bq_in kqX3_dayFrom_0 25 rfl) (bq_in kqX3_dayFrom_0 26 rfl) rfl
theorem dX3_dayFrom_27 : decode cX3_dayFrom 27 = .ok (.istore 4, 2) := oq_54 (bq_in kqX3_dayFrom_0 27 rfl) (bq_in kqX3_dayFrom_0 28 rfl)
theorem dX3_dayFrom_29 : decode cX3_dayFrom 29 = .ok (.iload 4, 2) := oq_21 (bq_in kqX3_dayFrom_0 29 rfl) (bq_in kqX3_dayFrom_0 30 rfl)
theorem dX3_dayFrom_31 : decode cX3_dayFrom 31 = .ok (.iload_n 2, 1) := oq_28 (bq_in kqX3_dayFrom_0 31 rfl)
theorem kqX3_dayFrom_1 : ((cX3_dayFrom.data.toList.drop 32).take 34).map UInt8.toNat = [161, 0, 6, 21, 4, 172, 29, 42, 180, 0, 15, 96, 62, 167, 255, 226, 2, 172] := by decide +kernel
theorem dX3_dayFrom_32 : decode cX3_dayFrom 32 = .ok (.if_icmp .lt 6, 3) := oq_161 (bq_in kqX3_dayFrom_1 0 rfl) (bq_in kqX3_dayFrom_1 1 rfl) (bq_in kqX3_dayFrom_1 2 rfl) rfl
theorem dX3_dayFrom_35 : decode cX3_dayFrom 35 = .ok (.iload 4, 2) := oq_21 (bq_in kqX3_dayFrom_1 3 rfl) (bq_in kqX3_dayFrom_1 4 rfl)
theorem dX3_dayFrom_37 : decode cX3_dayFrom 37 = .ok (.ireturn, 1) := oq_172 (bq_in kqX3_dayFrom_1 5 rfl)
theorem dX3_dayFrom_38 : decode cX3_dayFrom 38 = .ok (.iload_n 3, 1) := oq_29 (bq_in kqX3_dayFrom_1 6 rfl)
theorem dX3_dayFrom_39 : decode cX3_dayFrom 39 = .ok (.aload_n 0, 1) := oq_42 (bq_in kqX3_dayFrom_1 7 rfl)
theorem dX3_dayFrom_40 : decode cX3_dayFrom 40 = .ok (.getfield 15, 3) := oq_180 (bq_in kqX3_dayFrom_1 8 rfl) (bq_in kqX3_dayFrom_1 9 rfl) (bq_in kqX3_dayFrom_1 10 rfl) rfl
theorem dX3_dayFrom_43 : decode cX3_dayFrom 43 = .ok (.iadd, 1) := oq_96 (bq_in kqX3_dayFrom_1 11 rfl)
theorem dX3_dayFrom_44 : decode cX3_dayFrom 44 = .ok (.istore_n 3, 1) := oq_62 (bq_in kqX3_dayFrom_1 12 rfl)
theorem dX3_dayFrom_45 : decode cX3_dayFrom 45 = .ok (.goto (-30), 3) := oq_167 (bq_in kqX3_dayFrom_1 13 rfl) (bq_in kqX3_dayFrom_1 14 rfl) (bq_in kqX3_dayFrom_1 15 rfl) rfl
theorem dX3_dayFrom_48 : decode cX3_dayFrom 48 = .ok (.iconst (-1), 1) := oq_2 (bq_in kqX3_dayFrom_1 16 rfl)
theorem dX3_dayFrom_49 : decode cX3_dayFrom 49 = .ok (.ireturn, 1) := oq_172 (bq_in kqX3_dayFrom_1 17 rfl)
theorem kqX3_dayTo_0 : ((cX3_dayTo.data.toList.drop 0).take 34).map UInt8.toNat = [27, 184, 0, 21, 61, 28, 28, 42, 180, 0, 27, 100, 42, 180, 0, 15, 112, 100, 61, 28, 42, 180, 0, 27, 161, 0, 43, 42, 28, 182, 0, 45, 62, 29] := by decide +kernel
theorem dX3_dayTo_0 : decode cX3_dayTo 0 = .ok (.iload_n 1, 1) := oq_27 (bq_in kqX3_dayTo_0 0 rfl)
theorem dX3_dayTo_1 : decode cX3_dayTo 1 = .ok (.invokestatic 21, 3) := oq_184 (bq_in kqX3_dayTo_0 1 rfl) (bq_in kqX3_dayTo_0 2 rfl) (bq_in kqX3_dayTo_0 3 rfl) rfl
theorem dX3_dayTo_4 : decode cX3_dayTo 4 = .ok (.istore_n 2, 1) := oq_61 (bq_in kqX3_dayTo_0 4 rfl)
theorem dX3_dayTo_5 : decode cX3_dayTo 5 = .ok (.iload_n 2, 1) := oq_28 (bq_in kqX3_dayTo_0 5 rfl)
theorem dX3_dayTo_6 : decode cX3_dayTo 6 = .ok (.iload_n 2, 1) := oq_28 (bq_in kqX3_dayTo_0 6 rfl)
theorem dX3_dayTo_7 : decode cX3_dayTo 7 = .ok (.aload_n 0, 1) := oq_42 (bq_in kqX3_dayTo_0 7 rfl)
theorem dX3_dayTo_8 : decode cX3_dayTo 8 = .ok (.getfield 27, 3) := oq_180 (bq_in kqX3_dayTo_0 8 rfl) (bq_in kqX3_dayTo_0 9 rfl) (bq_in kqX3_dayTo_0 10 rfl) rfl
theorem dX3_dayTo_11 : decode cX3_dayTo 11 = .ok (.isub, 1) := oq_100 (bq_in kqX3_dayTo_0 11 rfl)
theorem dX3_dayTo_12 : decode cX3_dayTo 12 = .ok (.aload_n 0, 1) := oq_42 (bq_in kqX3_dayTo_0 12 rfl)
theorem dX3_dayTo_13 : decode cX3_dayTo 13 = .ok (.getfield 15, 3) := oq_180 (bq_in kqX3_dayTo_0 13 rfl) (bq_in kqX3_dayTo_0 14 rfl) (bq_in kqX3_dayTo_0 15 rfl) rfl
theorem dX3_dayTo_16 : decode cX3_dayTo 16 = .ok (.irem, 1) := oq_112 (bq_in kqX3_dayTo_0 16 rfl)
theorem dX3_dayTo_17 : decode cX3_dayTo 17 = .ok (.isub, 1) := oq_100 (bq_in kqX3_dayTo_0 17 rfl)
theorem dX3_dayTo_18 : decode cX3_dayTo 18 = .ok (.istore_n 2, 1) := oq_61 (bq_in kqX3_dayTo_0 18 rfl)
theorem dX3_dayTo_19 : decode cX3_dayTo 19 = .ok (.iload_n 2, 1) := oq_28 (bq_in kqX3_dayTo_0 19 rfl)
theorem dX3_dayTo_20 : decode cX3_dayTo 20 = .ok (.aload_n 0, 1) := oq_42 (bq_in kqX3_dayTo_0 20 rfl)
theorem dX3_dayTo_21 : decode cX3_dayTo 21 = .ok (.getfield 27, 3) := oq_180 (bq_in kqX3_dayTo_0 21 rfl) (bq_in kqX3_dayTo_0 22 rfl) (bq_in kqX3_dayTo_0 23 rfl) rfl
theorem dX3_dayTo_24 : decode cX3_dayTo 24 = .ok (.if_icmp .lt 43, 3) := oq_161 (bq_in kqX3_dayTo_0 24 rfl) (bq_in kqX3_dayTo_0 25 rfl) (bq_in kqX3_dayTo_0 26 rfl) rfl
theorem dX3_dayTo_27 : decode cX3_dayTo 27 = .ok (.aload_n 0, 1) := oq_42 (bq_in kqX3_dayTo_0 27 rfl)
theorem dX3_dayTo_28 : decode cX3_dayTo 28 = .ok (.iload_n 2, 1) := oq_28 (bq_in kqX3_dayTo_0 28 rfl)
theorem dX3_dayTo_29 : decode cX3_dayTo 29 = .ok (.invokevirtual 45, 3) := oq_182 (bq_in kqX3_dayTo_0 29 rfl) (bq_in kqX3_dayTo_0 30 rfl) (bq_in kqX3_dayTo_0 31 rfl) rfl
theorem kqX3_dayTo_1 : ((cX3_dayTo.data.toList.drop 32).take 34).map UInt8.toNat = [62, 29, 2, 159, 0, 22, 29, 27, 163, 0, 17, 29, 42, 180, 0, 39, 161, 0, 7, 29, 167, 0, 4, 2, 172, 28, 42, 180, 0, 15, 100, 61, 167, 255] := by decide +kernel
theorem dX3_dayTo_32 : decode cX3_dayTo 32 = .ok (.istore_n 3, 1) := oq_62 (bq_in kqX3_dayTo_1 0 rfl)
theorem dX3_dayTo_33 : decode cX3_dayTo 33 = .ok (.iload_n 3, 1) := oq_29 (bq_in kqX3_dayTo_1 1 rfl)
theorem dX3_dayTo_34 : decode cX3_dayTo 34 = .ok (.iconst (-1), 1) := oq_2 (bq_in kqX3_dayTo_1 2 rfl)
theorem dX3_dayTo_35 : decode cX3_dayTo 35 = .ok (.if_icmp .eq 22, 3) := oq_159 (bq_in kqX3_dayTo_1 3 rfl) (bq_in kqX3_dayTo_1 4 rfl) (bq_in kqX3_dayTo_1 5 rfl) rfl
theorem dX3_dayTo_38 : decode cX3_dayTo 38 = .ok (.iload_n 3, 1) := oq_29 (bq_in kqX3_dayTo_1 6 rfl)
theorem dX3_dayTo_39 : decode cX3_dayTo 39 = .ok (.iload_n 1, 1) := oq_27 (bq_in kqX3_dayTo_1 7 rfl)
theorem dX3_dayTo_40 : decode cX3_dayTo 40 = .ok (.if_icmp .gt 17, 3) := oq_163 (bq_in kqX3_dayTo_1 8 rfl) (bq_in kqX3_dayTo_1 9 rfl) (bq_in kqX3_dayTo_1 10 rfl) rfl
theorem dX3_dayTo_43 : decode cX3_dayTo 43 = .ok (.iload_n 3, 1) := oq_29 (bq_in kqX3_dayTo_1 11 rfl)
theorem dX3_dayTo_44 : decode cX3_dayTo 44 = .ok (.aload_n 0, 1) := oq_42 (bq_in kqX3_dayTo_1 12 rfl)
theorem dX3_dayTo_45 : decode cX3_dayTo 45 = .ok (.getfield 39, 3) := oq_180 (bq_in kqX3_dayTo_1 13 rfl) (bq_in kqX3_dayTo_1 14 rfl) (bq_in kqX3_dayTo_1 15 rfl) rfl
theorem dX3_dayTo_48 : decode cX3_dayTo 48 = .ok (.if_icmp .lt 7, 3) := oq_161 (bq_in kqX3_dayTo_1 16 rfl) (bq_in kqX3_dayTo_1 17 rfl) (bq_in kqX3_dayTo_1 18 rfl) rfl
theorem dX3_dayTo_51 : decode cX3_dayTo 51 = .ok (.iload_n 3, 1) := oq_29 (bq_in kqX3_dayTo_1 19 rfl)
theorem dX3_dayTo_52 : decode cX3_dayTo 52 = .ok (.goto 4, 3) := oq_167 (bq_in kqX3_dayTo_1 20 rfl) (bq_in kqX3_dayTo_1 21 rfl) (bq_in kqX3_dayTo_1 22 rfl) rfl
theorem dX3_dayTo_55 : decode cX3_dayTo 55 = .ok (.iconst (-1), 1) := oq_2 (bq_in kqX3_dayTo_1 23 rfl)
theorem dX3_dayTo_56 : decode cX3_dayTo 56 = .ok (.ireturn, 1) := oq_172 (bq_in kqX3_dayTo_1 24 rfl)
theorem dX3_dayTo_57 : decode cX3_dayTo 57 = .ok (.iload_n 2, 1) := oq_28 (bq_in kqX3_dayTo_1 25 rfl)
theorem dX3_dayTo_58 : decode cX3_dayTo 58 = .ok (.aload_n 0, 1) := oq_42 (bq_in kqX3_dayTo_1 26 rfl)
theorem dX3_dayTo_59 : decode cX3_dayTo 59 = .ok (.getfield 15, 3) := oq_180 (bq_in kqX3_dayTo_1 27 rfl) (bq_in kqX3_dayTo_1 28 rfl) (bq_in kqX3_dayTo_1 29 rfl) rfl
theorem dX3_dayTo_62 : decode cX3_dayTo 62 = .ok (.isub, 1) := oq_100 (bq_in kqX3_dayTo_1 30 rfl)
theorem dX3_dayTo_63 : decode cX3_dayTo 63 = .ok (.istore_n 2, 1) := oq_61 (bq_in kqX3_dayTo_1 31 rfl)
theorem kqX3_dayTo_2 : ((cX3_dayTo.data.toList.drop 64).take 34).map UInt8.toNat = [167, 255, 211, 2, 172] := by decide +kernel
theorem dX3_dayTo_64 : decode cX3_dayTo 64 = .ok (.goto (-45), 3) := oq_167 (bq_in kqX3_dayTo_2 0 rfl) (bq_in kqX3_dayTo_2 1 rfl) (bq_in kqX3_dayTo_2 2 rfl) rfl
theorem dX3_dayTo_67 : decode cX3_dayTo 67 = .ok (.iconst (-1), 1) := oq_2 (bq_in kqX3_dayTo_2 3 rfl)
theorem dX3_dayTo_68 : decode cX3_dayTo 68 = .ok (.ireturn, 1) := oq_172 (bq_in kqX3_dayTo_2 4 rfl)
theorem kqX3_daysIn_0 : ((cX3_daysIn.data.toList.drop 0).take 34).map UInt8.toNat = [27, 42, 180, 0, 39, 184, 0, 9, 62, 28, 184, 0, 21, 54, 4, 3, 54, 5, 42, 29, 182, 0, 42, 54, 6, 21, 6, 21, 4, 163, 0, 38, 42, 21] := by decide +kernel
theorem dX3_daysIn_0 : decode cX3_daysIn 0 = .ok (.iload_n 1, 1) := oq_27 (bq_in kqX3_daysIn_0 0 rfl)
theorem dX3_daysIn_1 : decode cX3_daysIn 1 = .ok (.aload_n 0, 1) := oq_42 (bq_in kqX3_daysIn_0 1 rfl)
theorem dX3_daysIn_2 : decode cX3_daysIn 2 = .ok (.getfield 39, 3) := oq_180 (bq_in kqX3_daysIn_0 2 rfl) (bq_in kqX3_daysIn_0 3 rfl) (bq_in kqX3_daysIn_0 4 rfl) rfl
theorem dX3_daysIn_5 : decode cX3_daysIn 5 = .ok (.invokestatic 9, 3) := oq_184 (bq_in kqX3_daysIn_0 5 rfl) (bq_in kqX3_daysIn_0 6 rfl) (bq_in kqX3_daysIn_0 7 rfl) rfl
theorem dX3_daysIn_8 : decode cX3_daysIn 8 = .ok (.istore_n 3, 1) := oq_62 (bq_in kqX3_daysIn_0 8 rfl)
theorem dX3_daysIn_9 : decode cX3_daysIn 9 = .ok (.iload_n 2, 1) := oq_28 (bq_in kqX3_daysIn_0 9 rfl)
theorem dX3_daysIn_10 : decode cX3_daysIn 10 = .ok (.invokestatic 21, 3) := oq_184 (bq_in kqX3_daysIn_0 10 rfl) (bq_in kqX3_daysIn_0 11 rfl) (bq_in kqX3_daysIn_0 12 rfl) rfl
theorem dX3_daysIn_13 : decode cX3_daysIn 13 = .ok (.istore 4, 2) := oq_54 (bq_in kqX3_daysIn_0 13 rfl) (bq_in kqX3_daysIn_0 14 rfl)
theorem dX3_daysIn_15 : decode cX3_daysIn 15 = .ok (.iconst 0, 1) := oq_3 (bq_in kqX3_daysIn_0 15 rfl)
theorem dX3_daysIn_16 : decode cX3_daysIn 16 = .ok (.istore 5, 2) := oq_54 (bq_in kqX3_daysIn_0 16 rfl) (bq_in kqX3_daysIn_0 17 rfl)
theorem dX3_daysIn_18 : decode cX3_daysIn 18 = .ok (.aload_n 0, 1) := oq_42 (bq_in kqX3_daysIn_0 18 rfl)
theorem dX3_daysIn_19 : decode cX3_daysIn 19 = .ok (.iload_n 3, 1) := oq_29 (bq_in kqX3_daysIn_0 19 rfl)
theorem dX3_daysIn_20 : decode cX3_daysIn 20 = .ok (.invokevirtual 42, 3) := oq_182 (bq_in kqX3_daysIn_0 20 rfl) (bq_in kqX3_daysIn_0 21 rfl) (bq_in kqX3_daysIn_0 22 rfl) rfl
theorem dX3_daysIn_23 : decode cX3_daysIn 23 = .ok (.istore 6, 2) := oq_54 (bq_in kqX3_daysIn_0 23 rfl) (bq_in kqX3_daysIn_0 24 rfl)
theorem dX3_daysIn_25 : decode cX3_daysIn 25 = .ok (.iload 6, 2) := oq_21 (bq_in kqX3_daysIn_0 25 rfl) (bq_in kqX3_daysIn_0 26 rfl)
theorem dX3_daysIn_27 : decode cX3_daysIn 27 = .ok (.iload 4, 2) := oq_21 (bq_in kqX3_daysIn_0 27 rfl) (bq_in kqX3_daysIn_0 28 rfl)
theorem dX3_daysIn_29 : decode cX3_daysIn 29 = .ok (.if_icmp .gt 38, 3) := oq_163 (bq_in kqX3_daysIn_0 29 rfl) (bq_in kqX3_daysIn_0 30 rfl) (bq_in kqX3_daysIn_0 31 rfl) rfl
theorem kqX3_daysIn_1 : ((cX3_daysIn.data.toList.drop 32).take 34).map UInt8.toNat = [42, 21, 6, 182, 0, 45, 54, 7, 21, 7, 29, 161, 0, 12, 21, 7, 28, 163, 0, 6, 132, 5, 1, 21, 6, 42, 180, 0, 15, 96, 54, 6, 167, 255] := by decide +kernel
theorem dX3_daysIn_32 : decode cX3_daysIn 32 = .ok (.aload_n 0, 1) := oq_42 (bq_in kqX3_daysIn_1 0 rfl)
theorem dX3_daysIn_33 : decode cX3_daysIn 33 = .ok (.iload 6, 2) := oq_21 (bq_in kqX3_daysIn_1 1 rfl) (bq_in kqX3_daysIn_1 2 rfl)
theorem dX3_daysIn_35 : decode cX3_daysIn 35 = .ok (.invokevirtual 45, 3) := oq_182 (bq_in kqX3_daysIn_1 3 rfl) (bq_in kqX3_daysIn_1 4 rfl) (bq_in kqX3_daysIn_1 5 rfl) rfl
theorem dX3_daysIn_38 : decode cX3_daysIn 38 = .ok (.istore 7, 2) := oq_54 (bq_in kqX3_daysIn_1 6 rfl) (bq_in kqX3_daysIn_1 7 rfl)
theorem dX3_daysIn_40 : decode cX3_daysIn 40 = .ok (.iload 7, 2) := oq_21 (bq_in kqX3_daysIn_1 8 rfl) (bq_in kqX3_daysIn_1 9 rfl)
theorem dX3_daysIn_42 : decode cX3_daysIn 42 = .ok (.iload_n 3, 1) := oq_29 (bq_in kqX3_daysIn_1 10 rfl)
theorem dX3_daysIn_43 : decode cX3_daysIn 43 = .ok (.if_icmp .lt 12, 3) := oq_161 (bq_in kqX3_daysIn_1 11 rfl) (bq_in kqX3_daysIn_1 12 rfl) (bq_in kqX3_daysIn_1 13 rfl) rfl
theorem dX3_daysIn_46 : decode cX3_daysIn 46 = .ok (.iload 7, 2) := oq_21 (bq_in kqX3_daysIn_1 14 rfl) (bq_in kqX3_daysIn_1 15 rfl)
theorem dX3_daysIn_48 : decode cX3_daysIn 48 = .ok (.iload_n 2, 1) := oq_28 (bq_in kqX3_daysIn_1 16 rfl)
theorem dX3_daysIn_49 : decode cX3_daysIn 49 = .ok (.if_icmp .gt 6, 3) := oq_163 (bq_in kqX3_daysIn_1 17 rfl) (bq_in kqX3_daysIn_1 18 rfl) (bq_in kqX3_daysIn_1 19 rfl) rfl
theorem dX3_daysIn_52 : decode cX3_daysIn 52 = .ok (.iinc 5 1, 3) := oq_132 (bq_in kqX3_daysIn_1 20 rfl) (bq_in kqX3_daysIn_1 21 rfl) (bq_in kqX3_daysIn_1 22 rfl) rfl
theorem dX3_daysIn_55 : decode cX3_daysIn 55 = .ok (.iload 6, 2) := oq_21 (bq_in kqX3_daysIn_1 23 rfl) (bq_in kqX3_daysIn_1 24 rfl)
theorem dX3_daysIn_57 : decode cX3_daysIn 57 = .ok (.aload_n 0, 1) := oq_42 (bq_in kqX3_daysIn_1 25 rfl)
theorem dX3_daysIn_58 : decode cX3_daysIn 58 = .ok (.getfield 15, 3) := oq_180 (bq_in kqX3_daysIn_1 26 rfl) (bq_in kqX3_daysIn_1 27 rfl) (bq_in kqX3_daysIn_1 28 rfl) rfl
theorem dX3_daysIn_61 : decode cX3_daysIn 61 = .ok (.iadd, 1) := oq_96 (bq_in kqX3_daysIn_1 29 rfl)
theorem dX3_daysIn_62 : decode cX3_daysIn 62 = .ok (.istore 6, 2) := oq_54 (bq_in kqX3_daysIn_1 30 rfl) (bq_in kqX3_daysIn_1 31 rfl)
theorem kqX3_daysIn_2 : ((cX3_daysIn.data.toList.drop 64).take 34).map UInt8.toNat = [167, 255, 217, 21, 5, 172] := by decide +kernel
theorem dX3_daysIn_64 : decode cX3_daysIn 64 = .ok (.goto (-39), 3) := oq_167 (bq_in kqX3_daysIn_2 0 rfl) (bq_in kqX3_daysIn_2 1 rfl) (bq_in kqX3_daysIn_2 2 rfl) rfl
theorem dX3_daysIn_67 : decode cX3_daysIn 67 = .ok (.iload 5, 2) := oq_21 (bq_in kqX3_daysIn_2 3 rfl) (bq_in kqX3_daysIn_2 4 rfl)
theorem dX3_daysIn_69 : decode cX3_daysIn 69 = .ok (.ireturn, 1) := oq_172 (bq_in kqX3_daysIn_2 5 rfl)
theorem kqX3_monthFrom_0 : ((cX3_monthFrom.data.toList.drop 0).take 34).map UInt8.toNat = [27, 184, 0, 21, 61, 28, 42, 180, 0, 27, 100, 42, 180, 0, 15, 112, 62, 29, 154, 0, 7, 28, 167, 0, 11, 28, 29, 100, 42, 180, 0, 15, 96, 172] := by decide +kernel
theorem dX3_monthFrom_0 : decode cX3_monthFrom 0 = .ok (.iload_n 1, 1) := oq_27 (bq_in kqX3_monthFrom_0 0 rfl)
theorem dX3_monthFrom_1 : decode cX3_monthFrom 1 = .ok (.invokestatic 21, 3) := oq_184 (bq_in kqX3_monthFrom_0 1 rfl) (bq_in kqX3_monthFrom_0 2 rfl) (bq_in kqX3_monthFrom_0 3 rfl) rfl
theorem dX3_monthFrom_4 : decode cX3_monthFrom 4 = .ok (.istore_n 2, 1) := oq_61 (bq_in kqX3_monthFrom_0 4 rfl)
theorem dX3_monthFrom_5 : decode cX3_monthFrom 5 = .ok (.iload_n 2, 1) := oq_28 (bq_in kqX3_monthFrom_0 5 rfl)
theorem dX3_monthFrom_6 : decode cX3_monthFrom 6 = .ok (.aload_n 0, 1) := oq_42 (bq_in kqX3_monthFrom_0 6 rfl)
theorem dX3_monthFrom_7 : decode cX3_monthFrom 7 = .ok (.getfield 27, 3) := oq_180 (bq_in kqX3_monthFrom_0 7 rfl) (bq_in kqX3_monthFrom_0 8 rfl) (bq_in kqX3_monthFrom_0 9 rfl) rfl
theorem dX3_monthFrom_10 : decode cX3_monthFrom 10 = .ok (.isub, 1) := oq_100 (bq_in kqX3_monthFrom_0 10 rfl)
theorem dX3_monthFrom_11 : decode cX3_monthFrom 11 = .ok (.aload_n 0, 1) := oq_42 (bq_in kqX3_monthFrom_0 11 rfl)
theorem dX3_monthFrom_12 : decode cX3_monthFrom 12 = .ok (.getfield 15, 3) := oq_180 (bq_in kqX3_monthFrom_0 12 rfl) (bq_in kqX3_monthFrom_0 13 rfl) (bq_in kqX3_monthFrom_0 14 rfl) rfl
theorem dX3_monthFrom_15 : decode cX3_monthFrom 15 = .ok (.irem, 1) := oq_112 (bq_in kqX3_monthFrom_0 15 rfl)
theorem dX3_monthFrom_16 : decode cX3_monthFrom 16 = .ok (.istore_n 3, 1) := oq_62 (bq_in kqX3_monthFrom_0 16 rfl)
theorem dX3_monthFrom_17 : decode cX3_monthFrom 17 = .ok (.iload_n 3, 1) := oq_29 (bq_in kqX3_monthFrom_0 17 rfl)
theorem dX3_monthFrom_18 : decode cX3_monthFrom 18 = .ok (.ifCond .ne 7, 3) := oq_154 (bq_in kqX3_monthFrom_0 18 rfl) (bq_in kqX3_monthFrom_0 19 rfl) (bq_in kqX3_monthFrom_0 20 rfl) rfl
theorem dX3_monthFrom_21 : decode cX3_monthFrom 21 = .ok (.iload_n 2, 1) := oq_28 (bq_in kqX3_monthFrom_0 21 rfl)
theorem dX3_monthFrom_22 : decode cX3_monthFrom 22 = .ok (.goto 11, 3) := oq_167 (bq_in kqX3_monthFrom_0 22 rfl) (bq_in kqX3_monthFrom_0 23 rfl) (bq_in kqX3_monthFrom_0 24 rfl) rfl
theorem dX3_monthFrom_25 : decode cX3_monthFrom 25 = .ok (.iload_n 2, 1) := oq_28 (bq_in kqX3_monthFrom_0 25 rfl)
theorem dX3_monthFrom_26 : decode cX3_monthFrom 26 = .ok (.iload_n 3, 1) := oq_29 (bq_in kqX3_monthFrom_0 26 rfl)
theorem dX3_monthFrom_27 : decode cX3_monthFrom 27 = .ok (.isub, 1) := oq_100 (bq_in kqX3_monthFrom_0 27 rfl)
theorem dX3_monthFrom_28 : decode cX3_monthFrom 28 = .ok (.aload_n 0, 1) := oq_42 (bq_in kqX3_monthFrom_0 28 rfl)
theorem dX3_monthFrom_29 : decode cX3_monthFrom 29 = .ok (.getfield 15, 3) := oq_180 (bq_in kqX3_monthFrom_0 29 rfl) (bq_in kqX3_monthFrom_0 30 rfl) (bq_in kqX3_monthFrom_0 31 rfl) rfl
theorem kqX3_monthFrom_1 : ((cX3_monthFrom.data.toList.drop 32).take 34).map UInt8.toNat = [96, 172] := by decide +kernel
theorem dX3_monthFrom_32 : decode cX3_monthFrom 32 = .ok (.iadd, 1) := oq_96 (bq_in kqX3_monthFrom_1 0 rfl)
theorem dX3_monthFrom_33 : decode cX3_monthFrom 33 = .ok (.ireturn, 1) := oq_172 (bq_in kqX3_monthFrom_1 1 rfl)
theorem kqX3_dayIn_0 : ((cX3_dayIn.data.toList.drop 0).take 34).map UInt8.toNat = [27, 184, 0, 30, 61, 27, 4, 96, 184, 0, 30, 4, 100, 62, 42, 180, 0, 48, 170, 0, 0, 0, 0, 93, 0, 0, 0, 4, 0, 0, 0, 6, 0, 0] := by decide +kernel
theorem dX3_dayIn_0 : decode cX3_dayIn 0 = .ok (.iload_n 1, 1) := oq_27 (bq_in kqX3_dayIn_0 0 rfl)
theorem dX3_dayIn_1 : decode cX3_dayIn 1 = .ok (.invokestatic 30, 3) := oq_184 (bq_in kqX3_dayIn_0 1 rfl) (bq_in kqX3_dayIn_0 2 rfl) (bq_in kqX3_dayIn_0 3 rfl) rfl
theorem dX3_dayIn_4 : decode cX3_dayIn 4 = .ok (.istore_n 2, 1) := oq_61 (bq_in kqX3_dayIn_0 4 rfl)
theorem dX3_dayIn_5 : decode cX3_dayIn 5 = .ok (.iload_n 1, 1) := oq_27 (bq_in kqX3_dayIn_0 5 rfl)
theorem dX3_dayIn_6 : decode cX3_dayIn 6 = .ok (.iconst 1, 1) := oq_4 (bq_in kqX3_dayIn_0 6 rfl)
theorem dX3_dayIn_7 : decode cX3_dayIn 7 = .ok (.iadd, 1) := oq_96 (bq_in kqX3_dayIn_0 7 rfl)
theorem dX3_dayIn_8 : decode cX3_dayIn 8 = .ok (.invokestatic 30, 3) := oq_184 (bq_in kqX3_dayIn_0 8 rfl) (bq_in kqX3_dayIn_0 9 rfl) (bq_in kqX3_dayIn_0 10 rfl) rfl
theorem dX3_dayIn_11 : decode cX3_dayIn 11 = .ok (.iconst 1, 1) := oq_4 (bq_in kqX3_dayIn_0 11 rfl)
theorem dX3_dayIn_12 : decode cX3_dayIn 12 = .ok (.isub, 1) := oq_100 (bq_in kqX3_dayIn_0 12 rfl)
theorem dX3_dayIn_13 : decode cX3_dayIn 13 = .ok (.istore_n 3, 1) := oq_62 (bq_in kqX3_dayIn_0 13 rfl)
theorem dX3_dayIn_14 : decode cX3_dayIn 14 = .ok (.aload_n 0, 1) := oq_42 (bq_in kqX3_dayIn_0 14 rfl)
theorem dX3_dayIn_15 : decode cX3_dayIn 15 = .ok (.getfield 48, 3) := oq_180 (bq_in kqX3_dayIn_0 15 rfl) (bq_in kqX3_dayIn_0 16 rfl) (bq_in kqX3_dayIn_0 17 rfl) rfl
theorem dX3_dayIn_18 : decode cX3_dayIn 18 = .ok (.tableswitch 93 4 6 #[26, 39, 71], 26) := by decide +kernel
theorem kqX3_dayIn_1 : ((cX3_dayIn.data.toList.drop 32).take 34).map UInt8.toNat = [0, 0, 0, 26, 0, 0, 0, 39, 0, 0, 0, 71, 29, 42, 180, 0, 33, 100, 4, 96, 54, 4, 167, 0, 67, 28, 42, 180, 0, 36, 28, 184, 0, 51] := by decide +kernel
theorem dX3_dayIn_44 : decode cX3_dayIn 44 = .ok (.iload_n 3, 1) := oq_29 (bq_in kqX3_dayIn_1 12 rfl)
theorem dX3_dayIn_45 : decode cX3_dayIn 45 = .ok (.aload_n 0, 1) := oq_42 (bq_in kqX3_dayIn_1 13 rfl)
theorem dX3_dayIn_46 : decode cX3_dayIn 46 = .ok (.getfield 33, 3) := oq_180 (bq_in kqX3_dayIn_1 14 rfl) (bq_in kqX3_dayIn_1 15 rfl) (bq_in kqX3_dayIn_1 16 rfl) rfl
theorem dX3_dayIn_49 : decode cX3_dayIn 49 = .ok (.isub, 1) := oq_100 (bq_in kqX3_dayIn_1 17 rfl)
theorem dX3_dayIn_50 : decode cX3_dayIn 50 = .ok (.iconst 1, 1) := oq_4 (bq_in kqX3_dayIn_1 18 rfl)
theorem dX3_dayIn_51 : decode cX3_dayIn 51 = .ok (.iadd, 1) := oq_96 (bq_in kqX3_dayIn_1 19 rfl)
theorem dX3_dayIn_52 : decode cX3_dayIn 52 = .ok (.istore 4, 2) := oq_54 (bq_in kqX3_dayIn_1 20 rfl) (bq_in kqX3_dayIn_1 21 rfl)
theorem dX3_dayIn_54 : decode cX3_dayIn 54 = .ok (.goto 67, 3) := oq_167 (bq_in kqX3_dayIn_1 22 rfl) (bq_in kqX3_dayIn_1 23 rfl) (bq_in kqX3_dayIn_1 24 rfl) rfl
theorem dX3_dayIn_57 : decode cX3_dayIn 57 = .ok (.iload_n 2, 1) := oq_28 (bq_in kqX3_dayIn_1 25 rfl)
theorem dX3_dayIn_58 : decode cX3_dayIn 58 = .ok (.aload_n 0, 1) := oq_42 (bq_in kqX3_dayIn_1 26 rfl)
theorem dX3_dayIn_59 : decode cX3_dayIn 59 = .ok (.getfield 36, 3) := oq_180 (bq_in kqX3_dayIn_1 27 rfl) (bq_in kqX3_dayIn_1 28 rfl) (bq_in kqX3_dayIn_1 29 rfl) rfl
theorem dX3_dayIn_62 : decode cX3_dayIn 62 = .ok (.iload_n 2, 1) := oq_28 (bq_in kqX3_dayIn_1 30 rfl)
theorem dX3_dayIn_63 : decode cX3_dayIn 63 = .ok (.invokestatic 51, 3) := oq_184 (bq_in kqX3_dayIn_1 31 rfl) (bq_in kqX3_dayIn_1 32 rfl) (bq_in kqX3_dayIn_1 33 rfl) rfl
theorem kqX3_dayIn_2 : ((cX3_dayIn.data.toList.drop 64).take 34).map UInt8.toNat = [0, 51, 100, 16, 7, 96, 16, 7, 112, 96, 16, 7, 42, 180, 0, 33, 4, 100, 104, 96, 54, 4, 167, 0, 35, 29, 29, 184, 0, 51, 42, 180, 0, 36] := by decide +kernel
theorem dX3_dayIn_66 : decode cX3_dayIn 66 = .ok (.isub, 1) := oq_100 (bq_in kqX3_dayIn_2 2 rfl)
theorem dX3_dayIn_67 : decode cX3_dayIn 67 = .ok (.bipush 7, 2) := oq_16 (bq_in kqX3_dayIn_2 3 rfl) (bq_in kqX3_dayIn_2 4 rfl) rfl
theorem dX3_dayIn_69 : decode cX3_dayIn 69 = .ok (.iadd, 1) := oq_96 (bq_in kqX3_dayIn_2 5 rfl)
theorem dX3_dayIn_70 : decode cX3_dayIn 70 = .ok (.bipush 7, 2) := oq_16 (bq_in kqX3_dayIn_2 6 rfl) (bq_in kqX3_dayIn_2 7 rfl) rfl
theorem dX3_dayIn_72 : decode cX3_dayIn 72 = .ok (.irem, 1) := oq_112 (bq_in kqX3_dayIn_2 8 rfl)
theorem dX3_dayIn_73 : decode cX3_dayIn 73 = .ok (.iadd, 1) := oq_96 (bq_in kqX3_dayIn_2 9 rfl)
theorem dX3_dayIn_74 : decode cX3_dayIn 74 = .ok (.bipush 7, 2) := oq_16 (bq_in kqX3_dayIn_2 10 rfl) (bq_in kqX3_dayIn_2 11 rfl) rfl
theorem dX3_dayIn_76 : decode cX3_dayIn 76 = .ok (.aload_n 0, 1) := oq_42 (bq_in kqX3_dayIn_2 12 rfl)
theorem dX3_dayIn_77 : decode cX3_dayIn 77 = .ok (.getfield 33, 3) := oq_180 (bq_in kqX3_dayIn_2 13 rfl) (bq_in kqX3_dayIn_2 14 rfl) (bq_in kqX3_dayIn_2 15 rfl) rfl
theorem dX3_dayIn_80 : decode cX3_dayIn 80 = .ok (.iconst 1, 1) := oq_4 (bq_in kqX3_dayIn_2 16 rfl)
theorem dX3_dayIn_81 : decode cX3_dayIn 81 = .ok (.isub, 1) := oq_100 (bq_in kqX3_dayIn_2 17 rfl)
theorem dX3_dayIn_82 : decode cX3_dayIn 82 = .ok (.imul, 1) := oq_104 (bq_in kqX3_dayIn_2 18 rfl)
theorem dX3_dayIn_83 : decode cX3_dayIn 83 = .ok (.iadd, 1) := oq_96 (bq_in kqX3_dayIn_2 19 rfl)
theorem dX3_dayIn_84 : decode cX3_dayIn 84 = .ok (.istore 4, 2) := oq_54 (bq_in kqX3_dayIn_2 20 rfl) (bq_in kqX3_dayIn_2 21 rfl)
theorem dX3_dayIn_86 : decode cX3_dayIn 86 = .ok (.goto 35, 3) := oq_167 (bq_in kqX3_dayIn_2 22 rfl) (bq_in kqX3_dayIn_2 23 rfl) (bq_in kqX3_dayIn_2 24 rfl) rfl
theorem dX3_dayIn_89 : decode cX3_dayIn 89 = .ok (.iload_n 3, 1) := oq_29 (bq_in kqX3_dayIn_2 25 rfl)
theorem dX3_dayIn_90 : decode cX3_dayIn 90 = .ok (.iload_n 3, 1) := oq_29 (bq_in kqX3_dayIn_2 26 rfl)
theorem dX3_dayIn_91 : decode cX3_dayIn 91 = .ok (.invokestatic 51, 3) := oq_184 (bq_in kqX3_dayIn_2 27 rfl) (bq_in kqX3_dayIn_2 28 rfl) (bq_in kqX3_dayIn_2 29 rfl) rfl
theorem dX3_dayIn_94 : decode cX3_dayIn 94 = .ok (.aload_n 0, 1) := oq_42 (bq_in kqX3_dayIn_2 30 rfl)
theorem dX3_dayIn_95 : decode cX3_dayIn 95 = .ok (.getfield 36, 3) := oq_180 (bq_in kqX3_dayIn_2 31 rfl) (bq_in kqX3_dayIn_2 32 rfl) (bq_in kqX3_dayIn_2 33 rfl) rfl
theorem kqX3_dayIn_3 : ((cX3_dayIn.data.toList.drop 96).take 34).map UInt8.toNat = [0, 36, 100, 16, 7, 96, 16, 7, 112, 100, 54, 4, 167, 0, 13, 28, 42, 180, 0, 33, 96, 4, 100, 54, 4, 21, 4, 29, 163, 0, 8, 21, 4, 167] := by decide +kernel
theorem dX3_dayIn_98 : decode cX3_dayIn 98 = .ok (.isub, 1) := oq_100 (bq_in kqX3_dayIn_3 2 rfl)
theorem dX3_dayIn_99 : decode cX3_dayIn 99 = .ok (.bipush 7, 2) := oq_16 (bq_in kqX3_dayIn_3 3 rfl) (bq_in kqX3_dayIn_3 4 rfl) rfl
theorem dX3_dayIn_101 : decode cX3_dayIn 101 = .ok (.iadd, 1) := oq_96 (bq_in kqX3_dayIn_3 5 rfl)
theorem dX3_dayIn_102 : decode cX3_dayIn 102 = .ok (.bipush 7, 2) := oq_16 (bq_in kqX3_dayIn_3 6 rfl) (bq_in kqX3_dayIn_3 7 rfl) rfl
theorem dX3_dayIn_104 : decode cX3_dayIn 104 = .ok (.irem, 1) := oq_112 (bq_in kqX3_dayIn_3 8 rfl)
theorem dX3_dayIn_105 : decode cX3_dayIn 105 = .ok (.isub, 1) := oq_100 (bq_in kqX3_dayIn_3 9 rfl)
theorem dX3_dayIn_106 : decode cX3_dayIn 106 = .ok (.istore 4, 2) := oq_54 (bq_in kqX3_dayIn_3 10 rfl) (bq_in kqX3_dayIn_3 11 rfl)
theorem dX3_dayIn_108 : decode cX3_dayIn 108 = .ok (.goto 13, 3) := oq_167 (bq_in kqX3_dayIn_3 12 rfl) (bq_in kqX3_dayIn_3 13 rfl) (bq_in kqX3_dayIn_3 14 rfl) rfl
theorem dX3_dayIn_111 : decode cX3_dayIn 111 = .ok (.iload_n 2, 1) := oq_28 (bq_in kqX3_dayIn_3 15 rfl)
theorem dX3_dayIn_112 : decode cX3_dayIn 112 = .ok (.aload_n 0, 1) := oq_42 (bq_in kqX3_dayIn_3 16 rfl)
theorem dX3_dayIn_113 : decode cX3_dayIn 113 = .ok (.getfield 33, 3) := oq_180 (bq_in kqX3_dayIn_3 17 rfl) (bq_in kqX3_dayIn_3 18 rfl) (bq_in kqX3_dayIn_3 19 rfl) rfl
theorem dX3_dayIn_116 : decode cX3_dayIn 116 = .ok (.iadd, 1) := oq_96 (bq_in kqX3_dayIn_3 20 rfl)
theorem dX3_dayIn_117 : decode cX3_dayIn 117 = .ok (.iconst 1, 1) := oq_4 (bq_in kqX3_dayIn_3 21 rfl)
theorem dX3_dayIn_118 : decode cX3_dayIn 118 = .ok (.isub, 1) := oq_100 (bq_in kqX3_dayIn_3 22 rfl)
theorem dX3_dayIn_119 : decode cX3_dayIn 119 = .ok (.istore 4, 2) := oq_54 (bq_in kqX3_dayIn_3 23 rfl) (bq_in kqX3_dayIn_3 24 rfl)
theorem dX3_dayIn_121 : decode cX3_dayIn 121 = .ok (.iload 4, 2) := oq_21 (bq_in kqX3_dayIn_3 25 rfl) (bq_in kqX3_dayIn_3 26 rfl)
theorem dX3_dayIn_123 : decode cX3_dayIn 123 = .ok (.iload_n 3, 1) := oq_29 (bq_in kqX3_dayIn_3 27 rfl)
theorem dX3_dayIn_124 : decode cX3_dayIn 124 = .ok (.if_icmp .gt 8, 3) := oq_163 (bq_in kqX3_dayIn_3 28 rfl) (bq_in kqX3_dayIn_3 29 rfl) (bq_in kqX3_dayIn_3 30 rfl) rfl
theorem dX3_dayIn_127 : decode cX3_dayIn 127 = .ok (.iload 4, 2) := oq_21 (bq_in kqX3_dayIn_3 31 rfl) (bq_in kqX3_dayIn_3 32 rfl)
theorem kqX3_dayIn_4 : ((cX3_dayIn.data.toList.drop 128).take 34).map UInt8.toNat = [4, 167, 0, 4, 2, 172] := by decide +kernel
theorem dX3_dayIn_129 : decode cX3_dayIn 129 = .ok (.goto 4, 3) := oq_167 (bq_in kqX3_dayIn_4 1 rfl) (bq_in kqX3_dayIn_4 2 rfl) (bq_in kqX3_dayIn_4 3 rfl) rfl
theorem dX3_dayIn_132 : decode cX3_dayIn 132 = .ok (.iconst (-1), 1) := oq_2 (bq_in kqX3_dayIn_4 4 rfl)
theorem dX3_dayIn_133 : decode cX3_dayIn 133 = .ok (.ireturn, 1) := oq_172 (bq_in kqX3_dayIn_4 5 rfl)
theorem kqX3_cycle_0 : ((cX3_cycle.data.toList.drop 0).take 34).map UInt8.toNat = [20, 0, 54, 42, 180, 0, 15, 133, 20, 0, 56, 184, 0, 58, 20, 0, 56, 109, 105, 173] := by decide +kernel
theorem dX3_cycle_0 : decode cX3_cycle 0 = .ok (.ldc2_w 54, 3) := oq_20 (bq_in kqX3_cycle_0 0 rfl) (bq_in kqX3_cycle_0 1 rfl) (bq_in kqX3_cycle_0 2 rfl) rfl
theorem dX3_cycle_3 : decode cX3_cycle 3 = .ok (.aload_n 0, 1) := oq_42 (bq_in kqX3_cycle_0 3 rfl)
theorem dX3_cycle_4 : decode cX3_cycle 4 = .ok (.getfield 15, 3) := oq_180 (bq_in kqX3_cycle_0 4 rfl) (bq_in kqX3_cycle_0 5 rfl) (bq_in kqX3_cycle_0 6 rfl) rfl
theorem dX3_cycle_7 : decode cX3_cycle 7 = .ok (.i2l, 1) := oq_133 (bq_in kqX3_cycle_0 7 rfl)
theorem dX3_cycle_8 : decode cX3_cycle 8 = .ok (.ldc2_w 56, 3) := oq_20 (bq_in kqX3_cycle_0 8 rfl) (bq_in kqX3_cycle_0 9 rfl) (bq_in kqX3_cycle_0 10 rfl) rfl
theorem dX3_cycle_11 : decode cX3_cycle 11 = .ok (.invokestatic 58, 3) := oq_184 (bq_in kqX3_cycle_0 11 rfl) (bq_in kqX3_cycle_0 12 rfl) (bq_in kqX3_cycle_0 13 rfl) rfl
theorem dX3_cycle_14 : decode cX3_cycle 14 = .ok (.ldc2_w 56, 3) := oq_20 (bq_in kqX3_cycle_0 14 rfl) (bq_in kqX3_cycle_0 15 rfl) (bq_in kqX3_cycle_0 16 rfl) rfl
theorem dX3_cycle_17 : decode cX3_cycle 17 = .ok (.ldiv, 1) := oq_109 (bq_in kqX3_cycle_0 17 rfl)
theorem dX3_cycle_18 : decode cX3_cycle 18 = .ok (.lmul, 1) := oq_105 (bq_in kqX3_cycle_0 18 rfl)
theorem dX3_cycle_19 : decode cX3_cycle 19 = .ok (.lreturn, 1) := oq_173 (bq_in kqX3_cycle_0 19 rfl)
theorem kqX3_detail_0 : ((cX3_detail.data.toList.drop 0).take 34).map UInt8.toNat = [42, 180, 0, 48, 16, 7, 160, 0, 5, 3, 172, 42, 180, 0, 48, 16, 6, 160, 0, 10, 42, 180, 0, 36, 167, 0, 7, 42, 180, 0, 33, 172] := by decide +kernel
theorem dX3_detail_0 : decode cX3_detail 0 = .ok (.aload_n 0, 1) := oq_42 (bq_in kqX3_detail_0 0 rfl)
theorem dX3_detail_1 : decode cX3_detail 1 = .ok (.getfield 48, 3) := oq_180 (bq_in kqX3_detail_0 1 rfl) (bq_in kqX3_detail_0 2 rfl) (bq_in kqX3_detail_0 3 rfl) rfl
theorem dX3_detail_4 : decode cX3_detail 4 = .ok (.bipush 7, 2) := oq_16 (bq_in kqX3_detail_0 4 rfl) (bq_in kqX3_detail_0 5 rfl) rfl
theorem dX3_detail_6 : decode cX3_detail 6 = .ok (.if_icmp .ne 5, 3) := oq_160 (bq_in kqX3_detail_0 6 rfl) (bq_in kqX3_detail_0 7 rfl) (bq_in kqX3_detail_0 8 rfl) rfl
theorem dX3_detail_9 : decode cX3_detail 9 = .ok (.iconst 0, 1) := oq_3 (bq_in kqX3_detail_0 9 rfl)
theorem dX3_detail_10 : decode cX3_detail 10 = .ok (.ireturn, 1) := oq_172 (bq_in kqX3_detail_0 10 rfl)
theorem dX3_detail_11 : decode cX3_detail 11 = .ok (.aload_n 0, 1) := oq_42 (bq_in kqX3_detail_0 11 rfl)
theorem dX3_detail_12 : decode cX3_detail 12 = .ok (.getfield 48, 3) := oq_180 (bq_in kqX3_detail_0 12 rfl) (bq_in kqX3_detail_0 13 rfl) (bq_in kqX3_detail_0 14 rfl) rfl
theorem dX3_detail_15 : decode cX3_detail 15 = .ok (.bipush 6, 2) := oq_16 (bq_in kqX3_detail_0 15 rfl) (bq_in kqX3_detail_0 16 rfl) rfl
theorem dX3_detail_17 : decode cX3_detail 17 = .ok (.if_icmp .ne 10, 3) := oq_160 (bq_in kqX3_detail_0 17 rfl) (bq_in kqX3_detail_0 18 rfl) (bq_in kqX3_detail_0 19 rfl) rfl
theorem dX3_detail_20 : decode cX3_detail 20 = .ok (.aload_n 0, 1) := oq_42 (bq_in kqX3_detail_0 20 rfl)
theorem dX3_detail_21 : decode cX3_detail 21 = .ok (.getfield 36, 3) := oq_180 (bq_in kqX3_detail_0 21 rfl) (bq_in kqX3_detail_0 22 rfl) (bq_in kqX3_detail_0 23 rfl) rfl
theorem dX3_detail_24 : decode cX3_detail 24 = .ok (.goto 7, 3) := oq_167 (bq_in kqX3_detail_0 24 rfl) (bq_in kqX3_detail_0 25 rfl) (bq_in kqX3_detail_0 26 rfl) rfl
theorem dX3_detail_27 : decode cX3_detail 27 = .ok (.aload_n 0, 1) := oq_42 (bq_in kqX3_detail_0 27 rfl)
theorem dX3_detail_28 : decode cX3_detail 28 = .ok (.getfield 33, 3) := oq_180 (bq_in kqX3_detail_0 28 rfl) (bq_in kqX3_detail_0 29 rfl) (bq_in kqX3_detail_0 30 rfl) rfl
theorem dX3_detail_31 : decode cX3_detail 31 = .ok (.ireturn, 1) := oq_172 (bq_in kqX3_detail_0 31 rfl)
theorem kqX3_nthWeekday_0 : ((cX3_nthWeekday.data.toList.drop 0).take 34).map UInt8.toNat = [42, 180, 0, 48, 8, 160, 0, 10, 42, 180, 0, 36, 167, 0, 4, 2, 172] := by decide +kernel
theorem dX3_nthWeekday_0 : decode cX3_nthWeekday 0 = .ok (.aload_n 0, 1) := oq_42 (bq_in kqX3_nthWeekday_0 0 rfl)
theorem dX3_nthWeekday_1 : decode cX3_nthWeekday 1 = .ok (.getfield 48, 3) := oq_180 (bq_in kqX3_nthWeekday_0 1 rfl) (bq_in kqX3_nthWeekday_0 2 rfl) (bq_in kqX3_nthWeekday_0 3 rfl) rfl
theorem dX3_nthWeekday_4 : decode cX3_nthWeekday 4 = .ok (.iconst 5, 1) := oq_8 (bq_in kqX3_nthWeekday_0 4 rfl)
theorem dX3_nthWeekday_5 : decode cX3_nthWeekday 5 = .ok (.if_icmp .ne 10, 3) := oq_160 (bq_in kqX3_nthWeekday_0 5 rfl) (bq_in kqX3_nthWeekday_0 6 rfl) (bq_in kqX3_nthWeekday_0 7 rfl) rfl
theorem dX3_nthWeekday_8 : decode cX3_nthWeekday 8 = .ok (.aload_n 0, 1) := oq_42 (bq_in kqX3_nthWeekday_0 8 rfl)
theorem dX3_nthWeekday_9 : decode cX3_nthWeekday 9 = .ok (.getfield 36, 3) := oq_180 (bq_in kqX3_nthWeekday_0 9 rfl) (bq_in kqX3_nthWeekday_0 10 rfl) (bq_in kqX3_nthWeekday_0 11 rfl) rfl
theorem dX3_nthWeekday_12 : decode cX3_nthWeekday 12 = .ok (.goto 4, 3) := oq_167 (bq_in kqX3_nthWeekday_0 12 rfl) (bq_in kqX3_nthWeekday_0 13 rfl) (bq_in kqX3_nthWeekday_0 14 rfl) rfl
theorem dX3_nthWeekday_15 : decode cX3_nthWeekday 15 = .ok (.iconst (-1), 1) := oq_2 (bq_in kqX3_nthWeekday_0 15 rfl)
theorem dX3_nthWeekday_16 : decode cX3_nthWeekday 16 = .ok (.ireturn, 1) := oq_172 (bq_in kqX3_nthWeekday_0 16 rfl)
theorem kqX4_init_0 : ((cX4_init.data.toList.drop 0).take 34).map UInt8.toNat = [42, 3, 3, 27, 183, 0, 3, 177] := by decide +kernel
theorem dX4_init_0 : decode cX4_init 0 = .ok (.aload_n 0, 1) := oq_42 (bq_in kqX4_init_0 0 rfl)
theorem dX4_init_1 : decode cX4_init 1 = .ok (.iconst 0, 1) := oq_3 (bq_in kqX4_init_0 1 rfl)
theorem dX4_init_2 : decode cX4_init 2 = .ok (.iconst 0, 1) := oq_3 (bq_in kqX4_init_0 2 rfl)
theorem dX4_init_3 : decode cX4_init 3 = .ok (.iload_n 1, 1) := oq_27 (bq_in kqX4_init_0 3 rfl)
theorem dX4_init_4 : decode cX4_init 4 = .ok (.invokespecial 3, 3) := oq_183 (bq_in kqX4_init_0 4 rfl) (bq_in kqX4_init_0 5 rfl) (bq_in kqX4_init_0 6 rfl) rfl
theorem dX4_init_7 : decode cX4_init 7 = .ok (.return_, 1) := oq_177 (bq_in kqX4_init_0 7 rfl)
theorem kqX4_dayFrom_0 : ((cX4_dayFrom.data.toList.drop 0).take 34).map UInt8.toNat = [27, 42, 180, 0, 9, 163, 0, 10, 42, 180, 0, 9, 167, 0, 4, 2, 172] := by decide +kernel
theorem dX4_dayFrom_0 : decode cX4_dayFrom 0 = .ok (.iload_n 1, 1) := oq_27 (bq_in kqX4_dayFrom_0 0 rfl)
theorem dX4_dayFrom_1 : decode cX4_dayFrom 1 = .ok (.aload_n 0, 1) := oq_42 (bq_in kqX4_dayFrom_0 1 rfl)
theorem dX4_dayFrom_2 : decode cX4_dayFrom 2 = .ok (.getfield 9, 3) := oq_180 (bq_in kqX4_dayFrom_0 2 rfl) (bq_in kqX4_dayFrom_0 3 rfl) (bq_in kqX4_dayFrom_0 4 rfl) rfl
theorem dX4_dayFrom_5 : decode cX4_dayFrom 5 = .ok (.if_icmp .gt 10, 3) := oq_163 (bq_in kqX4_dayFrom_0 5 rfl) (bq_in kqX4_dayFrom_0 6 rfl) (bq_in kqX4_dayFrom_0 7 rfl) rfl
theorem dX4_dayFrom_8 : decode cX4_dayFrom 8 = .ok (.aload_n 0, 1) := oq_42 (bq_in kqX4_dayFrom_0 8 rfl)
theorem dX4_dayFrom_9 : decode cX4_dayFrom 9 = .ok (.getfield 9, 3) := oq_180 (bq_in kqX4_dayFrom_0 9 rfl) (bq_in kqX4_dayFrom_0 10 rfl) (bq_in kqX4_dayFrom_0 11 rfl) rfl
theorem dX4_dayFrom_12 : decode cX4_dayFrom 12 = .ok (.goto 4, 3) := oq_167 (bq_in kqX4_dayFrom_0 12 rfl) (bq_in kqX4_dayFrom_0 13 rfl) (bq_in kqX4_dayFrom_0 14 rfl) rfl
theorem dX4_dayFrom_15 : decode cX4_dayFrom 15 = .ok (.iconst (-1), 1) := oq_2 (bq_in kqX4_dayFrom_0 15 rfl)
theorem dX4_dayFrom_16 : decode cX4_dayFrom 16 = .ok (.ireturn, 1) := oq_172 (bq_in kqX4_dayFrom_0 16 rfl)
theorem kqX4_dayTo_0 : ((cX4_dayTo.data.toList.drop 0).take 34).map UInt8.toNat = [27, 42, 180, 0, 9, 161, 0, 10, 42, 180, 0, 9, 167, 0, 4, 2, 172] := by decide +kernel
theorem dX4_dayTo_0 : decode cX4_dayTo 0 = .ok (.iload_n 1, 1) := oq_27 (bq_in kqX4_dayTo_0 0 rfl)
theorem dX4_dayTo_1 : decode cX4_dayTo 1 = .ok (.aload_n 0, 1) := oq_42 (bq_in kqX4_dayTo_0 1 rfl)
theorem dX4_dayTo_2 : decode cX4_dayTo 2 = .ok (.getfield 9, 3) := oq_180 (bq_in kqX4_dayTo_0 2 rfl) (bq_in kqX4_dayTo_0 3 rfl) (bq_in kqX4_dayTo_0 4 rfl) rfl
theorem dX4_dayTo_5 : decode cX4_dayTo 5 = .ok (.if_icmp .lt 10, 3) := oq_161 (bq_in kqX4_dayTo_0 5 rfl) (bq_in kqX4_dayTo_0 6 rfl) (bq_in kqX4_dayTo_0 7 rfl) rfl
theorem dX4_dayTo_8 : decode cX4_dayTo 8 = .ok (.aload_n 0, 1) := oq_42 (bq_in kqX4_dayTo_0 8 rfl)
theorem dX4_dayTo_9 : decode cX4_dayTo 9 = .ok (.getfield 9, 3) := oq_180 (bq_in kqX4_dayTo_0 9 rfl) (bq_in kqX4_dayTo_0 10 rfl) (bq_in kqX4_dayTo_0 11 rfl) rfl
theorem dX4_dayTo_12 : decode cX4_dayTo 12 = .ok (.goto 4, 3) := oq_167 (bq_in kqX4_dayTo_0 12 rfl) (bq_in kqX4_dayTo_0 13 rfl) (bq_in kqX4_dayTo_0 14 rfl) rfl
theorem dX4_dayTo_15 : decode cX4_dayTo 15 = .ok (.iconst (-1), 1) := oq_2 (bq_in kqX4_dayTo_0 15 rfl)
theorem dX4_dayTo_16 : decode cX4_dayTo 16 = .ok (.ireturn, 1) := oq_172 (bq_in kqX4_dayTo_0 16 rfl)
theorem kqX4_daysIn_0 : ((cX4_daysIn.data.toList.drop 0).take 34).map UInt8.toNat = [27, 42, 180, 0, 9, 163, 0, 15, 42, 180, 0, 9, 28, 163, 0, 7, 4, 167, 0, 4, 3, 172] := by decide +kernel
theorem dX4_daysIn_0 : decode cX4_daysIn 0 = .ok (.iload_n 1, 1) := oq_27 (bq_in kqX4_daysIn_0 0 rfl)
theorem dX4_daysIn_1 : decode cX4_daysIn 1 = .ok (.aload_n 0, 1) := oq_42 (bq_in kqX4_daysIn_0 1 rfl)
theorem dX4_daysIn_2 : decode cX4_daysIn 2 = .ok (.getfield 9, 3) := oq_180 (bq_in kqX4_daysIn_0 2 rfl) (bq_in kqX4_daysIn_0 3 rfl) (bq_in kqX4_daysIn_0 4 rfl) rfl
theorem dX4_daysIn_5 : decode cX4_daysIn 5 = .ok (.if_icmp .gt 15, 3) := oq_163 (bq_in kqX4_daysIn_0 5 rfl) (bq_in kqX4_daysIn_0 6 rfl) (bq_in kqX4_daysIn_0 7 rfl) rfl
theorem dX4_daysIn_8 : decode cX4_daysIn 8 = .ok (.aload_n 0, 1) := oq_42 (bq_in kqX4_daysIn_0 8 rfl)
theorem dX4_daysIn_9 : decode cX4_daysIn 9 = .ok (.getfield 9, 3) := oq_180 (bq_in kqX4_daysIn_0 9 rfl) (bq_in kqX4_daysIn_0 10 rfl) (bq_in kqX4_daysIn_0 11 rfl) rfl
theorem dX4_daysIn_12 : decode cX4_daysIn 12 = .ok (.iload_n 2, 1) := oq_28 (bq_in kqX4_daysIn_0 12 rfl)
theorem dX4_daysIn_13 : decode cX4_daysIn 13 = .ok (.if_icmp .gt 7, 3) := oq_163 (bq_in kqX4_daysIn_0 13 rfl) (bq_in kqX4_daysIn_0 14 rfl) (bq_in kqX4_daysIn_0 15 rfl) rfl
theorem dX4_daysIn_16 : decode cX4_daysIn 16 = .ok (.iconst 1, 1) := oq_4 (bq_in kqX4_daysIn_0 16 rfl)
theorem dX4_daysIn_17 : decode cX4_daysIn 17 = .ok (.goto 4, 3) := oq_167 (bq_in kqX4_daysIn_0 17 rfl) (bq_in kqX4_daysIn_0 18 rfl) (bq_in kqX4_daysIn_0 19 rfl) rfl
theorem dX4_daysIn_20 : decode cX4_daysIn 20 = .ok (.iconst 0, 1) := oq_3 (bq_in kqX4_daysIn_0 20 rfl)
theorem dX4_daysIn_21 : decode cX4_daysIn 21 = .ok (.ireturn, 1) := oq_172 (bq_in kqX4_daysIn_0 21 rfl)
theorem kqX4_cycle_0 : ((cX4_cycle.data.toList.drop 0).take 34).map UInt8.toNat = [9, 173] := by decide +kernel
theorem dX4_cycle_0 : decode cX4_cycle 0 = .ok (.lconst 0, 1) := oq_9 (bq_in kqX4_cycle_0 0 rfl)
theorem dX4_cycle_1 : decode cX4_cycle 1 = .ok (.lreturn, 1) := oq_173 (bq_in kqX4_cycle_0 1 rfl)
theorem kqX8_init_0 : ((cX8_init.data.toList.drop 0).take 34).map UInt8.toNat = [42, 5, 27, 28, 183, 0, 3, 42, 27, 4, 184, 0, 9, 181, 0, 15, 42, 29, 181, 0, 21, 42, 28, 28, 184, 0, 24, 100, 181, 0, 30, 177] := by decide +kernel
theorem dX8_init_0 : decode cX8_init 0 = .ok (.aload_n 0, 1) := oq_42 (bq_in kqX8_init_0 0 rfl)
theorem dX8_init_1 : decode cX8_init 1 = .ok (.iconst 2, 1) := oq_5 (bq_in kqX8_init_0 1 rfl)
theorem dX8_init_2 : decode cX8_init 2 = .ok (.iload_n 1, 1) := oq_27 (bq_in kqX8_init_0 2 rfl)
theorem dX8_init_3 : decode cX8_init 3 = .ok (.iload_n 2, 1) := oq_28 (bq_in kqX8_init_0 3 rfl)
theorem dX8_init_4 : decode cX8_init 4 = .ok (.invokespecial 3, 3) := oq_183 (bq_in kqX8_init_0 4 rfl) (bq_in kqX8_init_0 5 rfl) (bq_in kqX8_init_0 6 rfl) rfl
theorem dX8_init_7 : decode cX8_init 7 = .ok (.aload_n 0, 1) := oq_42 (bq_in kqX8_init_0 7 rfl)
theorem dX8_init_8 : decode cX8_init 8 = .ok (.iload_n 1, 1) := oq_27 (bq_in kqX8_init_0 8 rfl)
theorem dX8_init_9 : decode cX8_init 9 = .ok (.iconst 1, 1) := oq_4 (bq_in kqX8_init_0 9 rfl)
theorem dX8_init_10 : decode cX8_init 10 = .ok (.invokestatic 9, 3) := oq_184 (bq_in kqX8_init_0 10 rfl) (bq_in kqX8_init_0 11 rfl) (bq_in kqX8_init_0 12 rfl) rfl
theorem dX8_init_13 : decode cX8_init 13 = .ok (.putfield 15, 3) := oq_181 (bq_in kqX8_init_0 13 rfl) (bq_in kqX8_init_0 14 rfl) (bq_in kqX8_init_0 15 rfl) rfl
theorem dX8_init_16 : decode cX8_init 16 = .ok (.aload_n 0, 1) := oq_42 (bq_in kqX8_init_0 16 rfl)
theorem dX8_init_17 : decode cX8_init 17 = .ok (.iload_n 3, 1) := oq_29 (bq_in kqX8_init_0 17 rfl)
theorem dX8_init_18 : decode cX8_init 18 = .ok (.putfield 21, 3) := oq_181 (bq_in kqX8_init_0 18 rfl) (bq_in kqX8_init_0 19 rfl) (bq_in kqX8_init_0 20 rfl) rfl
theorem dX8_init_21 : decode cX8_init 21 = .ok (.aload_n 0, 1) := oq_42 (bq_in kqX8_init_0 21 rfl)
theorem dX8_init_22 : decode cX8_init 22 = .ok (.iload_n 2, 1) := oq_28 (bq_in kqX8_init_0 22 rfl)
theorem dX8_init_23 : decode cX8_init 23 = .ok (.iload_n 2, 1) := oq_28 (bq_in kqX8_init_0 23 rfl)
theorem dX8_init_24 : decode cX8_init 24 = .ok (.invokestatic 24, 3) := oq_184 (bq_in kqX8_init_0 24 rfl) (bq_in kqX8_init_0 25 rfl) (bq_in kqX8_init_0 26 rfl) rfl
theorem dX8_init_27 : decode cX8_init 27 = .ok (.isub, 1) := oq_100 (bq_in kqX8_init_0 27 rfl)
theorem dX8_init_28 : decode cX8_init 28 = .ok (.putfield 30, 3) := oq_181 (bq_in kqX8_init_0 28 rfl) (bq_in kqX8_init_0 29 rfl) (bq_in kqX8_init_0 30 rfl) rfl
theorem dX8_init_31 : decode cX8_init 31 = .ok (.return_, 1) := oq_177 (bq_in kqX8_init_0 31 rfl)
theorem kqX8_dayFrom_0 : ((cX8_dayFrom.data.toList.drop 0).take 34).map UInt8.toNat = [27, 42, 180, 0, 33, 184, 0, 9, 61, 28, 42, 180, 0, 30, 100, 16, 7, 108, 62, 29, 42, 180, 0, 15, 112, 54, 4, 21, 4, 154, 0, 15, 28, 42] := by decide +kernel
theorem dX8_dayFrom_0 : decode cX8_dayFrom 0 = .ok (.iload_n 1, 1) := oq_27 (bq_in kqX8_dayFrom_0 0 rfl)
theorem dX8_dayFrom_1 : decode cX8_dayFrom 1 = .ok (.aload_n 0, 1) := oq_42 (bq_in kqX8_dayFrom_0 1 rfl)
theorem dX8_dayFrom_2 : decode cX8_dayFrom 2 = .ok (.getfield 33, 3) := oq_180 (bq_in kqX8_dayFrom_0 2 rfl) (bq_in kqX8_dayFrom_0 3 rfl) (bq_in kqX8_dayFrom_0 4 rfl) rfl
theorem dX8_dayFrom_5 : decode cX8_dayFrom 5 = .ok (.invokestatic 9, 3) := oq_184 (bq_in kqX8_dayFrom_0 5 rfl) (bq_in kqX8_dayFrom_0 6 rfl) (bq_in kqX8_dayFrom_0 7 rfl) rfl
theorem dX8_dayFrom_8 : decode cX8_dayFrom 8 = .ok (.istore_n 2, 1) := oq_61 (bq_in kqX8_dayFrom_0 8 rfl)
theorem dX8_dayFrom_9 : decode cX8_dayFrom 9 = .ok (.iload_n 2, 1) := oq_28 (bq_in kqX8_dayFrom_0 9 rfl)
theorem dX8_dayFrom_10 : decode cX8_dayFrom 10 = .ok (.aload_n 0, 1) := oq_42 (bq_in kqX8_dayFrom_0 10 rfl)
theorem dX8_dayFrom_11 : decode cX8_dayFrom 11 = .ok (.getfield 30, 3) := oq_180 (bq_in kqX8_dayFrom_0 11 rfl) (bq_in kqX8_dayFrom_0 12 rfl) (bq_in kqX8_dayFrom_0 13 rfl) rfl
theorem dX8_dayFrom_14 : decode cX8_dayFrom 14 = .ok (.isub, 1) := oq_100 (bq_in kqX8_dayFrom_0 14 rfl)
theorem dX8_dayFrom_15 : decode cX8_dayFrom 15 = .ok (.bipush 7, 2) := oq_16 (bq_in kqX8_dayFrom_0 15 rfl) (bq_in kqX8_dayFrom_0 16 rfl) rfl
theorem dX8_dayFrom_17 : decode cX8_dayFrom 17 = .ok (.idiv, 1) := oq_108 (bq_in kqX8_dayFrom_0 17 rfl)
theorem dX8_dayFrom_18 : decode cX8_dayFrom 18 = .ok (.istore_n 3, 1) := oq_62 (bq_in kqX8_dayFrom_0 18 rfl)
theorem dX8_dayFrom_19 : decode cX8_dayFrom 19 = .ok (.iload_n 3, 1) := oq_29 (bq_in kqX8_dayFrom_0 19 rfl)
theorem dX8_dayFrom_20 : decode cX8_dayFrom 20 = .ok (.aload_n 0, 1) := oq_42 (bq_in kqX8_dayFrom_0 20 rfl)
theorem dX8_dayFrom_21 : decode cX8_dayFrom 21 = .ok (.getfield 15, 3) := oq_180 (bq_in kqX8_dayFrom_0 21 rfl) (bq_in kqX8_dayFrom_0 22 rfl) (bq_in kqX8_dayFrom_0 23 rfl) rfl
theorem dX8_dayFrom_24 : decode cX8_dayFrom 24 = .ok (.irem, 1) := oq_112 (bq_in kqX8_dayFrom_0 24 rfl)
theorem dX8_dayFrom_25 : decode cX8_dayFrom 25 = .ok (.istore 4, 2) := oq_54 (bq_in kqX8_dayFrom_0 25 rfl) (bq_in kqX8_dayFrom_0 26 rfl)
theorem dX8_dayFrom_27 : decode cX8_dayFrom 27 = .ok (.iload 4, 2) := oq_21 (bq_in kqX8_dayFrom_0 27 rfl) (bq_in kqX8_dayFrom_0 28 rfl)
theorem dX8_dayFrom_29 : decode cX8_dayFrom 29 = .ok (.ifCond .ne 15, 3) := oq_154 (bq_in kqX8_dayFrom_0 29 rfl) (bq_in kqX8_dayFrom_0 30 rfl) (bq_in kqX8_dayFrom_0 31 rfl) rfl
theorem kqX8_dayFrom_1 : ((cX8_dayFrom.data.toList.drop 32).take 34).map UInt8.toNat = [28, 42, 180, 0, 30, 100, 16, 7, 112, 167, 0, 4, 3, 54, 5, 21, 4, 154, 0, 7, 29, 167, 0, 12, 29, 21, 4, 100, 42, 180, 0, 15, 96, 54] := by decide +kernel
theorem dX8_dayFrom_32 : decode cX8_dayFrom 32 = .ok (.iload_n 2, 1) := oq_28 (bq_in kqX8_dayFrom_1 0 rfl)
theorem dX8_dayFrom_33 : decode cX8_dayFrom 33 = .ok (.aload_n 0, 1) := oq_42 (bq_in kqX8_dayFrom_1 1 rfl)
theorem dX8_dayFrom_34 : decode cX8_dayFrom 34 = .ok (.getfield 30, 3) := oq_180 (bq_in kqX8_dayFrom_1 2 rfl) (bq_in kqX8_dayFrom_1 3 rfl) (bq_in kqX8_dayFrom_1 4 rfl) rfl
theorem dX8_dayFrom_37 : decode cX8_dayFrom 37 = .ok (.isub, 1) := oq_100 (bq_in kqX8_dayFrom_1 5 rfl)
theorem dX8_dayFrom_38 : decode cX8_dayFrom 38 = .ok (.bipush 7, 2) := oq_16 (bq_in kqX8_dayFrom_1 6 rfl) (bq_in kqX8_dayFrom_1 7 rfl) rfl
theorem dX8_dayFrom_40 : decode cX8_dayFrom 40 = .ok (.irem, 1) := oq_112 (bq_in kqX8_dayFrom_1 8 rfl)
theorem dX8_dayFrom_41 : decode cX8_dayFrom 41 = .ok (.goto 4, 3) := oq_167 (bq_in kqX8_dayFrom_1 9 rfl) (bq_in kqX8_dayFrom_1 10 rfl) (bq_in kqX8_dayFrom_1 11 rfl) rfl
theorem dX8_dayFrom_44 : decode cX8_dayFrom 44 = .ok (.iconst 0, 1) := oq_3 (bq_in kqX8_dayFrom_1 12 rfl)
theorem dX8_dayFrom_45 : decode cX8_dayFrom 45 = .ok (.istore 5, 2) := oq_54 (bq_in kqX8_dayFrom_1 13 rfl) (bq_in kqX8_dayFrom_1 14 rfl)
theorem dX8_dayFrom_47 : decode cX8_dayFrom 47 = .ok (.iload 4, 2) := oq_21 (bq_in kqX8_dayFrom_1 15 rfl) (bq_in kqX8_dayFrom_1 16 rfl)
theorem dX8_dayFrom_49 : decode cX8_dayFrom 49 = .ok (.ifCond .ne 7, 3) := oq_154 (bq_in kqX8_dayFrom_1 17 rfl) (bq_in kqX8_dayFrom_1 18 rfl) (bq_in kqX8_dayFrom_1 19 rfl) rfl
theorem dX8_dayFrom_52 : decode cX8_dayFrom 52 = .ok (.iload_n 3, 1) := oq_29 (bq_in kqX8_dayFrom_1 20 rfl)
theorem dX8_dayFrom_53 : decode cX8_dayFrom 53 = .ok (.goto 12, 3) := oq_167 (bq_in kqX8_dayFrom_1 21 rfl) (bq_in kqX8_dayFrom_1 22 rfl) (bq_in kqX8_dayFrom_1 23 rfl) rfl
theorem dX8_dayFrom_56 : decode cX8_dayFrom 56 = .ok (.iload_n 3, 1) := oq_29 (bq_in kqX8_dayFrom_1 24 rfl)
theorem dX8_dayFrom_57 : decode cX8_dayFrom 57 = .ok (.iload 4, 2) := oq_21 (bq_in kqX8_dayFrom_1 25 rfl) (bq_in kqX8_dayFrom_1 26 rfl)
theorem dX8_dayFrom_59 : decode cX8_dayFrom 59 = .ok (.isub, 1) := oq_100 (bq_in kqX8_dayFrom_1 27 rfl)
theorem dX8_dayFrom_60 : decode cX8_dayFrom 60 = .ok (.aload_n 0, 1) := oq_42 (bq_in kqX8_dayFrom_1 28 rfl)
theorem dX8_dayFrom_61 : decode cX8_dayFrom 61 = .ok (.getfield 15, 3) := oq_180 (bq_in kqX8_dayFrom_1 29 rfl) (bq_in kqX8_dayFrom_1 30 rfl) (bq_in kqX8_dayFrom_1 31 rfl) rfl
theorem kqX8_dayFrom_2 : ((cX8_dayFrom.data.toList.drop 64).take 34).map UInt8.toNat = [96, 54, 6, 42, 21, 5, 182, 0, 36, 54, 7, 21, 7, 2, 160, 0, 19, 21, 6, 42, 180, 0, 15, 96, 54, 6, 42, 3, 182, 0, 36, 54, 7, 42] := by decide +kernel
theorem dX8_dayFrom_64 : decode cX8_dayFrom 64 = .ok (.iadd, 1) := oq_96 (bq_in kqX8_dayFrom_2 0 rfl)
theorem dX8_dayFrom_65 : decode cX8_dayFrom 65 = .ok (.istore 6, 2) := oq_54 (bq_in kqX8_dayFrom_2 1 rfl) (bq_in kqX8_dayFrom_2 2 rfl)
theorem dX8_dayFrom_67 : decode cX8_dayFrom 67 = .ok (.aload_n 0, 1) := oq_42 (bq_in kqX8_dayFrom_2 3 rfl)
theorem dX8_dayFrom_68 : decode cX8_dayFrom 68 = .ok (.iload 5, 2) := oq_21 (bq_in kqX8_dayFrom_2 4 rfl) (bq_in kqX8_dayFrom_2 5 rfl)
theorem dX8_dayFrom_70 : decode cX8_dayFrom 70 = .ok (.invokevirtual 36, 3) := oq_182 (bq_in kqX8_dayFrom_2 6 rfl) (bq_in kqX8_dayFrom_2 7 rfl) (bq_in kqX8_dayFrom_2 8 rfl) rfl
theorem dX8_dayFrom_73 : decode cX8_dayFrom 73 = .ok (.istore 7, 2) := oq_54 (bq_in kqX8_dayFrom_2 9 rfl) (bq_in kqX8_dayFrom_2 10 rfl)
theorem dX8_dayFrom_75 : decode cX8_dayFrom 75 = .ok (.iload 7, 2) := oq_21 (bq_in kqX8_dayFrom_2 11 rfl) (bq_in kqX8_dayFrom_2 12 rfl)
theorem dX8_dayFrom_77 : decode cX8_dayFrom 77 = .ok (.iconst (-1), 1) := oq_2 (bq_in kqX8_dayFrom_2 13 rfl)
theorem dX8_dayFrom_78 : decode cX8_dayFrom 78 = .ok (.if_icmp .ne 19, 3) := oq_160 (bq_in kqX8_dayFrom_2 14 rfl) (bq_in kqX8_dayFrom_2 15 rfl) (bq_in kqX8_dayFrom_2 16 rfl) rfl
theorem dX8_dayFrom_81 : decode cX8_dayFrom 81 = .ok (.iload 6, 2) := oq_21 (bq_in kqX8_dayFrom_2 17 rfl) (bq_in kqX8_dayFrom_2 18 rfl)
theorem dX8_dayFrom_83 : decode cX8_dayFrom 83 = .ok (.aload_n 0, 1) := oq_42 (bq_in kqX8_dayFrom_2 19 rfl)
theorem dX8_dayFrom_84 : decode cX8_dayFrom 84 = .ok (.getfield 15, 3) := oq_180 (bq_in kqX8_dayFrom_2 20 rfl) (bq_in kqX8_dayFrom_2 21 rfl) (bq_in kqX8_dayFrom_2 22 rfl) rfl
theorem dX8_dayFrom_87 : decode cX8_dayFrom 87 = .ok (.iadd, 1) := oq_96 (bq_in kqX8_dayFrom_2 23 rfl)
theorem dX8_dayFrom_88 : decode cX8_dayFrom 88 = .ok (.istore 6, 2) := oq_54 (bq_in kqX8_dayFrom_2 24 rfl) (bq_in kqX8_dayFrom_2 25 rfl)
theorem dX8_dayFrom_90 : decode cX8_dayFrom 90 = .ok (.aload_n 0, 1) := oq_42 (bq_in kqX8_dayFrom_2 26 rfl)
theorem dX8_dayFrom_91 : decode cX8_dayFrom 91 = .ok (.iconst 0, 1) := oq_3 (bq_in kqX8_dayFrom_2 27 rfl)
theorem dX8_dayFrom_92 : decode cX8_dayFrom 92 = .ok (.invokevirtual 36, 3) := oq_182 (bq_in kqX8_dayFrom_2 28 rfl) (bq_in kqX8_dayFrom_2 29 rfl) (bq_in kqX8_dayFrom_2 30 rfl) rfl
theorem dX8_dayFrom_95 : decode cX8_dayFrom 95 = .ok (.istore 7, 2) := oq_54 (bq_in kqX8_dayFrom_2 31 rfl) (bq_in kqX8_dayFrom_2 32 rfl)
theorem kqX8_dayFrom_3 : ((cX8_dayFrom.data.toList.drop 96).take 34).map UInt8.toNat = [7, 42, 180, 0, 30, 16, 7, 21, 6, 104, 96, 21, 7, 96, 54, 8, 21, 8, 18, 39, 163, 0, 8, 21, 8, 167, 0, 4, 2, 172] := by decide +kernel
theorem dX8_dayFrom_97 : decode cX8_dayFrom 97 = .ok (.aload_n 0, 1) := oq_42 (bq_in kqX8_dayFrom_3 1 rfl)
theorem dX8_dayFrom_98 : decode cX8_dayFrom 98 = .ok (.getfield 30, 3) := oq_180 (bq_in kqX8_dayFrom_3 2 rfl) (bq_in kqX8_dayFrom_3 3 rfl) (bq_in kqX8_dayFrom_3 4 rfl) rfl
theorem dX8_dayFrom_101 : decode cX8_dayFrom 101 = .ok (.bipush 7, 2) := oq_16 (bq_in kqX8_dayFrom_3 5 rfl) (bq_in kqX8_dayFrom_3 6 rfl) rfl
theorem dX8_dayFrom_103 : decode cX8_dayFrom 103 = .ok (.iload 6, 2) := oq_21 (bq_in kqX8_dayFrom_3 7 rfl) (bq_in kqX8_dayFrom_3 8 rfl)
theorem dX8_dayFrom_105 : decode cX8_dayFrom 105 = .ok (.imul, 1) := oq_104 (bq_in kqX8_dayFrom_3 9 rfl)
theorem dX8_dayFrom_106 : decode cX8_dayFrom 106 = .ok (.iadd, 1) := oq_96 (bq_in kqX8_dayFrom_3 10 rfl)
theorem dX8_dayFrom_107 : decode cX8_dayFrom 107 = .ok (.iload 7, 2) := oq_21 (bq_in kqX8_dayFrom_3 11 rfl) (bq_in kqX8_dayFrom_3 12 rfl)
theorem dX8_dayFrom_109 : decode cX8_dayFrom 109 = .ok (.iadd, 1) := oq_96 (bq_in kqX8_dayFrom_3 13 rfl)
theorem dX8_dayFrom_110 : decode cX8_dayFrom 110 = .ok (.istore 8, 2) := oq_54 (bq_in kqX8_dayFrom_3 14 rfl) (bq_in kqX8_dayFrom_3 15 rfl)
theorem dX8_dayFrom_112 : decode cX8_dayFrom 112 = .ok (.iload 8, 2) := oq_21 (bq_in kqX8_dayFrom_3 16 rfl) (bq_in kqX8_dayFrom_3 17 rfl)
theorem dX8_dayFrom_114 : decode cX8_dayFrom 114 = .ok (.ldc 39, 2) := oq_18 (bq_in kqX8_dayFrom_3 18 rfl) (bq_in kqX8_dayFrom_3 19 rfl)
theorem dX8_dayFrom_116 : decode cX8_dayFrom 116 = .ok (.if_icmp .gt 8, 3) := oq_163 (bq_in kqX8_dayFrom_3 20 rfl) (bq_in kqX8_dayFrom_3 21 rfl) (bq_in kqX8_dayFrom_3 22 rfl) rfl
theorem dX8_dayFrom_119 : decode cX8_dayFrom 119 = .ok (.iload 8, 2) := oq_21 (bq_in kqX8_dayFrom_3 23 rfl) (bq_in kqX8_dayFrom_3 24 rfl)
theorem dX8_dayFrom_121 : decode cX8_dayFrom 121 = .ok (.goto 4, 3) := oq_167 (bq_in kqX8_dayFrom_3 25 rfl) (bq_in kqX8_dayFrom_3 26 rfl) (bq_in kqX8_dayFrom_3 27 rfl) rfl
theorem dX8_dayFrom_124 : decode cX8_dayFrom 124 = .ok (.iconst (-1), 1) := oq_2 (bq_in kqX8_dayFrom_3 28 rfl)
theorem dX8_dayFrom_125 : decode cX8_dayFrom 125 = .ok (.ireturn, 1) := oq_172 (bq_in kqX8_dayFrom_3 29 rfl)
theorem kqX8_dayTo_0 : ((cX8_dayTo.data.toList.drop 0).take 34).map UInt8.toNat = [27, 42, 180, 0, 33, 162, 0, 5, 2, 172, 27, 42, 180, 0, 30, 100, 16, 7, 108, 61, 28, 42, 180, 0, 15, 112, 62, 29, 154, 0, 15, 27, 42, 180] := by decide +kernel
theorem dX8_dayTo_0 : decode cX8_dayTo 0 = .ok (.iload_n 1, 1) := oq_27 (bq_in kqX8_dayTo_0 0 rfl)
theorem dX8_dayTo_1 : decode cX8_dayTo 1 = .ok (.aload_n 0, 1) := oq_42 (bq_in kqX8_dayTo_0 1 rfl)
theorem dX8_dayTo_2 : decode cX8_dayTo 2 = .ok (.getfield 33, 3) := oq_180 (bq_in kqX8_dayTo_0 2 rfl) (bq_in kqX8_dayTo_0 3 rfl) (bq_in kqX8_dayTo_0 4 rfl) rfl
theorem dX8_dayTo_5 : decode cX8_dayTo 5 = .ok (.if_icmp .ge 5, 3) := oq_162 (bq_in kqX8_dayTo_0 5 rfl) (bq_in kqX8_dayTo_0 6 rfl) (bq_in kqX8_dayTo_0 7 rfl) rfl
theorem dX8_dayTo_8 : decode cX8_dayTo 8 = .ok (.iconst (-1), 1) := oq_2 (bq_in kqX8_dayTo_0 8 rfl)
theorem dX8_dayTo_9 : decode cX8_dayTo 9 = .ok (.ireturn, 1) := oq_172 (bq_in kqX8_dayTo_0 9 rfl)
theorem dX8_dayTo_10 : decode cX8_dayTo 10 = .ok (.iload_n 1, 1) := oq_27 (bq_in kqX8_dayTo_0 10 rfl)
theorem dX8_dayTo_11 : decode cX8_dayTo 11 = .ok (.aload_n 0, 1) := oq_42 (bq_in kqX8_dayTo_0 11 rfl)
theorem dX8_dayTo_12 : decode cX8_dayTo 12 = .ok (.getfield 30, 3) := oq_180 (bq_in kqX8_dayTo_0 12 rfl) (bq_in kqX8_dayTo_0 13 rfl) (bq_in kqX8_dayTo_0 14 rfl) rfl
theorem dX8_dayTo_15 : decode cX8_dayTo 15 = .ok (.isub, 1) := oq_100 (bq_in kqX8_dayTo_0 15 rfl)
theorem dX8_dayTo_16 : decode cX8_dayTo 16 = .ok (.bipush 7, 2) := oq_16 (bq_in kqX8_dayTo_0 16 rfl) (bq_in kqX8_dayTo_0 17 rfl) rfl
theorem dX8_dayTo_18 : decode cX8_dayTo 18 = .ok (.idiv, 1) := oq_108 (bq_in kqX8_dayTo_0 18 rfl)
theorem dX8_dayTo_19 : decode cX8_dayTo 19 = .ok (.istore_n 2, 1) := oq_61 (bq_in kqX8_dayTo_0 19 rfl)
theorem dX8_dayTo_20 : decode cX8_dayTo 20 = .ok (.iload_n 2, 1) := oq_28 (bq_in kqX8_dayTo_0 20 rfl)
theorem dX8_dayTo_21 : decode cX8_dayTo 21 = .ok (.aload_n 0, 1) := oq_42 (bq_in kqX8_dayTo_0 21 rfl)
theorem dX8_dayTo_22 : decode cX8_dayTo 22 = .ok (.getfield 15, 3) := oq_180 (bq_in kqX8_dayTo_0 22 rfl) (bq_in kqX8_dayTo_0 23 rfl) (bq_in kqX8_dayTo_0 24 rfl) rfl
theorem dX8_dayTo_25 : decode cX8_dayTo 25 = .ok (.irem, 1) := oq_112 (bq_in kqX8_dayTo_0 25 rfl)
theorem dX8_dayTo_26 : decode cX8_dayTo 26 = .ok (.istore_n 3, 1) := oq_62 (bq_in kqX8_dayTo_0 26 rfl)
theorem dX8_dayTo_27 : decode cX8_dayTo 27 = .ok (.iload_n 3, 1) := oq_29 (bq_in kqX8_dayTo_0 27 rfl)
theorem dX8_dayTo_28 : decode cX8_dayTo 28 = .ok (.ifCond .ne 15, 3) := oq_154 (bq_in kqX8_dayTo_0 28 rfl) (bq_in kqX8_dayTo_0 29 rfl) (bq_in kqX8_dayTo_0 30 rfl) rfl
theorem dX8_dayTo_31 : decode cX8_dayTo 31 = .ok (.iload_n 1, 1) := oq_27 (bq_in kqX8_dayTo_0 31 rfl)
theorem kqX8_dayTo_1 : ((cX8_dayTo.data.toList.drop 32).take 34).map UInt8.toNat = [42, 180, 0, 30, 100, 16, 7, 112, 167, 0, 5, 16, 6, 54, 4, 28, 29, 100, 54, 5, 42, 21, 4, 182, 0, 40, 54, 6, 21, 6, 2, 160, 0, 20] := by decide +kernel
theorem dX8_dayTo_32 : decode cX8_dayTo 32 = .ok (.aload_n 0, 1) := oq_42 (bq_in kqX8_dayTo_1 0 rfl)
theorem dX8_dayTo_33 : decode cX8_dayTo 33 = .ok (.getfield 30, 3) := oq_180 (bq_in kqX8_dayTo_1 1 rfl) (bq_in kqX8_dayTo_1 2 rfl) (bq_in kqX8_dayTo_1 3 rfl) rfl
theorem dX8_dayTo_36 : decode cX8_dayTo 36 = .ok (.isub, 1) := oq_100 (bq_in kqX8_dayTo_1 4 rfl)
theorem dX8_dayTo_37 : decode cX8_dayTo 37 = .ok (.bipush 7, 2) := oq_16 (bq_in kqX8_dayTo_1 5 rfl) (bq_in kqX8_dayTo_1 6 rfl) rfl
theorem dX8_dayTo_39 : decode cX8_dayTo 39 = .ok (.irem, 1) := oq_112 (bq_in kqX8_dayTo_1 7 rfl)
theorem dX8_dayTo_40 : decode cX8_dayTo 40 = .ok (.goto 5, 3) := oq_167 (bq_in kqX8_dayTo_1 8 rfl) (bq_in kqX8_dayTo_1 9 rfl) (bq_in kqX8_dayTo_1 10 rfl) rfl
theorem dX8_dayTo_43 : decode cX8_dayTo 43 = .ok (.bipush 6, 2) := oq_16 (bq_in kqX8_dayTo_1 11 rfl) (bq_in kqX8_dayTo_1 12 rfl) rfl
theorem dX8_dayTo_45 : decode cX8_dayTo 45 = .ok (.istore 4, 2) := oq_54 (bq_in kqX8_dayTo_1 13 rfl) (bq_in kqX8_dayTo_1 14 rfl)
theorem dX8_dayTo_47 : decode cX8_dayTo 47 = .ok (.iload_n 2, 1) := oq_28 (bq_in kqX8_dayTo_1 15 rfl)
theorem dX8_dayTo_48 : decode cX8_dayTo 48 = .ok (.iload_n 3, 1) := oq_29 (bq_in kqX8_dayTo_1 16 rfl)
theorem dX8_dayTo_49 : decode cX8_dayTo 49 = .ok (.isub, 1) := oq_100 (bq_in kqX8_dayTo_1 17 rfl)
theorem dX8_dayTo_50 : decode cX8_dayTo 50 = .ok (.istore 5, 2) := oq_54 (bq_in kqX8_dayTo_1 18 rfl) (bq_in kqX8_dayTo_1 19 rfl)
theorem dX8_dayTo_52 : decode cX8_dayTo 52 = .ok (.aload_n 0, 1) := oq_42 (bq_in kqX8_dayTo_1 20 rfl)
theorem dX8_dayTo_53 : decode cX8_dayTo 53 = .ok (.iload 4, 2) := oq_21 (bq_in kqX8_dayTo_1 21 rfl) (bq_in kqX8_dayTo_1 22 rfl)
theorem dX8_dayTo_55 : decode cX8_dayTo 55 = .ok (.invokevirtual 40, 3) := oq_182 (bq_in kqX8_dayTo_1 23 rfl) (bq_in kqX8_dayTo_1 24 rfl) (bq_in kqX8_dayTo_1 25 rfl) rfl
theorem dX8_dayTo_58 : decode cX8_dayTo 58 = .ok (.istore 6, 2) := oq_54 (bq_in kqX8_dayTo_1 26 rfl) (bq_in kqX8_dayTo_1 27 rfl)
theorem dX8_dayTo_60 : decode cX8_dayTo 60 = .ok (.iload 6, 2) := oq_21 (bq_in kqX8_dayTo_1 28 rfl) (bq_in kqX8_dayTo_1 29 rfl)
theorem dX8_dayTo_62 : decode cX8_dayTo 62 = .ok (.iconst (-1), 1) := oq_2 (bq_in kqX8_dayTo_1 30 rfl)
theorem dX8_dayTo_63 : decode cX8_dayTo 63 = .ok (.if_icmp .ne 20, 3) := oq_160 (bq_in kqX8_dayTo_1 31 rfl) (bq_in kqX8_dayTo_1 32 rfl) (bq_in kqX8_dayTo_1 33 rfl) rfl
theorem kqX8_dayTo_2 : ((cX8_dayTo.data.toList.drop 64).take 34).map UInt8.toNat = [0, 20, 21, 5, 42, 180, 0, 15, 100, 54, 5, 42, 16, 6, 182, 0, 40, 54, 6, 42, 180, 0, 30, 16, 7, 21, 5, 104, 96, 21, 6, 96, 54, 7] := by decide +kernel
theorem dX8_dayTo_66 : decode cX8_dayTo 66 = .ok (.iload 5, 2) := oq_21 (bq_in kqX8_dayTo_2 2 rfl) (bq_in kqX8_dayTo_2 3 rfl)
theorem dX8_dayTo_68 : decode cX8_dayTo 68 = .ok (.aload_n 0, 1) := oq_42 (bq_in kqX8_dayTo_2 4 rfl)
theorem dX8_dayTo_69 : decode cX8_dayTo 69 = .ok (.getfield 15, 3) := oq_180 (bq_in kqX8_dayTo_2 5 rfl) (bq_in kqX8_dayTo_2 6 rfl) (bq_in kqX8_dayTo_2 7 rfl) rfl
theorem dX8_dayTo_72 : decode cX8_dayTo 72 = .ok (.isub, 1) := oq_100 (bq_in kqX8_dayTo_2 8 rfl)
theorem dX8_dayTo_73 : decode cX8_dayTo 73 = .ok (.istore 5, 2) := oq_54 (bq_in kqX8_dayTo_2 9 rfl) (bq_in kqX8_dayTo_2 10 rfl)
theorem dX8_dayTo_75 : decode cX8_dayTo 75 = .ok (.aload_n 0, 1) := oq_42 (bq_in kqX8_dayTo_2 11 rfl)
theorem dX8_dayTo_76 : decode cX8_dayTo 76 = .ok (.bipush 6, 2) := oq_16 (bq_in kqX8_dayTo_2 12 rfl) (bq_in kqX8_dayTo_2 13 rfl) rfl
theorem dX8_dayTo_78 : decode cX8_dayTo 78 = .ok (.invokevirtual 40, 3) := oq_182 (bq_in kqX8_dayTo_2 14 rfl) (bq_in kqX8_dayTo_2 15 rfl) (bq_in kqX8_dayTo_2 16 rfl) rfl
theorem dX8_dayTo_81 : decode cX8_dayTo 81 = .ok (.istore 6, 2) := oq_54 (bq_in kqX8_dayTo_2 17 rfl) (bq_in kqX8_dayTo_2 18 rfl)
theorem dX8_dayTo_83 : decode cX8_dayTo 83 = .ok (.aload_n 0, 1) := oq_42 (bq_in kqX8_dayTo_2 19 rfl)
theorem dX8_dayTo_84 : decode cX8_dayTo 84 = .ok (.getfield 30, 3) := oq_180 (bq_in kqX8_dayTo_2 20 rfl) (bq_in kqX8_dayTo_2 21 rfl) (bq_in kqX8_dayTo_2 22 rfl) rfl
theorem dX8_dayTo_87 : decode cX8_dayTo 87 = .ok (.bipush 7, 2) := oq_16 (bq_in kqX8_dayTo_2 23 rfl) (bq_in kqX8_dayTo_2 24 rfl) rfl
theorem dX8_dayTo_89 : decode cX8_dayTo 89 = .ok (.iload 5, 2) := oq_21 (bq_in kqX8_dayTo_2 25 rfl) (bq_in kqX8_dayTo_2 26 rfl)
theorem dX8_dayTo_91 : decode cX8_dayTo 91 = .ok (.imul, 1) := oq_104 (bq_in kqX8_dayTo_2 27 rfl)
theorem dX8_dayTo_92 : decode cX8_dayTo 92 = .ok (.iadd, 1) := oq_96 (bq_in kqX8_dayTo_2 28 rfl)
theorem dX8_dayTo_93 : decode cX8_dayTo 93 = .ok (.iload 6, 2) := oq_21 (bq_in kqX8_dayTo_2 29 rfl) (bq_in kqX8_dayTo_2 30 rfl)
theorem dX8_dayTo_95 : decode cX8_dayTo 95 = .ok (.iadd, 1) := oq_96 (bq_in kqX8_dayTo_2 31 rfl)
theorem kqX8_dayTo_3 : ((cX8_dayTo.data.toList.drop 96).take 34).map UInt8.toNat = [54, 7, 21, 7, 42, 180, 0, 33, 161, 0, 8, 21, 7, 167, 0, 4, 2, 172] := by decide +kernel
theorem dX8_dayTo_96 : decode cX8_dayTo 96 = .ok (.istore 7, 2) := oq_54 (bq_in kqX8_dayTo_3 0 rfl) (bq_in kqX8_dayTo_3 1 rfl)
theorem dX8_dayTo_98 : decode cX8_dayTo 98 = .ok (.iload 7, 2) := oq_21 (bq_in kqX8_dayTo_3 2 rfl) (bq_in kqX8_dayTo_3 3 rfl)
theorem dX8_dayTo_100 : decode cX8_dayTo 100 = .ok (.aload_n 0, 1) := oq_42 (bq_in kqX8_dayTo_3 4 rfl)
theorem dX8_dayTo_101 : decode cX8_dayTo 101 = .ok (.getfield 33, 3) := oq_180 (bq_in kqX8_dayTo_3 5 rfl) (bq_in kqX8_dayTo_3 6 rfl) (bq_in kqX8_dayTo_3 7 rfl) rfl
theorem dX8_dayTo_104 : decode cX8_dayTo 104 = .ok (.if_icmp .lt 8, 3) := oq_161 (bq_in kqX8_dayTo_3 8 rfl) (bq_in kqX8_dayTo_3 9 rfl) (bq_in kqX8_dayTo_3 10 rfl) rfl
theorem dX8_dayTo_107 : decode cX8_dayTo 107 = .ok (.iload 7, 2) := oq_21 (bq_in kqX8_dayTo_3 11 rfl) (bq_in kqX8_dayTo_3 12 rfl)
theorem dX8_dayTo_109 : decode cX8_dayTo 109 = .ok (.goto 4, 3) := oq_167 (bq_in kqX8_dayTo_3 13 rfl) (bq_in kqX8_dayTo_3 14 rfl) (bq_in kqX8_dayTo_3 15 rfl) rfl
theorem dX8_dayTo_112 : decode cX8_dayTo 112 = .ok (.iconst (-1), 1) := oq_2 (bq_in kqX8_dayTo_3 16 rfl)
theorem dX8_dayTo_113 : decode cX8_dayTo 113 = .ok (.ireturn, 1) := oq_172 (bq_in kqX8_dayTo_3 17 rfl)
theorem kqX8_daysIn_0 : ((cX8_daysIn.data.toList.drop 0).take 34).map UInt8.toNat = [42, 28, 182, 0, 43, 42, 27, 42, 180, 0, 33, 184, 0, 9, 4, 100, 182, 0, 43, 100, 172] := by decide +kernel
theorem dX8_daysIn_0 : decode cX8_daysIn 0 = .ok (.aload_n 0, 1) := oq_42 (bq_in kqX8_daysIn_0 0 rfl)
theorem dX8_daysIn_1 : decode cX8_daysIn 1 = .ok (.iload_n 2, 1) := oq_28 (bq_in kqX8_daysIn_0 1 rfl)
theorem dX8_daysIn_2 : decode cX8_daysIn 2 = .ok (.invokevirtual 43, 3) := oq_182 (bq_in kqX8_daysIn_0 2 rfl) (bq_in kqX8_daysIn_0 3 rfl) (bq_in kqX8_daysIn_0 4 rfl) rfl
theorem dX8_daysIn_5 : decode cX8_daysIn 5 = .ok (.aload_n 0, 1) := oq_42 (bq_in kqX8_daysIn_0 5 rfl)
theorem dX8_daysIn_6 : decode cX8_daysIn 6 = .ok (.iload_n 1, 1) := oq_27 (bq_in kqX8_daysIn_0 6 rfl)
theorem dX8_daysIn_7 : decode cX8_daysIn 7 = .ok (.aload_n 0, 1) := oq_42 (bq_in kqX8_daysIn_0 7 rfl)
theorem dX8_daysIn_8 : decode cX8_daysIn 8 = .ok (.getfield 33, 3) := oq_180 (bq_in kqX8_daysIn_0 8 rfl) (bq_in kqX8_daysIn_0 9 rfl) (bq_in kqX8_daysIn_0 10 rfl) rfl
theorem dX8_daysIn_11 : decode cX8_daysIn 11 = .ok (.invokestatic 9, 3) := oq_184 (bq_in kqX8_daysIn_0 11 rfl) (bq_in kqX8_daysIn_0 12 rfl) (bq_in kqX8_daysIn_0 13 rfl) rfl
theorem dX8_daysIn_14 : decode cX8_daysIn 14 = .ok (.iconst 1, 1) := oq_4 (bq_in kqX8_daysIn_0 14 rfl)
theorem dX8_daysIn_15 : decode cX8_daysIn 15 = .ok (.isub, 1) := oq_100 (bq_in kqX8_daysIn_0 15 rfl)
theorem dX8_daysIn_16 : decode cX8_daysIn 16 = .ok (.invokevirtual 43, 3) := oq_182 (bq_in kqX8_daysIn_0 16 rfl) (bq_in kqX8_daysIn_0 17 rfl) (bq_in kqX8_daysIn_0 18 rfl) rfl
theorem dX8_daysIn_19 : decode cX8_daysIn 19 = .ok (.isub, 1) := oq_100 (bq_in kqX8_daysIn_0 19 rfl)
theorem dX8_daysIn_20 : decode cX8_daysIn 20 = .ok (.ireturn, 1) := oq_172 (bq_in kqX8_daysIn_0 20 rfl)
theorem kqX8_daysUpTo_0 : ((cX8_daysUpTo.data.toList.drop 0).take 34).map UInt8.toNat = [27, 42, 180, 0, 30, 162, 0, 5, 3, 172, 27, 42, 180, 0, 30, 100, 16, 7, 108, 61, 28, 42, 180, 0, 15, 96, 4, 100, 42, 180, 0, 15, 108, 42] := by decide +kernel
theorem dX8_daysUpTo_0 : decode cX8_daysUpTo 0 = .ok (.iload_n 1, 1) := oq_27 (bq_in kqX8_daysUpTo_0 0 rfl)
theorem dX8_daysUpTo_1 : decode cX8_daysUpTo 1 = .ok (.aload_n 0, 1) := oq_42 (bq_in kqX8_daysUpTo_0 1 rfl)
theorem dX8_daysUpTo_2 : decode cX8_daysUpTo 2 = .ok (.getfield 30, 3) := oq_180 (bq_in kqX8_daysUpTo_0 2 rfl) (bq_in kqX8_daysUpTo_0 3 rfl) (bq_in kqX8_daysUpTo_0 4 rfl) rfl
theorem dX8_daysUpTo_5 : decode cX8_daysUpTo 5 = .ok (.if_icmp .ge 5, 3) := oq_162 (bq_in kqX8_daysUpTo_0 5 rfl) (bq_in kqX8_daysUpTo_0 6 rfl) (bq_in kqX8_daysUpTo_0 7 rfl) rfl
theorem dX8_daysUpTo_8 : decode cX8_daysUpTo 8 = .ok (.iconst 0, 1) := oq_3 (bq_in kqX8_daysUpTo_0 8 rfl)
theorem dX8_daysUpTo_9 : decode cX8_daysUpTo 9 = .ok (.ireturn, 1) := oq_172 (bq_in kqX8_daysUpTo_0 9 rfl)
theorem dX8_daysUpTo_10 : decode cX8_daysUpTo 10 = .ok (.iload_n 1, 1) := oq_27 (bq_in kqX8_daysUpTo_0 10 rfl)
theorem dX8_daysUpTo_11 : decode cX8_daysUpTo 11 = .ok (.aload_n 0, 1) := oq_42 (bq_in kqX8_daysUpTo_0 11 rfl)
theorem dX8_daysUpTo_12 : decode cX8_daysUpTo 12 = .ok (.getfield 30, 3) := oq_180 (bq_in kqX8_daysUpTo_0 12 rfl) (bq_in kqX8_daysUpTo_0 13 rfl) (bq_in kqX8_daysUpTo_0 14 rfl) rfl
theorem dX8_daysUpTo_15 : decode cX8_daysUpTo 15 = .ok (.isub, 1) := oq_100 (bq_in kqX8_daysUpTo_0 15 rfl)
theorem dX8_daysUpTo_16 : decode cX8_daysUpTo 16 = .ok (.bipush 7, 2) := oq_16 (bq_in kqX8_daysUpTo_0 16 rfl) (bq_in kqX8_daysUpTo_0 17 rfl) rfl
theorem dX8_daysUpTo_18 : decode cX8_daysUpTo 18 = .ok (.idiv, 1) := oq_108 (bq_in kqX8_daysUpTo_0 18 rfl)
theorem dX8_daysUpTo_19 : decode cX8_daysUpTo 19 = .ok (.istore_n 2, 1) := oq_61 (bq_in kqX8_daysUpTo_0 19 rfl)
theorem dX8_daysUpTo_20 : decode cX8_daysUpTo 20 = .ok (.iload_n 2, 1) := oq_28 (bq_in kqX8_daysUpTo_0 20 rfl)
theorem dX8_daysUpTo_21 : decode cX8_daysUpTo 21 = .ok (.aload_n 0, 1) := oq_42 (bq_in kqX8_daysUpTo_0 21 rfl)
theorem dX8_daysUpTo_22 : decode cX8_daysUpTo 22 = .ok (.getfield 15, 3) := oq_180 (bq_in kqX8_daysUpTo_0 22 rfl) (bq_in kqX8_daysUpTo_0 23 rfl) (bq_in kqX8_daysUpTo_0 24 rfl) rfl
theorem dX8_daysUpTo_25 : decode cX8_daysUpTo 25 = .ok (.iadd, 1) := oq_96 (bq_in kqX8_daysUpTo_0 25 rfl)
theorem dX8_daysUpTo_26 : decode cX8_daysUpTo 26 = .ok (.iconst 1, 1) := oq_4 (bq_in kqX8_daysUpTo_0 26 rfl)
theorem dX8_daysUpTo_27 : decode cX8_daysUpTo 27 = .ok (.isub, 1) := oq_100 (bq_in kqX8_daysUpTo_0 27 rfl)
theorem dX8_daysUpTo_28 : decode cX8_daysUpTo 28 = .ok (.aload_n 0, 1) := oq_42 (bq_in kqX8_daysUpTo_0 28 rfl)
theorem dX8_daysUpTo_29 : decode cX8_daysUpTo 29 = .ok (.getfield 15, 3) := oq_180 (bq_in kqX8_daysUpTo_0 29 rfl) (bq_in kqX8_daysUpTo_0 30 rfl) (bq_in kqX8_daysUpTo_0 31 rfl) rfl
theorem kqX8_daysUpTo_1 : ((cX8_daysUpTo.data.toList.drop 32).take 34).map UInt8.toNat = [108, 42, 180, 0, 21, 184, 0, 46, 104, 62, 28, 42, 180, 0, 15, 112, 153, 0, 5, 29, 172, 5, 27, 42, 180, 0, 30, 100, 16, 7, 112, 120, 4, 100] := by decide +kernel
theorem dX8_daysUpTo_32 : decode cX8_daysUpTo 32 = .ok (.idiv, 1) := oq_108 (bq_in kqX8_daysUpTo_1 0 rfl)
theorem dX8_daysUpTo_33 : decode cX8_daysUpTo 33 = .ok (.aload_n 0, 1) := oq_42 (bq_in kqX8_daysUpTo_1 1 rfl)
theorem dX8_daysUpTo_34 : decode cX8_daysUpTo 34 = .ok (.getfield 21, 3) := oq_180 (bq_in kqX8_daysUpTo_1 2 rfl) (bq_in kqX8_daysUpTo_1 3 rfl) (bq_in kqX8_daysUpTo_1 4 rfl) rfl
theorem dX8_daysUpTo_37 : decode cX8_daysUpTo 37 = .ok (.invokestatic 46, 3) := oq_184 (bq_in kqX8_daysUpTo_1 5 rfl) (bq_in kqX8_daysUpTo_1 6 rfl) (bq_in kqX8_daysUpTo_1 7 rfl) rfl
theorem dX8_daysUpTo_40 : decode cX8_daysUpTo 40 = .ok (.imul, 1) := oq_104 (bq_in kqX8_daysUpTo_1 8 rfl)
theorem dX8_daysUpTo_41 : decode cX8_daysUpTo 41 = .ok (.istore_n 3, 1) := oq_62 (bq_in kqX8_daysUpTo_1 9 rfl)
theorem dX8_daysUpTo_42 : decode cX8_daysUpTo 42 = .ok (.iload_n 2, 1) := oq_28 (bq_in kqX8_daysUpTo_1 10 rfl)
theorem dX8_daysUpTo_43 : decode cX8_daysUpTo 43 = .ok (.aload_n 0, 1) := oq_42 (bq_in kqX8_daysUpTo_1 11 rfl)
theorem dX8_daysUpTo_44 : decode cX8_daysUpTo 44 = .ok (.getfield 15, 3) := oq_180 (bq_in kqX8_daysUpTo_1 12 rfl) (bq_in kqX8_daysUpTo_1 13 rfl) (bq_in kqX8_daysUpTo_1 14 rfl) rfl
theorem dX8_daysUpTo_47 : decode cX8_daysUpTo 47 = .ok (.irem, 1) := oq_112 (bq_in kqX8_daysUpTo_1 15 rfl)
theorem dX8_daysUpTo_48 : decode cX8_daysUpTo 48 = .ok (.ifCond .eq 5, 3) := oq_153 (bq_in kqX8_daysUpTo_1 16 rfl) (bq_in kqX8_daysUpTo_1 17 rfl) (bq_in kqX8_daysUpTo_1 18 rfl) rfl
theorem dX8_daysUpTo_51 : decode cX8_daysUpTo 51 = .ok (.iload_n 3, 1) := oq_29 (bq_in kqX8_daysUpTo_1 19 rfl)
theorem dX8_daysUpTo_52 : decode cX8_daysUpTo 52 = .ok (.ireturn, 1) := oq_172 (bq_in kqX8_daysUpTo_1 20 rfl)
theorem dX8_daysUpTo_53 : decode cX8_daysUpTo 53 = .ok (.iconst 2, 1) := oq_5 (bq_in kqX8_daysUpTo_1 21 rfl)
theorem dX8_daysUpTo_54 : decode cX8_daysUpTo 54 = .ok (.iload_n 1, 1) := oq_27 (bq_in kqX8_daysUpTo_1 22 rfl)
theorem dX8_daysUpTo_55 : decode cX8_daysUpTo 55 = .ok (.aload_n 0, 1) := oq_42 (bq_in kqX8_daysUpTo_1 23 rfl)
theorem dX8_daysUpTo_56 : decode cX8_daysUpTo 56 = .ok (.getfield 30, 3) := oq_180 (bq_in kqX8_daysUpTo_1 24 rfl) (bq_in kqX8_daysUpTo_1 25 rfl) (bq_in kqX8_daysUpTo_1 26 rfl) rfl
theorem dX8_daysUpTo_59 : decode cX8_daysUpTo 59 = .ok (.isub, 1) := oq_100 (bq_in kqX8_daysUpTo_1 27 rfl)
theorem dX8_daysUpTo_60 : decode cX8_daysUpTo 60 = .ok (.bipush 7, 2) := oq_16 (bq_in kqX8_daysUpTo_1 28 rfl) (bq_in kqX8_daysUpTo_1 29 rfl) rfl
theorem dX8_daysUpTo_62 : decode cX8_daysUpTo 62 = .ok (.irem, 1) := oq_112 (bq_in kqX8_daysUpTo_1 30 rfl)
theorem dX8_daysUpTo_63 : decode cX8_daysUpTo 63 = .ok (.ishl, 1) := oq_120 (bq_in kqX8_daysUpTo_1 31 rfl)
theorem kqX8_daysUpTo_2 : ((cX8_daysUpTo.data.toList.drop 64).take 34).map UInt8.toNat = [4, 100, 54, 4, 29, 42, 180, 0, 21, 21, 4, 126, 184, 0, 46, 96, 172] := by decide +kernel
theorem dX8_daysUpTo_64 : decode cX8_daysUpTo 64 = .ok (.iconst 1, 1) := oq_4 (bq_in kqX8_daysUpTo_2 0 rfl)
theorem dX8_daysUpTo_65 : decode cX8_daysUpTo 65 = .ok (.isub, 1) := oq_100 (bq_in kqX8_daysUpTo_2 1 rfl)
theorem dX8_daysUpTo_66 : decode cX8_daysUpTo 66 = .ok (.istore 4, 2) := oq_54 (bq_in kqX8_daysUpTo_2 2 rfl) (bq_in kqX8_daysUpTo_2 3 rfl)
theorem dX8_daysUpTo_68 : decode cX8_daysUpTo 68 = .ok (.iload_n 3, 1) := oq_29 (bq_in kqX8_daysUpTo_2 4 rfl)
theorem dX8_daysUpTo_69 : decode cX8_daysUpTo 69 = .ok (.aload_n 0, 1) := oq_42 (bq_in kqX8_daysUpTo_2 5 rfl)
theorem dX8_daysUpTo_70 : decode cX8_daysUpTo 70 = .ok (.getfield 21, 3) := oq_180 (bq_in kqX8_daysUpTo_2 6 rfl) (bq_in kqX8_daysUpTo_2 7 rfl) (bq_in kqX8_daysUpTo_2 8 rfl) rfl
theorem dX8_daysUpTo_73 : decode cX8_daysUpTo 73 = .ok (.iload 4, 2) := oq_21 (bq_in kqX8_daysUpTo_2 9 rfl) (bq_in kqX8_daysUpTo_2 10 rfl)
theorem dX8_daysUpTo_75 : decode cX8_daysUpTo 75 = .ok (.iand, 1) := oq_126 (bq_in kqX8_daysUpTo_2 11 rfl)
theorem dX8_daysUpTo_76 : decode cX8_daysUpTo 76 = .ok (.invokestatic 46, 3) := oq_184 (bq_in kqX8_daysUpTo_2 12 rfl) (bq_in kqX8_daysUpTo_2 13 rfl) (bq_in kqX8_daysUpTo_2 14 rfl) rfl
theorem dX8_daysUpTo_79 : decode cX8_daysUpTo 79 = .ok (.iadd, 1) := oq_96 (bq_in kqX8_daysUpTo_2 15 rfl)
theorem dX8_daysUpTo_80 : decode cX8_daysUpTo 80 = .ok (.ireturn, 1) := oq_172 (bq_in kqX8_daysUpTo_2 16 rfl)
theorem kqX8_firstWeekday_0 : ((cX8_firstWeekday.data.toList.drop 0).take 34).map UInt8.toNat = [27, 61, 28, 16, 7, 162, 0, 23, 42, 180, 0, 21, 28, 122, 4, 126, 4, 160, 0, 5, 28, 172, 132, 2, 1, 167, 255, 233, 2, 172] := by decide +kernel
theorem dX8_firstWeekday_0 : decode cX8_firstWeekday 0 = .ok (.iload_n 1, 1) := oq_27 (bq_in kqX8_firstWeekday_0 0 rfl)
theorem dX8_firstWeekday_1 : decode cX8_firstWeekday 1 = .ok (.istore_n 2, 1) := oq_61 (bq_in kqX8_firstWeekday_0 1 rfl)
theorem dX8_firstWeekday_2 : decode cX8_firstWeekday 2 = .ok (.iload_n 2, 1) := oq_28 (bq_in kqX8_firstWeekday_0 2 rfl)
theorem dX8_firstWeekday_3 : decode cX8_firstWeekday 3 = .ok (.bipush 7, 2) := oq_16 (bq_in kqX8_firstWeekday_0 3 rfl) (bq_in kqX8_firstWeekday_0 4 rfl) rfl
theorem dX8_firstWeekday_5 : decode cX8_firstWeekday 5 = .ok (.if_icmp .ge 23, 3) := oq_162 (bq_in kqX8_firstWeekday_0 5 rfl) (bq_in kqX8_firstWeekday_0 6 rfl) (bq_in kqX8_firstWeekday_0 7 rfl) rfl
theorem dX8_firstWeekday_8 : decode cX8_firstWeekday 8 = .ok (.aload_n 0, 1) := oq_42 (bq_in kqX8_firstWeekday_0 8 rfl)
theorem dX8_firstWeekday_9 : decode cX8_firstWeekday 9 = .ok (.getfield 21, 3) := oq_180 (bq_in kqX8_firstWeekday_0 9 rfl) (bq_in kqX8_firstWeekday_0 10 rfl) (bq_in kqX8_firstWeekday_0 11 rfl) rfl
theorem dX8_firstWeekday_12 : decode cX8_firstWeekday 12 = .ok (.iload_n 2, 1) := oq_28 (bq_in kqX8_firstWeekday_0 12 rfl)
theorem dX8_firstWeekday_13 : decode cX8_firstWeekday 13 = .ok (.ishr, 1) := oq_122 (bq_in kqX8_firstWeekday_0 13 rfl)
theorem dX8_firstWeekday_14 : decode cX8_firstWeekday 14 = .ok (.iconst 1, 1) := oq_4 (bq_in kqX8_firstWeekday_0 14 rfl)
theorem dX8_firstWeekday_15 : decode cX8_firstWeekday 15 = .ok (.iand, 1) := oq_126 (bq_in kqX8_firstWeekday_0 15 rfl)
theorem dX8_firstWeekday_16 : decode cX8_firstWeekday 16 = .ok (.iconst 1, 1) := oq_4 (bq_in kqX8_firstWeekday_0 16 rfl)
theorem dX8_firstWeekday_17 : decode cX8_firstWeekday 17 = .ok (.if_icmp .ne 5, 3) := oq_160 (bq_in kqX8_firstWeekday_0 17 rfl) (bq_in kqX8_firstWeekday_0 18 rfl) (bq_in kqX8_firstWeekday_0 19 rfl) rfl
theorem dX8_firstWeekday_20 : decode cX8_firstWeekday 20 = .ok (.iload_n 2, 1) := oq_28 (bq_in kqX8_firstWeekday_0 20 rfl)
theorem dX8_firstWeekday_21 : decode cX8_firstWeekday 21 = .ok (.ireturn, 1) := oq_172 (bq_in kqX8_firstWeekday_0 21 rfl)
theorem dX8_firstWeekday_22 : decode cX8_firstWeekday 22 = .ok (.iinc 2 1, 3) := oq_132 (bq_in kqX8_firstWeekday_0 22 rfl) (bq_in kqX8_firstWeekday_0 23 rfl) (bq_in kqX8_firstWeekday_0 24 rfl) rfl
theorem dX8_firstWeekday_25 : decode cX8_firstWeekday 25 = .ok (.goto (-23), 3) := oq_167 (bq_in kqX8_firstWeekday_0 25 rfl) (bq_in kqX8_firstWeekday_0 26 rfl) (bq_in kqX8_firstWeekday_0 27 rfl) rfl
theorem dX8_firstWeekday_28 : decode cX8_firstWeekday 28 = .ok (.iconst (-1), 1) := oq_2 (bq_in kqX8_firstWeekday_0 28 rfl)
theorem dX8_firstWeekday_29 : decode cX8_firstWeekday 29 = .ok (.ireturn, 1) := oq_172 (bq_in kqX8_firstWeekday_0 29 rfl)
theorem kqX8_lastWeekday_0 : ((cX8_lastWeekday.data.toList.drop 0).take 34).map UInt8.toNat = [27, 61, 28, 155, 0, 23, 42, 180, 0, 21, 28, 122, 4, 126, 4, 160, 0, 5, 28, 172, 132, 2, 255, 167, 255, 235, 2, 172] := by decide +kernel
theorem dX8_lastWeekday_0 : decode cX8_lastWeekday 0 = .ok (.iload_n 1, 1) := oq_27 (bq_in kqX8_lastWeekday_0 0 rfl)
theorem dX8_lastWeekday_1 : decode cX8_lastWeekday 1 = .ok (.istore_n 2, 1) := oq_61 (bq_in kqX8_lastWeekday_0 1 rfl)
theorem dX8_lastWeekday_2 : decode cX8_lastWeekday 2 = .ok (.iload_n 2, 1) := oq_28 (bq_in kqX8_lastWeekday_0 2 rfl)
theorem dX8_lastWeekday_3 : decode cX8_lastWeekday 3 = .ok (.ifCond .lt 23, 3) := oq_155 (bq_in kqX8_lastWeekday_0 3 rfl) (bq_in kqX8_lastWeekday_0 4 rfl) (bq_in kqX8_lastWeekday_0 5 rfl) rfl
theorem dX8_lastWeekday_6 : decode cX8_lastWeekday 6 = .ok (.aload_n 0, 1) := oq_42 (bq_in kqX8_lastWeekday_0 6 rfl)
theorem dX8_lastWeekday_7 : decode cX8_lastWeekday 7 = .ok (.getfield 21, 3) := oq_180 (bq_in kqX8_lastWeekday_0 7 rfl) (bq_in kqX8_lastWeekday_0 8 rfl) (bq_in kqX8_lastWeekday_0 9 rfl) rfl
theorem dX8_lastWeekday_10 : decode cX8_lastWeekday 10 = .ok (.iload_n 2, 1) := oq_28 (bq_in kqX8_lastWeekday_0 10 rfl)
theorem dX8_lastWeekday_11 : decode cX8_lastWeekday 11 = .ok (.ishr, 1) := oq_122 (bq_in kqX8_lastWeekday_0 11 rfl)
theorem dX8_lastWeekday_12 : decode cX8_lastWeekday 12 = .ok (.iconst 1, 1) := oq_4 (bq_in kqX8_lastWeekday_0 12 rfl)
theorem dX8_lastWeekday_13 : decode cX8_lastWeekday 13 = .ok (.iand, 1) := oq_126 (bq_in kqX8_lastWeekday_0 13 rfl)
theorem dX8_lastWeekday_14 : decode cX8_lastWeekday 14 = .ok (.iconst 1, 1) := oq_4 (bq_in kqX8_lastWeekday_0 14 rfl)
theorem dX8_lastWeekday_15 : decode cX8_lastWeekday 15 = .ok (.if_icmp .ne 5, 3) := oq_160 (bq_in kqX8_lastWeekday_0 15 rfl) (bq_in kqX8_lastWeekday_0 16 rfl) (bq_in kqX8_lastWeekday_0 17 rfl) rfl
theorem dX8_lastWeekday_18 : decode cX8_lastWeekday 18 = .ok (.iload_n 2, 1) := oq_28 (bq_in kqX8_lastWeekday_0 18 rfl)
theorem dX8_lastWeekday_19 : decode cX8_lastWeekday 19 = .ok (.ireturn, 1) := oq_172 (bq_in kqX8_lastWeekday_0 19 rfl)
theorem dX8_lastWeekday_20 : decode cX8_lastWeekday 20 = .ok (.iinc 2 (-1), 3) := oq_132 (bq_in kqX8_lastWeekday_0 20 rfl) (bq_in kqX8_lastWeekday_0 21 rfl) (bq_in kqX8_lastWeekday_0 22 rfl) rfl
theorem dX8_lastWeekday_23 : decode cX8_lastWeekday 23 = .ok (.goto (-21), 3) := oq_167 (bq_in kqX8_lastWeekday_0 23 rfl) (bq_in kqX8_lastWeekday_0 24 rfl) (bq_in kqX8_lastWeekday_0 25 rfl) rfl
theorem dX8_lastWeekday_26 : decode cX8_lastWeekday 26 = .ok (.iconst (-1), 1) := oq_2 (bq_in kqX8_lastWeekday_0 26 rfl)
theorem dX8_lastWeekday_27 : decode cX8_lastWeekday 27 = .ok (.ireturn, 1) := oq_172 (bq_in kqX8_lastWeekday_0 27 rfl)
theorem kqX8_cycle_0 : ((cX8_cycle.data.toList.drop 0).take 34).map UInt8.toNat = [20, 0, 51, 42, 180, 0, 15, 133, 105, 173] := by decide +kernel
theorem dX8_cycle_0 : decode cX8_cycle 0 = .ok (.ldc2_w 51, 3) := oq_20 (bq_in kqX8_cycle_0 0 rfl) (bq_in kqX8_cycle_0 1 rfl) (bq_in kqX8_cycle_0 2 rfl) rfl
theorem dX8_cycle_3 : decode cX8_cycle 3 = .ok (.aload_n 0, 1) := oq_42 (bq_in kqX8_cycle_0 3 rfl)
theorem dX8_cycle_4 : decode cX8_cycle 4 = .ok (.getfield 15, 3) := oq_180 (bq_in kqX8_cycle_0 4 rfl) (bq_in kqX8_cycle_0 5 rfl) (bq_in kqX8_cycle_0 6 rfl) rfl
theorem dX8_cycle_7 : decode cX8_cycle 7 = .ok (.i2l, 1) := oq_133 (bq_in kqX8_cycle_0 7 rfl)
theorem dX8_cycle_8 : decode cX8_cycle 8 = .ok (.lmul, 1) := oq_105 (bq_in kqX8_cycle_0 8 rfl)
theorem dX8_cycle_9 : decode cX8_cycle 9 = .ok (.lreturn, 1) := oq_173 (bq_in kqX8_cycle_0 9 rfl)
theorem kqX8_detail_0 : ((cX8_detail.data.toList.drop 0).take 34).map UInt8.toNat = [42, 180, 0, 21, 172] := by decide +kernel
theorem dX8_detail_0 : decode cX8_detail 0 = .ok (.aload_n 0, 1) := oq_42 (bq_in kqX8_detail_0 0 rfl)
theorem dX8_detail_1 : decode cX8_detail 1 = .ok (.getfield 21, 3) := oq_180 (bq_in kqX8_detail_0 1 rfl) (bq_in kqX8_detail_0 2 rfl) (bq_in kqX8_detail_0 3 rfl) rfl
theorem dX8_detail_4 : decode cX8_detail 4 = .ok (.ireturn, 1) := oq_172 (bq_in kqX8_detail_0 4 rfl)
