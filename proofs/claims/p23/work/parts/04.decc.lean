theorem kqX5_init_0 : ((cX5_init.data.toList.drop 0).take 34).map UInt8.toNat = [42, 183, 0, 3, 42, 3, 181, 0, 11, 42, 3, 181, 0, 15, 42, 3, 181, 0, 18, 42, 3, 181, 0, 21, 42, 3, 181, 0, 24, 42, 3, 181, 0, 27] := by decide +kernel
theorem dX5_init_0 : decode cX5_init 0 = .ok (.aload_n 0, 1) := oq_42 (bq_in kqX5_init_0 0 rfl)
theorem dX5_init_1 : decode cX5_init 1 = .ok (.invokespecial 3, 3) := oq_183 (bq_in kqX5_init_0 1 rfl) (bq_in kqX5_init_0 2 rfl) (bq_in kqX5_init_0 3 rfl) rfl
theorem dX5_init_4 : decode cX5_init 4 = .ok (.aload_n 0, 1) := oq_42 (bq_in kqX5_init_0 4 rfl)
theorem dX5_init_5 : decode cX5_init 5 = .ok (.iconst 0, 1) := oq_3 (bq_in kqX5_init_0 5 rfl)
theorem dX5_init_6 : decode cX5_init 6 = .ok (.putfield 11, 3) := oq_181 (bq_in kqX5_init_0 6 rfl) (bq_in kqX5_init_0 7 rfl) (bq_in kqX5_init_0 8 rfl) rfl
theorem dX5_init_9 : decode cX5_init 9 = .ok (.aload_n 0, 1) := oq_42 (bq_in kqX5_init_0 9 rfl)
theorem dX5_init_10 : decode cX5_init 10 = .ok (.iconst 0, 1) := oq_3 (bq_in kqX5_init_0 10 rfl)
theorem dX5_init_11 : decode cX5_init 11 = .ok (.putfield 15, 3) := oq_181 (bq_in kqX5_init_0 11 rfl) (bq_in kqX5_init_0 12 rfl) (bq_in kqX5_init_0 13 rfl) rfl
theorem dX5_init_14 : decode cX5_init 14 = .ok (.aload_n 0, 1) := oq_42 (bq_in kqX5_init_0 14 rfl)
theorem dX5_init_15 : decode cX5_init 15 = .ok (.iconst 0, 1) := oq_3 (bq_in kqX5_init_0 15 rfl)
theorem dX5_init_16 : decode cX5_init 16 = .ok (.putfield 18, 3) := oq_181 (bq_in kqX5_init_0 16 rfl) (bq_in kqX5_init_0 17 rfl) (bq_in kqX5_init_0 18 rfl) rfl
theorem dX5_init_19 : decode cX5_init 19 = .ok (.aload_n 0, 1) := oq_42 (bq_in kqX5_init_0 19 rfl)
theorem dX5_init_20 : decode cX5_init 20 = .ok (.iconst 0, 1) := oq_3 (bq_in kqX5_init_0 20 rfl)
theorem dX5_init_21 : decode cX5_init 21 = .ok (.putfield 21, 3) := oq_181 (bq_in kqX5_init_0 21 rfl) (bq_in kqX5_init_0 22 rfl) (bq_in kqX5_init_0 23 rfl) rfl
theorem dX5_init_24 : decode cX5_init 24 = .ok (.aload_n 0, 1) := oq_42 (bq_in kqX5_init_0 24 rfl)
theorem dX5_init_25 : decode cX5_init 25 = .ok (.iconst 0, 1) := oq_3 (bq_in kqX5_init_0 25 rfl)
theorem dX5_init_26 : decode cX5_init 26 = .ok (.putfield 24, 3) := oq_181 (bq_in kqX5_init_0 26 rfl) (bq_in kqX5_init_0 27 rfl) (bq_in kqX5_init_0 28 rfl) rfl
theorem dX5_init_29 : decode cX5_init 29 = .ok (.aload_n 0, 1) := oq_42 (bq_in kqX5_init_0 29 rfl)
theorem dX5_init_30 : decode cX5_init 30 = .ok (.iconst 0, 1) := oq_3 (bq_in kqX5_init_0 30 rfl)
theorem dX5_init_31 : decode cX5_init 31 = .ok (.putfield 27, 3) := oq_181 (bq_in kqX5_init_0 31 rfl) (bq_in kqX5_init_0 32 rfl) (bq_in kqX5_init_0 33 rfl) rfl
theorem kqX5_init_1 : ((cX5_init.data.toList.drop 32).take 34).map UInt8.toNat = [0, 27, 42, 3, 181, 0, 30, 42, 3, 181, 0, 33, 42, 43, 181, 0, 36, 42, 28, 43, 190, 184, 0, 40, 181, 0, 46, 177] := by decide +kernel
theorem dX5_init_34 : decode cX5_init 34 = .ok (.aload_n 0, 1) := oq_42 (bq_in kqX5_init_1 2 rfl)
theorem dX5_init_35 : decode cX5_init 35 = .ok (.iconst 0, 1) := oq_3 (bq_in kqX5_init_1 3 rfl)
theorem dX5_init_36 : decode cX5_init 36 = .ok (.putfield 30, 3) := oq_181 (bq_in kqX5_init_1 4 rfl) (bq_in kqX5_init_1 5 rfl) (bq_in kqX5_init_1 6 rfl) rfl
theorem dX5_init_39 : decode cX5_init 39 = .ok (.aload_n 0, 1) := oq_42 (bq_in kqX5_init_1 7 rfl)
theorem dX5_init_40 : decode cX5_init 40 = .ok (.iconst 0, 1) := oq_3 (bq_in kqX5_init_1 8 rfl)
theorem dX5_init_41 : decode cX5_init 41 = .ok (.putfield 33, 3) := oq_181 (bq_in kqX5_init_1 9 rfl) (bq_in kqX5_init_1 10 rfl) (bq_in kqX5_init_1 11 rfl) rfl
theorem dX5_init_44 : decode cX5_init 44 = .ok (.aload_n 0, 1) := oq_42 (bq_in kqX5_init_1 12 rfl)
theorem dX5_init_45 : decode cX5_init 45 = .ok (.aload_n 1, 1) := oq_43 (bq_in kqX5_init_1 13 rfl)
theorem dX5_init_46 : decode cX5_init 46 = .ok (.putfield 36, 3) := oq_181 (bq_in kqX5_init_1 14 rfl) (bq_in kqX5_init_1 15 rfl) (bq_in kqX5_init_1 16 rfl) rfl
theorem dX5_init_49 : decode cX5_init 49 = .ok (.aload_n 0, 1) := oq_42 (bq_in kqX5_init_1 17 rfl)
theorem dX5_init_50 : decode cX5_init 50 = .ok (.iload_n 2, 1) := oq_28 (bq_in kqX5_init_1 18 rfl)
theorem dX5_init_51 : decode cX5_init 51 = .ok (.aload_n 1, 1) := oq_43 (bq_in kqX5_init_1 19 rfl)
theorem dX5_init_52 : decode cX5_init 52 = .ok (.arraylength, 1) := oq_190 (bq_in kqX5_init_1 20 rfl)
theorem dX5_init_53 : decode cX5_init 53 = .ok (.invokestatic 40, 3) := oq_184 (bq_in kqX5_init_1 21 rfl) (bq_in kqX5_init_1 22 rfl) (bq_in kqX5_init_1 23 rfl) rfl
theorem dX5_init_56 : decode cX5_init 56 = .ok (.putfield 46, 3) := oq_181 (bq_in kqX5_init_1 24 rfl) (bq_in kqX5_init_1 25 rfl) (bq_in kqX5_init_1 26 rfl) rfl
theorem dX5_init_59 : decode cX5_init 59 = .ok (.return_, 1) := oq_177 (bq_in kqX5_init_1 27 rfl)
theorem kqX5_read_0 : ((cX5_read.data.toList.drop 0).take 34).map UInt8.toNat = [42, 182, 0, 49, 42, 43, 182, 0, 52, 153, 0, 38, 42, 182, 0, 56, 153, 0, 31, 42, 43, 182, 0, 60, 153, 0, 23, 42, 180, 0, 11, 154, 0, 10] := by decide +kernel
theorem dX5_read_0 : decode cX5_read 0 = .ok (.aload_n 0, 1) := oq_42 (bq_in kqX5_read_0 0 rfl)
theorem dX5_read_1 : decode cX5_read 1 = .ok (.invokevirtual 49, 3) := oq_182 (bq_in kqX5_read_0 1 rfl) (bq_in kqX5_read_0 2 rfl) (bq_in kqX5_read_0 3 rfl) rfl
theorem dX5_read_4 : decode cX5_read 4 = .ok (.aload_n 0, 1) := oq_42 (bq_in kqX5_read_0 4 rfl)
theorem dX5_read_5 : decode cX5_read 5 = .ok (.aload_n 1, 1) := oq_43 (bq_in kqX5_read_0 5 rfl)
theorem dX5_read_6 : decode cX5_read 6 = .ok (.invokevirtual 52, 3) := oq_182 (bq_in kqX5_read_0 6 rfl) (bq_in kqX5_read_0 7 rfl) (bq_in kqX5_read_0 8 rfl) rfl
theorem dX5_read_9 : decode cX5_read 9 = .ok (.ifCond .eq 38, 3) := oq_153 (bq_in kqX5_read_0 9 rfl) (bq_in kqX5_read_0 10 rfl) (bq_in kqX5_read_0 11 rfl) rfl
theorem dX5_read_12 : decode cX5_read 12 = .ok (.aload_n 0, 1) := oq_42 (bq_in kqX5_read_0 12 rfl)
theorem dX5_read_13 : decode cX5_read 13 = .ok (.invokevirtual 56, 3) := oq_182 (bq_in kqX5_read_0 13 rfl) (bq_in kqX5_read_0 14 rfl) (bq_in kqX5_read_0 15 rfl) rfl
theorem dX5_read_16 : decode cX5_read 16 = .ok (.ifCond .eq 31, 3) := oq_153 (bq_in kqX5_read_0 16 rfl) (bq_in kqX5_read_0 17 rfl) (bq_in kqX5_read_0 18 rfl) rfl
theorem dX5_read_19 : decode cX5_read 19 = .ok (.aload_n 0, 1) := oq_42 (bq_in kqX5_read_0 19 rfl)
theorem dX5_read_20 : decode cX5_read 20 = .ok (.aload_n 1, 1) := oq_43 (bq_in kqX5_read_0 20 rfl)
theorem dX5_read_21 : decode cX5_read 21 = .ok (.invokevirtual 60, 3) := oq_182 (bq_in kqX5_read_0 21 rfl) (bq_in kqX5_read_0 22 rfl) (bq_in kqX5_read_0 23 rfl) rfl
theorem dX5_read_24 : decode cX5_read 24 = .ok (.ifCond .eq 23, 3) := oq_153 (bq_in kqX5_read_0 24 rfl) (bq_in kqX5_read_0 25 rfl) (bq_in kqX5_read_0 26 rfl) rfl
theorem dX5_read_27 : decode cX5_read 27 = .ok (.aload_n 0, 1) := oq_42 (bq_in kqX5_read_0 27 rfl)
theorem dX5_read_28 : decode cX5_read 28 = .ok (.getfield 11, 3) := oq_180 (bq_in kqX5_read_0 28 rfl) (bq_in kqX5_read_0 29 rfl) (bq_in kqX5_read_0 30 rfl) rfl
theorem dX5_read_31 : decode cX5_read 31 = .ok (.ifCond .ne 10, 3) := oq_154 (bq_in kqX5_read_0 31 rfl) (bq_in kqX5_read_0 32 rfl) (bq_in kqX5_read_0 33 rfl) rfl
theorem kqX5_read_1 : ((cX5_read.data.toList.drop 32).take 34).map UInt8.toNat = [0, 10, 43, 182, 0, 63, 167, 0, 9, 42, 4, 182, 0, 68, 87, 42, 180, 0, 21, 172] := by decide +kernel
theorem dX5_read_34 : decode cX5_read 34 = .ok (.aload_n 1, 1) := oq_43 (bq_in kqX5_read_1 2 rfl)
theorem dX5_read_35 : decode cX5_read 35 = .ok (.invokevirtual 63, 3) := oq_182 (bq_in kqX5_read_1 3 rfl) (bq_in kqX5_read_1 4 rfl) (bq_in kqX5_read_1 5 rfl) rfl
theorem dX5_read_38 : decode cX5_read 38 = .ok (.goto 9, 3) := oq_167 (bq_in kqX5_read_1 6 rfl) (bq_in kqX5_read_1 7 rfl) (bq_in kqX5_read_1 8 rfl) rfl
theorem dX5_read_41 : decode cX5_read 41 = .ok (.aload_n 0, 1) := oq_42 (bq_in kqX5_read_1 9 rfl)
theorem dX5_read_42 : decode cX5_read 42 = .ok (.iconst 1, 1) := oq_4 (bq_in kqX5_read_1 10 rfl)
theorem dX5_read_43 : decode cX5_read 43 = .ok (.invokevirtual 68, 3) := oq_182 (bq_in kqX5_read_1 11 rfl) (bq_in kqX5_read_1 12 rfl) (bq_in kqX5_read_1 13 rfl) rfl
theorem dX5_read_46 : decode cX5_read 46 = .ok (.pop, 1) := oq_87 (bq_in kqX5_read_1 14 rfl)
theorem dX5_read_47 : decode cX5_read 47 = .ok (.aload_n 0, 1) := oq_42 (bq_in kqX5_read_1 15 rfl)
theorem dX5_read_48 : decode cX5_read 48 = .ok (.getfield 21, 3) := oq_180 (bq_in kqX5_read_1 16 rfl) (bq_in kqX5_read_1 17 rfl) (bq_in kqX5_read_1 18 rfl) rfl
theorem dX5_read_51 : decode cX5_read 51 = .ok (.ireturn, 1) := oq_172 (bq_in kqX5_read_1 19 rfl)
theorem kqX5_readPlace_0 : ((cX5_readPlace.data.toList.drop 0).take 34).map UInt8.toNat = [42, 18, 72, 182, 0, 74, 154, 0, 5, 3, 172, 43, 42, 3, 16, 7, 182, 0, 78, 181, 0, 81, 43, 180, 0, 81, 2, 159, 0, 12, 42, 18, 84, 182] := by decide +kernel
theorem dX5_readPlace_0 : decode cX5_readPlace 0 = .ok (.aload_n 0, 1) := oq_42 (bq_in kqX5_readPlace_0 0 rfl)
theorem dX5_readPlace_1 : decode cX5_readPlace 1 = .ok (.ldc 72, 2) := oq_18 (bq_in kqX5_readPlace_0 1 rfl) (bq_in kqX5_readPlace_0 2 rfl)
theorem dX5_readPlace_3 : decode cX5_readPlace 3 = .ok (.invokevirtual 74, 3) := oq_182 (bq_in kqX5_readPlace_0 3 rfl) (bq_in kqX5_readPlace_0 4 rfl) (bq_in kqX5_readPlace_0 5 rfl) rfl
theorem dX5_readPlace_6 : decode cX5_readPlace 6 = .ok (.ifCond .ne 5, 3) := oq_154 (bq_in kqX5_readPlace_0 6 rfl) (bq_in kqX5_readPlace_0 7 rfl) (bq_in kqX5_readPlace_0 8 rfl) rfl
theorem dX5_readPlace_9 : decode cX5_readPlace 9 = .ok (.iconst 0, 1) := oq_3 (bq_in kqX5_readPlace_0 9 rfl)
theorem dX5_readPlace_10 : decode cX5_readPlace 10 = .ok (.ireturn, 1) := oq_172 (bq_in kqX5_readPlace_0 10 rfl)
theorem dX5_readPlace_11 : decode cX5_readPlace 11 = .ok (.aload_n 1, 1) := oq_43 (bq_in kqX5_readPlace_0 11 rfl)
theorem dX5_readPlace_12 : decode cX5_readPlace 12 = .ok (.aload_n 0, 1) := oq_42 (bq_in kqX5_readPlace_0 12 rfl)
theorem dX5_readPlace_13 : decode cX5_readPlace 13 = .ok (.iconst 0, 1) := oq_3 (bq_in kqX5_readPlace_0 13 rfl)
theorem dX5_readPlace_14 : decode cX5_readPlace 14 = .ok (.bipush 7, 2) := oq_16 (bq_in kqX5_readPlace_0 14 rfl) (bq_in kqX5_readPlace_0 15 rfl) rfl
theorem dX5_readPlace_16 : decode cX5_readPlace 16 = .ok (.invokevirtual 78, 3) := oq_182 (bq_in kqX5_readPlace_0 16 rfl) (bq_in kqX5_readPlace_0 17 rfl) (bq_in kqX5_readPlace_0 18 rfl) rfl
theorem dX5_readPlace_19 : decode cX5_readPlace 19 = .ok (.putfield 81, 3) := oq_181 (bq_in kqX5_readPlace_0 19 rfl) (bq_in kqX5_readPlace_0 20 rfl) (bq_in kqX5_readPlace_0 21 rfl) rfl
theorem dX5_readPlace_22 : decode cX5_readPlace 22 = .ok (.aload_n 1, 1) := oq_43 (bq_in kqX5_readPlace_0 22 rfl)
theorem dX5_readPlace_23 : decode cX5_readPlace 23 = .ok (.getfield 81, 3) := oq_180 (bq_in kqX5_readPlace_0 23 rfl) (bq_in kqX5_readPlace_0 24 rfl) (bq_in kqX5_readPlace_0 25 rfl) rfl
theorem dX5_readPlace_26 : decode cX5_readPlace 26 = .ok (.iconst (-1), 1) := oq_2 (bq_in kqX5_readPlace_0 26 rfl)
theorem dX5_readPlace_27 : decode cX5_readPlace 27 = .ok (.if_icmp .eq 12, 3) := oq_159 (bq_in kqX5_readPlace_0 27 rfl) (bq_in kqX5_readPlace_0 28 rfl) (bq_in kqX5_readPlace_0 29 rfl) rfl
theorem dX5_readPlace_30 : decode cX5_readPlace 30 = .ok (.aload_n 0, 1) := oq_42 (bq_in kqX5_readPlace_0 30 rfl)
theorem dX5_readPlace_31 : decode cX5_readPlace 31 = .ok (.ldc 84, 2) := oq_18 (bq_in kqX5_readPlace_0 31 rfl) (bq_in kqX5_readPlace_0 32 rfl)
theorem kqX5_readPlace_1 : ((cX5_readPlace.data.toList.drop 32).take 34).map UInt8.toNat = [84, 182, 0, 74, 154, 0, 5, 3, 172, 43, 42, 3, 17, 5, 159, 182, 0, 78, 181, 0, 86, 43, 180, 0, 86, 2, 159, 0, 12, 42, 18, 89, 182, 0] := by decide +kernel
theorem dX5_readPlace_33 : decode cX5_readPlace 33 = .ok (.invokevirtual 74, 3) := oq_182 (bq_in kqX5_readPlace_1 1 rfl) (bq_in kqX5_readPlace_1 2 rfl) (bq_in kqX5_readPlace_1 3 rfl) rfl
theorem dX5_readPlace_36 : decode cX5_readPlace 36 = .ok (.ifCond .ne 5, 3) := oq_154 (bq_in kqX5_readPlace_1 4 rfl) (bq_in kqX5_readPlace_1 5 rfl) (bq_in kqX5_readPlace_1 6 rfl) rfl
theorem dX5_readPlace_39 : decode cX5_readPlace 39 = .ok (.iconst 0, 1) := oq_3 (bq_in kqX5_readPlace_1 7 rfl)
theorem dX5_readPlace_40 : decode cX5_readPlace 40 = .ok (.ireturn, 1) := oq_172 (bq_in kqX5_readPlace_1 8 rfl)
theorem dX5_readPlace_41 : decode cX5_readPlace 41 = .ok (.aload_n 1, 1) := oq_43 (bq_in kqX5_readPlace_1 9 rfl)
theorem dX5_readPlace_42 : decode cX5_readPlace 42 = .ok (.aload_n 0, 1) := oq_42 (bq_in kqX5_readPlace_1 10 rfl)
theorem dX5_readPlace_43 : decode cX5_readPlace 43 = .ok (.iconst 0, 1) := oq_3 (bq_in kqX5_readPlace_1 11 rfl)
theorem dX5_readPlace_44 : decode cX5_readPlace 44 = .ok (.sipush 1439, 3) := oq_17 (bq_in kqX5_readPlace_1 12 rfl) (bq_in kqX5_readPlace_1 13 rfl) (bq_in kqX5_readPlace_1 14 rfl) rfl
theorem dX5_readPlace_47 : decode cX5_readPlace 47 = .ok (.invokevirtual 78, 3) := oq_182 (bq_in kqX5_readPlace_1 15 rfl) (bq_in kqX5_readPlace_1 16 rfl) (bq_in kqX5_readPlace_1 17 rfl) rfl
theorem dX5_readPlace_50 : decode cX5_readPlace 50 = .ok (.putfield 86, 3) := oq_181 (bq_in kqX5_readPlace_1 18 rfl) (bq_in kqX5_readPlace_1 19 rfl) (bq_in kqX5_readPlace_1 20 rfl) rfl
theorem dX5_readPlace_53 : decode cX5_readPlace 53 = .ok (.aload_n 1, 1) := oq_43 (bq_in kqX5_readPlace_1 21 rfl)
theorem dX5_readPlace_54 : decode cX5_readPlace 54 = .ok (.getfield 86, 3) := oq_180 (bq_in kqX5_readPlace_1 22 rfl) (bq_in kqX5_readPlace_1 23 rfl) (bq_in kqX5_readPlace_1 24 rfl) rfl
theorem dX5_readPlace_57 : decode cX5_readPlace 57 = .ok (.iconst (-1), 1) := oq_2 (bq_in kqX5_readPlace_1 25 rfl)
theorem dX5_readPlace_58 : decode cX5_readPlace 58 = .ok (.if_icmp .eq 12, 3) := oq_159 (bq_in kqX5_readPlace_1 26 rfl) (bq_in kqX5_readPlace_1 27 rfl) (bq_in kqX5_readPlace_1 28 rfl) rfl
theorem dX5_readPlace_61 : decode cX5_readPlace 61 = .ok (.aload_n 0, 1) := oq_42 (bq_in kqX5_readPlace_1 29 rfl)
theorem dX5_readPlace_62 : decode cX5_readPlace 62 = .ok (.ldc 89, 2) := oq_18 (bq_in kqX5_readPlace_1 30 rfl) (bq_in kqX5_readPlace_1 31 rfl)
theorem kqX5_readPlace_2 : ((cX5_readPlace.data.toList.drop 64).take 34).map UInt8.toNat = [182, 0, 74, 154, 0, 5, 3, 172, 43, 42, 4, 17, 16, 224, 182, 0, 78, 181, 0, 91, 43, 180, 0, 91, 2, 159, 0, 7, 4, 167, 0, 4, 3, 172] := by decide +kernel
theorem dX5_readPlace_64 : decode cX5_readPlace 64 = .ok (.invokevirtual 74, 3) := oq_182 (bq_in kqX5_readPlace_2 0 rfl) (bq_in kqX5_readPlace_2 1 rfl) (bq_in kqX5_readPlace_2 2 rfl) rfl
theorem dX5_readPlace_67 : decode cX5_readPlace 67 = .ok (.ifCond .ne 5, 3) := oq_154 (bq_in kqX5_readPlace_2 3 rfl) (bq_in kqX5_readPlace_2 4 rfl) (bq_in kqX5_readPlace_2 5 rfl) rfl
theorem dX5_readPlace_70 : decode cX5_readPlace 70 = .ok (.iconst 0, 1) := oq_3 (bq_in kqX5_readPlace_2 6 rfl)
theorem dX5_readPlace_71 : decode cX5_readPlace 71 = .ok (.ireturn, 1) := oq_172 (bq_in kqX5_readPlace_2 7 rfl)
theorem dX5_readPlace_72 : decode cX5_readPlace 72 = .ok (.aload_n 1, 1) := oq_43 (bq_in kqX5_readPlace_2 8 rfl)
theorem dX5_readPlace_73 : decode cX5_readPlace 73 = .ok (.aload_n 0, 1) := oq_42 (bq_in kqX5_readPlace_2 9 rfl)
theorem dX5_readPlace_74 : decode cX5_readPlace 74 = .ok (.iconst 1, 1) := oq_4 (bq_in kqX5_readPlace_2 10 rfl)
theorem dX5_readPlace_75 : decode cX5_readPlace 75 = .ok (.sipush 4320, 3) := oq_17 (bq_in kqX5_readPlace_2 11 rfl) (bq_in kqX5_readPlace_2 12 rfl) (bq_in kqX5_readPlace_2 13 rfl) rfl
theorem dX5_readPlace_78 : decode cX5_readPlace 78 = .ok (.invokevirtual 78, 3) := oq_182 (bq_in kqX5_readPlace_2 14 rfl) (bq_in kqX5_readPlace_2 15 rfl) (bq_in kqX5_readPlace_2 16 rfl) rfl
theorem dX5_readPlace_81 : decode cX5_readPlace 81 = .ok (.putfield 91, 3) := oq_181 (bq_in kqX5_readPlace_2 17 rfl) (bq_in kqX5_readPlace_2 18 rfl) (bq_in kqX5_readPlace_2 19 rfl) rfl
theorem dX5_readPlace_84 : decode cX5_readPlace 84 = .ok (.aload_n 1, 1) := oq_43 (bq_in kqX5_readPlace_2 20 rfl)
theorem dX5_readPlace_85 : decode cX5_readPlace 85 = .ok (.getfield 91, 3) := oq_180 (bq_in kqX5_readPlace_2 21 rfl) (bq_in kqX5_readPlace_2 22 rfl) (bq_in kqX5_readPlace_2 23 rfl) rfl
theorem dX5_readPlace_88 : decode cX5_readPlace 88 = .ok (.iconst (-1), 1) := oq_2 (bq_in kqX5_readPlace_2 24 rfl)
theorem dX5_readPlace_89 : decode cX5_readPlace 89 = .ok (.if_icmp .eq 7, 3) := oq_159 (bq_in kqX5_readPlace_2 25 rfl) (bq_in kqX5_readPlace_2 26 rfl) (bq_in kqX5_readPlace_2 27 rfl) rfl
theorem dX5_readPlace_92 : decode cX5_readPlace 92 = .ok (.iconst 1, 1) := oq_4 (bq_in kqX5_readPlace_2 28 rfl)
theorem dX5_readPlace_93 : decode cX5_readPlace 93 = .ok (.goto 4, 3) := oq_167 (bq_in kqX5_readPlace_2 29 rfl) (bq_in kqX5_readPlace_2 30 rfl) (bq_in kqX5_readPlace_2 31 rfl) rfl
theorem kqX5_readPlace_3 : ((cX5_readPlace.data.toList.drop 96).take 34).map UInt8.toNat = [3, 172] := by decide +kernel
theorem dX5_readPlace_96 : decode cX5_readPlace 96 = .ok (.iconst 0, 1) := oq_3 (bq_in kqX5_readPlace_3 0 rfl)
theorem dX5_readPlace_97 : decode cX5_readPlace 97 = .ok (.ireturn, 1) := oq_172 (bq_in kqX5_readPlace_3 1 rfl)
theorem kqX5_readRule_0 : ((cX5_readRule.data.toList.drop 0).take 34).map UInt8.toNat = [42, 18, 92, 182, 0, 94, 153, 0, 5, 4, 172, 42, 18, 97, 182, 0, 74, 154, 0, 5, 3, 172, 42, 42, 4, 17, 3, 231, 182, 0, 78, 181, 0, 27] := by decide +kernel
theorem dX5_readRule_0 : decode cX5_readRule 0 = .ok (.aload_n 0, 1) := oq_42 (bq_in kqX5_readRule_0 0 rfl)
theorem dX5_readRule_1 : decode cX5_readRule 1 = .ok (.ldc 92, 2) := oq_18 (bq_in kqX5_readRule_0 1 rfl) (bq_in kqX5_readRule_0 2 rfl)
theorem dX5_readRule_3 : decode cX5_readRule 3 = .ok (.invokevirtual 94, 3) := oq_182 (bq_in kqX5_readRule_0 3 rfl) (bq_in kqX5_readRule_0 4 rfl) (bq_in kqX5_readRule_0 5 rfl) rfl
theorem dX5_readRule_6 : decode cX5_readRule 6 = .ok (.ifCond .eq 5, 3) := oq_153 (bq_in kqX5_readRule_0 6 rfl) (bq_in kqX5_readRule_0 7 rfl) (bq_in kqX5_readRule_0 8 rfl) rfl
theorem dX5_readRule_9 : decode cX5_readRule 9 = .ok (.iconst 1, 1) := oq_4 (bq_in kqX5_readRule_0 9 rfl)
theorem dX5_readRule_10 : decode cX5_readRule 10 = .ok (.ireturn, 1) := oq_172 (bq_in kqX5_readRule_0 10 rfl)
theorem dX5_readRule_11 : decode cX5_readRule 11 = .ok (.aload_n 0, 1) := oq_42 (bq_in kqX5_readRule_0 11 rfl)
theorem dX5_readRule_12 : decode cX5_readRule 12 = .ok (.ldc 97, 2) := oq_18 (bq_in kqX5_readRule_0 12 rfl) (bq_in kqX5_readRule_0 13 rfl)
theorem dX5_readRule_14 : decode cX5_readRule 14 = .ok (.invokevirtual 74, 3) := oq_182 (bq_in kqX5_readRule_0 14 rfl) (bq_in kqX5_readRule_0 15 rfl) (bq_in kqX5_readRule_0 16 rfl) rfl
theorem dX5_readRule_17 : decode cX5_readRule 17 = .ok (.ifCond .ne 5, 3) := oq_154 (bq_in kqX5_readRule_0 17 rfl) (bq_in kqX5_readRule_0 18 rfl) (bq_in kqX5_readRule_0 19 rfl) rfl
theorem dX5_readRule_20 : decode cX5_readRule 20 = .ok (.iconst 0, 1) := oq_3 (bq_in kqX5_readRule_0 20 rfl)
theorem dX5_readRule_21 : decode cX5_readRule 21 = .ok (.ireturn, 1) := oq_172 (bq_in kqX5_readRule_0 21 rfl)
theorem dX5_readRule_22 : decode cX5_readRule 22 = .ok (.aload_n 0, 1) := oq_42 (bq_in kqX5_readRule_0 22 rfl)
theorem dX5_readRule_23 : decode cX5_readRule 23 = .ok (.aload_n 0, 1) := oq_42 (bq_in kqX5_readRule_0 23 rfl)
theorem dX5_readRule_24 : decode cX5_readRule 24 = .ok (.iconst 1, 1) := oq_4 (bq_in kqX5_readRule_0 24 rfl)
theorem dX5_readRule_25 : decode cX5_readRule 25 = .ok (.sipush 999, 3) := oq_17 (bq_in kqX5_readRule_0 25 rfl) (bq_in kqX5_readRule_0 26 rfl) (bq_in kqX5_readRule_0 27 rfl) rfl
theorem dX5_readRule_28 : decode cX5_readRule 28 = .ok (.invokevirtual 78, 3) := oq_182 (bq_in kqX5_readRule_0 28 rfl) (bq_in kqX5_readRule_0 29 rfl) (bq_in kqX5_readRule_0 30 rfl) rfl
theorem dX5_readRule_31 : decode cX5_readRule 31 = .ok (.putfield 27, 3) := oq_181 (bq_in kqX5_readRule_0 31 rfl) (bq_in kqX5_readRule_0 32 rfl) (bq_in kqX5_readRule_0 33 rfl) rfl
theorem kqX5_readRule_1 : ((cX5_readRule.data.toList.drop 32).take 34).map UInt8.toNat = [0, 27, 42, 180, 0, 27, 2, 160, 0, 5, 3, 172, 42, 18, 98, 182, 0, 94, 153, 0, 10, 42, 4, 181, 0, 24, 4, 172, 42, 18, 100, 182, 0, 94] := by decide +kernel
theorem dX5_readRule_34 : decode cX5_readRule 34 = .ok (.aload_n 0, 1) := oq_42 (bq_in kqX5_readRule_1 2 rfl)
theorem dX5_readRule_35 : decode cX5_readRule 35 = .ok (.getfield 27, 3) := oq_180 (bq_in kqX5_readRule_1 3 rfl) (bq_in kqX5_readRule_1 4 rfl) (bq_in kqX5_readRule_1 5 rfl) rfl
theorem dX5_readRule_38 : decode cX5_readRule 38 = .ok (.iconst (-1), 1) := oq_2 (bq_in kqX5_readRule_1 6 rfl)
theorem dX5_readRule_39 : decode cX5_readRule 39 = .ok (.if_icmp .ne 5, 3) := oq_160 (bq_in kqX5_readRule_1 7 rfl) (bq_in kqX5_readRule_1 8 rfl) (bq_in kqX5_readRule_1 9 rfl) rfl
theorem dX5_readRule_42 : decode cX5_readRule 42 = .ok (.iconst 0, 1) := oq_3 (bq_in kqX5_readRule_1 10 rfl)
theorem dX5_readRule_43 : decode cX5_readRule 43 = .ok (.ireturn, 1) := oq_172 (bq_in kqX5_readRule_1 11 rfl)
theorem dX5_readRule_44 : decode cX5_readRule 44 = .ok (.aload_n 0, 1) := oq_42 (bq_in kqX5_readRule_1 12 rfl)
theorem dX5_readRule_45 : decode cX5_readRule 45 = .ok (.ldc 98, 2) := oq_18 (bq_in kqX5_readRule_1 13 rfl) (bq_in kqX5_readRule_1 14 rfl)
theorem dX5_readRule_47 : decode cX5_readRule 47 = .ok (.invokevirtual 94, 3) := oq_182 (bq_in kqX5_readRule_1 15 rfl) (bq_in kqX5_readRule_1 16 rfl) (bq_in kqX5_readRule_1 17 rfl) rfl
theorem dX5_readRule_50 : decode cX5_readRule 50 = .ok (.ifCond .eq 10, 3) := oq_153 (bq_in kqX5_readRule_1 18 rfl) (bq_in kqX5_readRule_1 19 rfl) (bq_in kqX5_readRule_1 20 rfl) rfl
theorem dX5_readRule_53 : decode cX5_readRule 53 = .ok (.aload_n 0, 1) := oq_42 (bq_in kqX5_readRule_1 21 rfl)
theorem dX5_readRule_54 : decode cX5_readRule 54 = .ok (.iconst 1, 1) := oq_4 (bq_in kqX5_readRule_1 22 rfl)
theorem dX5_readRule_55 : decode cX5_readRule 55 = .ok (.putfield 24, 3) := oq_181 (bq_in kqX5_readRule_1 23 rfl) (bq_in kqX5_readRule_1 24 rfl) (bq_in kqX5_readRule_1 25 rfl) rfl
theorem dX5_readRule_58 : decode cX5_readRule 58 = .ok (.iconst 1, 1) := oq_4 (bq_in kqX5_readRule_1 26 rfl)
theorem dX5_readRule_59 : decode cX5_readRule 59 = .ok (.ireturn, 1) := oq_172 (bq_in kqX5_readRule_1 27 rfl)
theorem dX5_readRule_60 : decode cX5_readRule 60 = .ok (.aload_n 0, 1) := oq_42 (bq_in kqX5_readRule_1 28 rfl)
theorem dX5_readRule_61 : decode cX5_readRule 61 = .ok (.ldc 100, 2) := oq_18 (bq_in kqX5_readRule_1 29 rfl) (bq_in kqX5_readRule_1 30 rfl)
theorem dX5_readRule_63 : decode cX5_readRule 63 = .ok (.invokevirtual 94, 3) := oq_182 (bq_in kqX5_readRule_1 31 rfl) (bq_in kqX5_readRule_1 32 rfl) (bq_in kqX5_readRule_1 33 rfl) rfl
theorem kqX5_readRule_2 : ((cX5_readRule.data.toList.drop 64).take 34).map UInt8.toNat = [0, 94, 153, 0, 11, 42, 16, 7, 181, 0, 24, 4, 172, 42, 18, 102, 182, 0, 94, 153, 0, 13, 42, 5, 181, 0, 24, 42, 182, 0, 104, 172, 42, 18] := by decide +kernel
theorem dX5_readRule_66 : decode cX5_readRule 66 = .ok (.ifCond .eq 11, 3) := oq_153 (bq_in kqX5_readRule_2 2 rfl) (bq_in kqX5_readRule_2 3 rfl) (bq_in kqX5_readRule_2 4 rfl) rfl
theorem dX5_readRule_69 : decode cX5_readRule 69 = .ok (.aload_n 0, 1) := oq_42 (bq_in kqX5_readRule_2 5 rfl)
theorem dX5_readRule_70 : decode cX5_readRule 70 = .ok (.bipush 7, 2) := oq_16 (bq_in kqX5_readRule_2 6 rfl) (bq_in kqX5_readRule_2 7 rfl) rfl
theorem dX5_readRule_72 : decode cX5_readRule 72 = .ok (.putfield 24, 3) := oq_181 (bq_in kqX5_readRule_2 8 rfl) (bq_in kqX5_readRule_2 9 rfl) (bq_in kqX5_readRule_2 10 rfl) rfl
theorem dX5_readRule_75 : decode cX5_readRule 75 = .ok (.iconst 1, 1) := oq_4 (bq_in kqX5_readRule_2 11 rfl)
theorem dX5_readRule_76 : decode cX5_readRule 76 = .ok (.ireturn, 1) := oq_172 (bq_in kqX5_readRule_2 12 rfl)
theorem dX5_readRule_77 : decode cX5_readRule 77 = .ok (.aload_n 0, 1) := oq_42 (bq_in kqX5_readRule_2 13 rfl)
theorem dX5_readRule_78 : decode cX5_readRule 78 = .ok (.ldc 102, 2) := oq_18 (bq_in kqX5_readRule_2 14 rfl) (bq_in kqX5_readRule_2 15 rfl)
theorem dX5_readRule_80 : decode cX5_readRule 80 = .ok (.invokevirtual 94, 3) := oq_182 (bq_in kqX5_readRule_2 16 rfl) (bq_in kqX5_readRule_2 17 rfl) (bq_in kqX5_readRule_2 18 rfl) rfl
theorem dX5_readRule_83 : decode cX5_readRule 83 = .ok (.ifCond .eq 13, 3) := oq_153 (bq_in kqX5_readRule_2 19 rfl) (bq_in kqX5_readRule_2 20 rfl) (bq_in kqX5_readRule_2 21 rfl) rfl
theorem dX5_readRule_86 : decode cX5_readRule 86 = .ok (.aload_n 0, 1) := oq_42 (bq_in kqX5_readRule_2 22 rfl)
theorem dX5_readRule_87 : decode cX5_readRule 87 = .ok (.iconst 2, 1) := oq_5 (bq_in kqX5_readRule_2 23 rfl)
theorem dX5_readRule_88 : decode cX5_readRule 88 = .ok (.putfield 24, 3) := oq_181 (bq_in kqX5_readRule_2 24 rfl) (bq_in kqX5_readRule_2 25 rfl) (bq_in kqX5_readRule_2 26 rfl) rfl
theorem dX5_readRule_91 : decode cX5_readRule 91 = .ok (.aload_n 0, 1) := oq_42 (bq_in kqX5_readRule_2 27 rfl)
theorem dX5_readRule_92 : decode cX5_readRule 92 = .ok (.invokevirtual 104, 3) := oq_182 (bq_in kqX5_readRule_2 28 rfl) (bq_in kqX5_readRule_2 29 rfl) (bq_in kqX5_readRule_2 30 rfl) rfl
theorem dX5_readRule_95 : decode cX5_readRule 95 = .ok (.ireturn, 1) := oq_172 (bq_in kqX5_readRule_2 31 rfl)
theorem kqX5_readRule_3 : ((cX5_readRule.data.toList.drop 96).take 34).map UInt8.toNat = [42, 18, 107, 182, 0, 74, 153, 0, 14, 42, 182, 0, 109, 153, 0, 7, 4, 167, 0, 4, 3, 172] := by decide +kernel
theorem dX5_readRule_96 : decode cX5_readRule 96 = .ok (.aload_n 0, 1) := oq_42 (bq_in kqX5_readRule_3 0 rfl)
theorem dX5_readRule_97 : decode cX5_readRule 97 = .ok (.ldc 107, 2) := oq_18 (bq_in kqX5_readRule_3 1 rfl) (bq_in kqX5_readRule_3 2 rfl)
theorem dX5_readRule_99 : decode cX5_readRule 99 = .ok (.invokevirtual 74, 3) := oq_182 (bq_in kqX5_readRule_3 3 rfl) (bq_in kqX5_readRule_3 4 rfl) (bq_in kqX5_readRule_3 5 rfl) rfl
theorem dX5_readRule_102 : decode cX5_readRule 102 = .ok (.ifCond .eq 14, 3) := oq_153 (bq_in kqX5_readRule_3 6 rfl) (bq_in kqX5_readRule_3 7 rfl) (bq_in kqX5_readRule_3 8 rfl) rfl
theorem dX5_readRule_105 : decode cX5_readRule 105 = .ok (.aload_n 0, 1) := oq_42 (bq_in kqX5_readRule_3 9 rfl)
theorem dX5_readRule_106 : decode cX5_readRule 106 = .ok (.invokevirtual 109, 3) := oq_182 (bq_in kqX5_readRule_3 10 rfl) (bq_in kqX5_readRule_3 11 rfl) (bq_in kqX5_readRule_3 12 rfl) rfl
theorem dX5_readRule_109 : decode cX5_readRule 109 = .ok (.ifCond .eq 7, 3) := oq_153 (bq_in kqX5_readRule_3 13 rfl) (bq_in kqX5_readRule_3 14 rfl) (bq_in kqX5_readRule_3 15 rfl) rfl
theorem dX5_readRule_112 : decode cX5_readRule 112 = .ok (.iconst 1, 1) := oq_4 (bq_in kqX5_readRule_3 16 rfl)
theorem dX5_readRule_113 : decode cX5_readRule 113 = .ok (.goto 4, 3) := oq_167 (bq_in kqX5_readRule_3 17 rfl) (bq_in kqX5_readRule_3 18 rfl) (bq_in kqX5_readRule_3 19 rfl) rfl
theorem dX5_readRule_116 : decode cX5_readRule 116 = .ok (.iconst 0, 1) := oq_3 (bq_in kqX5_readRule_3 20 rfl)
theorem dX5_readRule_117 : decode cX5_readRule 117 = .ok (.ireturn, 1) := oq_172 (bq_in kqX5_readRule_3 21 rfl)
theorem kqX5_readWeekdays_0 : ((cX5_readWeekdays.data.toList.drop 0).take 34).map UInt8.toNat = [3, 60, 27, 16, 8, 162, 0, 53, 42, 182, 0, 112, 2, 159, 0, 45, 4, 42, 182, 0, 112, 120, 61, 42, 180, 0, 30, 28, 126, 153, 0, 9, 42, 5] := by decide +kernel
theorem dX5_readWeekdays_0 : decode cX5_readWeekdays 0 = .ok (.iconst 0, 1) := oq_3 (bq_in kqX5_readWeekdays_0 0 rfl)
theorem dX5_readWeekdays_1 : decode cX5_readWeekdays 1 = .ok (.istore_n 1, 1) := oq_60 (bq_in kqX5_readWeekdays_0 1 rfl)
theorem dX5_readWeekdays_2 : decode cX5_readWeekdays 2 = .ok (.iload_n 1, 1) := oq_27 (bq_in kqX5_readWeekdays_0 2 rfl)
theorem dX5_readWeekdays_3 : decode cX5_readWeekdays 3 = .ok (.bipush 8, 2) := oq_16 (bq_in kqX5_readWeekdays_0 3 rfl) (bq_in kqX5_readWeekdays_0 4 rfl) rfl
theorem dX5_readWeekdays_5 : decode cX5_readWeekdays 5 = .ok (.if_icmp .ge 53, 3) := oq_162 (bq_in kqX5_readWeekdays_0 5 rfl) (bq_in kqX5_readWeekdays_0 6 rfl) (bq_in kqX5_readWeekdays_0 7 rfl) rfl
theorem dX5_readWeekdays_8 : decode cX5_readWeekdays 8 = .ok (.aload_n 0, 1) := oq_42 (bq_in kqX5_readWeekdays_0 8 rfl)
theorem dX5_readWeekdays_9 : decode cX5_readWeekdays 9 = .ok (.invokevirtual 112, 3) := oq_182 (bq_in kqX5_readWeekdays_0 9 rfl) (bq_in kqX5_readWeekdays_0 10 rfl) (bq_in kqX5_readWeekdays_0 11 rfl) rfl
theorem dX5_readWeekdays_12 : decode cX5_readWeekdays 12 = .ok (.iconst (-1), 1) := oq_2 (bq_in kqX5_readWeekdays_0 12 rfl)
theorem dX5_readWeekdays_13 : decode cX5_readWeekdays 13 = .ok (.if_icmp .eq 45, 3) := oq_159 (bq_in kqX5_readWeekdays_0 13 rfl) (bq_in kqX5_readWeekdays_0 14 rfl) (bq_in kqX5_readWeekdays_0 15 rfl) rfl
theorem dX5_readWeekdays_16 : decode cX5_readWeekdays 16 = .ok (.iconst 1, 1) := oq_4 (bq_in kqX5_readWeekdays_0 16 rfl)
theorem dX5_readWeekdays_17 : decode cX5_readWeekdays 17 = .ok (.aload_n 0, 1) := oq_42 (bq_in kqX5_readWeekdays_0 17 rfl)
theorem dX5_readWeekdays_18 : decode cX5_readWeekdays 18 = .ok (.invokevirtual 112, 3) := oq_182 (bq_in kqX5_readWeekdays_0 18 rfl) (bq_in kqX5_readWeekdays_0 19 rfl) (bq_in kqX5_readWeekdays_0 20 rfl) rfl
theorem dX5_readWeekdays_21 : decode cX5_readWeekdays 21 = .ok (.ishl, 1) := oq_120 (bq_in kqX5_readWeekdays_0 21 rfl)
theorem dX5_readWeekdays_22 : decode cX5_readWeekdays 22 = .ok (.istore_n 2, 1) := oq_61 (bq_in kqX5_readWeekdays_0 22 rfl)
theorem dX5_readWeekdays_23 : decode cX5_readWeekdays 23 = .ok (.aload_n 0, 1) := oq_42 (bq_in kqX5_readWeekdays_0 23 rfl)
theorem dX5_readWeekdays_24 : decode cX5_readWeekdays 24 = .ok (.getfield 30, 3) := oq_180 (bq_in kqX5_readWeekdays_0 24 rfl) (bq_in kqX5_readWeekdays_0 25 rfl) (bq_in kqX5_readWeekdays_0 26 rfl) rfl
theorem dX5_readWeekdays_27 : decode cX5_readWeekdays 27 = .ok (.iload_n 2, 1) := oq_28 (bq_in kqX5_readWeekdays_0 27 rfl)
theorem dX5_readWeekdays_28 : decode cX5_readWeekdays 28 = .ok (.iand, 1) := oq_126 (bq_in kqX5_readWeekdays_0 28 rfl)
theorem dX5_readWeekdays_29 : decode cX5_readWeekdays 29 = .ok (.ifCond .eq 9, 3) := oq_153 (bq_in kqX5_readWeekdays_0 29 rfl) (bq_in kqX5_readWeekdays_0 30 rfl) (bq_in kqX5_readWeekdays_0 31 rfl) rfl
theorem kqX5_readWeekdays_1 : ((cX5_readWeekdays.data.toList.drop 32).take 34).map UInt8.toNat = [42, 5, 182, 0, 68, 172, 42, 89, 180, 0, 30, 28, 128, 181, 0, 30, 42, 182, 0, 49, 132, 1, 1, 167, 255, 203, 42, 180, 0, 30, 154, 0, 11, 42] := by decide +kernel
theorem dX5_readWeekdays_32 : decode cX5_readWeekdays 32 = .ok (.aload_n 0, 1) := oq_42 (bq_in kqX5_readWeekdays_1 0 rfl)
theorem dX5_readWeekdays_33 : decode cX5_readWeekdays 33 = .ok (.iconst 2, 1) := oq_5 (bq_in kqX5_readWeekdays_1 1 rfl)
theorem dX5_readWeekdays_34 : decode cX5_readWeekdays 34 = .ok (.invokevirtual 68, 3) := oq_182 (bq_in kqX5_readWeekdays_1 2 rfl) (bq_in kqX5_readWeekdays_1 3 rfl) (bq_in kqX5_readWeekdays_1 4 rfl) rfl
theorem dX5_readWeekdays_37 : decode cX5_readWeekdays 37 = .ok (.ireturn, 1) := oq_172 (bq_in kqX5_readWeekdays_1 5 rfl)
theorem dX5_readWeekdays_38 : decode cX5_readWeekdays 38 = .ok (.aload_n 0, 1) := oq_42 (bq_in kqX5_readWeekdays_1 6 rfl)
theorem dX5_readWeekdays_39 : decode cX5_readWeekdays 39 = .ok (.dup, 1) := oq_89 (bq_in kqX5_readWeekdays_1 7 rfl)
theorem dX5_readWeekdays_40 : decode cX5_readWeekdays 40 = .ok (.getfield 30, 3) := oq_180 (bq_in kqX5_readWeekdays_1 8 rfl) (bq_in kqX5_readWeekdays_1 9 rfl) (bq_in kqX5_readWeekdays_1 10 rfl) rfl
theorem dX5_readWeekdays_43 : decode cX5_readWeekdays 43 = .ok (.iload_n 2, 1) := oq_28 (bq_in kqX5_readWeekdays_1 11 rfl)
theorem dX5_readWeekdays_44 : decode cX5_readWeekdays 44 = .ok (.ior, 1) := oq_128 (bq_in kqX5_readWeekdays_1 12 rfl)
theorem dX5_readWeekdays_45 : decode cX5_readWeekdays 45 = .ok (.putfield 30, 3) := oq_181 (bq_in kqX5_readWeekdays_1 13 rfl) (bq_in kqX5_readWeekdays_1 14 rfl) (bq_in kqX5_readWeekdays_1 15 rfl) rfl
theorem dX5_readWeekdays_48 : decode cX5_readWeekdays 48 = .ok (.aload_n 0, 1) := oq_42 (bq_in kqX5_readWeekdays_1 16 rfl)
theorem dX5_readWeekdays_49 : decode cX5_readWeekdays 49 = .ok (.invokevirtual 49, 3) := oq_182 (bq_in kqX5_readWeekdays_1 17 rfl) (bq_in kqX5_readWeekdays_1 18 rfl) (bq_in kqX5_readWeekdays_1 19 rfl) rfl
theorem dX5_readWeekdays_52 : decode cX5_readWeekdays 52 = .ok (.iinc 1 1, 3) := oq_132 (bq_in kqX5_readWeekdays_1 20 rfl) (bq_in kqX5_readWeekdays_1 21 rfl) (bq_in kqX5_readWeekdays_1 22 rfl) rfl
theorem dX5_readWeekdays_55 : decode cX5_readWeekdays 55 = .ok (.goto (-53), 3) := oq_167 (bq_in kqX5_readWeekdays_1 23 rfl) (bq_in kqX5_readWeekdays_1 24 rfl) (bq_in kqX5_readWeekdays_1 25 rfl) rfl
theorem dX5_readWeekdays_58 : decode cX5_readWeekdays 58 = .ok (.aload_n 0, 1) := oq_42 (bq_in kqX5_readWeekdays_1 26 rfl)
theorem dX5_readWeekdays_59 : decode cX5_readWeekdays 59 = .ok (.getfield 30, 3) := oq_180 (bq_in kqX5_readWeekdays_1 27 rfl) (bq_in kqX5_readWeekdays_1 28 rfl) (bq_in kqX5_readWeekdays_1 29 rfl) rfl
theorem dX5_readWeekdays_62 : decode cX5_readWeekdays 62 = .ok (.ifCond .ne 11, 3) := oq_154 (bq_in kqX5_readWeekdays_1 30 rfl) (bq_in kqX5_readWeekdays_1 31 rfl) (bq_in kqX5_readWeekdays_1 32 rfl) rfl
theorem kqX5_readWeekdays_2 : ((cX5_readWeekdays.data.toList.drop 64).take 34).map UInt8.toNat = [11, 42, 4, 182, 0, 68, 153, 0, 7, 4, 167, 0, 4, 3, 172] := by decide +kernel
theorem dX5_readWeekdays_65 : decode cX5_readWeekdays 65 = .ok (.aload_n 0, 1) := oq_42 (bq_in kqX5_readWeekdays_2 1 rfl)
theorem dX5_readWeekdays_66 : decode cX5_readWeekdays 66 = .ok (.iconst 1, 1) := oq_4 (bq_in kqX5_readWeekdays_2 2 rfl)
theorem dX5_readWeekdays_67 : decode cX5_readWeekdays 67 = .ok (.invokevirtual 68, 3) := oq_182 (bq_in kqX5_readWeekdays_2 3 rfl) (bq_in kqX5_readWeekdays_2 4 rfl) (bq_in kqX5_readWeekdays_2 5 rfl) rfl
theorem dX5_readWeekdays_70 : decode cX5_readWeekdays 70 = .ok (.ifCond .eq 7, 3) := oq_153 (bq_in kqX5_readWeekdays_2 6 rfl) (bq_in kqX5_readWeekdays_2 7 rfl) (bq_in kqX5_readWeekdays_2 8 rfl) rfl
theorem dX5_readWeekdays_73 : decode cX5_readWeekdays 73 = .ok (.iconst 1, 1) := oq_4 (bq_in kqX5_readWeekdays_2 9 rfl)
theorem dX5_readWeekdays_74 : decode cX5_readWeekdays 74 = .ok (.goto 4, 3) := oq_167 (bq_in kqX5_readWeekdays_2 10 rfl) (bq_in kqX5_readWeekdays_2 11 rfl) (bq_in kqX5_readWeekdays_2 12 rfl) rfl
theorem dX5_readWeekdays_77 : decode cX5_readWeekdays 77 = .ok (.iconst 0, 1) := oq_3 (bq_in kqX5_readWeekdays_2 13 rfl)
theorem dX5_readWeekdays_78 : decode cX5_readWeekdays 78 = .ok (.ireturn, 1) := oq_172 (bq_in kqX5_readWeekdays_2 14 rfl)
theorem kqX5_readMonths_0 : ((cX5_readMonths.data.toList.drop 0).take 34).map UInt8.toNat = [42, 18, 116, 182, 0, 94, 153, 0, 33, 42, 6, 181, 0, 24, 42, 42, 4, 16, 31, 182, 0, 78, 181, 0, 30, 42, 180, 0, 30, 2, 159, 0, 7, 4] := by decide +kernel
theorem dX5_readMonths_0 : decode cX5_readMonths 0 = .ok (.aload_n 0, 1) := oq_42 (bq_in kqX5_readMonths_0 0 rfl)
theorem dX5_readMonths_1 : decode cX5_readMonths 1 = .ok (.ldc 116, 2) := oq_18 (bq_in kqX5_readMonths_0 1 rfl) (bq_in kqX5_readMonths_0 2 rfl)
theorem dX5_readMonths_3 : decode cX5_readMonths 3 = .ok (.invokevirtual 94, 3) := oq_182 (bq_in kqX5_readMonths_0 3 rfl) (bq_in kqX5_readMonths_0 4 rfl) (bq_in kqX5_readMonths_0 5 rfl) rfl
theorem dX5_readMonths_6 : decode cX5_readMonths 6 = .ok (.ifCond .eq 33, 3) := oq_153 (bq_in kqX5_readMonths_0 6 rfl) (bq_in kqX5_readMonths_0 7 rfl) (bq_in kqX5_readMonths_0 8 rfl) rfl
theorem dX5_readMonths_9 : decode cX5_readMonths 9 = .ok (.aload_n 0, 1) := oq_42 (bq_in kqX5_readMonths_0 9 rfl)
theorem dX5_readMonths_10 : decode cX5_readMonths 10 = .ok (.iconst 3, 1) := oq_6 (bq_in kqX5_readMonths_0 10 rfl)
theorem dX5_readMonths_11 : decode cX5_readMonths 11 = .ok (.putfield 24, 3) := oq_181 (bq_in kqX5_readMonths_0 11 rfl) (bq_in kqX5_readMonths_0 12 rfl) (bq_in kqX5_readMonths_0 13 rfl) rfl
theorem dX5_readMonths_14 : decode cX5_readMonths 14 = .ok (.aload_n 0, 1) := oq_42 (bq_in kqX5_readMonths_0 14 rfl)
theorem dX5_readMonths_15 : decode cX5_readMonths 15 = .ok (.aload_n 0, 1) := oq_42 (bq_in kqX5_readMonths_0 15 rfl)
theorem dX5_readMonths_16 : decode cX5_readMonths 16 = .ok (.iconst 1, 1) := oq_4 (bq_in kqX5_readMonths_0 16 rfl)
theorem dX5_readMonths_17 : decode cX5_readMonths 17 = .ok (.bipush 31, 2) := oq_16 (bq_in kqX5_readMonths_0 17 rfl) (bq_in kqX5_readMonths_0 18 rfl) rfl
theorem dX5_readMonths_19 : decode cX5_readMonths 19 = .ok (.invokevirtual 78, 3) := oq_182 (bq_in kqX5_readMonths_0 19 rfl) (bq_in kqX5_readMonths_0 20 rfl) (bq_in kqX5_readMonths_0 21 rfl) rfl
theorem dX5_readMonths_22 : decode cX5_readMonths 22 = .ok (.putfield 30, 3) := oq_181 (bq_in kqX5_readMonths_0 22 rfl) (bq_in kqX5_readMonths_0 23 rfl) (bq_in kqX5_readMonths_0 24 rfl) rfl
theorem dX5_readMonths_25 : decode cX5_readMonths 25 = .ok (.aload_n 0, 1) := oq_42 (bq_in kqX5_readMonths_0 25 rfl)
theorem dX5_readMonths_26 : decode cX5_readMonths 26 = .ok (.getfield 30, 3) := oq_180 (bq_in kqX5_readMonths_0 26 rfl) (bq_in kqX5_readMonths_0 27 rfl) (bq_in kqX5_readMonths_0 28 rfl) rfl
theorem dX5_readMonths_29 : decode cX5_readMonths 29 = .ok (.iconst (-1), 1) := oq_2 (bq_in kqX5_readMonths_0 29 rfl)
theorem dX5_readMonths_30 : decode cX5_readMonths 30 = .ok (.if_icmp .eq 7, 3) := oq_159 (bq_in kqX5_readMonths_0 30 rfl) (bq_in kqX5_readMonths_0 31 rfl) (bq_in kqX5_readMonths_0 32 rfl) rfl
theorem kqX5_readMonths_1 : ((cX5_readMonths.data.toList.drop 32).take 34).map UInt8.toNat = [7, 4, 167, 0, 4, 3, 172, 42, 18, 118, 182, 0, 94, 153, 0, 33, 42, 7, 181, 0, 24, 42, 42, 4, 16, 28, 182, 0, 78, 181, 0, 30, 42, 180] := by decide +kernel
theorem dX5_readMonths_33 : decode cX5_readMonths 33 = .ok (.iconst 1, 1) := oq_4 (bq_in kqX5_readMonths_1 1 rfl)
theorem dX5_readMonths_34 : decode cX5_readMonths 34 = .ok (.goto 4, 3) := oq_167 (bq_in kqX5_readMonths_1 2 rfl) (bq_in kqX5_readMonths_1 3 rfl) (bq_in kqX5_readMonths_1 4 rfl) rfl
theorem dX5_readMonths_37 : decode cX5_readMonths 37 = .ok (.iconst 0, 1) := oq_3 (bq_in kqX5_readMonths_1 5 rfl)
theorem dX5_readMonths_38 : decode cX5_readMonths 38 = .ok (.ireturn, 1) := oq_172 (bq_in kqX5_readMonths_1 6 rfl)
theorem dX5_readMonths_39 : decode cX5_readMonths 39 = .ok (.aload_n 0, 1) := oq_42 (bq_in kqX5_readMonths_1 7 rfl)
theorem dX5_readMonths_40 : decode cX5_readMonths 40 = .ok (.ldc 118, 2) := oq_18 (bq_in kqX5_readMonths_1 8 rfl) (bq_in kqX5_readMonths_1 9 rfl)
theorem dX5_readMonths_42 : decode cX5_readMonths 42 = .ok (.invokevirtual 94, 3) := oq_182 (bq_in kqX5_readMonths_1 10 rfl) (bq_in kqX5_readMonths_1 11 rfl) (bq_in kqX5_readMonths_1 12 rfl) rfl
theorem dX5_readMonths_45 : decode cX5_readMonths 45 = .ok (.ifCond .eq 33, 3) := oq_153 (bq_in kqX5_readMonths_1 13 rfl) (bq_in kqX5_readMonths_1 14 rfl) (bq_in kqX5_readMonths_1 15 rfl) rfl
theorem dX5_readMonths_48 : decode cX5_readMonths 48 = .ok (.aload_n 0, 1) := oq_42 (bq_in kqX5_readMonths_1 16 rfl)
theorem dX5_readMonths_49 : decode cX5_readMonths 49 = .ok (.iconst 4, 1) := oq_7 (bq_in kqX5_readMonths_1 17 rfl)
theorem dX5_readMonths_50 : decode cX5_readMonths 50 = .ok (.putfield 24, 3) := oq_181 (bq_in kqX5_readMonths_1 18 rfl) (bq_in kqX5_readMonths_1 19 rfl) (bq_in kqX5_readMonths_1 20 rfl) rfl
theorem dX5_readMonths_53 : decode cX5_readMonths 53 = .ok (.aload_n 0, 1) := oq_42 (bq_in kqX5_readMonths_1 21 rfl)
theorem dX5_readMonths_54 : decode cX5_readMonths 54 = .ok (.aload_n 0, 1) := oq_42 (bq_in kqX5_readMonths_1 22 rfl)
theorem dX5_readMonths_55 : decode cX5_readMonths 55 = .ok (.iconst 1, 1) := oq_4 (bq_in kqX5_readMonths_1 23 rfl)
theorem dX5_readMonths_56 : decode cX5_readMonths 56 = .ok (.bipush 28, 2) := oq_16 (bq_in kqX5_readMonths_1 24 rfl) (bq_in kqX5_readMonths_1 25 rfl) rfl
theorem dX5_readMonths_58 : decode cX5_readMonths 58 = .ok (.invokevirtual 78, 3) := oq_182 (bq_in kqX5_readMonths_1 26 rfl) (bq_in kqX5_readMonths_1 27 rfl) (bq_in kqX5_readMonths_1 28 rfl) rfl
theorem dX5_readMonths_61 : decode cX5_readMonths 61 = .ok (.putfield 30, 3) := oq_181 (bq_in kqX5_readMonths_1 29 rfl) (bq_in kqX5_readMonths_1 30 rfl) (bq_in kqX5_readMonths_1 31 rfl) rfl
theorem kqX5_readMonths_2 : ((cX5_readMonths.data.toList.drop 64).take 34).map UInt8.toNat = [42, 180, 0, 30, 2, 159, 0, 7, 4, 167, 0, 4, 3, 172, 42, 18, 120, 182, 0, 94, 153, 0, 39, 42, 8, 181, 0, 24, 42, 42, 4, 8, 182, 0] := by decide +kernel
theorem dX5_readMonths_64 : decode cX5_readMonths 64 = .ok (.aload_n 0, 1) := oq_42 (bq_in kqX5_readMonths_2 0 rfl)
theorem dX5_readMonths_65 : decode cX5_readMonths 65 = .ok (.getfield 30, 3) := oq_180 (bq_in kqX5_readMonths_2 1 rfl) (bq_in kqX5_readMonths_2 2 rfl) (bq_in kqX5_readMonths_2 3 rfl) rfl
theorem dX5_readMonths_68 : decode cX5_readMonths 68 = .ok (.iconst (-1), 1) := oq_2 (bq_in kqX5_readMonths_2 4 rfl)
theorem dX5_readMonths_69 : decode cX5_readMonths 69 = .ok (.if_icmp .eq 7, 3) := oq_159 (bq_in kqX5_readMonths_2 5 rfl) (bq_in kqX5_readMonths_2 6 rfl) (bq_in kqX5_readMonths_2 7 rfl) rfl
theorem dX5_readMonths_72 : decode cX5_readMonths 72 = .ok (.iconst 1, 1) := oq_4 (bq_in kqX5_readMonths_2 8 rfl)
theorem dX5_readMonths_73 : decode cX5_readMonths 73 = .ok (.goto 4, 3) := oq_167 (bq_in kqX5_readMonths_2 9 rfl) (bq_in kqX5_readMonths_2 10 rfl) (bq_in kqX5_readMonths_2 11 rfl) rfl
theorem dX5_readMonths_76 : decode cX5_readMonths 76 = .ok (.iconst 0, 1) := oq_3 (bq_in kqX5_readMonths_2 12 rfl)
theorem dX5_readMonths_77 : decode cX5_readMonths 77 = .ok (.ireturn, 1) := oq_172 (bq_in kqX5_readMonths_2 13 rfl)
theorem dX5_readMonths_78 : decode cX5_readMonths 78 = .ok (.aload_n 0, 1) := oq_42 (bq_in kqX5_readMonths_2 14 rfl)
theorem dX5_readMonths_79 : decode cX5_readMonths 79 = .ok (.ldc 120, 2) := oq_18 (bq_in kqX5_readMonths_2 15 rfl) (bq_in kqX5_readMonths_2 16 rfl)
theorem dX5_readMonths_81 : decode cX5_readMonths 81 = .ok (.invokevirtual 94, 3) := oq_182 (bq_in kqX5_readMonths_2 17 rfl) (bq_in kqX5_readMonths_2 18 rfl) (bq_in kqX5_readMonths_2 19 rfl) rfl
theorem dX5_readMonths_84 : decode cX5_readMonths 84 = .ok (.ifCond .eq 39, 3) := oq_153 (bq_in kqX5_readMonths_2 20 rfl) (bq_in kqX5_readMonths_2 21 rfl) (bq_in kqX5_readMonths_2 22 rfl) rfl
theorem dX5_readMonths_87 : decode cX5_readMonths 87 = .ok (.aload_n 0, 1) := oq_42 (bq_in kqX5_readMonths_2 23 rfl)
theorem dX5_readMonths_88 : decode cX5_readMonths 88 = .ok (.iconst 5, 1) := oq_8 (bq_in kqX5_readMonths_2 24 rfl)
theorem dX5_readMonths_89 : decode cX5_readMonths 89 = .ok (.putfield 24, 3) := oq_181 (bq_in kqX5_readMonths_2 25 rfl) (bq_in kqX5_readMonths_2 26 rfl) (bq_in kqX5_readMonths_2 27 rfl) rfl
theorem dX5_readMonths_92 : decode cX5_readMonths 92 = .ok (.aload_n 0, 1) := oq_42 (bq_in kqX5_readMonths_2 28 rfl)
theorem dX5_readMonths_93 : decode cX5_readMonths 93 = .ok (.aload_n 0, 1) := oq_42 (bq_in kqX5_readMonths_2 29 rfl)
theorem dX5_readMonths_94 : decode cX5_readMonths 94 = .ok (.iconst 1, 1) := oq_4 (bq_in kqX5_readMonths_2 30 rfl)
theorem dX5_readMonths_95 : decode cX5_readMonths 95 = .ok (.iconst 5, 1) := oq_8 (bq_in kqX5_readMonths_2 31 rfl)
theorem kqX5_readMonths_3 : ((cX5_readMonths.data.toList.drop 96).take 34).map UInt8.toNat = [182, 0, 78, 181, 0, 30, 42, 180, 0, 30, 2, 159, 0, 14, 42, 182, 0, 122, 153, 0, 7, 4, 167, 0, 4, 3, 172, 42, 16, 6, 181, 0, 24, 42] := by decide +kernel
theorem dX5_readMonths_96 : decode cX5_readMonths 96 = .ok (.invokevirtual 78, 3) := oq_182 (bq_in kqX5_readMonths_3 0 rfl) (bq_in kqX5_readMonths_3 1 rfl) (bq_in kqX5_readMonths_3 2 rfl) rfl
theorem dX5_readMonths_99 : decode cX5_readMonths 99 = .ok (.putfield 30, 3) := oq_181 (bq_in kqX5_readMonths_3 3 rfl) (bq_in kqX5_readMonths_3 4 rfl) (bq_in kqX5_readMonths_3 5 rfl) rfl
theorem dX5_readMonths_102 : decode cX5_readMonths 102 = .ok (.aload_n 0, 1) := oq_42 (bq_in kqX5_readMonths_3 6 rfl)
theorem dX5_readMonths_103 : decode cX5_readMonths 103 = .ok (.getfield 30, 3) := oq_180 (bq_in kqX5_readMonths_3 7 rfl) (bq_in kqX5_readMonths_3 8 rfl) (bq_in kqX5_readMonths_3 9 rfl) rfl
theorem dX5_readMonths_106 : decode cX5_readMonths 106 = .ok (.iconst (-1), 1) := oq_2 (bq_in kqX5_readMonths_3 10 rfl)
theorem dX5_readMonths_107 : decode cX5_readMonths 107 = .ok (.if_icmp .eq 14, 3) := oq_159 (bq_in kqX5_readMonths_3 11 rfl) (bq_in kqX5_readMonths_3 12 rfl) (bq_in kqX5_readMonths_3 13 rfl) rfl
theorem dX5_readMonths_110 : decode cX5_readMonths 110 = .ok (.aload_n 0, 1) := oq_42 (bq_in kqX5_readMonths_3 14 rfl)
theorem dX5_readMonths_111 : decode cX5_readMonths 111 = .ok (.invokevirtual 122, 3) := oq_182 (bq_in kqX5_readMonths_3 15 rfl) (bq_in kqX5_readMonths_3 16 rfl) (bq_in kqX5_readMonths_3 17 rfl) rfl
theorem dX5_readMonths_114 : decode cX5_readMonths 114 = .ok (.ifCond .eq 7, 3) := oq_153 (bq_in kqX5_readMonths_3 18 rfl) (bq_in kqX5_readMonths_3 19 rfl) (bq_in kqX5_readMonths_3 20 rfl) rfl
theorem dX5_readMonths_117 : decode cX5_readMonths 117 = .ok (.iconst 1, 1) := oq_4 (bq_in kqX5_readMonths_3 21 rfl)
theorem dX5_readMonths_118 : decode cX5_readMonths 118 = .ok (.goto 4, 3) := oq_167 (bq_in kqX5_readMonths_3 22 rfl) (bq_in kqX5_readMonths_3 23 rfl) (bq_in kqX5_readMonths_3 24 rfl) rfl
theorem dX5_readMonths_121 : decode cX5_readMonths 121 = .ok (.iconst 0, 1) := oq_3 (bq_in kqX5_readMonths_3 25 rfl)
theorem dX5_readMonths_122 : decode cX5_readMonths 122 = .ok (.ireturn, 1) := oq_172 (bq_in kqX5_readMonths_3 26 rfl)
theorem dX5_readMonths_123 : decode cX5_readMonths 123 = .ok (.aload_n 0, 1) := oq_42 (bq_in kqX5_readMonths_3 27 rfl)
theorem dX5_readMonths_124 : decode cX5_readMonths 124 = .ok (.bipush 6, 2) := oq_16 (bq_in kqX5_readMonths_3 28 rfl) (bq_in kqX5_readMonths_3 29 rfl) rfl
theorem dX5_readMonths_126 : decode cX5_readMonths 126 = .ok (.putfield 24, 3) := oq_181 (bq_in kqX5_readMonths_3 30 rfl) (bq_in kqX5_readMonths_3 31 rfl) (bq_in kqX5_readMonths_3 32 rfl) rfl
theorem kqX5_readMonths_4 : ((cX5_readMonths.data.toList.drop 128).take 34).map UInt8.toNat = [24, 42, 18, 125, 182, 0, 74, 153, 0, 14, 42, 182, 0, 122, 153, 0, 7, 4, 167, 0, 4, 3, 172] := by decide +kernel
theorem dX5_readMonths_129 : decode cX5_readMonths 129 = .ok (.aload_n 0, 1) := oq_42 (bq_in kqX5_readMonths_4 1 rfl)
theorem dX5_readMonths_130 : decode cX5_readMonths 130 = .ok (.ldc 125, 2) := oq_18 (bq_in kqX5_readMonths_4 2 rfl) (bq_in kqX5_readMonths_4 3 rfl)
theorem dX5_readMonths_132 : decode cX5_readMonths 132 = .ok (.invokevirtual 74, 3) := oq_182 (bq_in kqX5_readMonths_4 4 rfl) (bq_in kqX5_readMonths_4 5 rfl) (bq_in kqX5_readMonths_4 6 rfl) rfl
theorem dX5_readMonths_135 : decode cX5_readMonths 135 = .ok (.ifCond .eq 14, 3) := oq_153 (bq_in kqX5_readMonths_4 7 rfl) (bq_in kqX5_readMonths_4 8 rfl) (bq_in kqX5_readMonths_4 9 rfl) rfl
theorem dX5_readMonths_138 : decode cX5_readMonths 138 = .ok (.aload_n 0, 1) := oq_42 (bq_in kqX5_readMonths_4 10 rfl)
theorem dX5_readMonths_139 : decode cX5_readMonths 139 = .ok (.invokevirtual 122, 3) := oq_182 (bq_in kqX5_readMonths_4 11 rfl) (bq_in kqX5_readMonths_4 12 rfl) (bq_in kqX5_readMonths_4 13 rfl) rfl
theorem dX5_readMonths_142 : decode cX5_readMonths 142 = .ok (.ifCond .eq 7, 3) := oq_153 (bq_in kqX5_readMonths_4 14 rfl) (bq_in kqX5_readMonths_4 15 rfl) (bq_in kqX5_readMonths_4 16 rfl) rfl
theorem dX5_readMonths_145 : decode cX5_readMonths 145 = .ok (.iconst 1, 1) := oq_4 (bq_in kqX5_readMonths_4 17 rfl)
theorem dX5_readMonths_146 : decode cX5_readMonths 146 = .ok (.goto 4, 3) := oq_167 (bq_in kqX5_readMonths_4 18 rfl) (bq_in kqX5_readMonths_4 19 rfl) (bq_in kqX5_readMonths_4 20 rfl) rfl
theorem dX5_readMonths_149 : decode cX5_readMonths 149 = .ok (.iconst 0, 1) := oq_3 (bq_in kqX5_readMonths_4 21 rfl)
theorem dX5_readMonths_150 : decode cX5_readMonths 150 = .ok (.ireturn, 1) := oq_172 (bq_in kqX5_readMonths_4 22 rfl)
theorem kqX5_readWeekday_0 : ((cX5_readWeekday.data.toList.drop 0).take 34).map UInt8.toNat = [42, 42, 182, 0, 112, 181, 0, 33, 42, 180, 0, 33, 2, 160, 0, 9, 42, 4, 182, 0, 68, 172, 42, 182, 0, 49, 4, 172] := by decide +kernel
theorem dX5_readWeekday_0 : decode cX5_readWeekday 0 = .ok (.aload_n 0, 1) := oq_42 (bq_in kqX5_readWeekday_0 0 rfl)
theorem dX5_readWeekday_1 : decode cX5_readWeekday 1 = .ok (.aload_n 0, 1) := oq_42 (bq_in kqX5_readWeekday_0 1 rfl)
theorem dX5_readWeekday_2 : decode cX5_readWeekday 2 = .ok (.invokevirtual 112, 3) := oq_182 (bq_in kqX5_readWeekday_0 2 rfl) (bq_in kqX5_readWeekday_0 3 rfl) (bq_in kqX5_readWeekday_0 4 rfl) rfl
theorem dX5_readWeekday_5 : decode cX5_readWeekday 5 = .ok (.putfield 33, 3) := oq_181 (bq_in kqX5_readWeekday_0 5 rfl) (bq_in kqX5_readWeekday_0 6 rfl) (bq_in kqX5_readWeekday_0 7 rfl) rfl
theorem dX5_readWeekday_8 : decode cX5_readWeekday 8 = .ok (.aload_n 0, 1) := oq_42 (bq_in kqX5_readWeekday_0 8 rfl)
theorem dX5_readWeekday_9 : decode cX5_readWeekday 9 = .ok (.getfield 33, 3) := oq_180 (bq_in kqX5_readWeekday_0 9 rfl) (bq_in kqX5_readWeekday_0 10 rfl) (bq_in kqX5_readWeekday_0 11 rfl) rfl
theorem dX5_readWeekday_12 : decode cX5_readWeekday 12 = .ok (.iconst (-1), 1) := oq_2 (bq_in kqX5_readWeekday_0 12 rfl)
theorem dX5_readWeekday_13 : decode cX5_readWeekday 13 = .ok (.if_icmp .ne 9, 3) := oq_160 (bq_in kqX5_readWeekday_0 13 rfl) (bq_in kqX5_readWeekday_0 14 rfl) (bq_in kqX5_readWeekday_0 15 rfl) rfl
theorem dX5_readWeekday_16 : decode cX5_readWeekday 16 = .ok (.aload_n 0, 1) := oq_42 (bq_in kqX5_readWeekday_0 16 rfl)
theorem dX5_readWeekday_17 : decode cX5_readWeekday 17 = .ok (.iconst 1, 1) := oq_4 (bq_in kqX5_readWeekday_0 17 rfl)
theorem dX5_readWeekday_18 : decode cX5_readWeekday 18 = .ok (.invokevirtual 68, 3) := oq_182 (bq_in kqX5_readWeekday_0 18 rfl) (bq_in kqX5_readWeekday_0 19 rfl) (bq_in kqX5_readWeekday_0 20 rfl) rfl
theorem dX5_readWeekday_21 : decode cX5_readWeekday 21 = .ok (.ireturn, 1) := oq_172 (bq_in kqX5_readWeekday_0 21 rfl)
theorem dX5_readWeekday_22 : decode cX5_readWeekday 22 = .ok (.aload_n 0, 1) := oq_42 (bq_in kqX5_readWeekday_0 22 rfl)
theorem dX5_readWeekday_23 : decode cX5_readWeekday 23 = .ok (.invokevirtual 49, 3) := oq_182 (bq_in kqX5_readWeekday_0 23 rfl) (bq_in kqX5_readWeekday_0 24 rfl) (bq_in kqX5_readWeekday_0 25 rfl) rfl
theorem dX5_readWeekday_26 : decode cX5_readWeekday 26 = .ok (.iconst 1, 1) := oq_4 (bq_in kqX5_readWeekday_0 26 rfl)
theorem dX5_readWeekday_27 : decode cX5_readWeekday 27 = .ok (.ireturn, 1) := oq_172 (bq_in kqX5_readWeekday_0 27 rfl)
theorem kqX5_readSpan_0 : ((cX5_readSpan.data.toList.drop 0).take 34).map UInt8.toNat = [42, 18, 127, 182, 0, 74, 154, 0, 5, 3, 172, 42, 182, 0, 129, 61, 28, 2, 160, 0, 5, 3, 172, 43, 42, 28, 182, 0, 132, 182, 0, 136, 42, 18] := by decide +kernel
theorem dX5_readSpan_0 : decode cX5_readSpan 0 = .ok (.aload_n 0, 1) := oq_42 (bq_in kqX5_readSpan_0 0 rfl)
theorem dX5_readSpan_1 : decode cX5_readSpan 1 = .ok (.ldc 127, 2) := oq_18 (bq_in kqX5_readSpan_0 1 rfl) (bq_in kqX5_readSpan_0 2 rfl)
theorem dX5_readSpan_3 : decode cX5_readSpan 3 = .ok (.invokevirtual 74, 3) := oq_182 (bq_in kqX5_readSpan_0 3 rfl) (bq_in kqX5_readSpan_0 4 rfl) (bq_in kqX5_readSpan_0 5 rfl) rfl
theorem dX5_readSpan_6 : decode cX5_readSpan 6 = .ok (.ifCond .ne 5, 3) := oq_154 (bq_in kqX5_readSpan_0 6 rfl) (bq_in kqX5_readSpan_0 7 rfl) (bq_in kqX5_readSpan_0 8 rfl) rfl
theorem dX5_readSpan_9 : decode cX5_readSpan 9 = .ok (.iconst 0, 1) := oq_3 (bq_in kqX5_readSpan_0 9 rfl)
theorem dX5_readSpan_10 : decode cX5_readSpan 10 = .ok (.ireturn, 1) := oq_172 (bq_in kqX5_readSpan_0 10 rfl)
theorem dX5_readSpan_11 : decode cX5_readSpan 11 = .ok (.aload_n 0, 1) := oq_42 (bq_in kqX5_readSpan_0 11 rfl)
theorem dX5_readSpan_12 : decode cX5_readSpan 12 = .ok (.invokevirtual 129, 3) := oq_182 (bq_in kqX5_readSpan_0 12 rfl) (bq_in kqX5_readSpan_0 13 rfl) (bq_in kqX5_readSpan_0 14 rfl) rfl
theorem dX5_readSpan_15 : decode cX5_readSpan 15 = .ok (.istore_n 2, 1) := oq_61 (bq_in kqX5_readSpan_0 15 rfl)
theorem dX5_readSpan_16 : decode cX5_readSpan 16 = .ok (.iload_n 2, 1) := oq_28 (bq_in kqX5_readSpan_0 16 rfl)
theorem dX5_readSpan_17 : decode cX5_readSpan 17 = .ok (.iconst (-1), 1) := oq_2 (bq_in kqX5_readSpan_0 17 rfl)
theorem dX5_readSpan_18 : decode cX5_readSpan 18 = .ok (.if_icmp .ne 5, 3) := oq_160 (bq_in kqX5_readSpan_0 18 rfl) (bq_in kqX5_readSpan_0 19 rfl) (bq_in kqX5_readSpan_0 20 rfl) rfl
theorem dX5_readSpan_21 : decode cX5_readSpan 21 = .ok (.iconst 0, 1) := oq_3 (bq_in kqX5_readSpan_0 21 rfl)
theorem dX5_readSpan_22 : decode cX5_readSpan 22 = .ok (.ireturn, 1) := oq_172 (bq_in kqX5_readSpan_0 22 rfl)
theorem dX5_readSpan_23 : decode cX5_readSpan 23 = .ok (.aload_n 1, 1) := oq_43 (bq_in kqX5_readSpan_0 23 rfl)
theorem dX5_readSpan_24 : decode cX5_readSpan 24 = .ok (.aload_n 0, 1) := oq_42 (bq_in kqX5_readSpan_0 24 rfl)
theorem dX5_readSpan_25 : decode cX5_readSpan 25 = .ok (.iload_n 2, 1) := oq_28 (bq_in kqX5_readSpan_0 25 rfl)
theorem dX5_readSpan_26 : decode cX5_readSpan 26 = .ok (.invokevirtual 132, 3) := oq_182 (bq_in kqX5_readSpan_0 26 rfl) (bq_in kqX5_readSpan_0 27 rfl) (bq_in kqX5_readSpan_0 28 rfl) rfl
theorem dX5_readSpan_29 : decode cX5_readSpan 29 = .ok (.invokevirtual 136, 3) := oq_182 (bq_in kqX5_readSpan_0 29 rfl) (bq_in kqX5_readSpan_0 30 rfl) (bq_in kqX5_readSpan_0 31 rfl) rfl
theorem kqX5_readSpan_1 : ((cX5_readSpan.data.toList.drop 32).take 34).map UInt8.toNat = [42, 18, 140, 182, 0, 94, 153, 0, 29, 43, 42, 4, 17, 3, 231, 182, 0, 78, 181, 0, 142, 43, 180, 0, 142, 2, 159, 0, 7, 4, 167, 0, 4, 3] := by decide +kernel
theorem dX5_readSpan_32 : decode cX5_readSpan 32 = .ok (.aload_n 0, 1) := oq_42 (bq_in kqX5_readSpan_1 0 rfl)
theorem dX5_readSpan_33 : decode cX5_readSpan 33 = .ok (.ldc 140, 2) := oq_18 (bq_in kqX5_readSpan_1 1 rfl) (bq_in kqX5_readSpan_1 2 rfl)
theorem dX5_readSpan_35 : decode cX5_readSpan 35 = .ok (.invokevirtual 94, 3) := oq_182 (bq_in kqX5_readSpan_1 3 rfl) (bq_in kqX5_readSpan_1 4 rfl) (bq_in kqX5_readSpan_1 5 rfl) rfl
theorem dX5_readSpan_38 : decode cX5_readSpan 38 = .ok (.ifCond .eq 29, 3) := oq_153 (bq_in kqX5_readSpan_1 6 rfl) (bq_in kqX5_readSpan_1 7 rfl) (bq_in kqX5_readSpan_1 8 rfl) rfl
theorem dX5_readSpan_41 : decode cX5_readSpan 41 = .ok (.aload_n 1, 1) := oq_43 (bq_in kqX5_readSpan_1 9 rfl)
theorem dX5_readSpan_42 : decode cX5_readSpan 42 = .ok (.aload_n 0, 1) := oq_42 (bq_in kqX5_readSpan_1 10 rfl)
theorem dX5_readSpan_43 : decode cX5_readSpan 43 = .ok (.iconst 1, 1) := oq_4 (bq_in kqX5_readSpan_1 11 rfl)
theorem dX5_readSpan_44 : decode cX5_readSpan 44 = .ok (.sipush 999, 3) := oq_17 (bq_in kqX5_readSpan_1 12 rfl) (bq_in kqX5_readSpan_1 13 rfl) (bq_in kqX5_readSpan_1 14 rfl) rfl
theorem dX5_readSpan_47 : decode cX5_readSpan 47 = .ok (.invokevirtual 78, 3) := oq_182 (bq_in kqX5_readSpan_1 15 rfl) (bq_in kqX5_readSpan_1 16 rfl) (bq_in kqX5_readSpan_1 17 rfl) rfl
theorem dX5_readSpan_50 : decode cX5_readSpan 50 = .ok (.putfield 142, 3) := oq_181 (bq_in kqX5_readSpan_1 18 rfl) (bq_in kqX5_readSpan_1 19 rfl) (bq_in kqX5_readSpan_1 20 rfl) rfl
theorem dX5_readSpan_53 : decode cX5_readSpan 53 = .ok (.aload_n 1, 1) := oq_43 (bq_in kqX5_readSpan_1 21 rfl)
theorem dX5_readSpan_54 : decode cX5_readSpan 54 = .ok (.getfield 142, 3) := oq_180 (bq_in kqX5_readSpan_1 22 rfl) (bq_in kqX5_readSpan_1 23 rfl) (bq_in kqX5_readSpan_1 24 rfl) rfl
theorem dX5_readSpan_57 : decode cX5_readSpan 57 = .ok (.iconst (-1), 1) := oq_2 (bq_in kqX5_readSpan_1 25 rfl)
theorem dX5_readSpan_58 : decode cX5_readSpan 58 = .ok (.if_icmp .eq 7, 3) := oq_159 (bq_in kqX5_readSpan_1 26 rfl) (bq_in kqX5_readSpan_1 27 rfl) (bq_in kqX5_readSpan_1 28 rfl) rfl
theorem dX5_readSpan_61 : decode cX5_readSpan 61 = .ok (.iconst 1, 1) := oq_4 (bq_in kqX5_readSpan_1 29 rfl)
theorem dX5_readSpan_62 : decode cX5_readSpan 62 = .ok (.goto 4, 3) := oq_167 (bq_in kqX5_readSpan_1 30 rfl) (bq_in kqX5_readSpan_1 31 rfl) (bq_in kqX5_readSpan_1 32 rfl) rfl
theorem kqX5_readSpan_2 : ((cX5_readSpan.data.toList.drop 64).take 34).map UInt8.toNat = [4, 3, 172, 42, 18, 144, 182, 0, 94, 153, 0, 12, 42, 43, 28, 182, 0, 146, 153, 0, 7, 4, 167, 0, 4, 3, 172] := by decide +kernel
theorem dX5_readSpan_65 : decode cX5_readSpan 65 = .ok (.iconst 0, 1) := oq_3 (bq_in kqX5_readSpan_2 1 rfl)
theorem dX5_readSpan_66 : decode cX5_readSpan 66 = .ok (.ireturn, 1) := oq_172 (bq_in kqX5_readSpan_2 2 rfl)
theorem dX5_readSpan_67 : decode cX5_readSpan 67 = .ok (.aload_n 0, 1) := oq_42 (bq_in kqX5_readSpan_2 3 rfl)
theorem dX5_readSpan_68 : decode cX5_readSpan 68 = .ok (.ldc 144, 2) := oq_18 (bq_in kqX5_readSpan_2 4 rfl) (bq_in kqX5_readSpan_2 5 rfl)
theorem dX5_readSpan_70 : decode cX5_readSpan 70 = .ok (.invokevirtual 94, 3) := oq_182 (bq_in kqX5_readSpan_2 6 rfl) (bq_in kqX5_readSpan_2 7 rfl) (bq_in kqX5_readSpan_2 8 rfl) rfl
theorem dX5_readSpan_73 : decode cX5_readSpan 73 = .ok (.ifCond .eq 12, 3) := oq_153 (bq_in kqX5_readSpan_2 9 rfl) (bq_in kqX5_readSpan_2 10 rfl) (bq_in kqX5_readSpan_2 11 rfl) rfl
theorem dX5_readSpan_76 : decode cX5_readSpan 76 = .ok (.aload_n 0, 1) := oq_42 (bq_in kqX5_readSpan_2 12 rfl)
theorem dX5_readSpan_77 : decode cX5_readSpan 77 = .ok (.aload_n 1, 1) := oq_43 (bq_in kqX5_readSpan_2 13 rfl)
theorem dX5_readSpan_78 : decode cX5_readSpan 78 = .ok (.iload_n 2, 1) := oq_28 (bq_in kqX5_readSpan_2 14 rfl)
theorem dX5_readSpan_79 : decode cX5_readSpan 79 = .ok (.invokevirtual 146, 3) := oq_182 (bq_in kqX5_readSpan_2 15 rfl) (bq_in kqX5_readSpan_2 16 rfl) (bq_in kqX5_readSpan_2 17 rfl) rfl
theorem dX5_readSpan_82 : decode cX5_readSpan 82 = .ok (.ifCond .eq 7, 3) := oq_153 (bq_in kqX5_readSpan_2 18 rfl) (bq_in kqX5_readSpan_2 19 rfl) (bq_in kqX5_readSpan_2 20 rfl) rfl
theorem dX5_readSpan_85 : decode cX5_readSpan 85 = .ok (.iconst 1, 1) := oq_4 (bq_in kqX5_readSpan_2 21 rfl)
theorem dX5_readSpan_86 : decode cX5_readSpan 86 = .ok (.goto 4, 3) := oq_167 (bq_in kqX5_readSpan_2 22 rfl) (bq_in kqX5_readSpan_2 23 rfl) (bq_in kqX5_readSpan_2 24 rfl) rfl
theorem dX5_readSpan_89 : decode cX5_readSpan 89 = .ok (.iconst 0, 1) := oq_3 (bq_in kqX5_readSpan_2 25 rfl)
theorem dX5_readSpan_90 : decode cX5_readSpan 90 = .ok (.ireturn, 1) := oq_172 (bq_in kqX5_readSpan_2 26 rfl)
theorem kqX5_readUntil_0 : ((cX5_readUntil.data.toList.drop 0).take 34).map UInt8.toNat = [42, 180, 0, 15, 62, 43, 42, 182, 0, 129, 181, 0, 150, 43, 180, 0, 150, 2, 160, 0, 5, 3, 172, 43, 180, 0, 150, 28, 162, 0, 15, 42, 16, 8] := by decide +kernel
theorem dX5_readUntil_0 : decode cX5_readUntil 0 = .ok (.aload_n 0, 1) := oq_42 (bq_in kqX5_readUntil_0 0 rfl)
theorem dX5_readUntil_1 : decode cX5_readUntil 1 = .ok (.getfield 15, 3) := oq_180 (bq_in kqX5_readUntil_0 1 rfl) (bq_in kqX5_readUntil_0 2 rfl) (bq_in kqX5_readUntil_0 3 rfl) rfl
theorem dX5_readUntil_4 : decode cX5_readUntil 4 = .ok (.istore_n 3, 1) := oq_62 (bq_in kqX5_readUntil_0 4 rfl)
theorem dX5_readUntil_5 : decode cX5_readUntil 5 = .ok (.aload_n 1, 1) := oq_43 (bq_in kqX5_readUntil_0 5 rfl)
theorem dX5_readUntil_6 : decode cX5_readUntil 6 = .ok (.aload_n 0, 1) := oq_42 (bq_in kqX5_readUntil_0 6 rfl)
theorem dX5_readUntil_7 : decode cX5_readUntil 7 = .ok (.invokevirtual 129, 3) := oq_182 (bq_in kqX5_readUntil_0 7 rfl) (bq_in kqX5_readUntil_0 8 rfl) (bq_in kqX5_readUntil_0 9 rfl) rfl
theorem dX5_readUntil_10 : decode cX5_readUntil 10 = .ok (.putfield 150, 3) := oq_181 (bq_in kqX5_readUntil_0 10 rfl) (bq_in kqX5_readUntil_0 11 rfl) (bq_in kqX5_readUntil_0 12 rfl) rfl
theorem dX5_readUntil_13 : decode cX5_readUntil 13 = .ok (.aload_n 1, 1) := oq_43 (bq_in kqX5_readUntil_0 13 rfl)
theorem dX5_readUntil_14 : decode cX5_readUntil 14 = .ok (.getfield 150, 3) := oq_180 (bq_in kqX5_readUntil_0 14 rfl) (bq_in kqX5_readUntil_0 15 rfl) (bq_in kqX5_readUntil_0 16 rfl) rfl
theorem dX5_readUntil_17 : decode cX5_readUntil 17 = .ok (.iconst (-1), 1) := oq_2 (bq_in kqX5_readUntil_0 17 rfl)
theorem dX5_readUntil_18 : decode cX5_readUntil 18 = .ok (.if_icmp .ne 5, 3) := oq_160 (bq_in kqX5_readUntil_0 18 rfl) (bq_in kqX5_readUntil_0 19 rfl) (bq_in kqX5_readUntil_0 20 rfl) rfl
theorem dX5_readUntil_21 : decode cX5_readUntil 21 = .ok (.iconst 0, 1) := oq_3 (bq_in kqX5_readUntil_0 21 rfl)
theorem dX5_readUntil_22 : decode cX5_readUntil 22 = .ok (.ireturn, 1) := oq_172 (bq_in kqX5_readUntil_0 22 rfl)
theorem dX5_readUntil_23 : decode cX5_readUntil 23 = .ok (.aload_n 1, 1) := oq_43 (bq_in kqX5_readUntil_0 23 rfl)
theorem dX5_readUntil_24 : decode cX5_readUntil 24 = .ok (.getfield 150, 3) := oq_180 (bq_in kqX5_readUntil_0 24 rfl) (bq_in kqX5_readUntil_0 25 rfl) (bq_in kqX5_readUntil_0 26 rfl) rfl
theorem dX5_readUntil_27 : decode cX5_readUntil 27 = .ok (.iload_n 2, 1) := oq_28 (bq_in kqX5_readUntil_0 27 rfl)
theorem dX5_readUntil_28 : decode cX5_readUntil 28 = .ok (.if_icmp .ge 15, 3) := oq_162 (bq_in kqX5_readUntil_0 28 rfl) (bq_in kqX5_readUntil_0 29 rfl) (bq_in kqX5_readUntil_0 30 rfl) rfl
theorem dX5_readUntil_31 : decode cX5_readUntil 31 = .ok (.aload_n 0, 1) := oq_42 (bq_in kqX5_readUntil_0 31 rfl)
theorem kqX5_readUntil_1 : ((cX5_readUntil.data.toList.drop 32).take 34).map UInt8.toNat = [16, 8, 29, 104, 6, 96, 181, 0, 21, 3, 172, 4, 172] := by decide +kernel
theorem dX5_readUntil_32 : decode cX5_readUntil 32 = .ok (.bipush 8, 2) := oq_16 (bq_in kqX5_readUntil_1 0 rfl) (bq_in kqX5_readUntil_1 1 rfl) rfl
theorem dX5_readUntil_34 : decode cX5_readUntil 34 = .ok (.iload_n 3, 1) := oq_29 (bq_in kqX5_readUntil_1 2 rfl)
theorem dX5_readUntil_35 : decode cX5_readUntil 35 = .ok (.imul, 1) := oq_104 (bq_in kqX5_readUntil_1 3 rfl)
theorem dX5_readUntil_36 : decode cX5_readUntil 36 = .ok (.iconst 3, 1) := oq_6 (bq_in kqX5_readUntil_1 4 rfl)
theorem dX5_readUntil_37 : decode cX5_readUntil 37 = .ok (.iadd, 1) := oq_96 (bq_in kqX5_readUntil_1 5 rfl)
theorem dX5_readUntil_38 : decode cX5_readUntil 38 = .ok (.putfield 21, 3) := oq_181 (bq_in kqX5_readUntil_1 6 rfl) (bq_in kqX5_readUntil_1 7 rfl) (bq_in kqX5_readUntil_1 8 rfl) rfl
theorem dX5_readUntil_41 : decode cX5_readUntil 41 = .ok (.iconst 0, 1) := oq_3 (bq_in kqX5_readUntil_1 9 rfl)
theorem dX5_readUntil_42 : decode cX5_readUntil 42 = .ok (.ireturn, 1) := oq_172 (bq_in kqX5_readUntil_1 10 rfl)
theorem dX5_readUntil_43 : decode cX5_readUntil 43 = .ok (.iconst 1, 1) := oq_4 (bq_in kqX5_readUntil_1 11 rfl)
theorem dX5_readUntil_44 : decode cX5_readUntil 44 = .ok (.ireturn, 1) := oq_172 (bq_in kqX5_readUntil_1 12 rfl)
theorem kqX5_readDate_0 : ((cX5_readDate.data.toList.drop 0).take 34).map UInt8.toNat = [42, 17, 7, 208, 17, 8, 51, 182, 0, 78, 60, 27, 2, 160, 0, 5, 2, 172, 42, 4, 16, 12, 182, 0, 78, 61, 28, 2, 160, 0, 5, 2, 172, 42] := by decide +kernel
theorem dX5_readDate_0 : decode cX5_readDate 0 = .ok (.aload_n 0, 1) := oq_42 (bq_in kqX5_readDate_0 0 rfl)
theorem dX5_readDate_1 : decode cX5_readDate 1 = .ok (.sipush 2000, 3) := oq_17 (bq_in kqX5_readDate_0 1 rfl) (bq_in kqX5_readDate_0 2 rfl) (bq_in kqX5_readDate_0 3 rfl) rfl
theorem dX5_readDate_4 : decode cX5_readDate 4 = .ok (.sipush 2099, 3) := oq_17 (bq_in kqX5_readDate_0 4 rfl) (bq_in kqX5_readDate_0 5 rfl) (bq_in kqX5_readDate_0 6 rfl) rfl
theorem dX5_readDate_7 : decode cX5_readDate 7 = .ok (.invokevirtual 78, 3) := oq_182 (bq_in kqX5_readDate_0 7 rfl) (bq_in kqX5_readDate_0 8 rfl) (bq_in kqX5_readDate_0 9 rfl) rfl
theorem dX5_readDate_10 : decode cX5_readDate 10 = .ok (.istore_n 1, 1) := oq_60 (bq_in kqX5_readDate_0 10 rfl)
theorem dX5_readDate_11 : decode cX5_readDate 11 = .ok (.iload_n 1, 1) := oq_27 (bq_in kqX5_readDate_0 11 rfl)
theorem dX5_readDate_12 : decode cX5_readDate 12 = .ok (.iconst (-1), 1) := oq_2 (bq_in kqX5_readDate_0 12 rfl)
theorem dX5_readDate_13 : decode cX5_readDate 13 = .ok (.if_icmp .ne 5, 3) := oq_160 (bq_in kqX5_readDate_0 13 rfl) (bq_in kqX5_readDate_0 14 rfl) (bq_in kqX5_readDate_0 15 rfl) rfl
theorem dX5_readDate_16 : decode cX5_readDate 16 = .ok (.iconst (-1), 1) := oq_2 (bq_in kqX5_readDate_0 16 rfl)
theorem dX5_readDate_17 : decode cX5_readDate 17 = .ok (.ireturn, 1) := oq_172 (bq_in kqX5_readDate_0 17 rfl)
theorem dX5_readDate_18 : decode cX5_readDate 18 = .ok (.aload_n 0, 1) := oq_42 (bq_in kqX5_readDate_0 18 rfl)
theorem dX5_readDate_19 : decode cX5_readDate 19 = .ok (.iconst 1, 1) := oq_4 (bq_in kqX5_readDate_0 19 rfl)
theorem dX5_readDate_20 : decode cX5_readDate 20 = .ok (.bipush 12, 2) := oq_16 (bq_in kqX5_readDate_0 20 rfl) (bq_in kqX5_readDate_0 21 rfl) rfl
theorem dX5_readDate_22 : decode cX5_readDate 22 = .ok (.invokevirtual 78, 3) := oq_182 (bq_in kqX5_readDate_0 22 rfl) (bq_in kqX5_readDate_0 23 rfl) (bq_in kqX5_readDate_0 24 rfl) rfl
theorem dX5_readDate_25 : decode cX5_readDate 25 = .ok (.istore_n 2, 1) := oq_61 (bq_in kqX5_readDate_0 25 rfl)
theorem dX5_readDate_26 : decode cX5_readDate 26 = .ok (.iload_n 2, 1) := oq_28 (bq_in kqX5_readDate_0 26 rfl)
theorem dX5_readDate_27 : decode cX5_readDate 27 = .ok (.iconst (-1), 1) := oq_2 (bq_in kqX5_readDate_0 27 rfl)
theorem dX5_readDate_28 : decode cX5_readDate 28 = .ok (.if_icmp .ne 5, 3) := oq_160 (bq_in kqX5_readDate_0 28 rfl) (bq_in kqX5_readDate_0 29 rfl) (bq_in kqX5_readDate_0 30 rfl) rfl
theorem dX5_readDate_31 : decode cX5_readDate 31 = .ok (.iconst (-1), 1) := oq_2 (bq_in kqX5_readDate_0 31 rfl)
theorem kqX5_readDate_1 : ((cX5_readDate.data.toList.drop 32).take 34).map UInt8.toNat = [172, 42, 4, 27, 28, 184, 0, 152, 182, 0, 78, 62, 29, 2, 160, 0, 5, 2, 172, 27, 28, 184, 0, 157, 184, 0, 160, 29, 96, 4, 100, 172] := by decide +kernel
theorem dX5_readDate_32 : decode cX5_readDate 32 = .ok (.ireturn, 1) := oq_172 (bq_in kqX5_readDate_1 0 rfl)
theorem dX5_readDate_33 : decode cX5_readDate 33 = .ok (.aload_n 0, 1) := oq_42 (bq_in kqX5_readDate_1 1 rfl)
theorem dX5_readDate_34 : decode cX5_readDate 34 = .ok (.iconst 1, 1) := oq_4 (bq_in kqX5_readDate_1 2 rfl)
theorem dX5_readDate_35 : decode cX5_readDate 35 = .ok (.iload_n 1, 1) := oq_27 (bq_in kqX5_readDate_1 3 rfl)
theorem dX5_readDate_36 : decode cX5_readDate 36 = .ok (.iload_n 2, 1) := oq_28 (bq_in kqX5_readDate_1 4 rfl)
theorem dX5_readDate_37 : decode cX5_readDate 37 = .ok (.invokestatic 152, 3) := oq_184 (bq_in kqX5_readDate_1 5 rfl) (bq_in kqX5_readDate_1 6 rfl) (bq_in kqX5_readDate_1 7 rfl) rfl
theorem dX5_readDate_40 : decode cX5_readDate 40 = .ok (.invokevirtual 78, 3) := oq_182 (bq_in kqX5_readDate_1 8 rfl) (bq_in kqX5_readDate_1 9 rfl) (bq_in kqX5_readDate_1 10 rfl) rfl
theorem dX5_readDate_43 : decode cX5_readDate 43 = .ok (.istore_n 3, 1) := oq_62 (bq_in kqX5_readDate_1 11 rfl)
theorem dX5_readDate_44 : decode cX5_readDate 44 = .ok (.iload_n 3, 1) := oq_29 (bq_in kqX5_readDate_1 12 rfl)
theorem dX5_readDate_45 : decode cX5_readDate 45 = .ok (.iconst (-1), 1) := oq_2 (bq_in kqX5_readDate_1 13 rfl)
theorem dX5_readDate_46 : decode cX5_readDate 46 = .ok (.if_icmp .ne 5, 3) := oq_160 (bq_in kqX5_readDate_1 14 rfl) (bq_in kqX5_readDate_1 15 rfl) (bq_in kqX5_readDate_1 16 rfl) rfl
theorem dX5_readDate_49 : decode cX5_readDate 49 = .ok (.iconst (-1), 1) := oq_2 (bq_in kqX5_readDate_1 17 rfl)
theorem dX5_readDate_50 : decode cX5_readDate 50 = .ok (.ireturn, 1) := oq_172 (bq_in kqX5_readDate_1 18 rfl)
theorem dX5_readDate_51 : decode cX5_readDate 51 = .ok (.iload_n 1, 1) := oq_27 (bq_in kqX5_readDate_1 19 rfl)
theorem dX5_readDate_52 : decode cX5_readDate 52 = .ok (.iload_n 2, 1) := oq_28 (bq_in kqX5_readDate_1 20 rfl)
theorem dX5_readDate_53 : decode cX5_readDate 53 = .ok (.invokestatic 157, 3) := oq_184 (bq_in kqX5_readDate_1 21 rfl) (bq_in kqX5_readDate_1 22 rfl) (bq_in kqX5_readDate_1 23 rfl) rfl
theorem dX5_readDate_56 : decode cX5_readDate 56 = .ok (.invokestatic 160, 3) := oq_184 (bq_in kqX5_readDate_1 24 rfl) (bq_in kqX5_readDate_1 25 rfl) (bq_in kqX5_readDate_1 26 rfl) rfl
theorem dX5_readDate_59 : decode cX5_readDate 59 = .ok (.iload_n 3, 1) := oq_29 (bq_in kqX5_readDate_1 27 rfl)
theorem dX5_readDate_60 : decode cX5_readDate 60 = .ok (.iadd, 1) := oq_96 (bq_in kqX5_readDate_1 28 rfl)
theorem dX5_readDate_61 : decode cX5_readDate 61 = .ok (.iconst 1, 1) := oq_4 (bq_in kqX5_readDate_1 29 rfl)
theorem dX5_readDate_62 : decode cX5_readDate 62 = .ok (.isub, 1) := oq_100 (bq_in kqX5_readDate_1 30 rfl)
theorem dX5_readDate_63 : decode cX5_readDate 63 = .ok (.ireturn, 1) := oq_172 (bq_in kqX5_readDate_1 31 rfl)
theorem kqX5_makeRule_0 : ((cX5_makeRule.data.toList.drop 0).take 34).map UInt8.toNat = [42, 180, 0, 24, 170, 0, 0, 0, 0, 0, 0, 67, 0, 0, 0, 0, 0, 0, 0, 2, 0, 0, 0, 28, 0, 0, 0, 37, 0, 0, 0, 50, 187, 0] := by decide +kernel
theorem dX5_makeRule_0 : decode cX5_makeRule 0 = .ok (.aload_n 0, 1) := oq_42 (bq_in kqX5_makeRule_0 0 rfl)
theorem dX5_makeRule_1 : decode cX5_makeRule 1 = .ok (.getfield 24, 3) := oq_180 (bq_in kqX5_makeRule_0 1 rfl) (bq_in kqX5_makeRule_0 2 rfl) (bq_in kqX5_makeRule_0 3 rfl) rfl
theorem dX5_makeRule_4 : decode cX5_makeRule 4 = .ok (.tableswitch 67 0 2 #[28, 37, 50], 28) := by decide +kernel
theorem kqX5_makeRule_1 : ((cX5_makeRule.data.toList.drop 32).take 34).map UInt8.toNat = [187, 0, 164, 89, 27, 183, 0, 166, 176, 187, 0, 169, 89, 42, 180, 0, 27, 27, 183, 0, 171, 176, 187, 0, 174, 89, 42, 180, 0, 27, 27, 42, 180, 0] := by decide +kernel
theorem dX5_makeRule_32 : decode cX5_makeRule 32 = .ok (.new 164, 3) := oq_187 (bq_in kqX5_makeRule_1 0 rfl) (bq_in kqX5_makeRule_1 1 rfl) (bq_in kqX5_makeRule_1 2 rfl) rfl
theorem dX5_makeRule_35 : decode cX5_makeRule 35 = .ok (.dup, 1) := oq_89 (bq_in kqX5_makeRule_1 3 rfl)
theorem dX5_makeRule_36 : decode cX5_makeRule 36 = .ok (.iload_n 1, 1) := oq_27 (bq_in kqX5_makeRule_1 4 rfl)
theorem dX5_makeRule_37 : decode cX5_makeRule 37 = .ok (.invokespecial 166, 3) := oq_183 (bq_in kqX5_makeRule_1 5 rfl) (bq_in kqX5_makeRule_1 6 rfl) (bq_in kqX5_makeRule_1 7 rfl) rfl
theorem dX5_makeRule_40 : decode cX5_makeRule 40 = .ok (.areturn, 1) := oq_176 (bq_in kqX5_makeRule_1 8 rfl)
theorem dX5_makeRule_41 : decode cX5_makeRule 41 = .ok (.new 169, 3) := oq_187 (bq_in kqX5_makeRule_1 9 rfl) (bq_in kqX5_makeRule_1 10 rfl) (bq_in kqX5_makeRule_1 11 rfl) rfl
theorem dX5_makeRule_44 : decode cX5_makeRule 44 = .ok (.dup, 1) := oq_89 (bq_in kqX5_makeRule_1 12 rfl)
theorem dX5_makeRule_45 : decode cX5_makeRule 45 = .ok (.aload_n 0, 1) := oq_42 (bq_in kqX5_makeRule_1 13 rfl)
theorem dX5_makeRule_46 : decode cX5_makeRule 46 = .ok (.getfield 27, 3) := oq_180 (bq_in kqX5_makeRule_1 14 rfl) (bq_in kqX5_makeRule_1 15 rfl) (bq_in kqX5_makeRule_1 16 rfl) rfl
theorem dX5_makeRule_49 : decode cX5_makeRule 49 = .ok (.iload_n 1, 1) := oq_27 (bq_in kqX5_makeRule_1 17 rfl)
theorem dX5_makeRule_50 : decode cX5_makeRule 50 = .ok (.invokespecial 171, 3) := oq_183 (bq_in kqX5_makeRule_1 18 rfl) (bq_in kqX5_makeRule_1 19 rfl) (bq_in kqX5_makeRule_1 20 rfl) rfl
theorem dX5_makeRule_53 : decode cX5_makeRule 53 = .ok (.areturn, 1) := oq_176 (bq_in kqX5_makeRule_1 21 rfl)
theorem dX5_makeRule_54 : decode cX5_makeRule 54 = .ok (.new 174, 3) := oq_187 (bq_in kqX5_makeRule_1 22 rfl) (bq_in kqX5_makeRule_1 23 rfl) (bq_in kqX5_makeRule_1 24 rfl) rfl
theorem dX5_makeRule_57 : decode cX5_makeRule 57 = .ok (.dup, 1) := oq_89 (bq_in kqX5_makeRule_1 25 rfl)
theorem dX5_makeRule_58 : decode cX5_makeRule 58 = .ok (.aload_n 0, 1) := oq_42 (bq_in kqX5_makeRule_1 26 rfl)
theorem dX5_makeRule_59 : decode cX5_makeRule 59 = .ok (.getfield 27, 3) := oq_180 (bq_in kqX5_makeRule_1 27 rfl) (bq_in kqX5_makeRule_1 28 rfl) (bq_in kqX5_makeRule_1 29 rfl) rfl
theorem dX5_makeRule_62 : decode cX5_makeRule 62 = .ok (.iload_n 1, 1) := oq_27 (bq_in kqX5_makeRule_1 30 rfl)
theorem dX5_makeRule_63 : decode cX5_makeRule 63 = .ok (.aload_n 0, 1) := oq_42 (bq_in kqX5_makeRule_1 31 rfl)
theorem kqX5_makeRule_2 : ((cX5_makeRule.data.toList.drop 64).take 34).map UInt8.toNat = [180, 0, 30, 183, 0, 176, 176, 187, 0, 179, 89, 42, 180, 0, 24, 42, 180, 0, 27, 27, 42, 180, 0, 30, 42, 180, 0, 33, 183, 0, 181, 176] := by decide +kernel
theorem dX5_makeRule_64 : decode cX5_makeRule 64 = .ok (.getfield 30, 3) := oq_180 (bq_in kqX5_makeRule_2 0 rfl) (bq_in kqX5_makeRule_2 1 rfl) (bq_in kqX5_makeRule_2 2 rfl) rfl
theorem dX5_makeRule_67 : decode cX5_makeRule 67 = .ok (.invokespecial 176, 3) := oq_183 (bq_in kqX5_makeRule_2 3 rfl) (bq_in kqX5_makeRule_2 4 rfl) (bq_in kqX5_makeRule_2 5 rfl) rfl
theorem dX5_makeRule_70 : decode cX5_makeRule 70 = .ok (.areturn, 1) := oq_176 (bq_in kqX5_makeRule_2 6 rfl)
theorem dX5_makeRule_71 : decode cX5_makeRule 71 = .ok (.new 179, 3) := oq_187 (bq_in kqX5_makeRule_2 7 rfl) (bq_in kqX5_makeRule_2 8 rfl) (bq_in kqX5_makeRule_2 9 rfl) rfl
theorem dX5_makeRule_74 : decode cX5_makeRule 74 = .ok (.dup, 1) := oq_89 (bq_in kqX5_makeRule_2 10 rfl)
theorem dX5_makeRule_75 : decode cX5_makeRule 75 = .ok (.aload_n 0, 1) := oq_42 (bq_in kqX5_makeRule_2 11 rfl)
theorem dX5_makeRule_76 : decode cX5_makeRule 76 = .ok (.getfield 24, 3) := oq_180 (bq_in kqX5_makeRule_2 12 rfl) (bq_in kqX5_makeRule_2 13 rfl) (bq_in kqX5_makeRule_2 14 rfl) rfl
theorem dX5_makeRule_79 : decode cX5_makeRule 79 = .ok (.aload_n 0, 1) := oq_42 (bq_in kqX5_makeRule_2 15 rfl)
theorem dX5_makeRule_80 : decode cX5_makeRule 80 = .ok (.getfield 27, 3) := oq_180 (bq_in kqX5_makeRule_2 16 rfl) (bq_in kqX5_makeRule_2 17 rfl) (bq_in kqX5_makeRule_2 18 rfl) rfl
theorem dX5_makeRule_83 : decode cX5_makeRule 83 = .ok (.iload_n 1, 1) := oq_27 (bq_in kqX5_makeRule_2 19 rfl)
theorem dX5_makeRule_84 : decode cX5_makeRule 84 = .ok (.aload_n 0, 1) := oq_42 (bq_in kqX5_makeRule_2 20 rfl)
theorem dX5_makeRule_85 : decode cX5_makeRule 85 = .ok (.getfield 30, 3) := oq_180 (bq_in kqX5_makeRule_2 21 rfl) (bq_in kqX5_makeRule_2 22 rfl) (bq_in kqX5_makeRule_2 23 rfl) rfl
theorem dX5_makeRule_88 : decode cX5_makeRule 88 = .ok (.aload_n 0, 1) := oq_42 (bq_in kqX5_makeRule_2 24 rfl)
theorem dX5_makeRule_89 : decode cX5_makeRule 89 = .ok (.getfield 33, 3) := oq_180 (bq_in kqX5_makeRule_2 25 rfl) (bq_in kqX5_makeRule_2 26 rfl) (bq_in kqX5_makeRule_2 27 rfl) rfl
theorem dX5_makeRule_92 : decode cX5_makeRule 92 = .ok (.invokespecial 181, 3) := oq_183 (bq_in kqX5_makeRule_2 28 rfl) (bq_in kqX5_makeRule_2 29 rfl) (bq_in kqX5_makeRule_2 30 rfl) rfl
theorem dX5_makeRule_95 : decode cX5_makeRule 95 = .ok (.areturn, 1) := oq_176 (bq_in kqX5_makeRule_2 31 rfl)
theorem kqX5_refuse_0 : ((cX5_refuse.data.toList.drop 0).take 34).map UInt8.toNat = [42, 16, 8, 42, 180, 0, 15, 104, 27, 96, 181, 0, 21, 3, 172] := by decide +kernel
theorem dX5_refuse_0 : decode cX5_refuse 0 = .ok (.aload_n 0, 1) := oq_42 (bq_in kqX5_refuse_0 0 rfl)
theorem dX5_refuse_1 : decode cX5_refuse 1 = .ok (.bipush 8, 2) := oq_16 (bq_in kqX5_refuse_0 1 rfl) (bq_in kqX5_refuse_0 2 rfl) rfl
theorem dX5_refuse_3 : decode cX5_refuse 3 = .ok (.aload_n 0, 1) := oq_42 (bq_in kqX5_refuse_0 3 rfl)
theorem dX5_refuse_4 : decode cX5_refuse 4 = .ok (.getfield 15, 3) := oq_180 (bq_in kqX5_refuse_0 4 rfl) (bq_in kqX5_refuse_0 5 rfl) (bq_in kqX5_refuse_0 6 rfl) rfl
theorem dX5_refuse_7 : decode cX5_refuse 7 = .ok (.imul, 1) := oq_104 (bq_in kqX5_refuse_0 7 rfl)
theorem dX5_refuse_8 : decode cX5_refuse 8 = .ok (.iload_n 1, 1) := oq_27 (bq_in kqX5_refuse_0 8 rfl)
theorem dX5_refuse_9 : decode cX5_refuse 9 = .ok (.iadd, 1) := oq_96 (bq_in kqX5_refuse_0 9 rfl)
theorem dX5_refuse_10 : decode cX5_refuse 10 = .ok (.putfield 21, 3) := oq_181 (bq_in kqX5_refuse_0 10 rfl) (bq_in kqX5_refuse_0 11 rfl) (bq_in kqX5_refuse_0 12 rfl) rfl
theorem dX5_refuse_13 : decode cX5_refuse 13 = .ok (.iconst 0, 1) := oq_3 (bq_in kqX5_refuse_0 13 rfl)
theorem dX5_refuse_14 : decode cX5_refuse 14 = .ok (.ireturn, 1) := oq_172 (bq_in kqX5_refuse_0 14 rfl)
theorem kqX5_require_0 : ((cX5_require.data.toList.drop 0).take 34).map UInt8.toNat = [42, 43, 182, 0, 94, 154, 0, 11, 42, 4, 182, 0, 68, 153, 0, 7, 4, 167, 0, 4, 3, 172] := by decide +kernel
theorem dX5_require_0 : decode cX5_require 0 = .ok (.aload_n 0, 1) := oq_42 (bq_in kqX5_require_0 0 rfl)
theorem dX5_require_1 : decode cX5_require 1 = .ok (.aload_n 1, 1) := oq_43 (bq_in kqX5_require_0 1 rfl)
theorem dX5_require_2 : decode cX5_require 2 = .ok (.invokevirtual 94, 3) := oq_182 (bq_in kqX5_require_0 2 rfl) (bq_in kqX5_require_0 3 rfl) (bq_in kqX5_require_0 4 rfl) rfl
theorem dX5_require_5 : decode cX5_require 5 = .ok (.ifCond .ne 11, 3) := oq_154 (bq_in kqX5_require_0 5 rfl) (bq_in kqX5_require_0 6 rfl) (bq_in kqX5_require_0 7 rfl) rfl
theorem dX5_require_8 : decode cX5_require 8 = .ok (.aload_n 0, 1) := oq_42 (bq_in kqX5_require_0 8 rfl)
theorem dX5_require_9 : decode cX5_require 9 = .ok (.iconst 1, 1) := oq_4 (bq_in kqX5_require_0 9 rfl)
theorem dX5_require_10 : decode cX5_require 10 = .ok (.invokevirtual 68, 3) := oq_182 (bq_in kqX5_require_0 10 rfl) (bq_in kqX5_require_0 11 rfl) (bq_in kqX5_require_0 12 rfl) rfl
theorem dX5_require_13 : decode cX5_require 13 = .ok (.ifCond .eq 7, 3) := oq_153 (bq_in kqX5_require_0 13 rfl) (bq_in kqX5_require_0 14 rfl) (bq_in kqX5_require_0 15 rfl) rfl
theorem dX5_require_16 : decode cX5_require 16 = .ok (.iconst 1, 1) := oq_4 (bq_in kqX5_require_0 16 rfl)
theorem dX5_require_17 : decode cX5_require 17 = .ok (.goto 4, 3) := oq_167 (bq_in kqX5_require_0 17 rfl) (bq_in kqX5_require_0 18 rfl) (bq_in kqX5_require_0 19 rfl) rfl
theorem dX5_require_20 : decode cX5_require 20 = .ok (.iconst 0, 1) := oq_3 (bq_in kqX5_require_0 20 rfl)
theorem dX5_require_21 : decode cX5_require 21 = .ok (.ireturn, 1) := oq_172 (bq_in kqX5_require_0 21 rfl)
theorem kqX5_take_0 : ((cX5_take.data.toList.drop 0).take 34).map UInt8.toNat = [42, 180, 0, 11, 4, 160, 0, 28, 42, 180, 0, 18, 42, 180, 0, 15, 100, 43, 182, 0, 184, 160, 0, 12, 42, 43, 3, 182, 0, 188, 154, 0, 5, 3] := by decide +kernel
theorem dX5_take_0 : decode cX5_take 0 = .ok (.aload_n 0, 1) := oq_42 (bq_in kqX5_take_0 0 rfl)
theorem dX5_take_1 : decode cX5_take 1 = .ok (.getfield 11, 3) := oq_180 (bq_in kqX5_take_0 1 rfl) (bq_in kqX5_take_0 2 rfl) (bq_in kqX5_take_0 3 rfl) rfl
theorem dX5_take_4 : decode cX5_take 4 = .ok (.iconst 1, 1) := oq_4 (bq_in kqX5_take_0 4 rfl)
theorem dX5_take_5 : decode cX5_take 5 = .ok (.if_icmp .ne 28, 3) := oq_160 (bq_in kqX5_take_0 5 rfl) (bq_in kqX5_take_0 6 rfl) (bq_in kqX5_take_0 7 rfl) rfl
theorem dX5_take_8 : decode cX5_take 8 = .ok (.aload_n 0, 1) := oq_42 (bq_in kqX5_take_0 8 rfl)
theorem dX5_take_9 : decode cX5_take 9 = .ok (.getfield 18, 3) := oq_180 (bq_in kqX5_take_0 9 rfl) (bq_in kqX5_take_0 10 rfl) (bq_in kqX5_take_0 11 rfl) rfl
theorem dX5_take_12 : decode cX5_take 12 = .ok (.aload_n 0, 1) := oq_42 (bq_in kqX5_take_0 12 rfl)
theorem dX5_take_13 : decode cX5_take 13 = .ok (.getfield 15, 3) := oq_180 (bq_in kqX5_take_0 13 rfl) (bq_in kqX5_take_0 14 rfl) (bq_in kqX5_take_0 15 rfl) rfl
theorem dX5_take_16 : decode cX5_take 16 = .ok (.isub, 1) := oq_100 (bq_in kqX5_take_0 16 rfl)
theorem dX5_take_17 : decode cX5_take 17 = .ok (.aload_n 1, 1) := oq_43 (bq_in kqX5_take_0 17 rfl)
theorem dX5_take_18 : decode cX5_take 18 = .ok (.invokevirtual 184, 3) := oq_182 (bq_in kqX5_take_0 18 rfl) (bq_in kqX5_take_0 19 rfl) (bq_in kqX5_take_0 20 rfl) rfl
theorem dX5_take_21 : decode cX5_take 21 = .ok (.if_icmp .ne 12, 3) := oq_160 (bq_in kqX5_take_0 21 rfl) (bq_in kqX5_take_0 22 rfl) (bq_in kqX5_take_0 23 rfl) rfl
theorem dX5_take_24 : decode cX5_take 24 = .ok (.aload_n 0, 1) := oq_42 (bq_in kqX5_take_0 24 rfl)
theorem dX5_take_25 : decode cX5_take 25 = .ok (.aload_n 1, 1) := oq_43 (bq_in kqX5_take_0 25 rfl)
theorem dX5_take_26 : decode cX5_take 26 = .ok (.iconst 0, 1) := oq_3 (bq_in kqX5_take_0 26 rfl)
theorem dX5_take_27 : decode cX5_take 27 = .ok (.invokevirtual 188, 3) := oq_182 (bq_in kqX5_take_0 27 rfl) (bq_in kqX5_take_0 28 rfl) (bq_in kqX5_take_0 29 rfl) rfl
theorem dX5_take_30 : decode cX5_take 30 = .ok (.ifCond .ne 5, 3) := oq_154 (bq_in kqX5_take_0 30 rfl) (bq_in kqX5_take_0 31 rfl) (bq_in kqX5_take_0 32 rfl) rfl
theorem kqX5_take_1 : ((cX5_take.data.toList.drop 32).take 34).map UInt8.toNat = [5, 3, 172, 42, 182, 0, 49, 4, 172] := by decide +kernel
theorem dX5_take_33 : decode cX5_take 33 = .ok (.iconst 0, 1) := oq_3 (bq_in kqX5_take_1 1 rfl)
theorem dX5_take_34 : decode cX5_take 34 = .ok (.ireturn, 1) := oq_172 (bq_in kqX5_take_1 2 rfl)
theorem dX5_take_35 : decode cX5_take 35 = .ok (.aload_n 0, 1) := oq_42 (bq_in kqX5_take_1 3 rfl)
theorem dX5_take_36 : decode cX5_take 36 = .ok (.invokevirtual 49, 3) := oq_182 (bq_in kqX5_take_1 4 rfl) (bq_in kqX5_take_1 5 rfl) (bq_in kqX5_take_1 6 rfl) rfl
theorem dX5_take_39 : decode cX5_take 39 = .ok (.iconst 1, 1) := oq_4 (bq_in kqX5_take_1 7 rfl)
theorem dX5_take_40 : decode cX5_take 40 = .ok (.ireturn, 1) := oq_172 (bq_in kqX5_take_1 8 rfl)
theorem kqX5_takeNumber_0 : ((cX5_takeNumber.data.toList.drop 0).take 34).map UInt8.toNat = [42, 180, 0, 11, 5, 160, 0, 16, 42, 180, 0, 18, 42, 180, 0, 15, 100, 7, 164, 0, 11, 42, 4, 182, 0, 68, 87, 2, 172, 3, 62, 42, 180, 0] := by decide +kernel
theorem dX5_takeNumber_0 : decode cX5_takeNumber 0 = .ok (.aload_n 0, 1) := oq_42 (bq_in kqX5_takeNumber_0 0 rfl)
theorem dX5_takeNumber_1 : decode cX5_takeNumber 1 = .ok (.getfield 11, 3) := oq_180 (bq_in kqX5_takeNumber_0 1 rfl) (bq_in kqX5_takeNumber_0 2 rfl) (bq_in kqX5_takeNumber_0 3 rfl) rfl
theorem dX5_takeNumber_4 : decode cX5_takeNumber 4 = .ok (.iconst 2, 1) := oq_5 (bq_in kqX5_takeNumber_0 4 rfl)
theorem dX5_takeNumber_5 : decode cX5_takeNumber 5 = .ok (.if_icmp .ne 16, 3) := oq_160 (bq_in kqX5_takeNumber_0 5 rfl) (bq_in kqX5_takeNumber_0 6 rfl) (bq_in kqX5_takeNumber_0 7 rfl) rfl
theorem dX5_takeNumber_8 : decode cX5_takeNumber 8 = .ok (.aload_n 0, 1) := oq_42 (bq_in kqX5_takeNumber_0 8 rfl)
theorem dX5_takeNumber_9 : decode cX5_takeNumber 9 = .ok (.getfield 18, 3) := oq_180 (bq_in kqX5_takeNumber_0 9 rfl) (bq_in kqX5_takeNumber_0 10 rfl) (bq_in kqX5_takeNumber_0 11 rfl) rfl
theorem dX5_takeNumber_12 : decode cX5_takeNumber 12 = .ok (.aload_n 0, 1) := oq_42 (bq_in kqX5_takeNumber_0 12 rfl)
theorem dX5_takeNumber_13 : decode cX5_takeNumber 13 = .ok (.getfield 15, 3) := oq_180 (bq_in kqX5_takeNumber_0 13 rfl) (bq_in kqX5_takeNumber_0 14 rfl) (bq_in kqX5_takeNumber_0 15 rfl) rfl
theorem dX5_takeNumber_16 : decode cX5_takeNumber 16 = .ok (.isub, 1) := oq_100 (bq_in kqX5_takeNumber_0 16 rfl)
theorem dX5_takeNumber_17 : decode cX5_takeNumber 17 = .ok (.iconst 4, 1) := oq_7 (bq_in kqX5_takeNumber_0 17 rfl)
theorem dX5_takeNumber_18 : decode cX5_takeNumber 18 = .ok (.if_icmp .le 11, 3) := oq_164 (bq_in kqX5_takeNumber_0 18 rfl) (bq_in kqX5_takeNumber_0 19 rfl) (bq_in kqX5_takeNumber_0 20 rfl) rfl
theorem dX5_takeNumber_21 : decode cX5_takeNumber 21 = .ok (.aload_n 0, 1) := oq_42 (bq_in kqX5_takeNumber_0 21 rfl)
theorem dX5_takeNumber_22 : decode cX5_takeNumber 22 = .ok (.iconst 1, 1) := oq_4 (bq_in kqX5_takeNumber_0 22 rfl)
theorem dX5_takeNumber_23 : decode cX5_takeNumber 23 = .ok (.invokevirtual 68, 3) := oq_182 (bq_in kqX5_takeNumber_0 23 rfl) (bq_in kqX5_takeNumber_0 24 rfl) (bq_in kqX5_takeNumber_0 25 rfl) rfl
theorem dX5_takeNumber_26 : decode cX5_takeNumber 26 = .ok (.pop, 1) := oq_87 (bq_in kqX5_takeNumber_0 26 rfl)
theorem dX5_takeNumber_27 : decode cX5_takeNumber 27 = .ok (.iconst (-1), 1) := oq_2 (bq_in kqX5_takeNumber_0 27 rfl)
theorem dX5_takeNumber_28 : decode cX5_takeNumber 28 = .ok (.ireturn, 1) := oq_172 (bq_in kqX5_takeNumber_0 28 rfl)
theorem dX5_takeNumber_29 : decode cX5_takeNumber 29 = .ok (.iconst 0, 1) := oq_3 (bq_in kqX5_takeNumber_0 29 rfl)
theorem dX5_takeNumber_30 : decode cX5_takeNumber 30 = .ok (.istore_n 3, 1) := oq_62 (bq_in kqX5_takeNumber_0 30 rfl)
theorem dX5_takeNumber_31 : decode cX5_takeNumber 31 = .ok (.aload_n 0, 1) := oq_42 (bq_in kqX5_takeNumber_0 31 rfl)
theorem kqX5_takeNumber_1 : ((cX5_takeNumber.data.toList.drop 32).take 34).map UInt8.toNat = [180, 0, 15, 54, 4, 21, 4, 42, 180, 0, 18, 162, 0, 25, 16, 10, 29, 104, 42, 180, 0, 36, 21, 4, 52, 96, 16, 48, 100, 62, 132, 4, 1, 167] := by decide +kernel
theorem dX5_takeNumber_32 : decode cX5_takeNumber 32 = .ok (.getfield 15, 3) := oq_180 (bq_in kqX5_takeNumber_1 0 rfl) (bq_in kqX5_takeNumber_1 1 rfl) (bq_in kqX5_takeNumber_1 2 rfl) rfl
theorem dX5_takeNumber_35 : decode cX5_takeNumber 35 = .ok (.istore 4, 2) := oq_54 (bq_in kqX5_takeNumber_1 3 rfl) (bq_in kqX5_takeNumber_1 4 rfl)
theorem dX5_takeNumber_37 : decode cX5_takeNumber 37 = .ok (.iload 4, 2) := oq_21 (bq_in kqX5_takeNumber_1 5 rfl) (bq_in kqX5_takeNumber_1 6 rfl)
theorem dX5_takeNumber_39 : decode cX5_takeNumber 39 = .ok (.aload_n 0, 1) := oq_42 (bq_in kqX5_takeNumber_1 7 rfl)
theorem dX5_takeNumber_40 : decode cX5_takeNumber 40 = .ok (.getfield 18, 3) := oq_180 (bq_in kqX5_takeNumber_1 8 rfl) (bq_in kqX5_takeNumber_1 9 rfl) (bq_in kqX5_takeNumber_1 10 rfl) rfl
theorem dX5_takeNumber_43 : decode cX5_takeNumber 43 = .ok (.if_icmp .ge 25, 3) := oq_162 (bq_in kqX5_takeNumber_1 11 rfl) (bq_in kqX5_takeNumber_1 12 rfl) (bq_in kqX5_takeNumber_1 13 rfl) rfl
theorem dX5_takeNumber_46 : decode cX5_takeNumber 46 = .ok (.bipush 10, 2) := oq_16 (bq_in kqX5_takeNumber_1 14 rfl) (bq_in kqX5_takeNumber_1 15 rfl) rfl
theorem dX5_takeNumber_48 : decode cX5_takeNumber 48 = .ok (.iload_n 3, 1) := oq_29 (bq_in kqX5_takeNumber_1 16 rfl)
theorem dX5_takeNumber_49 : decode cX5_takeNumber 49 = .ok (.imul, 1) := oq_104 (bq_in kqX5_takeNumber_1 17 rfl)
theorem dX5_takeNumber_50 : decode cX5_takeNumber 50 = .ok (.aload_n 0, 1) := oq_42 (bq_in kqX5_takeNumber_1 18 rfl)
theorem dX5_takeNumber_51 : decode cX5_takeNumber 51 = .ok (.getfield 36, 3) := oq_180 (bq_in kqX5_takeNumber_1 19 rfl) (bq_in kqX5_takeNumber_1 20 rfl) (bq_in kqX5_takeNumber_1 21 rfl) rfl
theorem dX5_takeNumber_54 : decode cX5_takeNumber 54 = .ok (.iload 4, 2) := oq_21 (bq_in kqX5_takeNumber_1 22 rfl) (bq_in kqX5_takeNumber_1 23 rfl)
theorem dX5_takeNumber_56 : decode cX5_takeNumber 56 = .ok (.caload, 1) := oq_52 (bq_in kqX5_takeNumber_1 24 rfl)
theorem dX5_takeNumber_57 : decode cX5_takeNumber 57 = .ok (.iadd, 1) := oq_96 (bq_in kqX5_takeNumber_1 25 rfl)
theorem dX5_takeNumber_58 : decode cX5_takeNumber 58 = .ok (.bipush 48, 2) := oq_16 (bq_in kqX5_takeNumber_1 26 rfl) (bq_in kqX5_takeNumber_1 27 rfl) rfl
theorem dX5_takeNumber_60 : decode cX5_takeNumber 60 = .ok (.isub, 1) := oq_100 (bq_in kqX5_takeNumber_1 28 rfl)
theorem dX5_takeNumber_61 : decode cX5_takeNumber 61 = .ok (.istore_n 3, 1) := oq_62 (bq_in kqX5_takeNumber_1 29 rfl)
theorem dX5_takeNumber_62 : decode cX5_takeNumber 62 = .ok (.iinc 4 1, 3) := oq_132 (bq_in kqX5_takeNumber_1 30 rfl) (bq_in kqX5_takeNumber_1 31 rfl) (bq_in kqX5_takeNumber_1 32 rfl) rfl
theorem kqX5_takeNumber_2 : ((cX5_takeNumber.data.toList.drop 64).take 34).map UInt8.toNat = [1, 167, 255, 228, 29, 27, 161, 0, 8, 29, 28, 164, 0, 11, 42, 5, 182, 0, 68, 87, 2, 172, 42, 182, 0, 49, 29, 172] := by decide +kernel
theorem dX5_takeNumber_65 : decode cX5_takeNumber 65 = .ok (.goto (-28), 3) := oq_167 (bq_in kqX5_takeNumber_2 1 rfl) (bq_in kqX5_takeNumber_2 2 rfl) (bq_in kqX5_takeNumber_2 3 rfl) rfl
theorem dX5_takeNumber_68 : decode cX5_takeNumber 68 = .ok (.iload_n 3, 1) := oq_29 (bq_in kqX5_takeNumber_2 4 rfl)
theorem dX5_takeNumber_69 : decode cX5_takeNumber 69 = .ok (.iload_n 1, 1) := oq_27 (bq_in kqX5_takeNumber_2 5 rfl)
theorem dX5_takeNumber_70 : decode cX5_takeNumber 70 = .ok (.if_icmp .lt 8, 3) := oq_161 (bq_in kqX5_takeNumber_2 6 rfl) (bq_in kqX5_takeNumber_2 7 rfl) (bq_in kqX5_takeNumber_2 8 rfl) rfl
theorem dX5_takeNumber_73 : decode cX5_takeNumber 73 = .ok (.iload_n 3, 1) := oq_29 (bq_in kqX5_takeNumber_2 9 rfl)
theorem dX5_takeNumber_74 : decode cX5_takeNumber 74 = .ok (.iload_n 2, 1) := oq_28 (bq_in kqX5_takeNumber_2 10 rfl)
theorem dX5_takeNumber_75 : decode cX5_takeNumber 75 = .ok (.if_icmp .le 11, 3) := oq_164 (bq_in kqX5_takeNumber_2 11 rfl) (bq_in kqX5_takeNumber_2 12 rfl) (bq_in kqX5_takeNumber_2 13 rfl) rfl
theorem dX5_takeNumber_78 : decode cX5_takeNumber 78 = .ok (.aload_n 0, 1) := oq_42 (bq_in kqX5_takeNumber_2 14 rfl)
theorem dX5_takeNumber_79 : decode cX5_takeNumber 79 = .ok (.iconst 2, 1) := oq_5 (bq_in kqX5_takeNumber_2 15 rfl)
theorem dX5_takeNumber_80 : decode cX5_takeNumber 80 = .ok (.invokevirtual 68, 3) := oq_182 (bq_in kqX5_takeNumber_2 16 rfl) (bq_in kqX5_takeNumber_2 17 rfl) (bq_in kqX5_takeNumber_2 18 rfl) rfl
theorem dX5_takeNumber_83 : decode cX5_takeNumber 83 = .ok (.pop, 1) := oq_87 (bq_in kqX5_takeNumber_2 19 rfl)
theorem dX5_takeNumber_84 : decode cX5_takeNumber 84 = .ok (.iconst (-1), 1) := oq_2 (bq_in kqX5_takeNumber_2 20 rfl)
theorem dX5_takeNumber_85 : decode cX5_takeNumber 85 = .ok (.ireturn, 1) := oq_172 (bq_in kqX5_takeNumber_2 21 rfl)
theorem dX5_takeNumber_86 : decode cX5_takeNumber 86 = .ok (.aload_n 0, 1) := oq_42 (bq_in kqX5_takeNumber_2 22 rfl)
theorem dX5_takeNumber_87 : decode cX5_takeNumber 87 = .ok (.invokevirtual 49, 3) := oq_182 (bq_in kqX5_takeNumber_2 23 rfl) (bq_in kqX5_takeNumber_2 24 rfl) (bq_in kqX5_takeNumber_2 25 rfl) rfl
theorem dX5_takeNumber_90 : decode cX5_takeNumber 90 = .ok (.iload_n 3, 1) := oq_29 (bq_in kqX5_takeNumber_2 26 rfl)
theorem dX5_takeNumber_91 : decode cX5_takeNumber 91 = .ok (.ireturn, 1) := oq_172 (bq_in kqX5_takeNumber_2 27 rfl)
theorem kqX5_weekdayHere_0 : ((cX5_weekdayHere.data.toList.drop 0).take 34).map UInt8.toNat = [42, 180, 0, 11, 4, 160, 0, 16, 42, 180, 0, 18, 42, 180, 0, 15, 100, 6, 159, 0, 5, 2, 172, 3, 60, 27, 16, 7, 162, 0, 23, 42, 18, 192] := by decide +kernel
theorem dX5_weekdayHere_0 : decode cX5_weekdayHere 0 = .ok (.aload_n 0, 1) := oq_42 (bq_in kqX5_weekdayHere_0 0 rfl)
theorem dX5_weekdayHere_1 : decode cX5_weekdayHere 1 = .ok (.getfield 11, 3) := oq_180 (bq_in kqX5_weekdayHere_0 1 rfl) (bq_in kqX5_weekdayHere_0 2 rfl) (bq_in kqX5_weekdayHere_0 3 rfl) rfl
theorem dX5_weekdayHere_4 : decode cX5_weekdayHere 4 = .ok (.iconst 1, 1) := oq_4 (bq_in kqX5_weekdayHere_0 4 rfl)
theorem dX5_weekdayHere_5 : decode cX5_weekdayHere 5 = .ok (.if_icmp .ne 16, 3) := oq_160 (bq_in kqX5_weekdayHere_0 5 rfl) (bq_in kqX5_weekdayHere_0 6 rfl) (bq_in kqX5_weekdayHere_0 7 rfl) rfl
theorem dX5_weekdayHere_8 : decode cX5_weekdayHere 8 = .ok (.aload_n 0, 1) := oq_42 (bq_in kqX5_weekdayHere_0 8 rfl)
theorem dX5_weekdayHere_9 : decode cX5_weekdayHere 9 = .ok (.getfield 18, 3) := oq_180 (bq_in kqX5_weekdayHere_0 9 rfl) (bq_in kqX5_weekdayHere_0 10 rfl) (bq_in kqX5_weekdayHere_0 11 rfl) rfl
theorem dX5_weekdayHere_12 : decode cX5_weekdayHere 12 = .ok (.aload_n 0, 1) := oq_42 (bq_in kqX5_weekdayHere_0 12 rfl)
theorem dX5_weekdayHere_13 : decode cX5_weekdayHere 13 = .ok (.getfield 15, 3) := oq_180 (bq_in kqX5_weekdayHere_0 13 rfl) (bq_in kqX5_weekdayHere_0 14 rfl) (bq_in kqX5_weekdayHere_0 15 rfl) rfl
theorem dX5_weekdayHere_16 : decode cX5_weekdayHere 16 = .ok (.isub, 1) := oq_100 (bq_in kqX5_weekdayHere_0 16 rfl)
theorem dX5_weekdayHere_17 : decode cX5_weekdayHere 17 = .ok (.iconst 3, 1) := oq_6 (bq_in kqX5_weekdayHere_0 17 rfl)
theorem dX5_weekdayHere_18 : decode cX5_weekdayHere 18 = .ok (.if_icmp .eq 5, 3) := oq_159 (bq_in kqX5_weekdayHere_0 18 rfl) (bq_in kqX5_weekdayHere_0 19 rfl) (bq_in kqX5_weekdayHere_0 20 rfl) rfl
theorem dX5_weekdayHere_21 : decode cX5_weekdayHere 21 = .ok (.iconst (-1), 1) := oq_2 (bq_in kqX5_weekdayHere_0 21 rfl)
theorem dX5_weekdayHere_22 : decode cX5_weekdayHere 22 = .ok (.ireturn, 1) := oq_172 (bq_in kqX5_weekdayHere_0 22 rfl)
theorem dX5_weekdayHere_23 : decode cX5_weekdayHere 23 = .ok (.iconst 0, 1) := oq_3 (bq_in kqX5_weekdayHere_0 23 rfl)
theorem dX5_weekdayHere_24 : decode cX5_weekdayHere 24 = .ok (.istore_n 1, 1) := oq_60 (bq_in kqX5_weekdayHere_0 24 rfl)
theorem dX5_weekdayHere_25 : decode cX5_weekdayHere 25 = .ok (.iload_n 1, 1) := oq_27 (bq_in kqX5_weekdayHere_0 25 rfl)
theorem dX5_weekdayHere_26 : decode cX5_weekdayHere 26 = .ok (.bipush 7, 2) := oq_16 (bq_in kqX5_weekdayHere_0 26 rfl) (bq_in kqX5_weekdayHere_0 27 rfl) rfl
theorem dX5_weekdayHere_28 : decode cX5_weekdayHere 28 = .ok (.if_icmp .ge 23, 3) := oq_162 (bq_in kqX5_weekdayHere_0 28 rfl) (bq_in kqX5_weekdayHere_0 29 rfl) (bq_in kqX5_weekdayHere_0 30 rfl) rfl
theorem dX5_weekdayHere_31 : decode cX5_weekdayHere 31 = .ok (.aload_n 0, 1) := oq_42 (bq_in kqX5_weekdayHere_0 31 rfl)
theorem kqX5_weekdayHere_1 : ((cX5_weekdayHere.data.toList.drop 32).take 34).map UInt8.toNat = [18, 192, 6, 27, 104, 182, 0, 188, 153, 0, 5, 27, 172, 132, 1, 1, 167, 255, 233, 2, 172] := by decide +kernel
theorem dX5_weekdayHere_32 : decode cX5_weekdayHere 32 = .ok (.ldc 192, 2) := oq_18 (bq_in kqX5_weekdayHere_1 0 rfl) (bq_in kqX5_weekdayHere_1 1 rfl)
theorem dX5_weekdayHere_34 : decode cX5_weekdayHere 34 = .ok (.iconst 3, 1) := oq_6 (bq_in kqX5_weekdayHere_1 2 rfl)
theorem dX5_weekdayHere_35 : decode cX5_weekdayHere 35 = .ok (.iload_n 1, 1) := oq_27 (bq_in kqX5_weekdayHere_1 3 rfl)
theorem dX5_weekdayHere_36 : decode cX5_weekdayHere 36 = .ok (.imul, 1) := oq_104 (bq_in kqX5_weekdayHere_1 4 rfl)
theorem dX5_weekdayHere_37 : decode cX5_weekdayHere 37 = .ok (.invokevirtual 188, 3) := oq_182 (bq_in kqX5_weekdayHere_1 5 rfl) (bq_in kqX5_weekdayHere_1 6 rfl) (bq_in kqX5_weekdayHere_1 7 rfl) rfl
theorem dX5_weekdayHere_40 : decode cX5_weekdayHere 40 = .ok (.ifCond .eq 5, 3) := oq_153 (bq_in kqX5_weekdayHere_1 8 rfl) (bq_in kqX5_weekdayHere_1 9 rfl) (bq_in kqX5_weekdayHere_1 10 rfl) rfl
theorem dX5_weekdayHere_43 : decode cX5_weekdayHere 43 = .ok (.iload_n 1, 1) := oq_27 (bq_in kqX5_weekdayHere_1 11 rfl)
theorem dX5_weekdayHere_44 : decode cX5_weekdayHere 44 = .ok (.ireturn, 1) := oq_172 (bq_in kqX5_weekdayHere_1 12 rfl)
theorem dX5_weekdayHere_45 : decode cX5_weekdayHere 45 = .ok (.iinc 1 1, 3) := oq_132 (bq_in kqX5_weekdayHere_1 13 rfl) (bq_in kqX5_weekdayHere_1 14 rfl) (bq_in kqX5_weekdayHere_1 15 rfl) rfl
theorem dX5_weekdayHere_48 : decode cX5_weekdayHere 48 = .ok (.goto (-23), 3) := oq_167 (bq_in kqX5_weekdayHere_1 16 rfl) (bq_in kqX5_weekdayHere_1 17 rfl) (bq_in kqX5_weekdayHere_1 18 rfl) rfl
theorem dX5_weekdayHere_51 : decode cX5_weekdayHere 51 = .ok (.iconst (-1), 1) := oq_2 (bq_in kqX5_weekdayHere_1 19 rfl)
theorem dX5_weekdayHere_52 : decode cX5_weekdayHere 52 = .ok (.ireturn, 1) := oq_172 (bq_in kqX5_weekdayHere_1 20 rfl)
theorem kqX5_standsHere_0 : ((cX5_standsHere.data.toList.drop 0).take 34).map UInt8.toNat = [42, 180, 0, 15, 62, 29, 42, 180, 0, 18, 162, 0, 45, 28, 29, 96, 42, 180, 0, 15, 100, 54, 4, 21, 4, 43, 182, 0, 184, 162, 0, 18, 42, 180] := by decide +kernel
theorem dX5_standsHere_0 : decode cX5_standsHere 0 = .ok (.aload_n 0, 1) := oq_42 (bq_in kqX5_standsHere_0 0 rfl)
theorem dX5_standsHere_1 : decode cX5_standsHere 1 = .ok (.getfield 15, 3) := oq_180 (bq_in kqX5_standsHere_0 1 rfl) (bq_in kqX5_standsHere_0 2 rfl) (bq_in kqX5_standsHere_0 3 rfl) rfl
theorem dX5_standsHere_4 : decode cX5_standsHere 4 = .ok (.istore_n 3, 1) := oq_62 (bq_in kqX5_standsHere_0 4 rfl)
theorem dX5_standsHere_5 : decode cX5_standsHere 5 = .ok (.iload_n 3, 1) := oq_29 (bq_in kqX5_standsHere_0 5 rfl)
theorem dX5_standsHere_6 : decode cX5_standsHere 6 = .ok (.aload_n 0, 1) := oq_42 (bq_in kqX5_standsHere_0 6 rfl)
theorem dX5_standsHere_7 : decode cX5_standsHere 7 = .ok (.getfield 18, 3) := oq_180 (bq_in kqX5_standsHere_0 7 rfl) (bq_in kqX5_standsHere_0 8 rfl) (bq_in kqX5_standsHere_0 9 rfl) rfl
theorem dX5_standsHere_10 : decode cX5_standsHere 10 = .ok (.if_icmp .ge 45, 3) := oq_162 (bq_in kqX5_standsHere_0 10 rfl) (bq_in kqX5_standsHere_0 11 rfl) (bq_in kqX5_standsHere_0 12 rfl) rfl
theorem dX5_standsHere_13 : decode cX5_standsHere 13 = .ok (.iload_n 2, 1) := oq_28 (bq_in kqX5_standsHere_0 13 rfl)
theorem dX5_standsHere_14 : decode cX5_standsHere 14 = .ok (.iload_n 3, 1) := oq_29 (bq_in kqX5_standsHere_0 14 rfl)
theorem dX5_standsHere_15 : decode cX5_standsHere 15 = .ok (.iadd, 1) := oq_96 (bq_in kqX5_standsHere_0 15 rfl)
theorem dX5_standsHere_16 : decode cX5_standsHere 16 = .ok (.aload_n 0, 1) := oq_42 (bq_in kqX5_standsHere_0 16 rfl)
theorem dX5_standsHere_17 : decode cX5_standsHere 17 = .ok (.getfield 15, 3) := oq_180 (bq_in kqX5_standsHere_0 17 rfl) (bq_in kqX5_standsHere_0 18 rfl) (bq_in kqX5_standsHere_0 19 rfl) rfl
theorem dX5_standsHere_20 : decode cX5_standsHere 20 = .ok (.isub, 1) := oq_100 (bq_in kqX5_standsHere_0 20 rfl)
theorem dX5_standsHere_21 : decode cX5_standsHere 21 = .ok (.istore 4, 2) := oq_54 (bq_in kqX5_standsHere_0 21 rfl) (bq_in kqX5_standsHere_0 22 rfl)
theorem dX5_standsHere_23 : decode cX5_standsHere 23 = .ok (.iload 4, 2) := oq_21 (bq_in kqX5_standsHere_0 23 rfl) (bq_in kqX5_standsHere_0 24 rfl)
theorem dX5_standsHere_25 : decode cX5_standsHere 25 = .ok (.aload_n 1, 1) := oq_43 (bq_in kqX5_standsHere_0 25 rfl)
theorem dX5_standsHere_26 : decode cX5_standsHere 26 = .ok (.invokevirtual 184, 3) := oq_182 (bq_in kqX5_standsHere_0 26 rfl) (bq_in kqX5_standsHere_0 27 rfl) (bq_in kqX5_standsHere_0 28 rfl) rfl
theorem dX5_standsHere_29 : decode cX5_standsHere 29 = .ok (.if_icmp .ge 18, 3) := oq_162 (bq_in kqX5_standsHere_0 29 rfl) (bq_in kqX5_standsHere_0 30 rfl) (bq_in kqX5_standsHere_0 31 rfl) rfl
theorem kqX5_standsHere_1 : ((cX5_standsHere.data.toList.drop 32).take 34).map UInt8.toNat = [42, 180, 0, 36, 29, 52, 43, 21, 4, 182, 0, 194, 159, 0, 5, 3, 172, 132, 3, 1, 167, 255, 209, 4, 172] := by decide +kernel
theorem dX5_standsHere_32 : decode cX5_standsHere 32 = .ok (.aload_n 0, 1) := oq_42 (bq_in kqX5_standsHere_1 0 rfl)
theorem dX5_standsHere_33 : decode cX5_standsHere 33 = .ok (.getfield 36, 3) := oq_180 (bq_in kqX5_standsHere_1 1 rfl) (bq_in kqX5_standsHere_1 2 rfl) (bq_in kqX5_standsHere_1 3 rfl) rfl
theorem dX5_standsHere_36 : decode cX5_standsHere 36 = .ok (.iload_n 3, 1) := oq_29 (bq_in kqX5_standsHere_1 4 rfl)
theorem dX5_standsHere_37 : decode cX5_standsHere 37 = .ok (.caload, 1) := oq_52 (bq_in kqX5_standsHere_1 5 rfl)
theorem dX5_standsHere_38 : decode cX5_standsHere 38 = .ok (.aload_n 1, 1) := oq_43 (bq_in kqX5_standsHere_1 6 rfl)
theorem dX5_standsHere_39 : decode cX5_standsHere 39 = .ok (.iload 4, 2) := oq_21 (bq_in kqX5_standsHere_1 7 rfl) (bq_in kqX5_standsHere_1 8 rfl)
theorem dX5_standsHere_41 : decode cX5_standsHere 41 = .ok (.invokevirtual 194, 3) := oq_182 (bq_in kqX5_standsHere_1 9 rfl) (bq_in kqX5_standsHere_1 10 rfl) (bq_in kqX5_standsHere_1 11 rfl) rfl
theorem dX5_standsHere_44 : decode cX5_standsHere 44 = .ok (.if_icmp .eq 5, 3) := oq_159 (bq_in kqX5_standsHere_1 12 rfl) (bq_in kqX5_standsHere_1 13 rfl) (bq_in kqX5_standsHere_1 14 rfl) rfl
theorem dX5_standsHere_47 : decode cX5_standsHere 47 = .ok (.iconst 0, 1) := oq_3 (bq_in kqX5_standsHere_1 15 rfl)
theorem dX5_standsHere_48 : decode cX5_standsHere 48 = .ok (.ireturn, 1) := oq_172 (bq_in kqX5_standsHere_1 16 rfl)
theorem dX5_standsHere_49 : decode cX5_standsHere 49 = .ok (.iinc 3 1, 3) := oq_132 (bq_in kqX5_standsHere_1 17 rfl) (bq_in kqX5_standsHere_1 18 rfl) (bq_in kqX5_standsHere_1 19 rfl) rfl
theorem dX5_standsHere_52 : decode cX5_standsHere 52 = .ok (.goto (-47), 3) := oq_167 (bq_in kqX5_standsHere_1 20 rfl) (bq_in kqX5_standsHere_1 21 rfl) (bq_in kqX5_standsHere_1 22 rfl) rfl
theorem dX5_standsHere_55 : decode cX5_standsHere 55 = .ok (.iconst 1, 1) := oq_4 (bq_in kqX5_standsHere_1 23 rfl)
theorem dX5_standsHere_56 : decode cX5_standsHere 56 = .ok (.ireturn, 1) := oq_172 (bq_in kqX5_standsHere_1 24 rfl)
theorem kqX5_step_0 : ((cX5_step.data.toList.drop 0).take 34).map UInt8.toNat = [42, 42, 180, 0, 18, 181, 0, 15, 42, 180, 0, 15, 42, 180, 0, 46, 162, 0, 30, 42, 180, 0, 36, 42, 180, 0, 15, 52, 16, 32, 160, 0, 16, 42] := by decide +kernel
theorem dX5_step_0 : decode cX5_step 0 = .ok (.aload_n 0, 1) := oq_42 (bq_in kqX5_step_0 0 rfl)
theorem dX5_step_1 : decode cX5_step 1 = .ok (.aload_n 0, 1) := oq_42 (bq_in kqX5_step_0 1 rfl)
theorem dX5_step_2 : decode cX5_step 2 = .ok (.getfield 18, 3) := oq_180 (bq_in kqX5_step_0 2 rfl) (bq_in kqX5_step_0 3 rfl) (bq_in kqX5_step_0 4 rfl) rfl
theorem dX5_step_5 : decode cX5_step 5 = .ok (.putfield 15, 3) := oq_181 (bq_in kqX5_step_0 5 rfl) (bq_in kqX5_step_0 6 rfl) (bq_in kqX5_step_0 7 rfl) rfl
theorem dX5_step_8 : decode cX5_step 8 = .ok (.aload_n 0, 1) := oq_42 (bq_in kqX5_step_0 8 rfl)
theorem dX5_step_9 : decode cX5_step 9 = .ok (.getfield 15, 3) := oq_180 (bq_in kqX5_step_0 9 rfl) (bq_in kqX5_step_0 10 rfl) (bq_in kqX5_step_0 11 rfl) rfl
theorem dX5_step_12 : decode cX5_step 12 = .ok (.aload_n 0, 1) := oq_42 (bq_in kqX5_step_0 12 rfl)
theorem dX5_step_13 : decode cX5_step 13 = .ok (.getfield 46, 3) := oq_180 (bq_in kqX5_step_0 13 rfl) (bq_in kqX5_step_0 14 rfl) (bq_in kqX5_step_0 15 rfl) rfl
theorem dX5_step_16 : decode cX5_step 16 = .ok (.if_icmp .ge 30, 3) := oq_162 (bq_in kqX5_step_0 16 rfl) (bq_in kqX5_step_0 17 rfl) (bq_in kqX5_step_0 18 rfl) rfl
theorem dX5_step_19 : decode cX5_step 19 = .ok (.aload_n 0, 1) := oq_42 (bq_in kqX5_step_0 19 rfl)
theorem dX5_step_20 : decode cX5_step 20 = .ok (.getfield 36, 3) := oq_180 (bq_in kqX5_step_0 20 rfl) (bq_in kqX5_step_0 21 rfl) (bq_in kqX5_step_0 22 rfl) rfl
theorem dX5_step_23 : decode cX5_step 23 = .ok (.aload_n 0, 1) := oq_42 (bq_in kqX5_step_0 23 rfl)
theorem dX5_step_24 : decode cX5_step 24 = .ok (.getfield 15, 3) := oq_180 (bq_in kqX5_step_0 24 rfl) (bq_in kqX5_step_0 25 rfl) (bq_in kqX5_step_0 26 rfl) rfl
theorem dX5_step_27 : decode cX5_step 27 = .ok (.caload, 1) := oq_52 (bq_in kqX5_step_0 27 rfl)
theorem dX5_step_28 : decode cX5_step 28 = .ok (.bipush 32, 2) := oq_16 (bq_in kqX5_step_0 28 rfl) (bq_in kqX5_step_0 29 rfl) rfl
theorem dX5_step_30 : decode cX5_step 30 = .ok (.if_icmp .ne 16, 3) := oq_160 (bq_in kqX5_step_0 30 rfl) (bq_in kqX5_step_0 31 rfl) (bq_in kqX5_step_0 32 rfl) rfl
theorem kqX5_step_1 : ((cX5_step.data.toList.drop 32).take 34).map UInt8.toNat = [16, 42, 89, 180, 0, 15, 4, 96, 181, 0, 15, 167, 255, 221, 42, 42, 42, 180, 0, 15, 182, 0, 198, 181, 0, 11, 42, 42, 180, 0, 15, 181, 0, 18] := by decide +kernel
theorem dX5_step_33 : decode cX5_step 33 = .ok (.aload_n 0, 1) := oq_42 (bq_in kqX5_step_1 1 rfl)
theorem dX5_step_34 : decode cX5_step 34 = .ok (.dup, 1) := oq_89 (bq_in kqX5_step_1 2 rfl)
theorem dX5_step_35 : decode cX5_step 35 = .ok (.getfield 15, 3) := oq_180 (bq_in kqX5_step_1 3 rfl) (bq_in kqX5_step_1 4 rfl) (bq_in kqX5_step_1 5 rfl) rfl
theorem dX5_step_38 : decode cX5_step 38 = .ok (.iconst 1, 1) := oq_4 (bq_in kqX5_step_1 6 rfl)
theorem dX5_step_39 : decode cX5_step 39 = .ok (.iadd, 1) := oq_96 (bq_in kqX5_step_1 7 rfl)
theorem dX5_step_40 : decode cX5_step 40 = .ok (.putfield 15, 3) := oq_181 (bq_in kqX5_step_1 8 rfl) (bq_in kqX5_step_1 9 rfl) (bq_in kqX5_step_1 10 rfl) rfl
theorem dX5_step_43 : decode cX5_step 43 = .ok (.goto (-35), 3) := oq_167 (bq_in kqX5_step_1 11 rfl) (bq_in kqX5_step_1 12 rfl) (bq_in kqX5_step_1 13 rfl) rfl
theorem dX5_step_46 : decode cX5_step 46 = .ok (.aload_n 0, 1) := oq_42 (bq_in kqX5_step_1 14 rfl)
theorem dX5_step_47 : decode cX5_step 47 = .ok (.aload_n 0, 1) := oq_42 (bq_in kqX5_step_1 15 rfl)
theorem dX5_step_48 : decode cX5_step 48 = .ok (.aload_n 0, 1) := oq_42 (bq_in kqX5_step_1 16 rfl)
theorem dX5_step_49 : decode cX5_step 49 = .ok (.getfield 15, 3) := oq_180 (bq_in kqX5_step_1 17 rfl) (bq_in kqX5_step_1 18 rfl) (bq_in kqX5_step_1 19 rfl) rfl
theorem dX5_step_52 : decode cX5_step 52 = .ok (.invokevirtual 198, 3) := oq_182 (bq_in kqX5_step_1 20 rfl) (bq_in kqX5_step_1 21 rfl) (bq_in kqX5_step_1 22 rfl) rfl
theorem dX5_step_55 : decode cX5_step 55 = .ok (.putfield 11, 3) := oq_181 (bq_in kqX5_step_1 23 rfl) (bq_in kqX5_step_1 24 rfl) (bq_in kqX5_step_1 25 rfl) rfl
theorem dX5_step_58 : decode cX5_step 58 = .ok (.aload_n 0, 1) := oq_42 (bq_in kqX5_step_1 26 rfl)
theorem dX5_step_59 : decode cX5_step 59 = .ok (.aload_n 0, 1) := oq_42 (bq_in kqX5_step_1 27 rfl)
theorem dX5_step_60 : decode cX5_step 60 = .ok (.getfield 15, 3) := oq_180 (bq_in kqX5_step_1 28 rfl) (bq_in kqX5_step_1 29 rfl) (bq_in kqX5_step_1 30 rfl) rfl
theorem dX5_step_63 : decode cX5_step 63 = .ok (.putfield 18, 3) := oq_181 (bq_in kqX5_step_1 31 rfl) (bq_in kqX5_step_1 32 rfl) (bq_in kqX5_step_1 33 rfl) rfl
theorem kqX5_step_2 : ((cX5_step.data.toList.drop 64).take 34).map UInt8.toNat = [0, 18, 42, 180, 0, 18, 42, 180, 0, 46, 162, 0, 39, 42, 180, 0, 11, 6, 159, 0, 31, 42, 42, 180, 0, 18, 182, 0, 198, 42, 180, 0, 11, 160] := by decide +kernel
theorem dX5_step_66 : decode cX5_step 66 = .ok (.aload_n 0, 1) := oq_42 (bq_in kqX5_step_2 2 rfl)
theorem dX5_step_67 : decode cX5_step 67 = .ok (.getfield 18, 3) := oq_180 (bq_in kqX5_step_2 3 rfl) (bq_in kqX5_step_2 4 rfl) (bq_in kqX5_step_2 5 rfl) rfl
theorem dX5_step_70 : decode cX5_step 70 = .ok (.aload_n 0, 1) := oq_42 (bq_in kqX5_step_2 6 rfl)
theorem dX5_step_71 : decode cX5_step 71 = .ok (.getfield 46, 3) := oq_180 (bq_in kqX5_step_2 7 rfl) (bq_in kqX5_step_2 8 rfl) (bq_in kqX5_step_2 9 rfl) rfl
theorem dX5_step_74 : decode cX5_step 74 = .ok (.if_icmp .ge 39, 3) := oq_162 (bq_in kqX5_step_2 10 rfl) (bq_in kqX5_step_2 11 rfl) (bq_in kqX5_step_2 12 rfl) rfl
theorem dX5_step_77 : decode cX5_step 77 = .ok (.aload_n 0, 1) := oq_42 (bq_in kqX5_step_2 13 rfl)
theorem dX5_step_78 : decode cX5_step 78 = .ok (.getfield 11, 3) := oq_180 (bq_in kqX5_step_2 14 rfl) (bq_in kqX5_step_2 15 rfl) (bq_in kqX5_step_2 16 rfl) rfl
theorem dX5_step_81 : decode cX5_step 81 = .ok (.iconst 3, 1) := oq_6 (bq_in kqX5_step_2 17 rfl)
theorem dX5_step_82 : decode cX5_step 82 = .ok (.if_icmp .eq 31, 3) := oq_159 (bq_in kqX5_step_2 18 rfl) (bq_in kqX5_step_2 19 rfl) (bq_in kqX5_step_2 20 rfl) rfl
theorem dX5_step_85 : decode cX5_step 85 = .ok (.aload_n 0, 1) := oq_42 (bq_in kqX5_step_2 21 rfl)
theorem dX5_step_86 : decode cX5_step 86 = .ok (.aload_n 0, 1) := oq_42 (bq_in kqX5_step_2 22 rfl)
theorem dX5_step_87 : decode cX5_step 87 = .ok (.getfield 18, 3) := oq_180 (bq_in kqX5_step_2 23 rfl) (bq_in kqX5_step_2 24 rfl) (bq_in kqX5_step_2 25 rfl) rfl
theorem dX5_step_90 : decode cX5_step 90 = .ok (.invokevirtual 198, 3) := oq_182 (bq_in kqX5_step_2 26 rfl) (bq_in kqX5_step_2 27 rfl) (bq_in kqX5_step_2 28 rfl) rfl
theorem dX5_step_93 : decode cX5_step 93 = .ok (.aload_n 0, 1) := oq_42 (bq_in kqX5_step_2 29 rfl)
theorem dX5_step_94 : decode cX5_step 94 = .ok (.getfield 11, 3) := oq_180 (bq_in kqX5_step_2 30 rfl) (bq_in kqX5_step_2 31 rfl) (bq_in kqX5_step_2 32 rfl) rfl
theorem kqX5_step_3 : ((cX5_step.data.toList.drop 96).take 34).map UInt8.toNat = [11, 160, 0, 16, 42, 89, 180, 0, 18, 4, 96, 181, 0, 18, 167, 255, 212, 177] := by decide +kernel
theorem dX5_step_97 : decode cX5_step 97 = .ok (.if_icmp .ne 16, 3) := oq_160 (bq_in kqX5_step_3 1 rfl) (bq_in kqX5_step_3 2 rfl) (bq_in kqX5_step_3 3 rfl) rfl
theorem dX5_step_100 : decode cX5_step 100 = .ok (.aload_n 0, 1) := oq_42 (bq_in kqX5_step_3 4 rfl)
theorem dX5_step_101 : decode cX5_step 101 = .ok (.dup, 1) := oq_89 (bq_in kqX5_step_3 5 rfl)
theorem dX5_step_102 : decode cX5_step 102 = .ok (.getfield 18, 3) := oq_180 (bq_in kqX5_step_3 6 rfl) (bq_in kqX5_step_3 7 rfl) (bq_in kqX5_step_3 8 rfl) rfl
theorem dX5_step_105 : decode cX5_step 105 = .ok (.iconst 1, 1) := oq_4 (bq_in kqX5_step_3 9 rfl)
theorem dX5_step_106 : decode cX5_step 106 = .ok (.iadd, 1) := oq_96 (bq_in kqX5_step_3 10 rfl)
theorem dX5_step_107 : decode cX5_step 107 = .ok (.putfield 18, 3) := oq_181 (bq_in kqX5_step_3 11 rfl) (bq_in kqX5_step_3 12 rfl) (bq_in kqX5_step_3 13 rfl) rfl
theorem dX5_step_110 : decode cX5_step 110 = .ok (.goto (-44), 3) := oq_167 (bq_in kqX5_step_3 14 rfl) (bq_in kqX5_step_3 15 rfl) (bq_in kqX5_step_3 16 rfl) rfl
theorem dX5_step_113 : decode cX5_step 113 = .ok (.return_, 1) := oq_177 (bq_in kqX5_step_3 17 rfl)
theorem kqX5_typeAt_0 : ((cX5_typeAt.data.toList.drop 0).take 34).map UInt8.toNat = [27, 42, 180, 0, 46, 161, 0, 5, 3, 172, 42, 180, 0, 36, 27, 52, 61, 28, 16, 97, 161, 0, 11, 28, 16, 122, 163, 0, 5, 4, 172, 28, 16, 48] := by decide +kernel
theorem dX5_typeAt_0 : decode cX5_typeAt 0 = .ok (.iload_n 1, 1) := oq_27 (bq_in kqX5_typeAt_0 0 rfl)
theorem dX5_typeAt_1 : decode cX5_typeAt 1 = .ok (.aload_n 0, 1) := oq_42 (bq_in kqX5_typeAt_0 1 rfl)
theorem dX5_typeAt_2 : decode cX5_typeAt 2 = .ok (.getfield 46, 3) := oq_180 (bq_in kqX5_typeAt_0 2 rfl) (bq_in kqX5_typeAt_0 3 rfl) (bq_in kqX5_typeAt_0 4 rfl) rfl
theorem dX5_typeAt_5 : decode cX5_typeAt 5 = .ok (.if_icmp .lt 5, 3) := oq_161 (bq_in kqX5_typeAt_0 5 rfl) (bq_in kqX5_typeAt_0 6 rfl) (bq_in kqX5_typeAt_0 7 rfl) rfl
theorem dX5_typeAt_8 : decode cX5_typeAt 8 = .ok (.iconst 0, 1) := oq_3 (bq_in kqX5_typeAt_0 8 rfl)
theorem dX5_typeAt_9 : decode cX5_typeAt 9 = .ok (.ireturn, 1) := oq_172 (bq_in kqX5_typeAt_0 9 rfl)
theorem dX5_typeAt_10 : decode cX5_typeAt 10 = .ok (.aload_n 0, 1) := oq_42 (bq_in kqX5_typeAt_0 10 rfl)
theorem dX5_typeAt_11 : decode cX5_typeAt 11 = .ok (.getfield 36, 3) := oq_180 (bq_in kqX5_typeAt_0 11 rfl) (bq_in kqX5_typeAt_0 12 rfl) (bq_in kqX5_typeAt_0 13 rfl) rfl
theorem dX5_typeAt_14 : decode cX5_typeAt 14 = .ok (.iload_n 1, 1) := oq_27 (bq_in kqX5_typeAt_0 14 rfl)
theorem dX5_typeAt_15 : decode cX5_typeAt 15 = .ok (.caload, 1) := oq_52 (bq_in kqX5_typeAt_0 15 rfl)
theorem dX5_typeAt_16 : decode cX5_typeAt 16 = .ok (.istore_n 2, 1) := oq_61 (bq_in kqX5_typeAt_0 16 rfl)
theorem dX5_typeAt_17 : decode cX5_typeAt 17 = .ok (.iload_n 2, 1) := oq_28 (bq_in kqX5_typeAt_0 17 rfl)
theorem dX5_typeAt_18 : decode cX5_typeAt 18 = .ok (.bipush 97, 2) := oq_16 (bq_in kqX5_typeAt_0 18 rfl) (bq_in kqX5_typeAt_0 19 rfl) rfl
theorem dX5_typeAt_20 : decode cX5_typeAt 20 = .ok (.if_icmp .lt 11, 3) := oq_161 (bq_in kqX5_typeAt_0 20 rfl) (bq_in kqX5_typeAt_0 21 rfl) (bq_in kqX5_typeAt_0 22 rfl) rfl
theorem dX5_typeAt_23 : decode cX5_typeAt 23 = .ok (.iload_n 2, 1) := oq_28 (bq_in kqX5_typeAt_0 23 rfl)
theorem dX5_typeAt_24 : decode cX5_typeAt 24 = .ok (.bipush 122, 2) := oq_16 (bq_in kqX5_typeAt_0 24 rfl) (bq_in kqX5_typeAt_0 25 rfl) rfl
theorem dX5_typeAt_26 : decode cX5_typeAt 26 = .ok (.if_icmp .gt 5, 3) := oq_163 (bq_in kqX5_typeAt_0 26 rfl) (bq_in kqX5_typeAt_0 27 rfl) (bq_in kqX5_typeAt_0 28 rfl) rfl
theorem dX5_typeAt_29 : decode cX5_typeAt 29 = .ok (.iconst 1, 1) := oq_4 (bq_in kqX5_typeAt_0 29 rfl)
theorem dX5_typeAt_30 : decode cX5_typeAt 30 = .ok (.ireturn, 1) := oq_172 (bq_in kqX5_typeAt_0 30 rfl)
theorem dX5_typeAt_31 : decode cX5_typeAt 31 = .ok (.iload_n 2, 1) := oq_28 (bq_in kqX5_typeAt_0 31 rfl)
theorem kqX5_typeAt_1 : ((cX5_typeAt.data.toList.drop 32).take 34).map UInt8.toNat = [16, 48, 161, 0, 13, 28, 16, 57, 163, 0, 7, 5, 167, 0, 4, 6, 172] := by decide +kernel
theorem dX5_typeAt_32 : decode cX5_typeAt 32 = .ok (.bipush 48, 2) := oq_16 (bq_in kqX5_typeAt_1 0 rfl) (bq_in kqX5_typeAt_1 1 rfl) rfl
theorem dX5_typeAt_34 : decode cX5_typeAt 34 = .ok (.if_icmp .lt 13, 3) := oq_161 (bq_in kqX5_typeAt_1 2 rfl) (bq_in kqX5_typeAt_1 3 rfl) (bq_in kqX5_typeAt_1 4 rfl) rfl
theorem dX5_typeAt_37 : decode cX5_typeAt 37 = .ok (.iload_n 2, 1) := oq_28 (bq_in kqX5_typeAt_1 5 rfl)
theorem dX5_typeAt_38 : decode cX5_typeAt 38 = .ok (.bipush 57, 2) := oq_16 (bq_in kqX5_typeAt_1 6 rfl) (bq_in kqX5_typeAt_1 7 rfl) rfl
theorem dX5_typeAt_40 : decode cX5_typeAt 40 = .ok (.if_icmp .gt 7, 3) := oq_163 (bq_in kqX5_typeAt_1 8 rfl) (bq_in kqX5_typeAt_1 9 rfl) (bq_in kqX5_typeAt_1 10 rfl) rfl
theorem dX5_typeAt_43 : decode cX5_typeAt 43 = .ok (.iconst 2, 1) := oq_5 (bq_in kqX5_typeAt_1 11 rfl)
theorem dX5_typeAt_44 : decode cX5_typeAt 44 = .ok (.goto 4, 3) := oq_167 (bq_in kqX5_typeAt_1 12 rfl) (bq_in kqX5_typeAt_1 13 rfl) (bq_in kqX5_typeAt_1 14 rfl) rfl
theorem dX5_typeAt_47 : decode cX5_typeAt 47 = .ok (.iconst 3, 1) := oq_6 (bq_in kqX5_typeAt_1 15 rfl)
theorem dX5_typeAt_48 : decode cX5_typeAt 48 = .ok (.ireturn, 1) := oq_172 (bq_in kqX5_typeAt_1 16 rfl)
