theorem dX10_drop_18 : decode cX10_drop 18 = .ok (.iload_n 2, 1) := oq_28 (bq_in kqX10_drop_0 18 rfl)
theorem dX10_drop_19 : decode cX10_drop 19 = .ok (.invokevirtual 239, 3) := oq_182 (bq_in kqX10_drop_0 19 rfl) (bq_in kqX10_drop_0 20 rfl) (bq_in kqX10_drop_0 21 rfl) rfl
theorem dX10_drop_22 : decode cX10_drop 22 = .ok (.istore_n 3, 1) := oq_62 (bq_in kqX10_drop_0 22 rfl)
theorem dX10_drop_23 : decode cX10_drop 23 = .ok (.iload_n 3, 1) := oq_29 (bq_in kqX10_drop_0 23 rfl)
theorem dX10_drop_24 : decode cX10_drop 24 = .ok (.ifCond .lt 21, 3) := oq_155 (bq_in kqX10_drop_0 24 rfl) (bq_in kqX10_drop_0 25 rfl) (bq_in kqX10_drop_0 26 rfl) rfl
theorem dX10_drop_27 : decode cX10_drop 27 = .ok (.aload_n 0, 1) := oq_42 (bq_in kqX10_drop_0 27 rfl)
theorem dX10_drop_28 : decode cX10_drop 28 = .ok (.iload_n 1, 1) := oq_27 (bq_in kqX10_drop_0 28 rfl)
theorem dX10_drop_29 : decode cX10_drop 29 = .ok (.bipush 12, 2) := oq_16 (bq_in kqX10_drop_0 29 rfl) (bq_in kqX10_drop_0 30 rfl) rfl
theorem dX10_drop_31 : decode cX10_drop 31 = .ok (.iconst 2, 1) := oq_5 (bq_in kqX10_drop_0 31 rfl)
theorem kqX10_drop_1 : ((cX10_drop.data.toList.drop 32).take 34).map UInt8.toNat = [29, 104, 96, 4, 96, 182, 0, 229, 156, 0, 5, 3, 172, 42, 27, 28, 2, 182, 0, 245, 172] := by decide +kernel
theorem dX10_drop_32 : decode cX10_drop 32 = .ok (.iload_n 3, 1) := oq_29 (bq_in kqX10_drop_1 0 rfl)
theorem dX10_drop_33 : decode cX10_drop 33 = .ok (.imul, 1) := oq_104 (bq_in kqX10_drop_1 1 rfl)
theorem dX10_drop_34 : decode cX10_drop 34 = .ok (.iadd, 1) := oq_96 (bq_in kqX10_drop_1 2 rfl)
theorem dX10_drop_35 : decode cX10_drop 35 = .ok (.iconst 1, 1) := oq_4 (bq_in kqX10_drop_1 3 rfl)
theorem dX10_drop_36 : decode cX10_drop 36 = .ok (.iadd, 1) := oq_96 (bq_in kqX10_drop_1 4 rfl)
theorem dX10_drop_37 : decode cX10_drop 37 = .ok (.invokevirtual 229, 3) := oq_182 (bq_in kqX10_drop_1 5 rfl) (bq_in kqX10_drop_1 6 rfl) (bq_in kqX10_drop_1 7 rfl) rfl
theorem dX10_drop_40 : decode cX10_drop 40 = .ok (.ifCond .ge 5, 3) := oq_156 (bq_in kqX10_drop_1 8 rfl) (bq_in kqX10_drop_1 9 rfl) (bq_in kqX10_drop_1 10 rfl) rfl
theorem dX10_drop_43 : decode cX10_drop 43 = .ok (.iconst 0, 1) := oq_3 (bq_in kqX10_drop_1 11 rfl)
theorem dX10_drop_44 : decode cX10_drop 44 = .ok (.ireturn, 1) := oq_172 (bq_in kqX10_drop_1 12 rfl)
theorem dX10_drop_45 : decode cX10_drop 45 = .ok (.aload_n 0, 1) := oq_42 (bq_in kqX10_drop_1 13 rfl)
theorem dX10_drop_46 : decode cX10_drop 46 = .ok (.iload_n 1, 1) := oq_27 (bq_in kqX10_drop_1 14 rfl)
theorem dX10_drop_47 : decode cX10_drop 47 = .ok (.iload_n 2, 1) := oq_28 (bq_in kqX10_drop_1 15 rfl)
theorem dX10_drop_48 : decode cX10_drop 48 = .ok (.iconst (-1), 1) := oq_2 (bq_in kqX10_drop_1 16 rfl)
theorem dX10_drop_49 : decode cX10_drop 49 = .ok (.invokevirtual 245, 3) := oq_182 (bq_in kqX10_drop_1 17 rfl) (bq_in kqX10_drop_1 18 rfl) (bq_in kqX10_drop_1 19 rfl) rfl
theorem dX10_drop_52 : decode cX10_drop 52 = .ok (.ireturn, 1) := oq_172 (bq_in kqX10_drop_1 20 rfl)
theorem kqX10_move_0 : ((cX10_move.data.toList.drop 0).take 34).map UInt8.toNat = [42, 3, 181, 0, 60, 29, 184, 0, 248, 153, 0, 26, 42, 27, 28, 182, 0, 242, 153, 0, 17, 42, 27, 28, 29, 182, 0, 245, 153, 0, 7, 4, 167, 0] := by decide +kernel
theorem dX10_move_0 : decode cX10_move 0 = .ok (.aload_n 0, 1) := oq_42 (bq_in kqX10_move_0 0 rfl)
theorem dX10_move_1 : decode cX10_move 1 = .ok (.iconst 0, 1) := oq_3 (bq_in kqX10_move_0 1 rfl)
theorem dX10_move_2 : decode cX10_move 2 = .ok (.putfield 60, 3) := oq_181 (bq_in kqX10_move_0 2 rfl) (bq_in kqX10_move_0 3 rfl) (bq_in kqX10_move_0 4 rfl) rfl
theorem dX10_move_5 : decode cX10_move 5 = .ok (.iload_n 3, 1) := oq_29 (bq_in kqX10_move_0 5 rfl)
theorem dX10_move_6 : decode cX10_move 6 = .ok (.invokestatic 248, 3) := oq_184 (bq_in kqX10_move_0 6 rfl) (bq_in kqX10_move_0 7 rfl) (bq_in kqX10_move_0 8 rfl) rfl
theorem dX10_move_9 : decode cX10_move 9 = .ok (.ifCond .eq 26, 3) := oq_153 (bq_in kqX10_move_0 9 rfl) (bq_in kqX10_move_0 10 rfl) (bq_in kqX10_move_0 11 rfl) rfl
theorem dX10_move_12 : decode cX10_move 12 = .ok (.aload_n 0, 1) := oq_42 (bq_in kqX10_move_0 12 rfl)
theorem dX10_move_13 : decode cX10_move 13 = .ok (.iload_n 1, 1) := oq_27 (bq_in kqX10_move_0 13 rfl)
theorem dX10_move_14 : decode cX10_move 14 = .ok (.iload_n 2, 1) := oq_28 (bq_in kqX10_move_0 14 rfl)
theorem dX10_move_15 : decode cX10_move 15 = .ok (.invokevirtual 242, 3) := oq_182 (bq_in kqX10_move_0 15 rfl) (bq_in kqX10_move_0 16 rfl) (bq_in kqX10_move_0 17 rfl) rfl
theorem dX10_move_18 : decode cX10_move 18 = .ok (.ifCond .eq 17, 3) := oq_153 (bq_in kqX10_move_0 18 rfl) (bq_in kqX10_move_0 19 rfl) (bq_in kqX10_move_0 20 rfl) rfl
theorem dX10_move_21 : decode cX10_move 21 = .ok (.aload_n 0, 1) := oq_42 (bq_in kqX10_move_0 21 rfl)
theorem dX10_move_22 : decode cX10_move 22 = .ok (.iload_n 1, 1) := oq_27 (bq_in kqX10_move_0 22 rfl)
theorem dX10_move_23 : decode cX10_move 23 = .ok (.iload_n 2, 1) := oq_28 (bq_in kqX10_move_0 23 rfl)
theorem dX10_move_24 : decode cX10_move 24 = .ok (.iload_n 3, 1) := oq_29 (bq_in kqX10_move_0 24 rfl)
theorem dX10_move_25 : decode cX10_move 25 = .ok (.invokevirtual 245, 3) := oq_182 (bq_in kqX10_move_0 25 rfl) (bq_in kqX10_move_0 26 rfl) (bq_in kqX10_move_0 27 rfl) rfl
theorem dX10_move_28 : decode cX10_move 28 = .ok (.ifCond .eq 7, 3) := oq_153 (bq_in kqX10_move_0 28 rfl) (bq_in kqX10_move_0 29 rfl) (bq_in kqX10_move_0 30 rfl) rfl
theorem dX10_move_31 : decode cX10_move 31 = .ok (.iconst 1, 1) := oq_4 (bq_in kqX10_move_0 31 rfl)
theorem kqX10_move_1 : ((cX10_move.data.toList.drop 32).take 34).map UInt8.toNat = [167, 0, 4, 3, 172] := by decide +kernel
theorem dX10_move_32 : decode cX10_move 32 = .ok (.goto 4, 3) := oq_167 (bq_in kqX10_move_1 0 rfl) (bq_in kqX10_move_1 1 rfl) (bq_in kqX10_move_1 2 rfl) rfl
theorem dX10_move_35 : decode cX10_move 35 = .ok (.iconst 0, 1) := oq_3 (bq_in kqX10_move_1 3 rfl)
theorem dX10_move_36 : decode cX10_move 36 = .ok (.ireturn, 1) := oq_172 (bq_in kqX10_move_1 4 rfl)
theorem kqX10_forgets_0 : ((cX10_forgets.data.toList.drop 0).take 34).map UInt8.toNat = [42, 180, 0, 23, 16, 44, 27, 104, 16, 11, 96, 92, 46, 4, 100, 79, 16, 12, 5, 28, 104, 96, 62, 29, 16, 12, 5, 42, 27, 16, 11, 182, 0, 229] := by decide +kernel
theorem dX10_forgets_0 : decode cX10_forgets 0 = .ok (.aload_n 0, 1) := oq_42 (bq_in kqX10_forgets_0 0 rfl)
theorem dX10_forgets_1 : decode cX10_forgets 1 = .ok (.getfield 23, 3) := oq_180 (bq_in kqX10_forgets_0 1 rfl) (bq_in kqX10_forgets_0 2 rfl) (bq_in kqX10_forgets_0 3 rfl) rfl
theorem dX10_forgets_4 : decode cX10_forgets 4 = .ok (.bipush 44, 2) := oq_16 (bq_in kqX10_forgets_0 4 rfl) (bq_in kqX10_forgets_0 5 rfl) rfl
theorem dX10_forgets_6 : decode cX10_forgets 6 = .ok (.iload_n 1, 1) := oq_27 (bq_in kqX10_forgets_0 6 rfl)
theorem dX10_forgets_7 : decode cX10_forgets 7 = .ok (.imul, 1) := oq_104 (bq_in kqX10_forgets_0 7 rfl)
theorem dX10_forgets_8 : decode cX10_forgets 8 = .ok (.bipush 11, 2) := oq_16 (bq_in kqX10_forgets_0 8 rfl) (bq_in kqX10_forgets_0 9 rfl) rfl
theorem dX10_forgets_10 : decode cX10_forgets 10 = .ok (.iadd, 1) := oq_96 (bq_in kqX10_forgets_0 10 rfl)
theorem dX10_forgets_11 : decode cX10_forgets 11 = .ok (.dup2, 1) := oq_92 (bq_in kqX10_forgets_0 11 rfl)
theorem dX10_forgets_12 : decode cX10_forgets 12 = .ok (.iaload, 1) := oq_46 (bq_in kqX10_forgets_0 12 rfl)
theorem dX10_forgets_13 : decode cX10_forgets 13 = .ok (.iconst 1, 1) := oq_4 (bq_in kqX10_forgets_0 13 rfl)
theorem dX10_forgets_14 : decode cX10_forgets 14 = .ok (.isub, 1) := oq_100 (bq_in kqX10_forgets_0 14 rfl)
theorem dX10_forgets_15 : decode cX10_forgets 15 = .ok (.iastore, 1) := oq_79 (bq_in kqX10_forgets_0 15 rfl)
theorem dX10_forgets_16 : decode cX10_forgets 16 = .ok (.bipush 12, 2) := oq_16 (bq_in kqX10_forgets_0 16 rfl) (bq_in kqX10_forgets_0 17 rfl) rfl
theorem dX10_forgets_18 : decode cX10_forgets 18 = .ok (.iconst 2, 1) := oq_5 (bq_in kqX10_forgets_0 18 rfl)
theorem dX10_forgets_19 : decode cX10_forgets 19 = .ok (.iload_n 2, 1) := oq_28 (bq_in kqX10_forgets_0 19 rfl)
theorem dX10_forgets_20 : decode cX10_forgets 20 = .ok (.imul, 1) := oq_104 (bq_in kqX10_forgets_0 20 rfl)
theorem dX10_forgets_21 : decode cX10_forgets 21 = .ok (.iadd, 1) := oq_96 (bq_in kqX10_forgets_0 21 rfl)
theorem dX10_forgets_22 : decode cX10_forgets 22 = .ok (.istore_n 3, 1) := oq_62 (bq_in kqX10_forgets_0 22 rfl)
theorem dX10_forgets_23 : decode cX10_forgets 23 = .ok (.iload_n 3, 1) := oq_29 (bq_in kqX10_forgets_0 23 rfl)
theorem dX10_forgets_24 : decode cX10_forgets 24 = .ok (.bipush 12, 2) := oq_16 (bq_in kqX10_forgets_0 24 rfl) (bq_in kqX10_forgets_0 25 rfl) rfl
theorem dX10_forgets_26 : decode cX10_forgets 26 = .ok (.iconst 2, 1) := oq_5 (bq_in kqX10_forgets_0 26 rfl)
theorem dX10_forgets_27 : decode cX10_forgets 27 = .ok (.aload_n 0, 1) := oq_42 (bq_in kqX10_forgets_0 27 rfl)
theorem dX10_forgets_28 : decode cX10_forgets 28 = .ok (.iload_n 1, 1) := oq_27 (bq_in kqX10_forgets_0 28 rfl)
theorem dX10_forgets_29 : decode cX10_forgets 29 = .ok (.bipush 11, 2) := oq_16 (bq_in kqX10_forgets_0 29 rfl) (bq_in kqX10_forgets_0 30 rfl) rfl
theorem dX10_forgets_31 : decode cX10_forgets 31 = .ok (.invokevirtual 229, 3) := oq_182 (bq_in kqX10_forgets_0 31 rfl) (bq_in kqX10_forgets_0 32 rfl) (bq_in kqX10_forgets_0 33 rfl) rfl
theorem kqX10_forgets_1 : ((cX10_forgets.data.toList.drop 32).take 34).map UInt8.toNat = [0, 229, 104, 96, 162, 0, 33, 42, 180, 0, 23, 16, 44, 27, 104, 29, 96, 42, 180, 0, 23, 16, 44, 27, 104, 29, 96, 5, 96, 46, 79, 132, 3, 1] := by decide +kernel
theorem dX10_forgets_34 : decode cX10_forgets 34 = .ok (.imul, 1) := oq_104 (bq_in kqX10_forgets_1 2 rfl)
theorem dX10_forgets_35 : decode cX10_forgets 35 = .ok (.iadd, 1) := oq_96 (bq_in kqX10_forgets_1 3 rfl)
theorem dX10_forgets_36 : decode cX10_forgets 36 = .ok (.if_icmp .ge 33, 3) := oq_162 (bq_in kqX10_forgets_1 4 rfl) (bq_in kqX10_forgets_1 5 rfl) (bq_in kqX10_forgets_1 6 rfl) rfl
theorem dX10_forgets_39 : decode cX10_forgets 39 = .ok (.aload_n 0, 1) := oq_42 (bq_in kqX10_forgets_1 7 rfl)
theorem dX10_forgets_40 : decode cX10_forgets 40 = .ok (.getfield 23, 3) := oq_180 (bq_in kqX10_forgets_1 8 rfl) (bq_in kqX10_forgets_1 9 rfl) (bq_in kqX10_forgets_1 10 rfl) rfl
theorem dX10_forgets_43 : decode cX10_forgets 43 = .ok (.bipush 44, 2) := oq_16 (bq_in kqX10_forgets_1 11 rfl) (bq_in kqX10_forgets_1 12 rfl) rfl
theorem dX10_forgets_45 : decode cX10_forgets 45 = .ok (.iload_n 1, 1) := oq_27 (bq_in kqX10_forgets_1 13 rfl)
theorem dX10_forgets_46 : decode cX10_forgets 46 = .ok (.imul, 1) := oq_104 (bq_in kqX10_forgets_1 14 rfl)
theorem dX10_forgets_47 : decode cX10_forgets 47 = .ok (.iload_n 3, 1) := oq_29 (bq_in kqX10_forgets_1 15 rfl)
theorem dX10_forgets_48 : decode cX10_forgets 48 = .ok (.iadd, 1) := oq_96 (bq_in kqX10_forgets_1 16 rfl)
theorem dX10_forgets_49 : decode cX10_forgets 49 = .ok (.aload_n 0, 1) := oq_42 (bq_in kqX10_forgets_1 17 rfl)
theorem dX10_forgets_50 : decode cX10_forgets 50 = .ok (.getfield 23, 3) := oq_180 (bq_in kqX10_forgets_1 18 rfl) (bq_in kqX10_forgets_1 19 rfl) (bq_in kqX10_forgets_1 20 rfl) rfl
theorem dX10_forgets_53 : decode cX10_forgets 53 = .ok (.bipush 44, 2) := oq_16 (bq_in kqX10_forgets_1 21 rfl) (bq_in kqX10_forgets_1 22 rfl) rfl
theorem dX10_forgets_55 : decode cX10_forgets 55 = .ok (.iload_n 1, 1) := oq_27 (bq_in kqX10_forgets_1 23 rfl)
theorem dX10_forgets_56 : decode cX10_forgets 56 = .ok (.imul, 1) := oq_104 (bq_in kqX10_forgets_1 24 rfl)
theorem dX10_forgets_57 : decode cX10_forgets 57 = .ok (.iload_n 3, 1) := oq_29 (bq_in kqX10_forgets_1 25 rfl)
theorem dX10_forgets_58 : decode cX10_forgets 58 = .ok (.iadd, 1) := oq_96 (bq_in kqX10_forgets_1 26 rfl)
theorem dX10_forgets_59 : decode cX10_forgets 59 = .ok (.iconst 2, 1) := oq_5 (bq_in kqX10_forgets_1 27 rfl)
theorem dX10_forgets_60 : decode cX10_forgets 60 = .ok (.iadd, 1) := oq_96 (bq_in kqX10_forgets_1 28 rfl)
theorem dX10_forgets_61 : decode cX10_forgets 61 = .ok (.iaload, 1) := oq_46 (bq_in kqX10_forgets_1 29 rfl)
theorem dX10_forgets_62 : decode cX10_forgets 62 = .ok (.iastore, 1) := oq_79 (bq_in kqX10_forgets_1 30 rfl)
theorem dX10_forgets_63 : decode cX10_forgets 63 = .ok (.iinc 3 1, 3) := oq_132 (bq_in kqX10_forgets_1 31 rfl) (bq_in kqX10_forgets_1 32 rfl) (bq_in kqX10_forgets_1 33 rfl) rfl
theorem kqX10_forgets_2 : ((cX10_forgets.data.toList.drop 64).take 34).map UInt8.toNat = [3, 1, 167, 255, 213, 177] := by decide +kernel
theorem dX10_forgets_66 : decode cX10_forgets 66 = .ok (.goto (-43), 3) := oq_167 (bq_in kqX10_forgets_2 2 rfl) (bq_in kqX10_forgets_2 3 rfl) (bq_in kqX10_forgets_2 4 rfl) rfl
theorem dX10_forgets_69 : decode cX10_forgets 69 = .ok (.return_, 1) := oq_177 (bq_in kqX10_forgets_2 5 rfl)
theorem kqX10_restore_0 : ((cX10_restore.data.toList.drop 0).take 34).map UInt8.toNat = [42, 3, 181, 0, 60, 42, 27, 28, 182, 0, 242, 154, 0, 5, 2, 172, 42, 27, 28, 182, 0, 239, 62, 29, 156, 0, 5, 3, 172, 42, 27, 16, 12, 5] := by decide +kernel
theorem dX10_restore_0 : decode cX10_restore 0 = .ok (.aload_n 0, 1) := oq_42 (bq_in kqX10_restore_0 0 rfl)
theorem dX10_restore_1 : decode cX10_restore 1 = .ok (.iconst 0, 1) := oq_3 (bq_in kqX10_restore_0 1 rfl)
theorem dX10_restore_2 : decode cX10_restore 2 = .ok (.putfield 60, 3) := oq_181 (bq_in kqX10_restore_0 2 rfl) (bq_in kqX10_restore_0 3 rfl) (bq_in kqX10_restore_0 4 rfl) rfl
theorem dX10_restore_5 : decode cX10_restore 5 = .ok (.aload_n 0, 1) := oq_42 (bq_in kqX10_restore_0 5 rfl)
theorem dX10_restore_6 : decode cX10_restore 6 = .ok (.iload_n 1, 1) := oq_27 (bq_in kqX10_restore_0 6 rfl)
theorem dX10_restore_7 : decode cX10_restore 7 = .ok (.iload_n 2, 1) := oq_28 (bq_in kqX10_restore_0 7 rfl)
theorem dX10_restore_8 : decode cX10_restore 8 = .ok (.invokevirtual 242, 3) := oq_182 (bq_in kqX10_restore_0 8 rfl) (bq_in kqX10_restore_0 9 rfl) (bq_in kqX10_restore_0 10 rfl) rfl
theorem dX10_restore_11 : decode cX10_restore 11 = .ok (.ifCond .ne 5, 3) := oq_154 (bq_in kqX10_restore_0 11 rfl) (bq_in kqX10_restore_0 12 rfl) (bq_in kqX10_restore_0 13 rfl) rfl
theorem dX10_restore_14 : decode cX10_restore 14 = .ok (.iconst (-1), 1) := oq_2 (bq_in kqX10_restore_0 14 rfl)
theorem dX10_restore_15 : decode cX10_restore 15 = .ok (.ireturn, 1) := oq_172 (bq_in kqX10_restore_0 15 rfl)
theorem dX10_restore_16 : decode cX10_restore 16 = .ok (.aload_n 0, 1) := oq_42 (bq_in kqX10_restore_0 16 rfl)
theorem dX10_restore_17 : decode cX10_restore 17 = .ok (.iload_n 1, 1) := oq_27 (bq_in kqX10_restore_0 17 rfl)
theorem dX10_restore_18 : decode cX10_restore 18 = .ok (.iload_n 2, 1) := oq_28 (bq_in kqX10_restore_0 18 rfl)
theorem dX10_restore_19 : decode cX10_restore 19 = .ok (.invokevirtual 239, 3) := oq_182 (bq_in kqX10_restore_0 19 rfl) (bq_in kqX10_restore_0 20 rfl) (bq_in kqX10_restore_0 21 rfl) rfl
theorem dX10_restore_22 : decode cX10_restore 22 = .ok (.istore_n 3, 1) := oq_62 (bq_in kqX10_restore_0 22 rfl)
theorem dX10_restore_23 : decode cX10_restore 23 = .ok (.iload_n 3, 1) := oq_29 (bq_in kqX10_restore_0 23 rfl)
theorem dX10_restore_24 : decode cX10_restore 24 = .ok (.ifCond .ge 5, 3) := oq_156 (bq_in kqX10_restore_0 24 rfl) (bq_in kqX10_restore_0 25 rfl) (bq_in kqX10_restore_0 26 rfl) rfl
theorem dX10_restore_27 : decode cX10_restore 27 = .ok (.iconst 0, 1) := oq_3 (bq_in kqX10_restore_0 27 rfl)
theorem dX10_restore_28 : decode cX10_restore 28 = .ok (.ireturn, 1) := oq_172 (bq_in kqX10_restore_0 28 rfl)
theorem dX10_restore_29 : decode cX10_restore 29 = .ok (.aload_n 0, 1) := oq_42 (bq_in kqX10_restore_0 29 rfl)
theorem dX10_restore_30 : decode cX10_restore 30 = .ok (.iload_n 1, 1) := oq_27 (bq_in kqX10_restore_0 30 rfl)
theorem dX10_restore_31 : decode cX10_restore 31 = .ok (.bipush 12, 2) := oq_16 (bq_in kqX10_restore_0 31 rfl) (bq_in kqX10_restore_0 32 rfl) rfl
theorem kqX10_restore_1 : ((cX10_restore.data.toList.drop 32).take 34).map UInt8.toNat = [12, 5, 29, 104, 96, 4, 96, 182, 0, 229, 156, 0, 7, 4, 167, 0, 4, 5, 54, 4, 42, 27, 29, 182, 0, 251, 21, 4, 172] := by decide +kernel
theorem dX10_restore_33 : decode cX10_restore 33 = .ok (.iconst 2, 1) := oq_5 (bq_in kqX10_restore_1 1 rfl)
theorem dX10_restore_34 : decode cX10_restore 34 = .ok (.iload_n 3, 1) := oq_29 (bq_in kqX10_restore_1 2 rfl)
theorem dX10_restore_35 : decode cX10_restore 35 = .ok (.imul, 1) := oq_104 (bq_in kqX10_restore_1 3 rfl)
theorem dX10_restore_36 : decode cX10_restore 36 = .ok (.iadd, 1) := oq_96 (bq_in kqX10_restore_1 4 rfl)
theorem dX10_restore_37 : decode cX10_restore 37 = .ok (.iconst 1, 1) := oq_4 (bq_in kqX10_restore_1 5 rfl)
theorem dX10_restore_38 : decode cX10_restore 38 = .ok (.iadd, 1) := oq_96 (bq_in kqX10_restore_1 6 rfl)
theorem dX10_restore_39 : decode cX10_restore 39 = .ok (.invokevirtual 229, 3) := oq_182 (bq_in kqX10_restore_1 7 rfl) (bq_in kqX10_restore_1 8 rfl) (bq_in kqX10_restore_1 9 rfl) rfl
theorem dX10_restore_42 : decode cX10_restore 42 = .ok (.ifCond .ge 7, 3) := oq_156 (bq_in kqX10_restore_1 10 rfl) (bq_in kqX10_restore_1 11 rfl) (bq_in kqX10_restore_1 12 rfl) rfl
theorem dX10_restore_45 : decode cX10_restore 45 = .ok (.iconst 1, 1) := oq_4 (bq_in kqX10_restore_1 13 rfl)
theorem dX10_restore_46 : decode cX10_restore 46 = .ok (.goto 4, 3) := oq_167 (bq_in kqX10_restore_1 14 rfl) (bq_in kqX10_restore_1 15 rfl) (bq_in kqX10_restore_1 16 rfl) rfl
theorem dX10_restore_49 : decode cX10_restore 49 = .ok (.iconst 2, 1) := oq_5 (bq_in kqX10_restore_1 17 rfl)
theorem dX10_restore_50 : decode cX10_restore 50 = .ok (.istore 4, 2) := oq_54 (bq_in kqX10_restore_1 18 rfl) (bq_in kqX10_restore_1 19 rfl)
theorem dX10_restore_52 : decode cX10_restore 52 = .ok (.aload_n 0, 1) := oq_42 (bq_in kqX10_restore_1 20 rfl)
theorem dX10_restore_53 : decode cX10_restore 53 = .ok (.iload_n 1, 1) := oq_27 (bq_in kqX10_restore_1 21 rfl)
theorem dX10_restore_54 : decode cX10_restore 54 = .ok (.iload_n 3, 1) := oq_29 (bq_in kqX10_restore_1 22 rfl)
theorem dX10_restore_55 : decode cX10_restore 55 = .ok (.invokevirtual 251, 3) := oq_182 (bq_in kqX10_restore_1 23 rfl) (bq_in kqX10_restore_1 24 rfl) (bq_in kqX10_restore_1 25 rfl) rfl
theorem dX10_restore_58 : decode cX10_restore 58 = .ok (.iload 4, 2) := oq_21 (bq_in kqX10_restore_1 26 rfl) (bq_in kqX10_restore_1 27 rfl)
theorem dX10_restore_60 : decode cX10_restore 60 = .ok (.ireturn, 1) := oq_172 (bq_in kqX10_restore_1 28 rfl)
theorem kqX10_next__0 : ((cX10_next_.data.toList.drop 0).take 34).map UInt8.toNat = [42, 3, 181, 0, 60, 42, 27, 182, 0, 220, 153, 0, 19, 28, 184, 0, 248, 153, 0, 12, 29, 3, 4, 184, 0, 65, 154, 0, 5, 2, 172, 42, 27, 3] := by decide +kernel
theorem dX10_next__0 : decode cX10_next_ 0 = .ok (.aload_n 0, 1) := oq_42 (bq_in kqX10_next__0 0 rfl)
theorem dX10_next__1 : decode cX10_next_ 1 = .ok (.iconst 0, 1) := oq_3 (bq_in kqX10_next__0 1 rfl)
theorem dX10_next__2 : decode cX10_next_ 2 = .ok (.putfield 60, 3) := oq_181 (bq_in kqX10_next__0 2 rfl) (bq_in kqX10_next__0 3 rfl) (bq_in kqX10_next__0 4 rfl) rfl
theorem dX10_next__5 : decode cX10_next_ 5 = .ok (.aload_n 0, 1) := oq_42 (bq_in kqX10_next__0 5 rfl)
theorem dX10_next__6 : decode cX10_next_ 6 = .ok (.iload_n 1, 1) := oq_27 (bq_in kqX10_next__0 6 rfl)
theorem dX10_next__7 : decode cX10_next_ 7 = .ok (.invokevirtual 220, 3) := oq_182 (bq_in kqX10_next__0 7 rfl) (bq_in kqX10_next__0 8 rfl) (bq_in kqX10_next__0 9 rfl) rfl
theorem dX10_next__10 : decode cX10_next_ 10 = .ok (.ifCond .eq 19, 3) := oq_153 (bq_in kqX10_next__0 10 rfl) (bq_in kqX10_next__0 11 rfl) (bq_in kqX10_next__0 12 rfl) rfl
theorem dX10_next__13 : decode cX10_next_ 13 = .ok (.iload_n 2, 1) := oq_28 (bq_in kqX10_next__0 13 rfl)
theorem dX10_next__14 : decode cX10_next_ 14 = .ok (.invokestatic 248, 3) := oq_184 (bq_in kqX10_next__0 14 rfl) (bq_in kqX10_next__0 15 rfl) (bq_in kqX10_next__0 16 rfl) rfl
theorem dX10_next__17 : decode cX10_next_ 17 = .ok (.ifCond .eq 12, 3) := oq_153 (bq_in kqX10_next__0 17 rfl) (bq_in kqX10_next__0 18 rfl) (bq_in kqX10_next__0 19 rfl) rfl
theorem dX10_next__20 : decode cX10_next_ 20 = .ok (.iload_n 3, 1) := oq_29 (bq_in kqX10_next__0 20 rfl)
theorem dX10_next__21 : decode cX10_next_ 21 = .ok (.iconst 0, 1) := oq_3 (bq_in kqX10_next__0 21 rfl)
theorem dX10_next__22 : decode cX10_next_ 22 = .ok (.iconst 1, 1) := oq_4 (bq_in kqX10_next__0 22 rfl)
theorem dX10_next__23 : decode cX10_next_ 23 = .ok (.invokestatic 65, 3) := oq_184 (bq_in kqX10_next__0 23 rfl) (bq_in kqX10_next__0 24 rfl) (bq_in kqX10_next__0 25 rfl) rfl
theorem dX10_next__26 : decode cX10_next_ 26 = .ok (.ifCond .ne 5, 3) := oq_154 (bq_in kqX10_next__0 26 rfl) (bq_in kqX10_next__0 27 rfl) (bq_in kqX10_next__0 28 rfl) rfl
theorem dX10_next__29 : decode cX10_next_ 29 = .ok (.iconst (-1), 1) := oq_2 (bq_in kqX10_next__0 29 rfl)
theorem dX10_next__30 : decode cX10_next_ 30 = .ok (.ireturn, 1) := oq_172 (bq_in kqX10_next__0 30 rfl)
theorem dX10_next__31 : decode cX10_next_ 31 = .ok (.aload_n 0, 1) := oq_42 (bq_in kqX10_next__0 31 rfl)
theorem kqX10_next__1 : ((cX10_next_.data.toList.drop 32).take 34).map UInt8.toNat = [27, 3, 182, 0, 255, 3, 54, 4, 21, 4, 42, 180, 0, 42, 3, 46, 162, 0, 42, 42, 180, 0, 36, 21, 4, 46, 28, 161, 0, 25, 29, 154, 0, 13] := by decide +kernel
theorem dX10_next__32 : decode cX10_next_ 32 = .ok (.iload_n 1, 1) := oq_27 (bq_in kqX10_next__1 0 rfl)
theorem dX10_next__33 : decode cX10_next_ 33 = .ok (.iconst 0, 1) := oq_3 (bq_in kqX10_next__1 1 rfl)
theorem dX10_next__34 : decode cX10_next_ 34 = .ok (.invokevirtual 255, 3) := oq_182 (bq_in kqX10_next__1 2 rfl) (bq_in kqX10_next__1 3 rfl) (bq_in kqX10_next__1 4 rfl) rfl
theorem dX10_next__37 : decode cX10_next_ 37 = .ok (.iconst 0, 1) := oq_3 (bq_in kqX10_next__1 5 rfl)
theorem dX10_next__38 : decode cX10_next_ 38 = .ok (.istore 4, 2) := oq_54 (bq_in kqX10_next__1 6 rfl) (bq_in kqX10_next__1 7 rfl)
theorem dX10_next__40 : decode cX10_next_ 40 = .ok (.iload 4, 2) := oq_21 (bq_in kqX10_next__1 8 rfl) (bq_in kqX10_next__1 9 rfl)
theorem dX10_next__42 : decode cX10_next_ 42 = .ok (.aload_n 0, 1) := oq_42 (bq_in kqX10_next__1 10 rfl)
theorem dX10_next__43 : decode cX10_next_ 43 = .ok (.getfield 42, 3) := oq_180 (bq_in kqX10_next__1 11 rfl) (bq_in kqX10_next__1 12 rfl) (bq_in kqX10_next__1 13 rfl) rfl
theorem dX10_next__46 : decode cX10_next_ 46 = .ok (.iconst 0, 1) := oq_3 (bq_in kqX10_next__1 14 rfl)
theorem dX10_next__47 : decode cX10_next_ 47 = .ok (.iaload, 1) := oq_46 (bq_in kqX10_next__1 15 rfl)
theorem dX10_next__48 : decode cX10_next_ 48 = .ok (.if_icmp .ge 42, 3) := oq_162 (bq_in kqX10_next__1 16 rfl) (bq_in kqX10_next__1 17 rfl) (bq_in kqX10_next__1 18 rfl) rfl
theorem dX10_next__51 : decode cX10_next_ 51 = .ok (.aload_n 0, 1) := oq_42 (bq_in kqX10_next__1 19 rfl)
theorem dX10_next__52 : decode cX10_next_ 52 = .ok (.getfield 36, 3) := oq_180 (bq_in kqX10_next__1 20 rfl) (bq_in kqX10_next__1 21 rfl) (bq_in kqX10_next__1 22 rfl) rfl
theorem dX10_next__55 : decode cX10_next_ 55 = .ok (.iload 4, 2) := oq_21 (bq_in kqX10_next__1 23 rfl) (bq_in kqX10_next__1 24 rfl)
theorem dX10_next__57 : decode cX10_next_ 57 = .ok (.iaload, 1) := oq_46 (bq_in kqX10_next__1 25 rfl)
theorem dX10_next__58 : decode cX10_next_ 58 = .ok (.iload_n 2, 1) := oq_28 (bq_in kqX10_next__1 26 rfl)
theorem dX10_next__59 : decode cX10_next_ 59 = .ok (.if_icmp .lt 25, 3) := oq_161 (bq_in kqX10_next__1 27 rfl) (bq_in kqX10_next__1 28 rfl) (bq_in kqX10_next__1 29 rfl) rfl
theorem dX10_next__62 : decode cX10_next_ 62 = .ok (.iload_n 3, 1) := oq_29 (bq_in kqX10_next__1 30 rfl)
theorem dX10_next__63 : decode cX10_next_ 63 = .ok (.ifCond .ne 13, 3) := oq_154 (bq_in kqX10_next__1 31 rfl) (bq_in kqX10_next__1 32 rfl) (bq_in kqX10_next__1 33 rfl) rfl
theorem kqX10_next__2 : ((cX10_next_.data.toList.drop 64).take 34).map UInt8.toNat = [0, 13, 42, 180, 0, 36, 21, 4, 46, 167, 0, 10, 42, 180, 0, 39, 21, 4, 46, 172, 132, 4, 1, 167, 255, 209, 2, 172] := by decide +kernel
theorem dX10_next__66 : decode cX10_next_ 66 = .ok (.aload_n 0, 1) := oq_42 (bq_in kqX10_next__2 2 rfl)
theorem dX10_next__67 : decode cX10_next_ 67 = .ok (.getfield 36, 3) := oq_180 (bq_in kqX10_next__2 3 rfl) (bq_in kqX10_next__2 4 rfl) (bq_in kqX10_next__2 5 rfl) rfl
theorem dX10_next__70 : decode cX10_next_ 70 = .ok (.iload 4, 2) := oq_21 (bq_in kqX10_next__2 6 rfl) (bq_in kqX10_next__2 7 rfl)
theorem dX10_next__72 : decode cX10_next_ 72 = .ok (.iaload, 1) := oq_46 (bq_in kqX10_next__2 8 rfl)
theorem dX10_next__73 : decode cX10_next_ 73 = .ok (.goto 10, 3) := oq_167 (bq_in kqX10_next__2 9 rfl) (bq_in kqX10_next__2 10 rfl) (bq_in kqX10_next__2 11 rfl) rfl
theorem dX10_next__76 : decode cX10_next_ 76 = .ok (.aload_n 0, 1) := oq_42 (bq_in kqX10_next__2 12 rfl)
theorem dX10_next__77 : decode cX10_next_ 77 = .ok (.getfield 39, 3) := oq_180 (bq_in kqX10_next__2 13 rfl) (bq_in kqX10_next__2 14 rfl) (bq_in kqX10_next__2 15 rfl) rfl
theorem dX10_next__80 : decode cX10_next_ 80 = .ok (.iload 4, 2) := oq_21 (bq_in kqX10_next__2 16 rfl) (bq_in kqX10_next__2 17 rfl)
theorem dX10_next__82 : decode cX10_next_ 82 = .ok (.iaload, 1) := oq_46 (bq_in kqX10_next__2 18 rfl)
theorem dX10_next__83 : decode cX10_next_ 83 = .ok (.ireturn, 1) := oq_172 (bq_in kqX10_next__2 19 rfl)
theorem dX10_next__84 : decode cX10_next_ 84 = .ok (.iinc 4 1, 3) := oq_132 (bq_in kqX10_next__2 20 rfl) (bq_in kqX10_next__2 21 rfl) (bq_in kqX10_next__2 22 rfl) rfl
theorem dX10_next__87 : decode cX10_next_ 87 = .ok (.goto (-47), 3) := oq_167 (bq_in kqX10_next__2 23 rfl) (bq_in kqX10_next__2 24 rfl) (bq_in kqX10_next__2 25 rfl) rfl
theorem dX10_next__90 : decode cX10_next_ 90 = .ok (.iconst (-1), 1) := oq_2 (bq_in kqX10_next__2 26 rfl)
theorem dX10_next__91 : decode cX10_next_ 91 = .ok (.ireturn, 1) := oq_172 (bq_in kqX10_next__2 27 rfl)
theorem kqX10_ahead_0 : ((cX10_ahead.data.toList.drop 0).take 34).map UInt8.toNat = [42, 3, 181, 0, 60, 42, 27, 182, 0, 220, 153, 0, 19, 28, 184, 0, 248, 153, 0, 12, 29, 3, 4, 184, 0, 65, 154, 0, 5, 2, 172, 42, 27, 3] := by decide +kernel
theorem dX10_ahead_0 : decode cX10_ahead 0 = .ok (.aload_n 0, 1) := oq_42 (bq_in kqX10_ahead_0 0 rfl)
theorem dX10_ahead_1 : decode cX10_ahead 1 = .ok (.iconst 0, 1) := oq_3 (bq_in kqX10_ahead_0 1 rfl)
theorem dX10_ahead_2 : decode cX10_ahead 2 = .ok (.putfield 60, 3) := oq_181 (bq_in kqX10_ahead_0 2 rfl) (bq_in kqX10_ahead_0 3 rfl) (bq_in kqX10_ahead_0 4 rfl) rfl
theorem dX10_ahead_5 : decode cX10_ahead 5 = .ok (.aload_n 0, 1) := oq_42 (bq_in kqX10_ahead_0 5 rfl)
theorem dX10_ahead_6 : decode cX10_ahead 6 = .ok (.iload_n 1, 1) := oq_27 (bq_in kqX10_ahead_0 6 rfl)
theorem dX10_ahead_7 : decode cX10_ahead 7 = .ok (.invokevirtual 220, 3) := oq_182 (bq_in kqX10_ahead_0 7 rfl) (bq_in kqX10_ahead_0 8 rfl) (bq_in kqX10_ahead_0 9 rfl) rfl
theorem dX10_ahead_10 : decode cX10_ahead 10 = .ok (.ifCond .eq 19, 3) := oq_153 (bq_in kqX10_ahead_0 10 rfl) (bq_in kqX10_ahead_0 11 rfl) (bq_in kqX10_ahead_0 12 rfl) rfl
theorem dX10_ahead_13 : decode cX10_ahead 13 = .ok (.iload_n 2, 1) := oq_28 (bq_in kqX10_ahead_0 13 rfl)
theorem dX10_ahead_14 : decode cX10_ahead 14 = .ok (.invokestatic 248, 3) := oq_184 (bq_in kqX10_ahead_0 14 rfl) (bq_in kqX10_ahead_0 15 rfl) (bq_in kqX10_ahead_0 16 rfl) rfl
theorem dX10_ahead_17 : decode cX10_ahead 17 = .ok (.ifCond .eq 12, 3) := oq_153 (bq_in kqX10_ahead_0 17 rfl) (bq_in kqX10_ahead_0 18 rfl) (bq_in kqX10_ahead_0 19 rfl) rfl
theorem dX10_ahead_20 : decode cX10_ahead 20 = .ok (.iload_n 3, 1) := oq_29 (bq_in kqX10_ahead_0 20 rfl)
theorem dX10_ahead_21 : decode cX10_ahead 21 = .ok (.iconst 0, 1) := oq_3 (bq_in kqX10_ahead_0 21 rfl)
theorem dX10_ahead_22 : decode cX10_ahead 22 = .ok (.iconst 1, 1) := oq_4 (bq_in kqX10_ahead_0 22 rfl)
theorem dX10_ahead_23 : decode cX10_ahead 23 = .ok (.invokestatic 65, 3) := oq_184 (bq_in kqX10_ahead_0 23 rfl) (bq_in kqX10_ahead_0 24 rfl) (bq_in kqX10_ahead_0 25 rfl) rfl
theorem dX10_ahead_26 : decode cX10_ahead 26 = .ok (.ifCond .ne 5, 3) := oq_154 (bq_in kqX10_ahead_0 26 rfl) (bq_in kqX10_ahead_0 27 rfl) (bq_in kqX10_ahead_0 28 rfl) rfl
theorem dX10_ahead_29 : decode cX10_ahead 29 = .ok (.iconst (-1), 1) := oq_2 (bq_in kqX10_ahead_0 29 rfl)
theorem dX10_ahead_30 : decode cX10_ahead 30 = .ok (.ireturn, 1) := oq_172 (bq_in kqX10_ahead_0 30 rfl)
theorem dX10_ahead_31 : decode cX10_ahead 31 = .ok (.aload_n 0, 1) := oq_42 (bq_in kqX10_ahead_0 31 rfl)
theorem kqX10_ahead_1 : ((cX10_ahead.data.toList.drop 32).take 34).map UInt8.toNat = [27, 3, 182, 0, 255, 42, 180, 0, 42, 3, 46, 4, 100, 54, 4, 21, 4, 155, 0, 42, 42, 180, 0, 36, 21, 4, 46, 28, 162, 0, 25, 29, 154, 0] := by decide +kernel
theorem dX10_ahead_32 : decode cX10_ahead 32 = .ok (.iload_n 1, 1) := oq_27 (bq_in kqX10_ahead_1 0 rfl)
theorem dX10_ahead_33 : decode cX10_ahead 33 = .ok (.iconst 0, 1) := oq_3 (bq_in kqX10_ahead_1 1 rfl)
theorem dX10_ahead_34 : decode cX10_ahead 34 = .ok (.invokevirtual 255, 3) := oq_182 (bq_in kqX10_ahead_1 2 rfl) (bq_in kqX10_ahead_1 3 rfl) (bq_in kqX10_ahead_1 4 rfl) rfl
theorem dX10_ahead_37 : decode cX10_ahead 37 = .ok (.aload_n 0, 1) := oq_42 (bq_in kqX10_ahead_1 5 rfl)
theorem dX10_ahead_38 : decode cX10_ahead 38 = .ok (.getfield 42, 3) := oq_180 (bq_in kqX10_ahead_1 6 rfl) (bq_in kqX10_ahead_1 7 rfl) (bq_in kqX10_ahead_1 8 rfl) rfl
theorem dX10_ahead_41 : decode cX10_ahead 41 = .ok (.iconst 0, 1) := oq_3 (bq_in kqX10_ahead_1 9 rfl)
theorem dX10_ahead_42 : decode cX10_ahead 42 = .ok (.iaload, 1) := oq_46 (bq_in kqX10_ahead_1 10 rfl)
theorem dX10_ahead_43 : decode cX10_ahead 43 = .ok (.iconst 1, 1) := oq_4 (bq_in kqX10_ahead_1 11 rfl)
theorem dX10_ahead_44 : decode cX10_ahead 44 = .ok (.isub, 1) := oq_100 (bq_in kqX10_ahead_1 12 rfl)
theorem dX10_ahead_45 : decode cX10_ahead 45 = .ok (.istore 4, 2) := oq_54 (bq_in kqX10_ahead_1 13 rfl) (bq_in kqX10_ahead_1 14 rfl)
theorem dX10_ahead_47 : decode cX10_ahead 47 = .ok (.iload 4, 2) := oq_21 (bq_in kqX10_ahead_1 15 rfl) (bq_in kqX10_ahead_1 16 rfl)
theorem dX10_ahead_49 : decode cX10_ahead 49 = .ok (.ifCond .lt 42, 3) := oq_155 (bq_in kqX10_ahead_1 17 rfl) (bq_in kqX10_ahead_1 18 rfl) (bq_in kqX10_ahead_1 19 rfl) rfl
theorem dX10_ahead_52 : decode cX10_ahead 52 = .ok (.aload_n 0, 1) := oq_42 (bq_in kqX10_ahead_1 20 rfl)
theorem dX10_ahead_53 : decode cX10_ahead 53 = .ok (.getfield 36, 3) := oq_180 (bq_in kqX10_ahead_1 21 rfl) (bq_in kqX10_ahead_1 22 rfl) (bq_in kqX10_ahead_1 23 rfl) rfl
theorem dX10_ahead_56 : decode cX10_ahead 56 = .ok (.iload 4, 2) := oq_21 (bq_in kqX10_ahead_1 24 rfl) (bq_in kqX10_ahead_1 25 rfl)
theorem dX10_ahead_58 : decode cX10_ahead 58 = .ok (.iaload, 1) := oq_46 (bq_in kqX10_ahead_1 26 rfl)
theorem dX10_ahead_59 : decode cX10_ahead 59 = .ok (.iload_n 2, 1) := oq_28 (bq_in kqX10_ahead_1 27 rfl)
theorem dX10_ahead_60 : decode cX10_ahead 60 = .ok (.if_icmp .ge 25, 3) := oq_162 (bq_in kqX10_ahead_1 28 rfl) (bq_in kqX10_ahead_1 29 rfl) (bq_in kqX10_ahead_1 30 rfl) rfl
theorem dX10_ahead_63 : decode cX10_ahead 63 = .ok (.iload_n 3, 1) := oq_29 (bq_in kqX10_ahead_1 31 rfl)
theorem kqX10_ahead_2 : ((cX10_ahead.data.toList.drop 64).take 34).map UInt8.toNat = [154, 0, 13, 42, 180, 0, 36, 21, 4, 46, 167, 0, 10, 42, 180, 0, 39, 21, 4, 46, 172, 132, 4, 255, 167, 255, 215, 2, 172] := by decide +kernel
theorem dX10_ahead_64 : decode cX10_ahead 64 = .ok (.ifCond .ne 13, 3) := oq_154 (bq_in kqX10_ahead_2 0 rfl) (bq_in kqX10_ahead_2 1 rfl) (bq_in kqX10_ahead_2 2 rfl) rfl
theorem dX10_ahead_67 : decode cX10_ahead 67 = .ok (.aload_n 0, 1) := oq_42 (bq_in kqX10_ahead_2 3 rfl)
theorem dX10_ahead_68 : decode cX10_ahead 68 = .ok (.getfield 36, 3) := oq_180 (bq_in kqX10_ahead_2 4 rfl) (bq_in kqX10_ahead_2 5 rfl) (bq_in kqX10_ahead_2 6 rfl) rfl
theorem dX10_ahead_71 : decode cX10_ahead 71 = .ok (.iload 4, 2) := oq_21 (bq_in kqX10_ahead_2 7 rfl) (bq_in kqX10_ahead_2 8 rfl)
theorem dX10_ahead_73 : decode cX10_ahead 73 = .ok (.iaload, 1) := oq_46 (bq_in kqX10_ahead_2 9 rfl)
theorem dX10_ahead_74 : decode cX10_ahead 74 = .ok (.goto 10, 3) := oq_167 (bq_in kqX10_ahead_2 10 rfl) (bq_in kqX10_ahead_2 11 rfl) (bq_in kqX10_ahead_2 12 rfl) rfl
theorem dX10_ahead_77 : decode cX10_ahead 77 = .ok (.aload_n 0, 1) := oq_42 (bq_in kqX10_ahead_2 13 rfl)
theorem dX10_ahead_78 : decode cX10_ahead 78 = .ok (.getfield 39, 3) := oq_180 (bq_in kqX10_ahead_2 14 rfl) (bq_in kqX10_ahead_2 15 rfl) (bq_in kqX10_ahead_2 16 rfl) rfl
theorem dX10_ahead_81 : decode cX10_ahead 81 = .ok (.iload 4, 2) := oq_21 (bq_in kqX10_ahead_2 17 rfl) (bq_in kqX10_ahead_2 18 rfl)
theorem dX10_ahead_83 : decode cX10_ahead 83 = .ok (.iaload, 1) := oq_46 (bq_in kqX10_ahead_2 19 rfl)
theorem dX10_ahead_84 : decode cX10_ahead 84 = .ok (.ireturn, 1) := oq_172 (bq_in kqX10_ahead_2 20 rfl)
theorem dX10_ahead_85 : decode cX10_ahead 85 = .ok (.iinc 4 (-1), 3) := oq_132 (bq_in kqX10_ahead_2 21 rfl) (bq_in kqX10_ahead_2 22 rfl) (bq_in kqX10_ahead_2 23 rfl) rfl
theorem dX10_ahead_88 : decode cX10_ahead 88 = .ok (.goto (-41), 3) := oq_167 (bq_in kqX10_ahead_2 24 rfl) (bq_in kqX10_ahead_2 25 rfl) (bq_in kqX10_ahead_2 26 rfl) rfl
theorem dX10_ahead_91 : decode cX10_ahead 91 = .ok (.iconst (-1), 1) := oq_2 (bq_in kqX10_ahead_2 27 rfl)
theorem dX10_ahead_92 : decode cX10_ahead 92 = .ok (.ireturn, 1) := oq_172 (bq_in kqX10_ahead_2 28 rfl)
theorem kqX10_count_0 : ((cX10_count.data.toList.drop 0).take 34).map UInt8.toNat = [42, 3, 181, 0, 60, 42, 27, 182, 0, 220, 153, 0, 22, 28, 184, 0, 223, 153, 0, 15, 29, 184, 0, 223, 153, 0, 8, 29, 28, 162, 0, 5, 2, 172] := by decide +kernel
theorem dX10_count_0 : decode cX10_count 0 = .ok (.aload_n 0, 1) := oq_42 (bq_in kqX10_count_0 0 rfl)
theorem dX10_count_1 : decode cX10_count 1 = .ok (.iconst 0, 1) := oq_3 (bq_in kqX10_count_0 1 rfl)
theorem dX10_count_2 : decode cX10_count 2 = .ok (.putfield 60, 3) := oq_181 (bq_in kqX10_count_0 2 rfl) (bq_in kqX10_count_0 3 rfl) (bq_in kqX10_count_0 4 rfl) rfl
theorem dX10_count_5 : decode cX10_count 5 = .ok (.aload_n 0, 1) := oq_42 (bq_in kqX10_count_0 5 rfl)
theorem dX10_count_6 : decode cX10_count 6 = .ok (.iload_n 1, 1) := oq_27 (bq_in kqX10_count_0 6 rfl)
theorem dX10_count_7 : decode cX10_count 7 = .ok (.invokevirtual 220, 3) := oq_182 (bq_in kqX10_count_0 7 rfl) (bq_in kqX10_count_0 8 rfl) (bq_in kqX10_count_0 9 rfl) rfl
theorem dX10_count_10 : decode cX10_count 10 = .ok (.ifCond .eq 22, 3) := oq_153 (bq_in kqX10_count_0 10 rfl) (bq_in kqX10_count_0 11 rfl) (bq_in kqX10_count_0 12 rfl) rfl
theorem dX10_count_13 : decode cX10_count 13 = .ok (.iload_n 2, 1) := oq_28 (bq_in kqX10_count_0 13 rfl)
theorem dX10_count_14 : decode cX10_count 14 = .ok (.invokestatic 223, 3) := oq_184 (bq_in kqX10_count_0 14 rfl) (bq_in kqX10_count_0 15 rfl) (bq_in kqX10_count_0 16 rfl) rfl
theorem dX10_count_17 : decode cX10_count 17 = .ok (.ifCond .eq 15, 3) := oq_153 (bq_in kqX10_count_0 17 rfl) (bq_in kqX10_count_0 18 rfl) (bq_in kqX10_count_0 19 rfl) rfl
theorem dX10_count_20 : decode cX10_count 20 = .ok (.iload_n 3, 1) := oq_29 (bq_in kqX10_count_0 20 rfl)
theorem dX10_count_21 : decode cX10_count 21 = .ok (.invokestatic 223, 3) := oq_184 (bq_in kqX10_count_0 21 rfl) (bq_in kqX10_count_0 22 rfl) (bq_in kqX10_count_0 23 rfl) rfl
theorem dX10_count_24 : decode cX10_count 24 = .ok (.ifCond .eq 8, 3) := oq_153 (bq_in kqX10_count_0 24 rfl) (bq_in kqX10_count_0 25 rfl) (bq_in kqX10_count_0 26 rfl) rfl
theorem dX10_count_27 : decode cX10_count 27 = .ok (.iload_n 3, 1) := oq_29 (bq_in kqX10_count_0 27 rfl)
theorem dX10_count_28 : decode cX10_count 28 = .ok (.iload_n 2, 1) := oq_28 (bq_in kqX10_count_0 28 rfl)
theorem dX10_count_29 : decode cX10_count 29 = .ok (.if_icmp .ge 5, 3) := oq_162 (bq_in kqX10_count_0 29 rfl) (bq_in kqX10_count_0 30 rfl) (bq_in kqX10_count_0 31 rfl) rfl
theorem kqX10_count_1 : ((cX10_count.data.toList.drop 32).take 34).map UInt8.toNat = [2, 172, 42, 27, 3, 182, 0, 255, 3, 54, 4, 3, 54, 5, 21, 5, 42, 180, 0, 42, 3, 46, 162, 0, 31, 42, 180, 0, 36, 21, 5, 46, 17, 5] := by decide +kernel
theorem dX10_count_32 : decode cX10_count 32 = .ok (.iconst (-1), 1) := oq_2 (bq_in kqX10_count_1 0 rfl)
theorem dX10_count_33 : decode cX10_count 33 = .ok (.ireturn, 1) := oq_172 (bq_in kqX10_count_1 1 rfl)
theorem dX10_count_34 : decode cX10_count 34 = .ok (.aload_n 0, 1) := oq_42 (bq_in kqX10_count_1 2 rfl)
theorem dX10_count_35 : decode cX10_count 35 = .ok (.iload_n 1, 1) := oq_27 (bq_in kqX10_count_1 3 rfl)
theorem dX10_count_36 : decode cX10_count 36 = .ok (.iconst 0, 1) := oq_3 (bq_in kqX10_count_1 4 rfl)
theorem dX10_count_37 : decode cX10_count 37 = .ok (.invokevirtual 255, 3) := oq_182 (bq_in kqX10_count_1 5 rfl) (bq_in kqX10_count_1 6 rfl) (bq_in kqX10_count_1 7 rfl) rfl
theorem dX10_count_40 : decode cX10_count 40 = .ok (.iconst 0, 1) := oq_3 (bq_in kqX10_count_1 8 rfl)
theorem dX10_count_41 : decode cX10_count 41 = .ok (.istore 4, 2) := oq_54 (bq_in kqX10_count_1 9 rfl) (bq_in kqX10_count_1 10 rfl)
theorem dX10_count_43 : decode cX10_count 43 = .ok (.iconst 0, 1) := oq_3 (bq_in kqX10_count_1 11 rfl)
theorem dX10_count_44 : decode cX10_count 44 = .ok (.istore 5, 2) := oq_54 (bq_in kqX10_count_1 12 rfl) (bq_in kqX10_count_1 13 rfl)
theorem dX10_count_46 : decode cX10_count 46 = .ok (.iload 5, 2) := oq_21 (bq_in kqX10_count_1 14 rfl) (bq_in kqX10_count_1 15 rfl)
theorem dX10_count_48 : decode cX10_count 48 = .ok (.aload_n 0, 1) := oq_42 (bq_in kqX10_count_1 16 rfl)
theorem dX10_count_49 : decode cX10_count 49 = .ok (.getfield 42, 3) := oq_180 (bq_in kqX10_count_1 17 rfl) (bq_in kqX10_count_1 18 rfl) (bq_in kqX10_count_1 19 rfl) rfl
theorem dX10_count_52 : decode cX10_count 52 = .ok (.iconst 0, 1) := oq_3 (bq_in kqX10_count_1 20 rfl)
theorem dX10_count_53 : decode cX10_count 53 = .ok (.iaload, 1) := oq_46 (bq_in kqX10_count_1 21 rfl)
theorem dX10_count_54 : decode cX10_count 54 = .ok (.if_icmp .ge 31, 3) := oq_162 (bq_in kqX10_count_1 22 rfl) (bq_in kqX10_count_1 23 rfl) (bq_in kqX10_count_1 24 rfl) rfl
theorem dX10_count_57 : decode cX10_count 57 = .ok (.aload_n 0, 1) := oq_42 (bq_in kqX10_count_1 25 rfl)
theorem dX10_count_58 : decode cX10_count 58 = .ok (.getfield 36, 3) := oq_180 (bq_in kqX10_count_1 26 rfl) (bq_in kqX10_count_1 27 rfl) (bq_in kqX10_count_1 28 rfl) rfl
theorem dX10_count_61 : decode cX10_count 61 = .ok (.iload 5, 2) := oq_21 (bq_in kqX10_count_1 29 rfl) (bq_in kqX10_count_1 30 rfl)
theorem dX10_count_63 : decode cX10_count 63 = .ok (.iaload, 1) := oq_46 (bq_in kqX10_count_1 31 rfl)
theorem kqX10_count_2 : ((cX10_count.data.toList.drop 64).take 34).map UInt8.toNat = [17, 5, 160, 108, 28, 29, 184, 0, 65, 153, 0, 6, 132, 4, 1, 132, 5, 1, 167, 255, 220, 21, 4, 172] := by decide +kernel
theorem dX10_count_64 : decode cX10_count 64 = .ok (.sipush 1440, 3) := oq_17 (bq_in kqX10_count_2 0 rfl) (bq_in kqX10_count_2 1 rfl) (bq_in kqX10_count_2 2 rfl) rfl
theorem dX10_count_67 : decode cX10_count 67 = .ok (.idiv, 1) := oq_108 (bq_in kqX10_count_2 3 rfl)
theorem dX10_count_68 : decode cX10_count 68 = .ok (.iload_n 2, 1) := oq_28 (bq_in kqX10_count_2 4 rfl)
theorem dX10_count_69 : decode cX10_count 69 = .ok (.iload_n 3, 1) := oq_29 (bq_in kqX10_count_2 5 rfl)
theorem dX10_count_70 : decode cX10_count 70 = .ok (.invokestatic 65, 3) := oq_184 (bq_in kqX10_count_2 6 rfl) (bq_in kqX10_count_2 7 rfl) (bq_in kqX10_count_2 8 rfl) rfl
theorem dX10_count_73 : decode cX10_count 73 = .ok (.ifCond .eq 6, 3) := oq_153 (bq_in kqX10_count_2 9 rfl) (bq_in kqX10_count_2 10 rfl) (bq_in kqX10_count_2 11 rfl) rfl
theorem dX10_count_76 : decode cX10_count 76 = .ok (.iinc 4 1, 3) := oq_132 (bq_in kqX10_count_2 12 rfl) (bq_in kqX10_count_2 13 rfl) (bq_in kqX10_count_2 14 rfl) rfl
theorem dX10_count_79 : decode cX10_count 79 = .ok (.iinc 5 1, 3) := oq_132 (bq_in kqX10_count_2 15 rfl) (bq_in kqX10_count_2 16 rfl) (bq_in kqX10_count_2 17 rfl) rfl
theorem dX10_count_82 : decode cX10_count 82 = .ok (.goto (-36), 3) := oq_167 (bq_in kqX10_count_2 18 rfl) (bq_in kqX10_count_2 19 rfl) (bq_in kqX10_count_2 20 rfl) rfl
theorem dX10_count_85 : decode cX10_count 85 = .ok (.iload 4, 2) := oq_21 (bq_in kqX10_count_2 21 rfl) (bq_in kqX10_count_2 22 rfl)
theorem dX10_count_87 : decode cX10_count 87 = .ok (.ireturn, 1) := oq_172 (bq_in kqX10_count_2 23 rfl)
theorem kqX10_isOfRoom_0 : ((cX10_isOfRoom.data.toList.drop 0).take 34).map UInt8.toNat = [28, 2, 159, 0, 13, 42, 27, 3, 182, 0, 229, 28, 160, 0, 7, 4, 167, 0, 4, 3, 172] := by decide +kernel
theorem dX10_isOfRoom_0 : decode cX10_isOfRoom 0 = .ok (.iload_n 2, 1) := oq_28 (bq_in kqX10_isOfRoom_0 0 rfl)
theorem dX10_isOfRoom_1 : decode cX10_isOfRoom 1 = .ok (.iconst (-1), 1) := oq_2 (bq_in kqX10_isOfRoom_0 1 rfl)
theorem dX10_isOfRoom_2 : decode cX10_isOfRoom 2 = .ok (.if_icmp .eq 13, 3) := oq_159 (bq_in kqX10_isOfRoom_0 2 rfl) (bq_in kqX10_isOfRoom_0 3 rfl) (bq_in kqX10_isOfRoom_0 4 rfl) rfl
theorem dX10_isOfRoom_5 : decode cX10_isOfRoom 5 = .ok (.aload_n 0, 1) := oq_42 (bq_in kqX10_isOfRoom_0 5 rfl)
theorem dX10_isOfRoom_6 : decode cX10_isOfRoom 6 = .ok (.iload_n 1, 1) := oq_27 (bq_in kqX10_isOfRoom_0 6 rfl)
theorem dX10_isOfRoom_7 : decode cX10_isOfRoom 7 = .ok (.iconst 0, 1) := oq_3 (bq_in kqX10_isOfRoom_0 7 rfl)
theorem dX10_isOfRoom_8 : decode cX10_isOfRoom 8 = .ok (.invokevirtual 229, 3) := oq_182 (bq_in kqX10_isOfRoom_0 8 rfl) (bq_in kqX10_isOfRoom_0 9 rfl) (bq_in kqX10_isOfRoom_0 10 rfl) rfl
theorem dX10_isOfRoom_11 : decode cX10_isOfRoom 11 = .ok (.iload_n 2, 1) := oq_28 (bq_in kqX10_isOfRoom_0 11 rfl)
theorem dX10_isOfRoom_12 : decode cX10_isOfRoom 12 = .ok (.if_icmp .ne 7, 3) := oq_160 (bq_in kqX10_isOfRoom_0 12 rfl) (bq_in kqX10_isOfRoom_0 13 rfl) (bq_in kqX10_isOfRoom_0 14 rfl) rfl
theorem dX10_isOfRoom_15 : decode cX10_isOfRoom 15 = .ok (.iconst 1, 1) := oq_4 (bq_in kqX10_isOfRoom_0 15 rfl)
theorem dX10_isOfRoom_16 : decode cX10_isOfRoom 16 = .ok (.goto 4, 3) := oq_167 (bq_in kqX10_isOfRoom_0 16 rfl) (bq_in kqX10_isOfRoom_0 17 rfl) (bq_in kqX10_isOfRoom_0 18 rfl) rfl
theorem dX10_isOfRoom_19 : decode cX10_isOfRoom 19 = .ok (.iconst 0, 1) := oq_3 (bq_in kqX10_isOfRoom_0 19 rfl)
theorem dX10_isOfRoom_20 : decode cX10_isOfRoom 20 = .ok (.ireturn, 1) := oq_172 (bq_in kqX10_isOfRoom_0 20 rfl)
theorem kqX10_laysOn_0 : ((cX10_laysOn.data.toList.drop 0).take 34).map UInt8.toNat = [42, 3, 181, 1, 2, 3, 54, 4, 21, 4, 42, 180, 0, 70, 162, 0, 99, 42, 21, 4, 27, 182, 1, 5, 154, 0, 6, 167, 0, 80, 42, 21, 4, 3] := by decide +kernel
theorem dX10_laysOn_0 : decode cX10_laysOn 0 = .ok (.aload_n 0, 1) := oq_42 (bq_in kqX10_laysOn_0 0 rfl)
theorem dX10_laysOn_1 : decode cX10_laysOn 1 = .ok (.iconst 0, 1) := oq_3 (bq_in kqX10_laysOn_0 1 rfl)
theorem dX10_laysOn_2 : decode cX10_laysOn 2 = .ok (.putfield 258, 3) := oq_181 (bq_in kqX10_laysOn_0 2 rfl) (bq_in kqX10_laysOn_0 3 rfl) (bq_in kqX10_laysOn_0 4 rfl) rfl
theorem dX10_laysOn_5 : decode cX10_laysOn 5 = .ok (.iconst 0, 1) := oq_3 (bq_in kqX10_laysOn_0 5 rfl)
theorem dX10_laysOn_6 : decode cX10_laysOn 6 = .ok (.istore 4, 2) := oq_54 (bq_in kqX10_laysOn_0 6 rfl) (bq_in kqX10_laysOn_0 7 rfl)
theorem dX10_laysOn_8 : decode cX10_laysOn 8 = .ok (.iload 4, 2) := oq_21 (bq_in kqX10_laysOn_0 8 rfl) (bq_in kqX10_laysOn_0 9 rfl)
theorem dX10_laysOn_10 : decode cX10_laysOn 10 = .ok (.aload_n 0, 1) := oq_42 (bq_in kqX10_laysOn_0 10 rfl)
theorem dX10_laysOn_11 : decode cX10_laysOn 11 = .ok (.getfield 70, 3) := oq_180 (bq_in kqX10_laysOn_0 11 rfl) (bq_in kqX10_laysOn_0 12 rfl) (bq_in kqX10_laysOn_0 13 rfl) rfl
theorem dX10_laysOn_14 : decode cX10_laysOn 14 = .ok (.if_icmp .ge 99, 3) := oq_162 (bq_in kqX10_laysOn_0 14 rfl) (bq_in kqX10_laysOn_0 15 rfl) (bq_in kqX10_laysOn_0 16 rfl) rfl
theorem dX10_laysOn_17 : decode cX10_laysOn 17 = .ok (.aload_n 0, 1) := oq_42 (bq_in kqX10_laysOn_0 17 rfl)
theorem dX10_laysOn_18 : decode cX10_laysOn 18 = .ok (.iload 4, 2) := oq_21 (bq_in kqX10_laysOn_0 18 rfl) (bq_in kqX10_laysOn_0 19 rfl)
theorem dX10_laysOn_20 : decode cX10_laysOn 20 = .ok (.iload_n 1, 1) := oq_27 (bq_in kqX10_laysOn_0 20 rfl)
theorem dX10_laysOn_21 : decode cX10_laysOn 21 = .ok (.invokevirtual 261, 3) := oq_182 (bq_in kqX10_laysOn_0 21 rfl) (bq_in kqX10_laysOn_0 22 rfl) (bq_in kqX10_laysOn_0 23 rfl) rfl
theorem dX10_laysOn_24 : decode cX10_laysOn 24 = .ok (.ifCond .ne 6, 3) := oq_154 (bq_in kqX10_laysOn_0 24 rfl) (bq_in kqX10_laysOn_0 25 rfl) (bq_in kqX10_laysOn_0 26 rfl) rfl
theorem dX10_laysOn_27 : decode cX10_laysOn 27 = .ok (.goto 80, 3) := oq_167 (bq_in kqX10_laysOn_0 27 rfl) (bq_in kqX10_laysOn_0 28 rfl) (bq_in kqX10_laysOn_0 29 rfl) rfl
theorem dX10_laysOn_30 : decode cX10_laysOn 30 = .ok (.aload_n 0, 1) := oq_42 (bq_in kqX10_laysOn_0 30 rfl)
theorem dX10_laysOn_31 : decode cX10_laysOn 31 = .ok (.iload 4, 2) := oq_21 (bq_in kqX10_laysOn_0 31 rfl) (bq_in kqX10_laysOn_0 32 rfl)
theorem kqX10_laysOn_1 : ((cX10_laysOn.data.toList.drop 32).take 34).map UInt8.toNat = [4, 3, 182, 0, 255, 3, 54, 5, 21, 5, 42, 180, 0, 42, 3, 46, 162, 0, 59, 42, 180, 0, 36, 21, 5, 46, 29, 162, 0, 42, 42, 180, 0, 36] := by decide +kernel
theorem dX10_laysOn_33 : decode cX10_laysOn 33 = .ok (.iconst 0, 1) := oq_3 (bq_in kqX10_laysOn_1 1 rfl)
theorem dX10_laysOn_34 : decode cX10_laysOn 34 = .ok (.invokevirtual 255, 3) := oq_182 (bq_in kqX10_laysOn_1 2 rfl) (bq_in kqX10_laysOn_1 3 rfl) (bq_in kqX10_laysOn_1 4 rfl) rfl
theorem dX10_laysOn_37 : decode cX10_laysOn 37 = .ok (.iconst 0, 1) := oq_3 (bq_in kqX10_laysOn_1 5 rfl)
theorem dX10_laysOn_38 : decode cX10_laysOn 38 = .ok (.istore 5, 2) := oq_54 (bq_in kqX10_laysOn_1 6 rfl) (bq_in kqX10_laysOn_1 7 rfl)
theorem dX10_laysOn_40 : decode cX10_laysOn 40 = .ok (.iload 5, 2) := oq_21 (bq_in kqX10_laysOn_1 8 rfl) (bq_in kqX10_laysOn_1 9 rfl)
theorem dX10_laysOn_42 : decode cX10_laysOn 42 = .ok (.aload_n 0, 1) := oq_42 (bq_in kqX10_laysOn_1 10 rfl)
theorem dX10_laysOn_43 : decode cX10_laysOn 43 = .ok (.getfield 42, 3) := oq_180 (bq_in kqX10_laysOn_1 11 rfl) (bq_in kqX10_laysOn_1 12 rfl) (bq_in kqX10_laysOn_1 13 rfl) rfl
theorem dX10_laysOn_46 : decode cX10_laysOn 46 = .ok (.iconst 0, 1) := oq_3 (bq_in kqX10_laysOn_1 14 rfl)
theorem dX10_laysOn_47 : decode cX10_laysOn 47 = .ok (.iaload, 1) := oq_46 (bq_in kqX10_laysOn_1 15 rfl)
theorem dX10_laysOn_48 : decode cX10_laysOn 48 = .ok (.if_icmp .ge 59, 3) := oq_162 (bq_in kqX10_laysOn_1 16 rfl) (bq_in kqX10_laysOn_1 17 rfl) (bq_in kqX10_laysOn_1 18 rfl) rfl
theorem dX10_laysOn_51 : decode cX10_laysOn 51 = .ok (.aload_n 0, 1) := oq_42 (bq_in kqX10_laysOn_1 19 rfl)
theorem dX10_laysOn_52 : decode cX10_laysOn 52 = .ok (.getfield 36, 3) := oq_180 (bq_in kqX10_laysOn_1 20 rfl) (bq_in kqX10_laysOn_1 21 rfl) (bq_in kqX10_laysOn_1 22 rfl) rfl
theorem dX10_laysOn_55 : decode cX10_laysOn 55 = .ok (.iload 5, 2) := oq_21 (bq_in kqX10_laysOn_1 23 rfl) (bq_in kqX10_laysOn_1 24 rfl)
theorem dX10_laysOn_57 : decode cX10_laysOn 57 = .ok (.iaload, 1) := oq_46 (bq_in kqX10_laysOn_1 25 rfl)
theorem dX10_laysOn_58 : decode cX10_laysOn 58 = .ok (.iload_n 3, 1) := oq_29 (bq_in kqX10_laysOn_1 26 rfl)
theorem dX10_laysOn_59 : decode cX10_laysOn 59 = .ok (.if_icmp .ge 42, 3) := oq_162 (bq_in kqX10_laysOn_1 27 rfl) (bq_in kqX10_laysOn_1 28 rfl) (bq_in kqX10_laysOn_1 29 rfl) rfl
theorem dX10_laysOn_62 : decode cX10_laysOn 62 = .ok (.aload_n 0, 1) := oq_42 (bq_in kqX10_laysOn_1 30 rfl)
theorem dX10_laysOn_63 : decode cX10_laysOn 63 = .ok (.getfield 36, 3) := oq_180 (bq_in kqX10_laysOn_1 31 rfl) (bq_in kqX10_laysOn_1 32 rfl) (bq_in kqX10_laysOn_1 33 rfl) rfl
theorem kqX10_laysOn_2 : ((cX10_laysOn.data.toList.drop 64).take 34).map UInt8.toNat = [0, 36, 21, 5, 46, 42, 21, 4, 5, 182, 0, 229, 96, 28, 164, 0, 23, 42, 21, 4, 42, 180, 0, 39, 21, 5, 46, 42, 180, 0, 36, 21, 5, 46] := by decide +kernel
theorem dX10_laysOn_66 : decode cX10_laysOn 66 = .ok (.iload 5, 2) := oq_21 (bq_in kqX10_laysOn_2 2 rfl) (bq_in kqX10_laysOn_2 3 rfl)
theorem dX10_laysOn_68 : decode cX10_laysOn 68 = .ok (.iaload, 1) := oq_46 (bq_in kqX10_laysOn_2 4 rfl)
theorem dX10_laysOn_69 : decode cX10_laysOn 69 = .ok (.aload_n 0, 1) := oq_42 (bq_in kqX10_laysOn_2 5 rfl)
theorem dX10_laysOn_70 : decode cX10_laysOn 70 = .ok (.iload 4, 2) := oq_21 (bq_in kqX10_laysOn_2 6 rfl) (bq_in kqX10_laysOn_2 7 rfl)
theorem dX10_laysOn_72 : decode cX10_laysOn 72 = .ok (.iconst 2, 1) := oq_5 (bq_in kqX10_laysOn_2 8 rfl)
theorem dX10_laysOn_73 : decode cX10_laysOn 73 = .ok (.invokevirtual 229, 3) := oq_182 (bq_in kqX10_laysOn_2 9 rfl) (bq_in kqX10_laysOn_2 10 rfl) (bq_in kqX10_laysOn_2 11 rfl) rfl
theorem dX10_laysOn_76 : decode cX10_laysOn 76 = .ok (.iadd, 1) := oq_96 (bq_in kqX10_laysOn_2 12 rfl)
theorem dX10_laysOn_77 : decode cX10_laysOn 77 = .ok (.iload_n 2, 1) := oq_28 (bq_in kqX10_laysOn_2 13 rfl)
theorem dX10_laysOn_78 : decode cX10_laysOn 78 = .ok (.if_icmp .le 23, 3) := oq_164 (bq_in kqX10_laysOn_2 14 rfl) (bq_in kqX10_laysOn_2 15 rfl) (bq_in kqX10_laysOn_2 16 rfl) rfl
theorem dX10_laysOn_81 : decode cX10_laysOn 81 = .ok (.aload_n 0, 1) := oq_42 (bq_in kqX10_laysOn_2 17 rfl)
theorem dX10_laysOn_82 : decode cX10_laysOn 82 = .ok (.iload 4, 2) := oq_21 (bq_in kqX10_laysOn_2 18 rfl) (bq_in kqX10_laysOn_2 19 rfl)
theorem dX10_laysOn_84 : decode cX10_laysOn 84 = .ok (.aload_n 0, 1) := oq_42 (bq_in kqX10_laysOn_2 20 rfl)
theorem dX10_laysOn_85 : decode cX10_laysOn 85 = .ok (.getfield 39, 3) := oq_180 (bq_in kqX10_laysOn_2 21 rfl) (bq_in kqX10_laysOn_2 22 rfl) (bq_in kqX10_laysOn_2 23 rfl) rfl
theorem dX10_laysOn_88 : decode cX10_laysOn 88 = .ok (.iload 5, 2) := oq_21 (bq_in kqX10_laysOn_2 24 rfl) (bq_in kqX10_laysOn_2 25 rfl)
theorem dX10_laysOn_90 : decode cX10_laysOn 90 = .ok (.iaload, 1) := oq_46 (bq_in kqX10_laysOn_2 26 rfl)
theorem dX10_laysOn_91 : decode cX10_laysOn 91 = .ok (.aload_n 0, 1) := oq_42 (bq_in kqX10_laysOn_2 27 rfl)
theorem dX10_laysOn_92 : decode cX10_laysOn 92 = .ok (.getfield 36, 3) := oq_180 (bq_in kqX10_laysOn_2 28 rfl) (bq_in kqX10_laysOn_2 29 rfl) (bq_in kqX10_laysOn_2 30 rfl) rfl
theorem dX10_laysOn_95 : decode cX10_laysOn 95 = .ok (.iload 5, 2) := oq_21 (bq_in kqX10_laysOn_2 31 rfl) (bq_in kqX10_laysOn_2 32 rfl)
theorem kqX10_laysOn_3 : ((cX10_laysOn.data.toList.drop 96).take 34).map UInt8.toNat = [5, 46, 182, 1, 8, 132, 5, 1, 167, 255, 192, 132, 4, 1, 167, 255, 154, 177] := by decide +kernel
theorem dX10_laysOn_97 : decode cX10_laysOn 97 = .ok (.iaload, 1) := oq_46 (bq_in kqX10_laysOn_3 1 rfl)
theorem dX10_laysOn_98 : decode cX10_laysOn 98 = .ok (.invokevirtual 264, 3) := oq_182 (bq_in kqX10_laysOn_3 2 rfl) (bq_in kqX10_laysOn_3 3 rfl) (bq_in kqX10_laysOn_3 4 rfl) rfl
theorem dX10_laysOn_101 : decode cX10_laysOn 101 = .ok (.iinc 5 1, 3) := oq_132 (bq_in kqX10_laysOn_3 5 rfl) (bq_in kqX10_laysOn_3 6 rfl) (bq_in kqX10_laysOn_3 7 rfl) rfl
theorem dX10_laysOn_104 : decode cX10_laysOn 104 = .ok (.goto (-64), 3) := oq_167 (bq_in kqX10_laysOn_3 8 rfl) (bq_in kqX10_laysOn_3 9 rfl) (bq_in kqX10_laysOn_3 10 rfl) rfl
theorem dX10_laysOn_107 : decode cX10_laysOn 107 = .ok (.iinc 4 1, 3) := oq_132 (bq_in kqX10_laysOn_3 11 rfl) (bq_in kqX10_laysOn_3 12 rfl) (bq_in kqX10_laysOn_3 13 rfl) rfl
theorem dX10_laysOn_110 : decode cX10_laysOn 110 = .ok (.goto (-102), 3) := oq_167 (bq_in kqX10_laysOn_3 14 rfl) (bq_in kqX10_laysOn_3 15 rfl) (bq_in kqX10_laysOn_3 16 rfl) rfl
theorem dX10_laysOn_113 : decode cX10_laysOn 113 = .ok (.return_, 1) := oq_177 (bq_in kqX10_laysOn_3 17 rfl)
theorem kqX10_comesOn_0 : ((cX10_comesOn.data.toList.drop 0).take 34).map UInt8.toNat = [42, 180, 1, 2, 54, 4, 21, 4, 158, 0, 65, 42, 180, 0, 48, 6, 21, 4, 104, 4, 100, 46, 29, 164, 0, 50, 3, 54, 5, 21, 5, 6, 162, 0] := by decide +kernel
theorem dX10_comesOn_0 : decode cX10_comesOn 0 = .ok (.aload_n 0, 1) := oq_42 (bq_in kqX10_comesOn_0 0 rfl)
theorem dX10_comesOn_1 : decode cX10_comesOn 1 = .ok (.getfield 258, 3) := oq_180 (bq_in kqX10_comesOn_0 1 rfl) (bq_in kqX10_comesOn_0 2 rfl) (bq_in kqX10_comesOn_0 3 rfl) rfl
theorem dX10_comesOn_4 : decode cX10_comesOn 4 = .ok (.istore 4, 2) := oq_54 (bq_in kqX10_comesOn_0 4 rfl) (bq_in kqX10_comesOn_0 5 rfl)
theorem dX10_comesOn_6 : decode cX10_comesOn 6 = .ok (.iload 4, 2) := oq_21 (bq_in kqX10_comesOn_0 6 rfl) (bq_in kqX10_comesOn_0 7 rfl)
theorem dX10_comesOn_8 : decode cX10_comesOn 8 = .ok (.ifCond .le 65, 3) := oq_158 (bq_in kqX10_comesOn_0 8 rfl) (bq_in kqX10_comesOn_0 9 rfl) (bq_in kqX10_comesOn_0 10 rfl) rfl
theorem dX10_comesOn_11 : decode cX10_comesOn 11 = .ok (.aload_n 0, 1) := oq_42 (bq_in kqX10_comesOn_0 11 rfl)
theorem dX10_comesOn_12 : decode cX10_comesOn 12 = .ok (.getfield 48, 3) := oq_180 (bq_in kqX10_comesOn_0 12 rfl) (bq_in kqX10_comesOn_0 13 rfl) (bq_in kqX10_comesOn_0 14 rfl) rfl
theorem dX10_comesOn_15 : decode cX10_comesOn 15 = .ok (.iconst 3, 1) := oq_6 (bq_in kqX10_comesOn_0 15 rfl)
theorem dX10_comesOn_16 : decode cX10_comesOn 16 = .ok (.iload 4, 2) := oq_21 (bq_in kqX10_comesOn_0 16 rfl) (bq_in kqX10_comesOn_0 17 rfl)
theorem dX10_comesOn_18 : decode cX10_comesOn 18 = .ok (.imul, 1) := oq_104 (bq_in kqX10_comesOn_0 18 rfl)
theorem dX10_comesOn_19 : decode cX10_comesOn 19 = .ok (.iconst 1, 1) := oq_4 (bq_in kqX10_comesOn_0 19 rfl)
theorem dX10_comesOn_20 : decode cX10_comesOn 20 = .ok (.isub, 1) := oq_100 (bq_in kqX10_comesOn_0 20 rfl)
theorem dX10_comesOn_21 : decode cX10_comesOn 21 = .ok (.iaload, 1) := oq_46 (bq_in kqX10_comesOn_0 21 rfl)
theorem dX10_comesOn_22 : decode cX10_comesOn 22 = .ok (.iload_n 3, 1) := oq_29 (bq_in kqX10_comesOn_0 22 rfl)
theorem dX10_comesOn_23 : decode cX10_comesOn 23 = .ok (.if_icmp .le 50, 3) := oq_164 (bq_in kqX10_comesOn_0 23 rfl) (bq_in kqX10_comesOn_0 24 rfl) (bq_in kqX10_comesOn_0 25 rfl) rfl
theorem dX10_comesOn_26 : decode cX10_comesOn 26 = .ok (.iconst 0, 1) := oq_3 (bq_in kqX10_comesOn_0 26 rfl)
theorem dX10_comesOn_27 : decode cX10_comesOn 27 = .ok (.istore 5, 2) := oq_54 (bq_in kqX10_comesOn_0 27 rfl) (bq_in kqX10_comesOn_0 28 rfl)
theorem dX10_comesOn_29 : decode cX10_comesOn 29 = .ok (.iload 5, 2) := oq_21 (bq_in kqX10_comesOn_0 29 rfl) (bq_in kqX10_comesOn_0 30 rfl)
theorem dX10_comesOn_31 : decode cX10_comesOn 31 = .ok (.iconst 3, 1) := oq_6 (bq_in kqX10_comesOn_0 31 rfl)
theorem kqX10_comesOn_1 : ((cX10_comesOn.data.toList.drop 32).take 34).map UInt8.toNat = [162, 0, 35, 42, 180, 0, 48, 6, 21, 4, 104, 21, 5, 96, 42, 180, 0, 48, 6, 21, 4, 104, 6, 100, 21, 5, 96, 46, 79, 132, 5, 1, 167, 255] := by decide +kernel
theorem dX10_comesOn_32 : decode cX10_comesOn 32 = .ok (.if_icmp .ge 35, 3) := oq_162 (bq_in kqX10_comesOn_1 0 rfl) (bq_in kqX10_comesOn_1 1 rfl) (bq_in kqX10_comesOn_1 2 rfl) rfl
theorem dX10_comesOn_35 : decode cX10_comesOn 35 = .ok (.aload_n 0, 1) := oq_42 (bq_in kqX10_comesOn_1 3 rfl)
theorem dX10_comesOn_36 : decode cX10_comesOn 36 = .ok (.getfield 48, 3) := oq_180 (bq_in kqX10_comesOn_1 4 rfl) (bq_in kqX10_comesOn_1 5 rfl) (bq_in kqX10_comesOn_1 6 rfl) rfl
theorem dX10_comesOn_39 : decode cX10_comesOn 39 = .ok (.iconst 3, 1) := oq_6 (bq_in kqX10_comesOn_1 7 rfl)
theorem dX10_comesOn_40 : decode cX10_comesOn 40 = .ok (.iload 4, 2) := oq_21 (bq_in kqX10_comesOn_1 8 rfl) (bq_in kqX10_comesOn_1 9 rfl)
theorem dX10_comesOn_42 : decode cX10_comesOn 42 = .ok (.imul, 1) := oq_104 (bq_in kqX10_comesOn_1 10 rfl)
theorem dX10_comesOn_43 : decode cX10_comesOn 43 = .ok (.iload 5, 2) := oq_21 (bq_in kqX10_comesOn_1 11 rfl) (bq_in kqX10_comesOn_1 12 rfl)
theorem dX10_comesOn_45 : decode cX10_comesOn 45 = .ok (.iadd, 1) := oq_96 (bq_in kqX10_comesOn_1 13 rfl)
theorem dX10_comesOn_46 : decode cX10_comesOn 46 = .ok (.aload_n 0, 1) := oq_42 (bq_in kqX10_comesOn_1 14 rfl)
theorem dX10_comesOn_47 : decode cX10_comesOn 47 = .ok (.getfield 48, 3) := oq_180 (bq_in kqX10_comesOn_1 15 rfl) (bq_in kqX10_comesOn_1 16 rfl) (bq_in kqX10_comesOn_1 17 rfl) rfl
theorem dX10_comesOn_50 : decode cX10_comesOn 50 = .ok (.iconst 3, 1) := oq_6 (bq_in kqX10_comesOn_1 18 rfl)
theorem dX10_comesOn_51 : decode cX10_comesOn 51 = .ok (.iload 4, 2) := oq_21 (bq_in kqX10_comesOn_1 19 rfl) (bq_in kqX10_comesOn_1 20 rfl)
theorem dX10_comesOn_53 : decode cX10_comesOn 53 = .ok (.imul, 1) := oq_104 (bq_in kqX10_comesOn_1 21 rfl)
theorem dX10_comesOn_54 : decode cX10_comesOn 54 = .ok (.iconst 3, 1) := oq_6 (bq_in kqX10_comesOn_1 22 rfl)
theorem dX10_comesOn_55 : decode cX10_comesOn 55 = .ok (.isub, 1) := oq_100 (bq_in kqX10_comesOn_1 23 rfl)
theorem dX10_comesOn_56 : decode cX10_comesOn 56 = .ok (.iload 5, 2) := oq_21 (bq_in kqX10_comesOn_1 24 rfl) (bq_in kqX10_comesOn_1 25 rfl)
theorem dX10_comesOn_58 : decode cX10_comesOn 58 = .ok (.iadd, 1) := oq_96 (bq_in kqX10_comesOn_1 26 rfl)
theorem dX10_comesOn_59 : decode cX10_comesOn 59 = .ok (.iaload, 1) := oq_46 (bq_in kqX10_comesOn_1 27 rfl)
theorem dX10_comesOn_60 : decode cX10_comesOn 60 = .ok (.iastore, 1) := oq_79 (bq_in kqX10_comesOn_1 28 rfl)
theorem dX10_comesOn_61 : decode cX10_comesOn 61 = .ok (.iinc 5 1, 3) := oq_132 (bq_in kqX10_comesOn_1 29 rfl) (bq_in kqX10_comesOn_1 30 rfl) (bq_in kqX10_comesOn_1 31 rfl) rfl
theorem kqX10_comesOn_2 : ((cX10_comesOn.data.toList.drop 64).take 34).map UInt8.toNat = [167, 255, 221, 132, 4, 255, 167, 255, 192, 42, 180, 0, 48, 6, 21, 4, 104, 27, 79, 42, 180, 0, 48, 6, 21, 4, 104, 4, 96, 28, 79, 42, 180, 0] := by decide +kernel
theorem dX10_comesOn_64 : decode cX10_comesOn 64 = .ok (.goto (-35), 3) := oq_167 (bq_in kqX10_comesOn_2 0 rfl) (bq_in kqX10_comesOn_2 1 rfl) (bq_in kqX10_comesOn_2 2 rfl) rfl
theorem dX10_comesOn_67 : decode cX10_comesOn 67 = .ok (.iinc 4 (-1), 3) := oq_132 (bq_in kqX10_comesOn_2 3 rfl) (bq_in kqX10_comesOn_2 4 rfl) (bq_in kqX10_comesOn_2 5 rfl) rfl
theorem dX10_comesOn_70 : decode cX10_comesOn 70 = .ok (.goto (-64), 3) := oq_167 (bq_in kqX10_comesOn_2 6 rfl) (bq_in kqX10_comesOn_2 7 rfl) (bq_in kqX10_comesOn_2 8 rfl) rfl
theorem dX10_comesOn_73 : decode cX10_comesOn 73 = .ok (.aload_n 0, 1) := oq_42 (bq_in kqX10_comesOn_2 9 rfl)
theorem dX10_comesOn_74 : decode cX10_comesOn 74 = .ok (.getfield 48, 3) := oq_180 (bq_in kqX10_comesOn_2 10 rfl) (bq_in kqX10_comesOn_2 11 rfl) (bq_in kqX10_comesOn_2 12 rfl) rfl
theorem dX10_comesOn_77 : decode cX10_comesOn 77 = .ok (.iconst 3, 1) := oq_6 (bq_in kqX10_comesOn_2 13 rfl)
theorem dX10_comesOn_78 : decode cX10_comesOn 78 = .ok (.iload 4, 2) := oq_21 (bq_in kqX10_comesOn_2 14 rfl) (bq_in kqX10_comesOn_2 15 rfl)
theorem dX10_comesOn_80 : decode cX10_comesOn 80 = .ok (.imul, 1) := oq_104 (bq_in kqX10_comesOn_2 16 rfl)
theorem dX10_comesOn_81 : decode cX10_comesOn 81 = .ok (.iload_n 1, 1) := oq_27 (bq_in kqX10_comesOn_2 17 rfl)
theorem dX10_comesOn_82 : decode cX10_comesOn 82 = .ok (.iastore, 1) := oq_79 (bq_in kqX10_comesOn_2 18 rfl)
theorem dX10_comesOn_83 : decode cX10_comesOn 83 = .ok (.aload_n 0, 1) := oq_42 (bq_in kqX10_comesOn_2 19 rfl)
theorem dX10_comesOn_84 : decode cX10_comesOn 84 = .ok (.getfield 48, 3) := oq_180 (bq_in kqX10_comesOn_2 20 rfl) (bq_in kqX10_comesOn_2 21 rfl) (bq_in kqX10_comesOn_2 22 rfl) rfl
theorem dX10_comesOn_87 : decode cX10_comesOn 87 = .ok (.iconst 3, 1) := oq_6 (bq_in kqX10_comesOn_2 23 rfl)
theorem dX10_comesOn_88 : decode cX10_comesOn 88 = .ok (.iload 4, 2) := oq_21 (bq_in kqX10_comesOn_2 24 rfl) (bq_in kqX10_comesOn_2 25 rfl)
theorem dX10_comesOn_90 : decode cX10_comesOn 90 = .ok (.imul, 1) := oq_104 (bq_in kqX10_comesOn_2 26 rfl)
theorem dX10_comesOn_91 : decode cX10_comesOn 91 = .ok (.iconst 1, 1) := oq_4 (bq_in kqX10_comesOn_2 27 rfl)
theorem dX10_comesOn_92 : decode cX10_comesOn 92 = .ok (.iadd, 1) := oq_96 (bq_in kqX10_comesOn_2 28 rfl)
theorem dX10_comesOn_93 : decode cX10_comesOn 93 = .ok (.iload_n 2, 1) := oq_28 (bq_in kqX10_comesOn_2 29 rfl)
theorem dX10_comesOn_94 : decode cX10_comesOn 94 = .ok (.iastore, 1) := oq_79 (bq_in kqX10_comesOn_2 30 rfl)
theorem dX10_comesOn_95 : decode cX10_comesOn 95 = .ok (.aload_n 0, 1) := oq_42 (bq_in kqX10_comesOn_2 31 rfl)
theorem kqX10_comesOn_3 : ((cX10_comesOn.data.toList.drop 96).take 34).map UInt8.toNat = [180, 0, 48, 6, 21, 4, 104, 5, 96, 29, 79, 42, 89, 180, 1, 2, 4, 96, 181, 1, 2, 177] := by decide +kernel
theorem dX10_comesOn_96 : decode cX10_comesOn 96 = .ok (.getfield 48, 3) := oq_180 (bq_in kqX10_comesOn_3 0 rfl) (bq_in kqX10_comesOn_3 1 rfl) (bq_in kqX10_comesOn_3 2 rfl) rfl
theorem dX10_comesOn_99 : decode cX10_comesOn 99 = .ok (.iconst 3, 1) := oq_6 (bq_in kqX10_comesOn_3 3 rfl)
theorem dX10_comesOn_100 : decode cX10_comesOn 100 = .ok (.iload 4, 2) := oq_21 (bq_in kqX10_comesOn_3 4 rfl) (bq_in kqX10_comesOn_3 5 rfl)
theorem dX10_comesOn_102 : decode cX10_comesOn 102 = .ok (.imul, 1) := oq_104 (bq_in kqX10_comesOn_3 6 rfl)
theorem dX10_comesOn_103 : decode cX10_comesOn 103 = .ok (.iconst 2, 1) := oq_5 (bq_in kqX10_comesOn_3 7 rfl)
theorem dX10_comesOn_104 : decode cX10_comesOn 104 = .ok (.iadd, 1) := oq_96 (bq_in kqX10_comesOn_3 8 rfl)
theorem dX10_comesOn_105 : decode cX10_comesOn 105 = .ok (.iload_n 3, 1) := oq_29 (bq_in kqX10_comesOn_3 9 rfl)
theorem dX10_comesOn_106 : decode cX10_comesOn 106 = .ok (.iastore, 1) := oq_79 (bq_in kqX10_comesOn_3 10 rfl)
theorem dX10_comesOn_107 : decode cX10_comesOn 107 = .ok (.aload_n 0, 1) := oq_42 (bq_in kqX10_comesOn_3 11 rfl)
theorem dX10_comesOn_108 : decode cX10_comesOn 108 = .ok (.dup, 1) := oq_89 (bq_in kqX10_comesOn_3 12 rfl)
theorem dX10_comesOn_109 : decode cX10_comesOn 109 = .ok (.getfield 258, 3) := oq_180 (bq_in kqX10_comesOn_3 13 rfl) (bq_in kqX10_comesOn_3 14 rfl) (bq_in kqX10_comesOn_3 15 rfl) rfl
theorem dX10_comesOn_112 : decode cX10_comesOn 112 = .ok (.iconst 1, 1) := oq_4 (bq_in kqX10_comesOn_3 16 rfl)
theorem dX10_comesOn_113 : decode cX10_comesOn 113 = .ok (.iadd, 1) := oq_96 (bq_in kqX10_comesOn_3 17 rfl)
theorem dX10_comesOn_114 : decode cX10_comesOn 114 = .ok (.putfield 258, 3) := oq_181 (bq_in kqX10_comesOn_3 18 rfl) (bq_in kqX10_comesOn_3 19 rfl) (bq_in kqX10_comesOn_3 20 rfl) rfl
theorem dX10_comesOn_117 : decode cX10_comesOn 117 = .ok (.return_, 1) := oq_177 (bq_in kqX10_comesOn_3 21 rfl)
theorem kqX10_isSpan_0 : ((cX10_isSpan.data.toList.drop 0).take 34).map UInt8.toNat = [26, 2, 16, 7, 184, 0, 65, 153, 0, 39, 27, 184, 0, 248, 153, 0, 32, 28, 3, 19, 1, 12, 184, 0, 65, 153, 0, 21, 28, 27, 164, 0, 16, 28] := by decide +kernel
theorem dX10_isSpan_0 : decode cX10_isSpan 0 = .ok (.iload_n 0, 1) := oq_26 (bq_in kqX10_isSpan_0 0 rfl)
theorem dX10_isSpan_1 : decode cX10_isSpan 1 = .ok (.iconst (-1), 1) := oq_2 (bq_in kqX10_isSpan_0 1 rfl)
theorem dX10_isSpan_2 : decode cX10_isSpan 2 = .ok (.bipush 7, 2) := oq_16 (bq_in kqX10_isSpan_0 2 rfl) (bq_in kqX10_isSpan_0 3 rfl) rfl
theorem dX10_isSpan_4 : decode cX10_isSpan 4 = .ok (.invokestatic 65, 3) := oq_184 (bq_in kqX10_isSpan_0 4 rfl) (bq_in kqX10_isSpan_0 5 rfl) (bq_in kqX10_isSpan_0 6 rfl) rfl
theorem dX10_isSpan_7 : decode cX10_isSpan 7 = .ok (.ifCond .eq 39, 3) := oq_153 (bq_in kqX10_isSpan_0 7 rfl) (bq_in kqX10_isSpan_0 8 rfl) (bq_in kqX10_isSpan_0 9 rfl) rfl
theorem dX10_isSpan_10 : decode cX10_isSpan 10 = .ok (.iload_n 1, 1) := oq_27 (bq_in kqX10_isSpan_0 10 rfl)
theorem dX10_isSpan_11 : decode cX10_isSpan 11 = .ok (.invokestatic 248, 3) := oq_184 (bq_in kqX10_isSpan_0 11 rfl) (bq_in kqX10_isSpan_0 12 rfl) (bq_in kqX10_isSpan_0 13 rfl) rfl
theorem dX10_isSpan_14 : decode cX10_isSpan 14 = .ok (.ifCond .eq 32, 3) := oq_153 (bq_in kqX10_isSpan_0 14 rfl) (bq_in kqX10_isSpan_0 15 rfl) (bq_in kqX10_isSpan_0 16 rfl) rfl
theorem dX10_isSpan_17 : decode cX10_isSpan 17 = .ok (.iload_n 2, 1) := oq_28 (bq_in kqX10_isSpan_0 17 rfl)
theorem dX10_isSpan_18 : decode cX10_isSpan 18 = .ok (.iconst 0, 1) := oq_3 (bq_in kqX10_isSpan_0 18 rfl)
theorem dX10_isSpan_19 : decode cX10_isSpan 19 = .ok (.ldc_w 268, 3) := oq_19 (bq_in kqX10_isSpan_0 19 rfl) (bq_in kqX10_isSpan_0 20 rfl) (bq_in kqX10_isSpan_0 21 rfl) rfl
theorem dX10_isSpan_22 : decode cX10_isSpan 22 = .ok (.invokestatic 65, 3) := oq_184 (bq_in kqX10_isSpan_0 22 rfl) (bq_in kqX10_isSpan_0 23 rfl) (bq_in kqX10_isSpan_0 24 rfl) rfl
theorem dX10_isSpan_25 : decode cX10_isSpan 25 = .ok (.ifCond .eq 21, 3) := oq_153 (bq_in kqX10_isSpan_0 25 rfl) (bq_in kqX10_isSpan_0 26 rfl) (bq_in kqX10_isSpan_0 27 rfl) rfl
theorem dX10_isSpan_28 : decode cX10_isSpan 28 = .ok (.iload_n 2, 1) := oq_28 (bq_in kqX10_isSpan_0 28 rfl)
theorem dX10_isSpan_29 : decode cX10_isSpan 29 = .ok (.iload_n 1, 1) := oq_27 (bq_in kqX10_isSpan_0 29 rfl)
theorem dX10_isSpan_30 : decode cX10_isSpan 30 = .ok (.if_icmp .le 16, 3) := oq_164 (bq_in kqX10_isSpan_0 30 rfl) (bq_in kqX10_isSpan_0 31 rfl) (bq_in kqX10_isSpan_0 32 rfl) rfl
theorem kqX10_isSpan_1 : ((cX10_isSpan.data.toList.drop 32).take 34).map UInt8.toNat = [16, 28, 27, 100, 19, 1, 13, 163, 0, 7, 4, 167, 0, 4, 3, 172] := by decide +kernel
theorem dX10_isSpan_33 : decode cX10_isSpan 33 = .ok (.iload_n 2, 1) := oq_28 (bq_in kqX10_isSpan_1 1 rfl)
theorem dX10_isSpan_34 : decode cX10_isSpan 34 = .ok (.iload_n 1, 1) := oq_27 (bq_in kqX10_isSpan_1 2 rfl)
theorem dX10_isSpan_35 : decode cX10_isSpan 35 = .ok (.isub, 1) := oq_100 (bq_in kqX10_isSpan_1 3 rfl)
theorem dX10_isSpan_36 : decode cX10_isSpan 36 = .ok (.ldc_w 269, 3) := oq_19 (bq_in kqX10_isSpan_1 4 rfl) (bq_in kqX10_isSpan_1 5 rfl) (bq_in kqX10_isSpan_1 6 rfl) rfl
theorem dX10_isSpan_39 : decode cX10_isSpan 39 = .ok (.if_icmp .gt 7, 3) := oq_163 (bq_in kqX10_isSpan_1 7 rfl) (bq_in kqX10_isSpan_1 8 rfl) (bq_in kqX10_isSpan_1 9 rfl) rfl
theorem dX10_isSpan_42 : decode cX10_isSpan 42 = .ok (.iconst 1, 1) := oq_4 (bq_in kqX10_isSpan_1 10 rfl)
theorem dX10_isSpan_43 : decode cX10_isSpan 43 = .ok (.goto 4, 3) := oq_167 (bq_in kqX10_isSpan_1 11 rfl) (bq_in kqX10_isSpan_1 12 rfl) (bq_in kqX10_isSpan_1 13 rfl) rfl
theorem dX10_isSpan_46 : decode cX10_isSpan 46 = .ok (.iconst 0, 1) := oq_3 (bq_in kqX10_isSpan_1 14 rfl)
theorem dX10_isSpan_47 : decode cX10_isSpan 47 = .ok (.ireturn, 1) := oq_172 (bq_in kqX10_isSpan_1 15 rfl)
theorem kqX10_on_0 : ((cX10_on.data.toList.drop 0).take 34).map UInt8.toNat = [42, 3, 181, 0, 60, 27, 28, 29, 184, 1, 14, 154, 0, 5, 2, 172, 42, 27, 28, 29, 182, 1, 17, 42, 180, 1, 2, 172] := by decide +kernel
theorem dX10_on_0 : decode cX10_on 0 = .ok (.aload_n 0, 1) := oq_42 (bq_in kqX10_on_0 0 rfl)
theorem dX10_on_1 : decode cX10_on 1 = .ok (.iconst 0, 1) := oq_3 (bq_in kqX10_on_0 1 rfl)
theorem dX10_on_2 : decode cX10_on 2 = .ok (.putfield 60, 3) := oq_181 (bq_in kqX10_on_0 2 rfl) (bq_in kqX10_on_0 3 rfl) (bq_in kqX10_on_0 4 rfl) rfl
theorem dX10_on_5 : decode cX10_on 5 = .ok (.iload_n 1, 1) := oq_27 (bq_in kqX10_on_0 5 rfl)
theorem dX10_on_6 : decode cX10_on 6 = .ok (.iload_n 2, 1) := oq_28 (bq_in kqX10_on_0 6 rfl)
theorem dX10_on_7 : decode cX10_on 7 = .ok (.iload_n 3, 1) := oq_29 (bq_in kqX10_on_0 7 rfl)
theorem dX10_on_8 : decode cX10_on 8 = .ok (.invokestatic 270, 3) := oq_184 (bq_in kqX10_on_0 8 rfl) (bq_in kqX10_on_0 9 rfl) (bq_in kqX10_on_0 10 rfl) rfl
theorem dX10_on_11 : decode cX10_on 11 = .ok (.ifCond .ne 5, 3) := oq_154 (bq_in kqX10_on_0 11 rfl) (bq_in kqX10_on_0 12 rfl) (bq_in kqX10_on_0 13 rfl) rfl
theorem dX10_on_14 : decode cX10_on 14 = .ok (.iconst (-1), 1) := oq_2 (bq_in kqX10_on_0 14 rfl)
theorem dX10_on_15 : decode cX10_on 15 = .ok (.ireturn, 1) := oq_172 (bq_in kqX10_on_0 15 rfl)
theorem dX10_on_16 : decode cX10_on 16 = .ok (.aload_n 0, 1) := oq_42 (bq_in kqX10_on_0 16 rfl)
theorem dX10_on_17 : decode cX10_on 17 = .ok (.iload_n 1, 1) := oq_27 (bq_in kqX10_on_0 17 rfl)
theorem dX10_on_18 : decode cX10_on 18 = .ok (.iload_n 2, 1) := oq_28 (bq_in kqX10_on_0 18 rfl)
theorem dX10_on_19 : decode cX10_on 19 = .ok (.iload_n 3, 1) := oq_29 (bq_in kqX10_on_0 19 rfl)
theorem dX10_on_20 : decode cX10_on 20 = .ok (.invokevirtual 273, 3) := oq_182 (bq_in kqX10_on_0 20 rfl) (bq_in kqX10_on_0 21 rfl) (bq_in kqX10_on_0 22 rfl) rfl
theorem dX10_on_23 : decode cX10_on 23 = .ok (.aload_n 0, 1) := oq_42 (bq_in kqX10_on_0 23 rfl)
theorem dX10_on_24 : decode cX10_on 24 = .ok (.getfield 258, 3) := oq_180 (bq_in kqX10_on_0 24 rfl) (bq_in kqX10_on_0 25 rfl) (bq_in kqX10_on_0 26 rfl) rfl
theorem dX10_on_27 : decode cX10_on 27 = .ok (.ireturn, 1) := oq_172 (bq_in kqX10_on_0 27 rfl)
theorem kqX10_onAt_0 : ((cX10_onAt.data.toList.drop 0).take 34).map UInt8.toNat = [42, 4, 181, 0, 60, 27, 28, 29, 184, 1, 14, 153, 0, 13, 21, 5, 3, 5, 184, 0, 65, 154, 0, 5, 3, 172, 42, 27, 28, 29, 182, 1, 17, 21] := by decide +kernel
theorem dX10_onAt_0 : decode cX10_onAt 0 = .ok (.aload_n 0, 1) := oq_42 (bq_in kqX10_onAt_0 0 rfl)
theorem dX10_onAt_1 : decode cX10_onAt 1 = .ok (.iconst 1, 1) := oq_4 (bq_in kqX10_onAt_0 1 rfl)
theorem dX10_onAt_2 : decode cX10_onAt 2 = .ok (.putfield 60, 3) := oq_181 (bq_in kqX10_onAt_0 2 rfl) (bq_in kqX10_onAt_0 3 rfl) (bq_in kqX10_onAt_0 4 rfl) rfl
theorem dX10_onAt_5 : decode cX10_onAt 5 = .ok (.iload_n 1, 1) := oq_27 (bq_in kqX10_onAt_0 5 rfl)
theorem dX10_onAt_6 : decode cX10_onAt 6 = .ok (.iload_n 2, 1) := oq_28 (bq_in kqX10_onAt_0 6 rfl)
theorem dX10_onAt_7 : decode cX10_onAt 7 = .ok (.iload_n 3, 1) := oq_29 (bq_in kqX10_onAt_0 7 rfl)
theorem dX10_onAt_8 : decode cX10_onAt 8 = .ok (.invokestatic 270, 3) := oq_184 (bq_in kqX10_onAt_0 8 rfl) (bq_in kqX10_onAt_0 9 rfl) (bq_in kqX10_onAt_0 10 rfl) rfl
theorem dX10_onAt_11 : decode cX10_onAt 11 = .ok (.ifCond .eq 13, 3) := oq_153 (bq_in kqX10_onAt_0 11 rfl) (bq_in kqX10_onAt_0 12 rfl) (bq_in kqX10_onAt_0 13 rfl) rfl
theorem dX10_onAt_14 : decode cX10_onAt 14 = .ok (.iload 5, 2) := oq_21 (bq_in kqX10_onAt_0 14 rfl) (bq_in kqX10_onAt_0 15 rfl)
theorem dX10_onAt_16 : decode cX10_onAt 16 = .ok (.iconst 0, 1) := oq_3 (bq_in kqX10_onAt_0 16 rfl)
theorem dX10_onAt_17 : decode cX10_onAt 17 = .ok (.iconst 2, 1) := oq_5 (bq_in kqX10_onAt_0 17 rfl)
theorem dX10_onAt_18 : decode cX10_onAt 18 = .ok (.invokestatic 65, 3) := oq_184 (bq_in kqX10_onAt_0 18 rfl) (bq_in kqX10_onAt_0 19 rfl) (bq_in kqX10_onAt_0 20 rfl) rfl
theorem dX10_onAt_21 : decode cX10_onAt 21 = .ok (.ifCond .ne 5, 3) := oq_154 (bq_in kqX10_onAt_0 21 rfl) (bq_in kqX10_onAt_0 22 rfl) (bq_in kqX10_onAt_0 23 rfl) rfl
theorem dX10_onAt_24 : decode cX10_onAt 24 = .ok (.iconst 0, 1) := oq_3 (bq_in kqX10_onAt_0 24 rfl)
theorem dX10_onAt_25 : decode cX10_onAt 25 = .ok (.ireturn, 1) := oq_172 (bq_in kqX10_onAt_0 25 rfl)
theorem dX10_onAt_26 : decode cX10_onAt 26 = .ok (.aload_n 0, 1) := oq_42 (bq_in kqX10_onAt_0 26 rfl)
theorem dX10_onAt_27 : decode cX10_onAt 27 = .ok (.iload_n 1, 1) := oq_27 (bq_in kqX10_onAt_0 27 rfl)
theorem dX10_onAt_28 : decode cX10_onAt 28 = .ok (.iload_n 2, 1) := oq_28 (bq_in kqX10_onAt_0 28 rfl)
theorem dX10_onAt_29 : decode cX10_onAt 29 = .ok (.iload_n 3, 1) := oq_29 (bq_in kqX10_onAt_0 29 rfl)
theorem dX10_onAt_30 : decode cX10_onAt 30 = .ok (.invokevirtual 273, 3) := oq_182 (bq_in kqX10_onAt_0 30 rfl) (bq_in kqX10_onAt_0 31 rfl) (bq_in kqX10_onAt_0 32 rfl) rfl
theorem kqX10_onAt_1 : ((cX10_onAt.data.toList.drop 32).take 34).map UInt8.toNat = [17, 21, 4, 3, 42, 180, 1, 2, 4, 100, 184, 0, 65, 154, 0, 5, 3, 172, 42, 3, 181, 0, 60, 42, 180, 0, 48, 6, 21, 4, 104, 21, 5, 96] := by decide +kernel
theorem dX10_onAt_33 : decode cX10_onAt 33 = .ok (.iload 4, 2) := oq_21 (bq_in kqX10_onAt_1 1 rfl) (bq_in kqX10_onAt_1 2 rfl)
theorem dX10_onAt_35 : decode cX10_onAt 35 = .ok (.iconst 0, 1) := oq_3 (bq_in kqX10_onAt_1 3 rfl)
theorem dX10_onAt_36 : decode cX10_onAt 36 = .ok (.aload_n 0, 1) := oq_42 (bq_in kqX10_onAt_1 4 rfl)
theorem dX10_onAt_37 : decode cX10_onAt 37 = .ok (.getfield 258, 3) := oq_180 (bq_in kqX10_onAt_1 5 rfl) (bq_in kqX10_onAt_1 6 rfl) (bq_in kqX10_onAt_1 7 rfl) rfl
theorem dX10_onAt_40 : decode cX10_onAt 40 = .ok (.iconst 1, 1) := oq_4 (bq_in kqX10_onAt_1 8 rfl)
theorem dX10_onAt_41 : decode cX10_onAt 41 = .ok (.isub, 1) := oq_100 (bq_in kqX10_onAt_1 9 rfl)
theorem dX10_onAt_42 : decode cX10_onAt 42 = .ok (.invokestatic 65, 3) := oq_184 (bq_in kqX10_onAt_1 10 rfl) (bq_in kqX10_onAt_1 11 rfl) (bq_in kqX10_onAt_1 12 rfl) rfl
theorem dX10_onAt_45 : decode cX10_onAt 45 = .ok (.ifCond .ne 5, 3) := oq_154 (bq_in kqX10_onAt_1 13 rfl) (bq_in kqX10_onAt_1 14 rfl) (bq_in kqX10_onAt_1 15 rfl) rfl
theorem dX10_onAt_48 : decode cX10_onAt 48 = .ok (.iconst 0, 1) := oq_3 (bq_in kqX10_onAt_1 16 rfl)
theorem dX10_onAt_49 : decode cX10_onAt 49 = .ok (.ireturn, 1) := oq_172 (bq_in kqX10_onAt_1 17 rfl)
theorem dX10_onAt_50 : decode cX10_onAt 50 = .ok (.aload_n 0, 1) := oq_42 (bq_in kqX10_onAt_1 18 rfl)
theorem dX10_onAt_51 : decode cX10_onAt 51 = .ok (.iconst 0, 1) := oq_3 (bq_in kqX10_onAt_1 19 rfl)
theorem dX10_onAt_52 : decode cX10_onAt 52 = .ok (.putfield 60, 3) := oq_181 (bq_in kqX10_onAt_1 20 rfl) (bq_in kqX10_onAt_1 21 rfl) (bq_in kqX10_onAt_1 22 rfl) rfl
theorem dX10_onAt_55 : decode cX10_onAt 55 = .ok (.aload_n 0, 1) := oq_42 (bq_in kqX10_onAt_1 23 rfl)
theorem dX10_onAt_56 : decode cX10_onAt 56 = .ok (.getfield 48, 3) := oq_180 (bq_in kqX10_onAt_1 24 rfl) (bq_in kqX10_onAt_1 25 rfl) (bq_in kqX10_onAt_1 26 rfl) rfl
theorem dX10_onAt_59 : decode cX10_onAt 59 = .ok (.iconst 3, 1) := oq_6 (bq_in kqX10_onAt_1 27 rfl)
theorem dX10_onAt_60 : decode cX10_onAt 60 = .ok (.iload 4, 2) := oq_21 (bq_in kqX10_onAt_1 28 rfl) (bq_in kqX10_onAt_1 29 rfl)
theorem dX10_onAt_62 : decode cX10_onAt 62 = .ok (.imul, 1) := oq_104 (bq_in kqX10_onAt_1 30 rfl)
theorem dX10_onAt_63 : decode cX10_onAt 63 = .ok (.iload 5, 2) := oq_21 (bq_in kqX10_onAt_1 31 rfl) (bq_in kqX10_onAt_1 32 rfl)
theorem kqX10_onAt_2 : ((cX10_onAt.data.toList.drop 64).take 34).map UInt8.toNat = [5, 96, 46, 172] := by decide +kernel
theorem dX10_onAt_65 : decode cX10_onAt 65 = .ok (.iadd, 1) := oq_96 (bq_in kqX10_onAt_2 1 rfl)
theorem dX10_onAt_66 : decode cX10_onAt 66 = .ok (.iaload, 1) := oq_46 (bq_in kqX10_onAt_2 2 rfl)
theorem dX10_onAt_67 : decode cX10_onAt 67 = .ok (.ireturn, 1) := oq_172 (bq_in kqX10_onAt_2 3 rfl)
theorem kqX10_clashOf_0 : ((cX10_clashOf.data.toList.drop 0).take 34).map UInt8.toNat = [2, 54, 4, 3, 54, 5, 3, 54, 6, 21, 6, 42, 180, 0, 42, 3, 46, 162, 0, 90, 42, 180, 0, 36, 21, 6, 46, 54, 7, 21, 5, 42, 180, 0] := by decide +kernel
theorem dX10_clashOf_0 : decode cX10_clashOf 0 = .ok (.iconst (-1), 1) := oq_2 (bq_in kqX10_clashOf_0 0 rfl)
theorem dX10_clashOf_1 : decode cX10_clashOf 1 = .ok (.istore 4, 2) := oq_54 (bq_in kqX10_clashOf_0 1 rfl) (bq_in kqX10_clashOf_0 2 rfl)
theorem dX10_clashOf_3 : decode cX10_clashOf 3 = .ok (.iconst 0, 1) := oq_3 (bq_in kqX10_clashOf_0 3 rfl)
theorem dX10_clashOf_4 : decode cX10_clashOf 4 = .ok (.istore 5, 2) := oq_54 (bq_in kqX10_clashOf_0 4 rfl) (bq_in kqX10_clashOf_0 5 rfl)
theorem dX10_clashOf_6 : decode cX10_clashOf 6 = .ok (.iconst 0, 1) := oq_3 (bq_in kqX10_clashOf_0 6 rfl)
theorem dX10_clashOf_7 : decode cX10_clashOf 7 = .ok (.istore 6, 2) := oq_54 (bq_in kqX10_clashOf_0 7 rfl) (bq_in kqX10_clashOf_0 8 rfl)
theorem dX10_clashOf_9 : decode cX10_clashOf 9 = .ok (.iload 6, 2) := oq_21 (bq_in kqX10_clashOf_0 9 rfl) (bq_in kqX10_clashOf_0 10 rfl)
theorem dX10_clashOf_11 : decode cX10_clashOf 11 = .ok (.aload_n 0, 1) := oq_42 (bq_in kqX10_clashOf_0 11 rfl)
theorem dX10_clashOf_12 : decode cX10_clashOf 12 = .ok (.getfield 42, 3) := oq_180 (bq_in kqX10_clashOf_0 12 rfl) (bq_in kqX10_clashOf_0 13 rfl) (bq_in kqX10_clashOf_0 14 rfl) rfl
theorem dX10_clashOf_15 : decode cX10_clashOf 15 = .ok (.iconst 0, 1) := oq_3 (bq_in kqX10_clashOf_0 15 rfl)
theorem dX10_clashOf_16 : decode cX10_clashOf 16 = .ok (.iaload, 1) := oq_46 (bq_in kqX10_clashOf_0 16 rfl)
theorem dX10_clashOf_17 : decode cX10_clashOf 17 = .ok (.if_icmp .ge 90, 3) := oq_162 (bq_in kqX10_clashOf_0 17 rfl) (bq_in kqX10_clashOf_0 18 rfl) (bq_in kqX10_clashOf_0 19 rfl) rfl
theorem dX10_clashOf_20 : decode cX10_clashOf 20 = .ok (.aload_n 0, 1) := oq_42 (bq_in kqX10_clashOf_0 20 rfl)
theorem dX10_clashOf_21 : decode cX10_clashOf 21 = .ok (.getfield 36, 3) := oq_180 (bq_in kqX10_clashOf_0 21 rfl) (bq_in kqX10_clashOf_0 22 rfl) (bq_in kqX10_clashOf_0 23 rfl) rfl
theorem dX10_clashOf_24 : decode cX10_clashOf 24 = .ok (.iload 6, 2) := oq_21 (bq_in kqX10_clashOf_0 24 rfl) (bq_in kqX10_clashOf_0 25 rfl)
theorem dX10_clashOf_26 : decode cX10_clashOf 26 = .ok (.iaload, 1) := oq_46 (bq_in kqX10_clashOf_0 26 rfl)
theorem dX10_clashOf_27 : decode cX10_clashOf 27 = .ok (.istore 7, 2) := oq_54 (bq_in kqX10_clashOf_0 27 rfl) (bq_in kqX10_clashOf_0 28 rfl)
theorem dX10_clashOf_29 : decode cX10_clashOf 29 = .ok (.iload 5, 2) := oq_21 (bq_in kqX10_clashOf_0 29 rfl) (bq_in kqX10_clashOf_0 30 rfl)
theorem dX10_clashOf_31 : decode cX10_clashOf 31 = .ok (.aload_n 0, 1) := oq_42 (bq_in kqX10_clashOf_0 31 rfl)
theorem kqX10_clashOf_1 : ((cX10_clashOf.data.toList.drop 32).take 34).map UInt8.toNat = [180, 0, 42, 4, 46, 162, 0, 24, 42, 180, 0, 36, 18, 7, 21, 5, 96, 46, 21, 7, 163, 0, 9, 132, 5, 1, 167, 255, 227, 21, 7, 29, 161, 0] := by decide +kernel
theorem dX10_clashOf_32 : decode cX10_clashOf 32 = .ok (.getfield 42, 3) := oq_180 (bq_in kqX10_clashOf_1 0 rfl) (bq_in kqX10_clashOf_1 1 rfl) (bq_in kqX10_clashOf_1 2 rfl) rfl
theorem dX10_clashOf_35 : decode cX10_clashOf 35 = .ok (.iconst 1, 1) := oq_4 (bq_in kqX10_clashOf_1 3 rfl)
theorem dX10_clashOf_36 : decode cX10_clashOf 36 = .ok (.iaload, 1) := oq_46 (bq_in kqX10_clashOf_1 4 rfl)
theorem dX10_clashOf_37 : decode cX10_clashOf 37 = .ok (.if_icmp .ge 24, 3) := oq_162 (bq_in kqX10_clashOf_1 5 rfl) (bq_in kqX10_clashOf_1 6 rfl) (bq_in kqX10_clashOf_1 7 rfl) rfl
theorem dX10_clashOf_40 : decode cX10_clashOf 40 = .ok (.aload_n 0, 1) := oq_42 (bq_in kqX10_clashOf_1 8 rfl)
theorem dX10_clashOf_41 : decode cX10_clashOf 41 = .ok (.getfield 36, 3) := oq_180 (bq_in kqX10_clashOf_1 9 rfl) (bq_in kqX10_clashOf_1 10 rfl) (bq_in kqX10_clashOf_1 11 rfl) rfl
theorem dX10_clashOf_44 : decode cX10_clashOf 44 = .ok (.ldc 7, 2) := oq_18 (bq_in kqX10_clashOf_1 12 rfl) (bq_in kqX10_clashOf_1 13 rfl)
theorem dX10_clashOf_46 : decode cX10_clashOf 46 = .ok (.iload 5, 2) := oq_21 (bq_in kqX10_clashOf_1 14 rfl) (bq_in kqX10_clashOf_1 15 rfl)
theorem dX10_clashOf_48 : decode cX10_clashOf 48 = .ok (.iadd, 1) := oq_96 (bq_in kqX10_clashOf_1 16 rfl)
theorem dX10_clashOf_49 : decode cX10_clashOf 49 = .ok (.iaload, 1) := oq_46 (bq_in kqX10_clashOf_1 17 rfl)
theorem dX10_clashOf_50 : decode cX10_clashOf 50 = .ok (.iload 7, 2) := oq_21 (bq_in kqX10_clashOf_1 18 rfl) (bq_in kqX10_clashOf_1 19 rfl)
theorem dX10_clashOf_52 : decode cX10_clashOf 52 = .ok (.if_icmp .gt 9, 3) := oq_163 (bq_in kqX10_clashOf_1 20 rfl) (bq_in kqX10_clashOf_1 21 rfl) (bq_in kqX10_clashOf_1 22 rfl) rfl
theorem dX10_clashOf_55 : decode cX10_clashOf 55 = .ok (.iinc 5 1, 3) := oq_132 (bq_in kqX10_clashOf_1 23 rfl) (bq_in kqX10_clashOf_1 24 rfl) (bq_in kqX10_clashOf_1 25 rfl) rfl
theorem dX10_clashOf_58 : decode cX10_clashOf 58 = .ok (.goto (-29), 3) := oq_167 (bq_in kqX10_clashOf_1 26 rfl) (bq_in kqX10_clashOf_1 27 rfl) (bq_in kqX10_clashOf_1 28 rfl) rfl
theorem dX10_clashOf_61 : decode cX10_clashOf 61 = .ok (.iload 7, 2) := oq_21 (bq_in kqX10_clashOf_1 29 rfl) (bq_in kqX10_clashOf_1 30 rfl)
theorem dX10_clashOf_63 : decode cX10_clashOf 63 = .ok (.iload_n 3, 1) := oq_29 (bq_in kqX10_clashOf_1 31 rfl)
theorem kqX10_clashOf_2 : ((cX10_clashOf.data.toList.drop 64).take 34).map UInt8.toNat = [161, 0, 37, 21, 5, 153, 0, 32, 42, 180, 0, 36, 18, 7, 21, 5, 96, 4, 100, 46, 28, 96, 21, 7, 163, 0, 6, 167, 0, 10, 21, 7, 54, 4] := by decide +kernel
theorem dX10_clashOf_64 : decode cX10_clashOf 64 = .ok (.if_icmp .lt 37, 3) := oq_161 (bq_in kqX10_clashOf_2 0 rfl) (bq_in kqX10_clashOf_2 1 rfl) (bq_in kqX10_clashOf_2 2 rfl) rfl
theorem dX10_clashOf_67 : decode cX10_clashOf 67 = .ok (.iload 5, 2) := oq_21 (bq_in kqX10_clashOf_2 3 rfl) (bq_in kqX10_clashOf_2 4 rfl)
theorem dX10_clashOf_69 : decode cX10_clashOf 69 = .ok (.ifCond .eq 32, 3) := oq_153 (bq_in kqX10_clashOf_2 5 rfl) (bq_in kqX10_clashOf_2 6 rfl) (bq_in kqX10_clashOf_2 7 rfl) rfl
theorem dX10_clashOf_72 : decode cX10_clashOf 72 = .ok (.aload_n 0, 1) := oq_42 (bq_in kqX10_clashOf_2 8 rfl)
theorem dX10_clashOf_73 : decode cX10_clashOf 73 = .ok (.getfield 36, 3) := oq_180 (bq_in kqX10_clashOf_2 9 rfl) (bq_in kqX10_clashOf_2 10 rfl) (bq_in kqX10_clashOf_2 11 rfl) rfl
theorem dX10_clashOf_76 : decode cX10_clashOf 76 = .ok (.ldc 7, 2) := oq_18 (bq_in kqX10_clashOf_2 12 rfl) (bq_in kqX10_clashOf_2 13 rfl)
theorem dX10_clashOf_78 : decode cX10_clashOf 78 = .ok (.iload 5, 2) := oq_21 (bq_in kqX10_clashOf_2 14 rfl) (bq_in kqX10_clashOf_2 15 rfl)
theorem dX10_clashOf_80 : decode cX10_clashOf 80 = .ok (.iadd, 1) := oq_96 (bq_in kqX10_clashOf_2 16 rfl)
theorem dX10_clashOf_81 : decode cX10_clashOf 81 = .ok (.iconst 1, 1) := oq_4 (bq_in kqX10_clashOf_2 17 rfl)
theorem dX10_clashOf_82 : decode cX10_clashOf 82 = .ok (.isub, 1) := oq_100 (bq_in kqX10_clashOf_2 18 rfl)
theorem dX10_clashOf_83 : decode cX10_clashOf 83 = .ok (.iaload, 1) := oq_46 (bq_in kqX10_clashOf_2 19 rfl)
theorem dX10_clashOf_84 : decode cX10_clashOf 84 = .ok (.iload_n 2, 1) := oq_28 (bq_in kqX10_clashOf_2 20 rfl)
theorem dX10_clashOf_85 : decode cX10_clashOf 85 = .ok (.iadd, 1) := oq_96 (bq_in kqX10_clashOf_2 21 rfl)
theorem dX10_clashOf_86 : decode cX10_clashOf 86 = .ok (.iload 7, 2) := oq_21 (bq_in kqX10_clashOf_2 22 rfl) (bq_in kqX10_clashOf_2 23 rfl)
theorem dX10_clashOf_88 : decode cX10_clashOf 88 = .ok (.if_icmp .gt 6, 3) := oq_163 (bq_in kqX10_clashOf_2 24 rfl) (bq_in kqX10_clashOf_2 25 rfl) (bq_in kqX10_clashOf_2 26 rfl) rfl
theorem dX10_clashOf_91 : decode cX10_clashOf 91 = .ok (.goto 10, 3) := oq_167 (bq_in kqX10_clashOf_2 27 rfl) (bq_in kqX10_clashOf_2 28 rfl) (bq_in kqX10_clashOf_2 29 rfl) rfl
theorem dX10_clashOf_94 : decode cX10_clashOf 94 = .ok (.iload 7, 2) := oq_21 (bq_in kqX10_clashOf_2 30 rfl) (bq_in kqX10_clashOf_2 31 rfl)
theorem kqX10_clashOf_3 : ((cX10_clashOf.data.toList.drop 96).take 34).map UInt8.toNat = [54, 4, 167, 0, 9, 132, 6, 1, 167, 255, 161, 3, 54, 6, 3, 54, 7, 21, 7, 42, 180, 0, 42, 4, 46, 162, 0, 95, 42, 180, 0, 36, 18, 7] := by decide +kernel
theorem dX10_clashOf_96 : decode cX10_clashOf 96 = .ok (.istore 4, 2) := oq_54 (bq_in kqX10_clashOf_3 0 rfl) (bq_in kqX10_clashOf_3 1 rfl)
theorem dX10_clashOf_98 : decode cX10_clashOf 98 = .ok (.goto 9, 3) := oq_167 (bq_in kqX10_clashOf_3 2 rfl) (bq_in kqX10_clashOf_3 3 rfl) (bq_in kqX10_clashOf_3 4 rfl) rfl
theorem dX10_clashOf_101 : decode cX10_clashOf 101 = .ok (.iinc 6 1, 3) := oq_132 (bq_in kqX10_clashOf_3 5 rfl) (bq_in kqX10_clashOf_3 6 rfl) (bq_in kqX10_clashOf_3 7 rfl) rfl
theorem dX10_clashOf_104 : decode cX10_clashOf 104 = .ok (.goto (-95), 3) := oq_167 (bq_in kqX10_clashOf_3 8 rfl) (bq_in kqX10_clashOf_3 9 rfl) (bq_in kqX10_clashOf_3 10 rfl) rfl
theorem dX10_clashOf_107 : decode cX10_clashOf 107 = .ok (.iconst 0, 1) := oq_3 (bq_in kqX10_clashOf_3 11 rfl)
theorem dX10_clashOf_108 : decode cX10_clashOf 108 = .ok (.istore 6, 2) := oq_54 (bq_in kqX10_clashOf_3 12 rfl) (bq_in kqX10_clashOf_3 13 rfl)
theorem dX10_clashOf_110 : decode cX10_clashOf 110 = .ok (.iconst 0, 1) := oq_3 (bq_in kqX10_clashOf_3 14 rfl)
theorem dX10_clashOf_111 : decode cX10_clashOf 111 = .ok (.istore 7, 2) := oq_54 (bq_in kqX10_clashOf_3 15 rfl) (bq_in kqX10_clashOf_3 16 rfl)
theorem dX10_clashOf_113 : decode cX10_clashOf 113 = .ok (.iload 7, 2) := oq_21 (bq_in kqX10_clashOf_3 17 rfl) (bq_in kqX10_clashOf_3 18 rfl)
theorem dX10_clashOf_115 : decode cX10_clashOf 115 = .ok (.aload_n 0, 1) := oq_42 (bq_in kqX10_clashOf_3 19 rfl)
theorem dX10_clashOf_116 : decode cX10_clashOf 116 = .ok (.getfield 42, 3) := oq_180 (bq_in kqX10_clashOf_3 20 rfl) (bq_in kqX10_clashOf_3 21 rfl) (bq_in kqX10_clashOf_3 22 rfl) rfl
theorem dX10_clashOf_119 : decode cX10_clashOf 119 = .ok (.iconst 1, 1) := oq_4 (bq_in kqX10_clashOf_3 23 rfl)
theorem dX10_clashOf_120 : decode cX10_clashOf 120 = .ok (.iaload, 1) := oq_46 (bq_in kqX10_clashOf_3 24 rfl)
theorem dX10_clashOf_121 : decode cX10_clashOf 121 = .ok (.if_icmp .ge 95, 3) := oq_162 (bq_in kqX10_clashOf_3 25 rfl) (bq_in kqX10_clashOf_3 26 rfl) (bq_in kqX10_clashOf_3 27 rfl) rfl
theorem dX10_clashOf_124 : decode cX10_clashOf 124 = .ok (.aload_n 0, 1) := oq_42 (bq_in kqX10_clashOf_3 28 rfl)
theorem dX10_clashOf_125 : decode cX10_clashOf 125 = .ok (.getfield 36, 3) := oq_180 (bq_in kqX10_clashOf_3 29 rfl) (bq_in kqX10_clashOf_3 30 rfl) (bq_in kqX10_clashOf_3 31 rfl) rfl
theorem kqX10_clashOf_4 : ((cX10_clashOf.data.toList.drop 128).take 34).map UInt8.toNat = [18, 7, 21, 7, 96, 46, 54, 8, 21, 4, 155, 0, 13, 21, 8, 21, 4, 161, 0, 6, 167, 0, 68, 21, 6, 42, 180, 0, 42, 3, 46, 162, 0, 21] := by decide +kernel
theorem dX10_clashOf_128 : decode cX10_clashOf 128 = .ok (.ldc 7, 2) := oq_18 (bq_in kqX10_clashOf_4 0 rfl) (bq_in kqX10_clashOf_4 1 rfl)
theorem dX10_clashOf_130 : decode cX10_clashOf 130 = .ok (.iload 7, 2) := oq_21 (bq_in kqX10_clashOf_4 2 rfl) (bq_in kqX10_clashOf_4 3 rfl)
theorem dX10_clashOf_132 : decode cX10_clashOf 132 = .ok (.iadd, 1) := oq_96 (bq_in kqX10_clashOf_4 4 rfl)
theorem dX10_clashOf_133 : decode cX10_clashOf 133 = .ok (.iaload, 1) := oq_46 (bq_in kqX10_clashOf_4 5 rfl)
theorem dX10_clashOf_134 : decode cX10_clashOf 134 = .ok (.istore 8, 2) := oq_54 (bq_in kqX10_clashOf_4 6 rfl) (bq_in kqX10_clashOf_4 7 rfl)
theorem dX10_clashOf_136 : decode cX10_clashOf 136 = .ok (.iload 4, 2) := oq_21 (bq_in kqX10_clashOf_4 8 rfl) (bq_in kqX10_clashOf_4 9 rfl)
theorem dX10_clashOf_138 : decode cX10_clashOf 138 = .ok (.ifCond .lt 13, 3) := oq_155 (bq_in kqX10_clashOf_4 10 rfl) (bq_in kqX10_clashOf_4 11 rfl) (bq_in kqX10_clashOf_4 12 rfl) rfl
theorem dX10_clashOf_141 : decode cX10_clashOf 141 = .ok (.iload 8, 2) := oq_21 (bq_in kqX10_clashOf_4 13 rfl) (bq_in kqX10_clashOf_4 14 rfl)
theorem dX10_clashOf_143 : decode cX10_clashOf 143 = .ok (.iload 4, 2) := oq_21 (bq_in kqX10_clashOf_4 15 rfl) (bq_in kqX10_clashOf_4 16 rfl)
theorem dX10_clashOf_145 : decode cX10_clashOf 145 = .ok (.if_icmp .lt 6, 3) := oq_161 (bq_in kqX10_clashOf_4 17 rfl) (bq_in kqX10_clashOf_4 18 rfl) (bq_in kqX10_clashOf_4 19 rfl) rfl
theorem dX10_clashOf_148 : decode cX10_clashOf 148 = .ok (.goto 68, 3) := oq_167 (bq_in kqX10_clashOf_4 20 rfl) (bq_in kqX10_clashOf_4 21 rfl) (bq_in kqX10_clashOf_4 22 rfl) rfl
theorem dX10_clashOf_151 : decode cX10_clashOf 151 = .ok (.iload 6, 2) := oq_21 (bq_in kqX10_clashOf_4 23 rfl) (bq_in kqX10_clashOf_4 24 rfl)
theorem dX10_clashOf_153 : decode cX10_clashOf 153 = .ok (.aload_n 0, 1) := oq_42 (bq_in kqX10_clashOf_4 25 rfl)
theorem dX10_clashOf_154 : decode cX10_clashOf 154 = .ok (.getfield 42, 3) := oq_180 (bq_in kqX10_clashOf_4 26 rfl) (bq_in kqX10_clashOf_4 27 rfl) (bq_in kqX10_clashOf_4 28 rfl) rfl
theorem dX10_clashOf_157 : decode cX10_clashOf 157 = .ok (.iconst 0, 1) := oq_3 (bq_in kqX10_clashOf_4 29 rfl)
theorem dX10_clashOf_158 : decode cX10_clashOf 158 = .ok (.iaload, 1) := oq_46 (bq_in kqX10_clashOf_4 30 rfl)
theorem dX10_clashOf_159 : decode cX10_clashOf 159 = .ok (.if_icmp .ge 21, 3) := oq_162 (bq_in kqX10_clashOf_4 31 rfl) (bq_in kqX10_clashOf_4 32 rfl) (bq_in kqX10_clashOf_4 33 rfl) rfl
theorem kqX10_clashOf_5 : ((cX10_clashOf.data.toList.drop 160).take 34).map UInt8.toNat = [0, 21, 42, 180, 0, 36, 21, 6, 46, 21, 8, 163, 0, 9, 132, 6, 1, 167, 255, 230, 21, 8, 29, 161, 0, 27, 21, 6, 158, 0, 22, 42, 180, 0] := by decide +kernel
theorem dX10_clashOf_162 : decode cX10_clashOf 162 = .ok (.aload_n 0, 1) := oq_42 (bq_in kqX10_clashOf_5 2 rfl)
theorem dX10_clashOf_163 : decode cX10_clashOf 163 = .ok (.getfield 36, 3) := oq_180 (bq_in kqX10_clashOf_5 3 rfl) (bq_in kqX10_clashOf_5 4 rfl) (bq_in kqX10_clashOf_5 5 rfl) rfl
theorem dX10_clashOf_166 : decode cX10_clashOf 166 = .ok (.iload 6, 2) := oq_21 (bq_in kqX10_clashOf_5 6 rfl) (bq_in kqX10_clashOf_5 7 rfl)
theorem dX10_clashOf_168 : decode cX10_clashOf 168 = .ok (.iaload, 1) := oq_46 (bq_in kqX10_clashOf_5 8 rfl)
theorem dX10_clashOf_169 : decode cX10_clashOf 169 = .ok (.iload 8, 2) := oq_21 (bq_in kqX10_clashOf_5 9 rfl) (bq_in kqX10_clashOf_5 10 rfl)
theorem dX10_clashOf_171 : decode cX10_clashOf 171 = .ok (.if_icmp .gt 9, 3) := oq_163 (bq_in kqX10_clashOf_5 11 rfl) (bq_in kqX10_clashOf_5 12 rfl) (bq_in kqX10_clashOf_5 13 rfl) rfl
theorem dX10_clashOf_174 : decode cX10_clashOf 174 = .ok (.iinc 6 1, 3) := oq_132 (bq_in kqX10_clashOf_5 14 rfl) (bq_in kqX10_clashOf_5 15 rfl) (bq_in kqX10_clashOf_5 16 rfl) rfl
theorem dX10_clashOf_177 : decode cX10_clashOf 177 = .ok (.goto (-26), 3) := oq_167 (bq_in kqX10_clashOf_5 17 rfl) (bq_in kqX10_clashOf_5 18 rfl) (bq_in kqX10_clashOf_5 19 rfl) rfl
theorem dX10_clashOf_180 : decode cX10_clashOf 180 = .ok (.iload 8, 2) := oq_21 (bq_in kqX10_clashOf_5 20 rfl) (bq_in kqX10_clashOf_5 21 rfl)
theorem dX10_clashOf_182 : decode cX10_clashOf 182 = .ok (.iload_n 3, 1) := oq_29 (bq_in kqX10_clashOf_5 22 rfl)
theorem dX10_clashOf_183 : decode cX10_clashOf 183 = .ok (.if_icmp .lt 27, 3) := oq_161 (bq_in kqX10_clashOf_5 23 rfl) (bq_in kqX10_clashOf_5 24 rfl) (bq_in kqX10_clashOf_5 25 rfl) rfl
theorem dX10_clashOf_186 : decode cX10_clashOf 186 = .ok (.iload 6, 2) := oq_21 (bq_in kqX10_clashOf_5 26 rfl) (bq_in kqX10_clashOf_5 27 rfl)
theorem dX10_clashOf_188 : decode cX10_clashOf 188 = .ok (.ifCond .le 22, 3) := oq_158 (bq_in kqX10_clashOf_5 28 rfl) (bq_in kqX10_clashOf_5 29 rfl) (bq_in kqX10_clashOf_5 30 rfl) rfl
theorem dX10_clashOf_191 : decode cX10_clashOf 191 = .ok (.aload_n 0, 1) := oq_42 (bq_in kqX10_clashOf_5 31 rfl)
theorem kqX10_clashOf_6 : ((cX10_clashOf.data.toList.drop 192).take 34).map UInt8.toNat = [180, 0, 36, 21, 6, 4, 100, 46, 27, 96, 21, 8, 164, 0, 6, 21, 8, 172, 132, 7, 1, 167, 255, 156, 21, 4, 172] := by decide +kernel
theorem dX10_clashOf_192 : decode cX10_clashOf 192 = .ok (.getfield 36, 3) := oq_180 (bq_in kqX10_clashOf_6 0 rfl) (bq_in kqX10_clashOf_6 1 rfl) (bq_in kqX10_clashOf_6 2 rfl) rfl
theorem dX10_clashOf_195 : decode cX10_clashOf 195 = .ok (.iload 6, 2) := oq_21 (bq_in kqX10_clashOf_6 3 rfl) (bq_in kqX10_clashOf_6 4 rfl)
theorem dX10_clashOf_197 : decode cX10_clashOf 197 = .ok (.iconst 1, 1) := oq_4 (bq_in kqX10_clashOf_6 5 rfl)
theorem dX10_clashOf_198 : decode cX10_clashOf 198 = .ok (.isub, 1) := oq_100 (bq_in kqX10_clashOf_6 6 rfl)
theorem dX10_clashOf_199 : decode cX10_clashOf 199 = .ok (.iaload, 1) := oq_46 (bq_in kqX10_clashOf_6 7 rfl)
theorem dX10_clashOf_200 : decode cX10_clashOf 200 = .ok (.iload_n 1, 1) := oq_27 (bq_in kqX10_clashOf_6 8 rfl)
theorem dX10_clashOf_201 : decode cX10_clashOf 201 = .ok (.iadd, 1) := oq_96 (bq_in kqX10_clashOf_6 9 rfl)
theorem dX10_clashOf_202 : decode cX10_clashOf 202 = .ok (.iload 8, 2) := oq_21 (bq_in kqX10_clashOf_6 10 rfl) (bq_in kqX10_clashOf_6 11 rfl)
theorem dX10_clashOf_204 : decode cX10_clashOf 204 = .ok (.if_icmp .le 6, 3) := oq_164 (bq_in kqX10_clashOf_6 12 rfl) (bq_in kqX10_clashOf_6 13 rfl) (bq_in kqX10_clashOf_6 14 rfl) rfl
theorem dX10_clashOf_207 : decode cX10_clashOf 207 = .ok (.iload 8, 2) := oq_21 (bq_in kqX10_clashOf_6 15 rfl) (bq_in kqX10_clashOf_6 16 rfl)
theorem dX10_clashOf_209 : decode cX10_clashOf 209 = .ok (.ireturn, 1) := oq_172 (bq_in kqX10_clashOf_6 17 rfl)
theorem dX10_clashOf_210 : decode cX10_clashOf 210 = .ok (.iinc 7 1, 3) := oq_132 (bq_in kqX10_clashOf_6 18 rfl) (bq_in kqX10_clashOf_6 19 rfl) (bq_in kqX10_clashOf_6 20 rfl) rfl
theorem dX10_clashOf_213 : decode cX10_clashOf 213 = .ok (.goto (-100), 3) := oq_167 (bq_in kqX10_clashOf_6 21 rfl) (bq_in kqX10_clashOf_6 22 rfl) (bq_in kqX10_clashOf_6 23 rfl) rfl
theorem dX10_clashOf_216 : decode cX10_clashOf 216 = .ok (.iload 4, 2) := oq_21 (bq_in kqX10_clashOf_6 24 rfl) (bq_in kqX10_clashOf_6 25 rfl)
theorem dX10_clashOf_218 : decode cX10_clashOf 218 = .ok (.ireturn, 1) := oq_172 (bq_in kqX10_clashOf_6 26 rfl)
theorem kqX10_clash_0 : ((cX10_clash.data.toList.drop 0).take 34).map UInt8.toNat = [42, 3, 181, 0, 60, 42, 27, 182, 0, 220, 153, 0, 23, 42, 28, 182, 0, 220, 153, 0, 15, 27, 28, 159, 0, 10, 29, 184, 0, 248, 154, 0, 5, 2] := by decide +kernel
theorem dX10_clash_0 : decode cX10_clash 0 = .ok (.aload_n 0, 1) := oq_42 (bq_in kqX10_clash_0 0 rfl)
theorem dX10_clash_1 : decode cX10_clash 1 = .ok (.iconst 0, 1) := oq_3 (bq_in kqX10_clash_0 1 rfl)
theorem dX10_clash_2 : decode cX10_clash 2 = .ok (.putfield 60, 3) := oq_181 (bq_in kqX10_clash_0 2 rfl) (bq_in kqX10_clash_0 3 rfl) (bq_in kqX10_clash_0 4 rfl) rfl
theorem dX10_clash_5 : decode cX10_clash 5 = .ok (.aload_n 0, 1) := oq_42 (bq_in kqX10_clash_0 5 rfl)
theorem dX10_clash_6 : decode cX10_clash 6 = .ok (.iload_n 1, 1) := oq_27 (bq_in kqX10_clash_0 6 rfl)
theorem dX10_clash_7 : decode cX10_clash 7 = .ok (.invokevirtual 220, 3) := oq_182 (bq_in kqX10_clash_0 7 rfl) (bq_in kqX10_clash_0 8 rfl) (bq_in kqX10_clash_0 9 rfl) rfl
theorem dX10_clash_10 : decode cX10_clash 10 = .ok (.ifCond .eq 23, 3) := oq_153 (bq_in kqX10_clash_0 10 rfl) (bq_in kqX10_clash_0 11 rfl) (bq_in kqX10_clash_0 12 rfl) rfl
theorem dX10_clash_13 : decode cX10_clash 13 = .ok (.aload_n 0, 1) := oq_42 (bq_in kqX10_clash_0 13 rfl)
theorem dX10_clash_14 : decode cX10_clash 14 = .ok (.iload_n 2, 1) := oq_28 (bq_in kqX10_clash_0 14 rfl)
theorem dX10_clash_15 : decode cX10_clash 15 = .ok (.invokevirtual 220, 3) := oq_182 (bq_in kqX10_clash_0 15 rfl) (bq_in kqX10_clash_0 16 rfl) (bq_in kqX10_clash_0 17 rfl) rfl
theorem dX10_clash_18 : decode cX10_clash 18 = .ok (.ifCond .eq 15, 3) := oq_153 (bq_in kqX10_clash_0 18 rfl) (bq_in kqX10_clash_0 19 rfl) (bq_in kqX10_clash_0 20 rfl) rfl
theorem dX10_clash_21 : decode cX10_clash 21 = .ok (.iload_n 1, 1) := oq_27 (bq_in kqX10_clash_0 21 rfl)
theorem dX10_clash_22 : decode cX10_clash 22 = .ok (.iload_n 2, 1) := oq_28 (bq_in kqX10_clash_0 22 rfl)
theorem dX10_clash_23 : decode cX10_clash 23 = .ok (.if_icmp .eq 10, 3) := oq_159 (bq_in kqX10_clash_0 23 rfl) (bq_in kqX10_clash_0 24 rfl) (bq_in kqX10_clash_0 25 rfl) rfl
theorem dX10_clash_26 : decode cX10_clash 26 = .ok (.iload_n 3, 1) := oq_29 (bq_in kqX10_clash_0 26 rfl)
theorem dX10_clash_27 : decode cX10_clash 27 = .ok (.invokestatic 248, 3) := oq_184 (bq_in kqX10_clash_0 27 rfl) (bq_in kqX10_clash_0 28 rfl) (bq_in kqX10_clash_0 29 rfl) rfl
theorem dX10_clash_30 : decode cX10_clash 30 = .ok (.ifCond .ne 5, 3) := oq_154 (bq_in kqX10_clash_0 30 rfl) (bq_in kqX10_clash_0 31 rfl) (bq_in kqX10_clash_0 32 rfl) rfl
theorem kqX10_clash_1 : ((cX10_clash.data.toList.drop 32).take 34).map UInt8.toNat = [5, 2, 172, 42, 27, 3, 182, 0, 255, 42, 28, 4, 182, 0, 255, 42, 42, 27, 5, 182, 0, 229, 42, 28, 5, 182, 0, 229, 29, 182, 1, 20, 172] := by decide +kernel
theorem dX10_clash_33 : decode cX10_clash 33 = .ok (.iconst (-1), 1) := oq_2 (bq_in kqX10_clash_1 1 rfl)
theorem dX10_clash_34 : decode cX10_clash 34 = .ok (.ireturn, 1) := oq_172 (bq_in kqX10_clash_1 2 rfl)
theorem dX10_clash_35 : decode cX10_clash 35 = .ok (.aload_n 0, 1) := oq_42 (bq_in kqX10_clash_1 3 rfl)
theorem dX10_clash_36 : decode cX10_clash 36 = .ok (.iload_n 1, 1) := oq_27 (bq_in kqX10_clash_1 4 rfl)
theorem dX10_clash_37 : decode cX10_clash 37 = .ok (.iconst 0, 1) := oq_3 (bq_in kqX10_clash_1 5 rfl)
theorem dX10_clash_38 : decode cX10_clash 38 = .ok (.invokevirtual 255, 3) := oq_182 (bq_in kqX10_clash_1 6 rfl) (bq_in kqX10_clash_1 7 rfl) (bq_in kqX10_clash_1 8 rfl) rfl
theorem dX10_clash_41 : decode cX10_clash 41 = .ok (.aload_n 0, 1) := oq_42 (bq_in kqX10_clash_1 9 rfl)
theorem dX10_clash_42 : decode cX10_clash 42 = .ok (.iload_n 2, 1) := oq_28 (bq_in kqX10_clash_1 10 rfl)
theorem dX10_clash_43 : decode cX10_clash 43 = .ok (.iconst 1, 1) := oq_4 (bq_in kqX10_clash_1 11 rfl)
theorem dX10_clash_44 : decode cX10_clash 44 = .ok (.invokevirtual 255, 3) := oq_182 (bq_in kqX10_clash_1 12 rfl) (bq_in kqX10_clash_1 13 rfl) (bq_in kqX10_clash_1 14 rfl) rfl
theorem dX10_clash_47 : decode cX10_clash 47 = .ok (.aload_n 0, 1) := oq_42 (bq_in kqX10_clash_1 15 rfl)
theorem dX10_clash_48 : decode cX10_clash 48 = .ok (.aload_n 0, 1) := oq_42 (bq_in kqX10_clash_1 16 rfl)
theorem dX10_clash_49 : decode cX10_clash 49 = .ok (.iload_n 1, 1) := oq_27 (bq_in kqX10_clash_1 17 rfl)
theorem dX10_clash_50 : decode cX10_clash 50 = .ok (.iconst 2, 1) := oq_5 (bq_in kqX10_clash_1 18 rfl)
theorem dX10_clash_51 : decode cX10_clash 51 = .ok (.invokevirtual 229, 3) := oq_182 (bq_in kqX10_clash_1 19 rfl) (bq_in kqX10_clash_1 20 rfl) (bq_in kqX10_clash_1 21 rfl) rfl
theorem dX10_clash_54 : decode cX10_clash 54 = .ok (.aload_n 0, 1) := oq_42 (bq_in kqX10_clash_1 22 rfl)
theorem dX10_clash_55 : decode cX10_clash 55 = .ok (.iload_n 2, 1) := oq_28 (bq_in kqX10_clash_1 23 rfl)
theorem dX10_clash_56 : decode cX10_clash 56 = .ok (.iconst 2, 1) := oq_5 (bq_in kqX10_clash_1 24 rfl)
theorem dX10_clash_57 : decode cX10_clash 57 = .ok (.invokevirtual 229, 3) := oq_182 (bq_in kqX10_clash_1 25 rfl) (bq_in kqX10_clash_1 26 rfl) (bq_in kqX10_clash_1 27 rfl) rfl
theorem dX10_clash_60 : decode cX10_clash 60 = .ok (.iload_n 3, 1) := oq_29 (bq_in kqX10_clash_1 28 rfl)
theorem dX10_clash_61 : decode cX10_clash 61 = .ok (.invokevirtual 276, 3) := oq_182 (bq_in kqX10_clash_1 29 rfl) (bq_in kqX10_clash_1 30 rfl) (bq_in kqX10_clash_1 31 rfl) rfl
theorem kqX10_clash_2 : ((cX10_clash.data.toList.drop 64).take 34).map UInt8.toNat = [172] := by decide +kernel
theorem dX10_clash_64 : decode cX10_clash 64 = .ok (.ireturn, 1) := oq_172 (bq_in kqX10_clash_2 0 rfl)
theorem kqX10_clashes_0 : ((cX10_clashes.data.toList.drop 0).take 34).map UInt8.toNat = [42, 3, 181, 0, 60, 42, 27, 182, 0, 220, 153, 0, 47, 42, 28, 182, 0, 220, 153, 0, 39, 27, 28, 159, 0, 34, 29, 184, 0, 223, 153, 0, 27, 21] := by decide +kernel
theorem dX10_clashes_0 : decode cX10_clashes 0 = .ok (.aload_n 0, 1) := oq_42 (bq_in kqX10_clashes_0 0 rfl)
theorem dX10_clashes_1 : decode cX10_clashes 1 = .ok (.iconst 0, 1) := oq_3 (bq_in kqX10_clashes_0 1 rfl)
theorem dX10_clashes_2 : decode cX10_clashes 2 = .ok (.putfield 60, 3) := oq_181 (bq_in kqX10_clashes_0 2 rfl) (bq_in kqX10_clashes_0 3 rfl) (bq_in kqX10_clashes_0 4 rfl) rfl
theorem dX10_clashes_5 : decode cX10_clashes 5 = .ok (.aload_n 0, 1) := oq_42 (bq_in kqX10_clashes_0 5 rfl)
theorem dX10_clashes_6 : decode cX10_clashes 6 = .ok (.iload_n 1, 1) := oq_27 (bq_in kqX10_clashes_0 6 rfl)
theorem dX10_clashes_7 : decode cX10_clashes 7 = .ok (.invokevirtual 220, 3) := oq_182 (bq_in kqX10_clashes_0 7 rfl) (bq_in kqX10_clashes_0 8 rfl) (bq_in kqX10_clashes_0 9 rfl) rfl
theorem dX10_clashes_10 : decode cX10_clashes 10 = .ok (.ifCond .eq 47, 3) := oq_153 (bq_in kqX10_clashes_0 10 rfl) (bq_in kqX10_clashes_0 11 rfl) (bq_in kqX10_clashes_0 12 rfl) rfl
theorem dX10_clashes_13 : decode cX10_clashes 13 = .ok (.aload_n 0, 1) := oq_42 (bq_in kqX10_clashes_0 13 rfl)
theorem dX10_clashes_14 : decode cX10_clashes 14 = .ok (.iload_n 2, 1) := oq_28 (bq_in kqX10_clashes_0 14 rfl)
theorem dX10_clashes_15 : decode cX10_clashes 15 = .ok (.invokevirtual 220, 3) := oq_182 (bq_in kqX10_clashes_0 15 rfl) (bq_in kqX10_clashes_0 16 rfl) (bq_in kqX10_clashes_0 17 rfl) rfl
theorem dX10_clashes_18 : decode cX10_clashes 18 = .ok (.ifCond .eq 39, 3) := oq_153 (bq_in kqX10_clashes_0 18 rfl) (bq_in kqX10_clashes_0 19 rfl) (bq_in kqX10_clashes_0 20 rfl) rfl
theorem dX10_clashes_21 : decode cX10_clashes 21 = .ok (.iload_n 1, 1) := oq_27 (bq_in kqX10_clashes_0 21 rfl)
theorem dX10_clashes_22 : decode cX10_clashes 22 = .ok (.iload_n 2, 1) := oq_28 (bq_in kqX10_clashes_0 22 rfl)
theorem dX10_clashes_23 : decode cX10_clashes 23 = .ok (.if_icmp .eq 34, 3) := oq_159 (bq_in kqX10_clashes_0 23 rfl) (bq_in kqX10_clashes_0 24 rfl) (bq_in kqX10_clashes_0 25 rfl) rfl
theorem dX10_clashes_26 : decode cX10_clashes 26 = .ok (.iload_n 3, 1) := oq_29 (bq_in kqX10_clashes_0 26 rfl)
theorem dX10_clashes_27 : decode cX10_clashes 27 = .ok (.invokestatic 223, 3) := oq_184 (bq_in kqX10_clashes_0 27 rfl) (bq_in kqX10_clashes_0 28 rfl) (bq_in kqX10_clashes_0 29 rfl) rfl
theorem dX10_clashes_30 : decode cX10_clashes 30 = .ok (.ifCond .eq 27, 3) := oq_153 (bq_in kqX10_clashes_0 30 rfl) (bq_in kqX10_clashes_0 31 rfl) (bq_in kqX10_clashes_0 32 rfl) rfl
theorem kqX10_clashes_1 : ((cX10_clashes.data.toList.drop 32).take 34).map UInt8.toNat = [27, 21, 4, 184, 0, 223, 153, 0, 19, 21, 4, 29, 161, 0, 13, 21, 4, 29, 100, 17, 1, 143, 164, 0, 5, 2, 172, 42, 27, 3, 182, 0, 255, 42] := by decide +kernel
theorem dX10_clashes_33 : decode cX10_clashes 33 = .ok (.iload 4, 2) := oq_21 (bq_in kqX10_clashes_1 1 rfl) (bq_in kqX10_clashes_1 2 rfl)
theorem dX10_clashes_35 : decode cX10_clashes 35 = .ok (.invokestatic 223, 3) := oq_184 (bq_in kqX10_clashes_1 3 rfl) (bq_in kqX10_clashes_1 4 rfl) (bq_in kqX10_clashes_1 5 rfl) rfl
theorem dX10_clashes_38 : decode cX10_clashes 38 = .ok (.ifCond .eq 19, 3) := oq_153 (bq_in kqX10_clashes_1 6 rfl) (bq_in kqX10_clashes_1 7 rfl) (bq_in kqX10_clashes_1 8 rfl) rfl
theorem dX10_clashes_41 : decode cX10_clashes 41 = .ok (.iload 4, 2) := oq_21 (bq_in kqX10_clashes_1 9 rfl) (bq_in kqX10_clashes_1 10 rfl)
theorem dX10_clashes_43 : decode cX10_clashes 43 = .ok (.iload_n 3, 1) := oq_29 (bq_in kqX10_clashes_1 11 rfl)
theorem dX10_clashes_44 : decode cX10_clashes 44 = .ok (.if_icmp .lt 13, 3) := oq_161 (bq_in kqX10_clashes_1 12 rfl) (bq_in kqX10_clashes_1 13 rfl) (bq_in kqX10_clashes_1 14 rfl) rfl
theorem dX10_clashes_47 : decode cX10_clashes 47 = .ok (.iload 4, 2) := oq_21 (bq_in kqX10_clashes_1 15 rfl) (bq_in kqX10_clashes_1 16 rfl)
theorem dX10_clashes_49 : decode cX10_clashes 49 = .ok (.iload_n 3, 1) := oq_29 (bq_in kqX10_clashes_1 17 rfl)
theorem dX10_clashes_50 : decode cX10_clashes 50 = .ok (.isub, 1) := oq_100 (bq_in kqX10_clashes_1 18 rfl)
theorem dX10_clashes_51 : decode cX10_clashes 51 = .ok (.sipush 399, 3) := oq_17 (bq_in kqX10_clashes_1 19 rfl) (bq_in kqX10_clashes_1 20 rfl) (bq_in kqX10_clashes_1 21 rfl) rfl
theorem dX10_clashes_54 : decode cX10_clashes 54 = .ok (.if_icmp .le 5, 3) := oq_164 (bq_in kqX10_clashes_1 22 rfl) (bq_in kqX10_clashes_1 23 rfl) (bq_in kqX10_clashes_1 24 rfl) rfl
theorem dX10_clashes_57 : decode cX10_clashes 57 = .ok (.iconst (-1), 1) := oq_2 (bq_in kqX10_clashes_1 25 rfl)
theorem dX10_clashes_58 : decode cX10_clashes 58 = .ok (.ireturn, 1) := oq_172 (bq_in kqX10_clashes_1 26 rfl)
theorem dX10_clashes_59 : decode cX10_clashes 59 = .ok (.aload_n 0, 1) := oq_42 (bq_in kqX10_clashes_1 27 rfl)
theorem dX10_clashes_60 : decode cX10_clashes 60 = .ok (.iload_n 1, 1) := oq_27 (bq_in kqX10_clashes_1 28 rfl)
theorem dX10_clashes_61 : decode cX10_clashes 61 = .ok (.iconst 0, 1) := oq_3 (bq_in kqX10_clashes_1 29 rfl)
theorem dX10_clashes_62 : decode cX10_clashes 62 = .ok (.invokevirtual 255, 3) := oq_182 (bq_in kqX10_clashes_1 30 rfl) (bq_in kqX10_clashes_1 31 rfl) (bq_in kqX10_clashes_1 32 rfl) rfl
theorem kqX10_clashes_2 : ((cX10_clashes.data.toList.drop 64).take 34).map UInt8.toNat = [255, 42, 28, 4, 182, 0, 255, 3, 54, 5, 3, 54, 6, 3, 54, 7, 21, 7, 42, 180, 0, 42, 3, 46, 162, 0, 142, 42, 180, 0, 36, 21, 7, 46] := by decide +kernel
theorem dX10_clashes_65 : decode cX10_clashes 65 = .ok (.aload_n 0, 1) := oq_42 (bq_in kqX10_clashes_2 1 rfl)
theorem dX10_clashes_66 : decode cX10_clashes 66 = .ok (.iload_n 2, 1) := oq_28 (bq_in kqX10_clashes_2 2 rfl)
theorem dX10_clashes_67 : decode cX10_clashes 67 = .ok (.iconst 1, 1) := oq_4 (bq_in kqX10_clashes_2 3 rfl)
theorem dX10_clashes_68 : decode cX10_clashes 68 = .ok (.invokevirtual 255, 3) := oq_182 (bq_in kqX10_clashes_2 4 rfl) (bq_in kqX10_clashes_2 5 rfl) (bq_in kqX10_clashes_2 6 rfl) rfl
theorem dX10_clashes_71 : decode cX10_clashes 71 = .ok (.iconst 0, 1) := oq_3 (bq_in kqX10_clashes_2 7 rfl)
theorem dX10_clashes_72 : decode cX10_clashes 72 = .ok (.istore 5, 2) := oq_54 (bq_in kqX10_clashes_2 8 rfl) (bq_in kqX10_clashes_2 9 rfl)
theorem dX10_clashes_74 : decode cX10_clashes 74 = .ok (.iconst 0, 1) := oq_3 (bq_in kqX10_clashes_2 10 rfl)
theorem dX10_clashes_75 : decode cX10_clashes 75 = .ok (.istore 6, 2) := oq_54 (bq_in kqX10_clashes_2 11 rfl) (bq_in kqX10_clashes_2 12 rfl)
theorem dX10_clashes_77 : decode cX10_clashes 77 = .ok (.iconst 0, 1) := oq_3 (bq_in kqX10_clashes_2 13 rfl)
theorem dX10_clashes_78 : decode cX10_clashes 78 = .ok (.istore 7, 2) := oq_54 (bq_in kqX10_clashes_2 14 rfl) (bq_in kqX10_clashes_2 15 rfl)
theorem dX10_clashes_80 : decode cX10_clashes 80 = .ok (.iload 7, 2) := oq_21 (bq_in kqX10_clashes_2 16 rfl) (bq_in kqX10_clashes_2 17 rfl)
theorem dX10_clashes_82 : decode cX10_clashes 82 = .ok (.aload_n 0, 1) := oq_42 (bq_in kqX10_clashes_2 18 rfl)
theorem dX10_clashes_83 : decode cX10_clashes 83 = .ok (.getfield 42, 3) := oq_180 (bq_in kqX10_clashes_2 19 rfl) (bq_in kqX10_clashes_2 20 rfl) (bq_in kqX10_clashes_2 21 rfl) rfl
theorem dX10_clashes_86 : decode cX10_clashes 86 = .ok (.iconst 0, 1) := oq_3 (bq_in kqX10_clashes_2 22 rfl)
theorem dX10_clashes_87 : decode cX10_clashes 87 = .ok (.iaload, 1) := oq_46 (bq_in kqX10_clashes_2 23 rfl)
theorem dX10_clashes_88 : decode cX10_clashes 88 = .ok (.if_icmp .ge 142, 3) := oq_162 (bq_in kqX10_clashes_2 24 rfl) (bq_in kqX10_clashes_2 25 rfl) (bq_in kqX10_clashes_2 26 rfl) rfl
theorem dX10_clashes_91 : decode cX10_clashes 91 = .ok (.aload_n 0, 1) := oq_42 (bq_in kqX10_clashes_2 27 rfl)
theorem dX10_clashes_92 : decode cX10_clashes 92 = .ok (.getfield 36, 3) := oq_180 (bq_in kqX10_clashes_2 28 rfl) (bq_in kqX10_clashes_2 29 rfl) (bq_in kqX10_clashes_2 30 rfl) rfl
theorem dX10_clashes_95 : decode cX10_clashes 95 = .ok (.iload 7, 2) := oq_21 (bq_in kqX10_clashes_2 31 rfl) (bq_in kqX10_clashes_2 32 rfl)
theorem kqX10_clashes_3 : ((cX10_clashes.data.toList.drop 96).take 34).map UInt8.toNat = [7, 46, 54, 8, 21, 6, 42, 180, 0, 42, 4, 46, 162, 0, 31, 42, 180, 0, 36, 18, 7, 21, 6, 96, 46, 42, 28, 5, 182, 0, 229, 96, 21, 8] := by decide +kernel
theorem dX10_clashes_97 : decode cX10_clashes 97 = .ok (.iaload, 1) := oq_46 (bq_in kqX10_clashes_3 1 rfl)
theorem dX10_clashes_98 : decode cX10_clashes 98 = .ok (.istore 8, 2) := oq_54 (bq_in kqX10_clashes_3 2 rfl) (bq_in kqX10_clashes_3 3 rfl)
theorem dX10_clashes_100 : decode cX10_clashes 100 = .ok (.iload 6, 2) := oq_21 (bq_in kqX10_clashes_3 4 rfl) (bq_in kqX10_clashes_3 5 rfl)
theorem dX10_clashes_102 : decode cX10_clashes 102 = .ok (.aload_n 0, 1) := oq_42 (bq_in kqX10_clashes_3 6 rfl)
theorem dX10_clashes_103 : decode cX10_clashes 103 = .ok (.getfield 42, 3) := oq_180 (bq_in kqX10_clashes_3 7 rfl) (bq_in kqX10_clashes_3 8 rfl) (bq_in kqX10_clashes_3 9 rfl) rfl
theorem dX10_clashes_106 : decode cX10_clashes 106 = .ok (.iconst 1, 1) := oq_4 (bq_in kqX10_clashes_3 10 rfl)
theorem dX10_clashes_107 : decode cX10_clashes 107 = .ok (.iaload, 1) := oq_46 (bq_in kqX10_clashes_3 11 rfl)
theorem dX10_clashes_108 : decode cX10_clashes 108 = .ok (.if_icmp .ge 31, 3) := oq_162 (bq_in kqX10_clashes_3 12 rfl) (bq_in kqX10_clashes_3 13 rfl) (bq_in kqX10_clashes_3 14 rfl) rfl
theorem dX10_clashes_111 : decode cX10_clashes 111 = .ok (.aload_n 0, 1) := oq_42 (bq_in kqX10_clashes_3 15 rfl)
theorem dX10_clashes_112 : decode cX10_clashes 112 = .ok (.getfield 36, 3) := oq_180 (bq_in kqX10_clashes_3 16 rfl) (bq_in kqX10_clashes_3 17 rfl) (bq_in kqX10_clashes_3 18 rfl) rfl
theorem dX10_clashes_115 : decode cX10_clashes 115 = .ok (.ldc 7, 2) := oq_18 (bq_in kqX10_clashes_3 19 rfl) (bq_in kqX10_clashes_3 20 rfl)
theorem dX10_clashes_117 : decode cX10_clashes 117 = .ok (.iload 6, 2) := oq_21 (bq_in kqX10_clashes_3 21 rfl) (bq_in kqX10_clashes_3 22 rfl)
theorem dX10_clashes_119 : decode cX10_clashes 119 = .ok (.iadd, 1) := oq_96 (bq_in kqX10_clashes_3 23 rfl)
theorem dX10_clashes_120 : decode cX10_clashes 120 = .ok (.iaload, 1) := oq_46 (bq_in kqX10_clashes_3 24 rfl)
theorem dX10_clashes_121 : decode cX10_clashes 121 = .ok (.aload_n 0, 1) := oq_42 (bq_in kqX10_clashes_3 25 rfl)
theorem dX10_clashes_122 : decode cX10_clashes 122 = .ok (.iload_n 2, 1) := oq_28 (bq_in kqX10_clashes_3 26 rfl)
theorem dX10_clashes_123 : decode cX10_clashes 123 = .ok (.iconst 2, 1) := oq_5 (bq_in kqX10_clashes_3 27 rfl)
theorem dX10_clashes_124 : decode cX10_clashes 124 = .ok (.invokevirtual 229, 3) := oq_182 (bq_in kqX10_clashes_3 28 rfl) (bq_in kqX10_clashes_3 29 rfl) (bq_in kqX10_clashes_3 30 rfl) rfl
theorem dX10_clashes_127 : decode cX10_clashes 127 = .ok (.iadd, 1) := oq_96 (bq_in kqX10_clashes_3 31 rfl)
theorem kqX10_clashes_4 : ((cX10_clashes.data.toList.drop 128).take 34).map UInt8.toNat = [21, 8, 163, 0, 9, 132, 6, 1, 167, 255, 220, 21, 6, 54, 9, 21, 9, 42, 180, 0, 42, 4, 46, 162, 0, 73, 42, 180, 0, 36, 18, 7, 21, 9] := by decide +kernel
theorem dX10_clashes_128 : decode cX10_clashes 128 = .ok (.iload 8, 2) := oq_21 (bq_in kqX10_clashes_4 0 rfl) (bq_in kqX10_clashes_4 1 rfl)
theorem dX10_clashes_130 : decode cX10_clashes 130 = .ok (.if_icmp .gt 9, 3) := oq_163 (bq_in kqX10_clashes_4 2 rfl) (bq_in kqX10_clashes_4 3 rfl) (bq_in kqX10_clashes_4 4 rfl) rfl
theorem dX10_clashes_133 : decode cX10_clashes 133 = .ok (.iinc 6 1, 3) := oq_132 (bq_in kqX10_clashes_4 5 rfl) (bq_in kqX10_clashes_4 6 rfl) (bq_in kqX10_clashes_4 7 rfl) rfl
theorem dX10_clashes_136 : decode cX10_clashes 136 = .ok (.goto (-36), 3) := oq_167 (bq_in kqX10_clashes_4 8 rfl) (bq_in kqX10_clashes_4 9 rfl) (bq_in kqX10_clashes_4 10 rfl) rfl
theorem dX10_clashes_139 : decode cX10_clashes 139 = .ok (.iload 6, 2) := oq_21 (bq_in kqX10_clashes_4 11 rfl) (bq_in kqX10_clashes_4 12 rfl)
theorem dX10_clashes_141 : decode cX10_clashes 141 = .ok (.istore 9, 2) := oq_54 (bq_in kqX10_clashes_4 13 rfl) (bq_in kqX10_clashes_4 14 rfl)
theorem dX10_clashes_143 : decode cX10_clashes 143 = .ok (.iload 9, 2) := oq_21 (bq_in kqX10_clashes_4 15 rfl) (bq_in kqX10_clashes_4 16 rfl)
theorem dX10_clashes_145 : decode cX10_clashes 145 = .ok (.aload_n 0, 1) := oq_42 (bq_in kqX10_clashes_4 17 rfl)
theorem dX10_clashes_146 : decode cX10_clashes 146 = .ok (.getfield 42, 3) := oq_180 (bq_in kqX10_clashes_4 18 rfl) (bq_in kqX10_clashes_4 19 rfl) (bq_in kqX10_clashes_4 20 rfl) rfl
theorem dX10_clashes_149 : decode cX10_clashes 149 = .ok (.iconst 1, 1) := oq_4 (bq_in kqX10_clashes_4 21 rfl)
theorem dX10_clashes_150 : decode cX10_clashes 150 = .ok (.iaload, 1) := oq_46 (bq_in kqX10_clashes_4 22 rfl)
theorem dX10_clashes_151 : decode cX10_clashes 151 = .ok (.if_icmp .ge 73, 3) := oq_162 (bq_in kqX10_clashes_4 23 rfl) (bq_in kqX10_clashes_4 24 rfl) (bq_in kqX10_clashes_4 25 rfl) rfl
theorem dX10_clashes_154 : decode cX10_clashes 154 = .ok (.aload_n 0, 1) := oq_42 (bq_in kqX10_clashes_4 26 rfl)
theorem dX10_clashes_155 : decode cX10_clashes 155 = .ok (.getfield 36, 3) := oq_180 (bq_in kqX10_clashes_4 27 rfl) (bq_in kqX10_clashes_4 28 rfl) (bq_in kqX10_clashes_4 29 rfl) rfl
theorem dX10_clashes_158 : decode cX10_clashes 158 = .ok (.ldc 7, 2) := oq_18 (bq_in kqX10_clashes_4 30 rfl) (bq_in kqX10_clashes_4 31 rfl)
theorem kqX10_clashes_5 : ((cX10_clashes.data.toList.drop 160).take 34).map UInt8.toNat = [21, 9, 96, 46, 21, 8, 42, 27, 5, 182, 0, 229, 96, 162, 0, 51, 42, 180, 0, 36, 18, 7, 21, 9, 96, 46, 54, 10, 21, 8, 21, 10, 164, 0] := by decide +kernel
theorem dX10_clashes_160 : decode cX10_clashes 160 = .ok (.iload 9, 2) := oq_21 (bq_in kqX10_clashes_5 0 rfl) (bq_in kqX10_clashes_5 1 rfl)
theorem dX10_clashes_162 : decode cX10_clashes 162 = .ok (.iadd, 1) := oq_96 (bq_in kqX10_clashes_5 2 rfl)
theorem dX10_clashes_163 : decode cX10_clashes 163 = .ok (.iaload, 1) := oq_46 (bq_in kqX10_clashes_5 3 rfl)
theorem dX10_clashes_164 : decode cX10_clashes 164 = .ok (.iload 8, 2) := oq_21 (bq_in kqX10_clashes_5 4 rfl) (bq_in kqX10_clashes_5 5 rfl)
theorem dX10_clashes_166 : decode cX10_clashes 166 = .ok (.aload_n 0, 1) := oq_42 (bq_in kqX10_clashes_5 6 rfl)
theorem dX10_clashes_167 : decode cX10_clashes 167 = .ok (.iload_n 1, 1) := oq_27 (bq_in kqX10_clashes_5 7 rfl)
theorem dX10_clashes_168 : decode cX10_clashes 168 = .ok (.iconst 2, 1) := oq_5 (bq_in kqX10_clashes_5 8 rfl)
theorem dX10_clashes_169 : decode cX10_clashes 169 = .ok (.invokevirtual 229, 3) := oq_182 (bq_in kqX10_clashes_5 9 rfl) (bq_in kqX10_clashes_5 10 rfl) (bq_in kqX10_clashes_5 11 rfl) rfl
theorem dX10_clashes_172 : decode cX10_clashes 172 = .ok (.iadd, 1) := oq_96 (bq_in kqX10_clashes_5 12 rfl)
theorem dX10_clashes_173 : decode cX10_clashes 173 = .ok (.if_icmp .ge 51, 3) := oq_162 (bq_in kqX10_clashes_5 13 rfl) (bq_in kqX10_clashes_5 14 rfl) (bq_in kqX10_clashes_5 15 rfl) rfl
theorem dX10_clashes_176 : decode cX10_clashes 176 = .ok (.aload_n 0, 1) := oq_42 (bq_in kqX10_clashes_5 16 rfl)
theorem dX10_clashes_177 : decode cX10_clashes 177 = .ok (.getfield 36, 3) := oq_180 (bq_in kqX10_clashes_5 17 rfl) (bq_in kqX10_clashes_5 18 rfl) (bq_in kqX10_clashes_5 19 rfl) rfl
theorem dX10_clashes_180 : decode cX10_clashes 180 = .ok (.ldc 7, 2) := oq_18 (bq_in kqX10_clashes_5 20 rfl) (bq_in kqX10_clashes_5 21 rfl)
theorem dX10_clashes_182 : decode cX10_clashes 182 = .ok (.iload 9, 2) := oq_21 (bq_in kqX10_clashes_5 22 rfl) (bq_in kqX10_clashes_5 23 rfl)
theorem dX10_clashes_184 : decode cX10_clashes 184 = .ok (.iadd, 1) := oq_96 (bq_in kqX10_clashes_5 24 rfl)
theorem dX10_clashes_185 : decode cX10_clashes 185 = .ok (.iaload, 1) := oq_46 (bq_in kqX10_clashes_5 25 rfl)
theorem dX10_clashes_186 : decode cX10_clashes 186 = .ok (.istore 10, 2) := oq_54 (bq_in kqX10_clashes_5 26 rfl) (bq_in kqX10_clashes_5 27 rfl)
theorem dX10_clashes_188 : decode cX10_clashes 188 = .ok (.iload 8, 2) := oq_21 (bq_in kqX10_clashes_5 28 rfl) (bq_in kqX10_clashes_5 29 rfl)
theorem dX10_clashes_190 : decode cX10_clashes 190 = .ok (.iload 10, 2) := oq_21 (bq_in kqX10_clashes_5 30 rfl) (bq_in kqX10_clashes_5 31 rfl)
theorem kqX10_clashes_6 : ((cX10_clashes.data.toList.drop 192).take 34).map UInt8.toNat = [164, 0, 8, 21, 8, 167, 0, 5, 21, 10, 17, 5, 160, 108, 29, 21, 4, 184, 0, 65, 153, 0, 6, 132, 5, 1, 132, 9, 1, 167, 255, 178, 132, 7] := by decide +kernel
theorem dX10_clashes_192 : decode cX10_clashes 192 = .ok (.if_icmp .le 8, 3) := oq_164 (bq_in kqX10_clashes_6 0 rfl) (bq_in kqX10_clashes_6 1 rfl) (bq_in kqX10_clashes_6 2 rfl) rfl
theorem dX10_clashes_195 : decode cX10_clashes 195 = .ok (.iload 8, 2) := oq_21 (bq_in kqX10_clashes_6 3 rfl) (bq_in kqX10_clashes_6 4 rfl)
theorem dX10_clashes_197 : decode cX10_clashes 197 = .ok (.goto 5, 3) := oq_167 (bq_in kqX10_clashes_6 5 rfl) (bq_in kqX10_clashes_6 6 rfl) (bq_in kqX10_clashes_6 7 rfl) rfl
theorem dX10_clashes_200 : decode cX10_clashes 200 = .ok (.iload 10, 2) := oq_21 (bq_in kqX10_clashes_6 8 rfl) (bq_in kqX10_clashes_6 9 rfl)
theorem dX10_clashes_202 : decode cX10_clashes 202 = .ok (.sipush 1440, 3) := oq_17 (bq_in kqX10_clashes_6 10 rfl) (bq_in kqX10_clashes_6 11 rfl) (bq_in kqX10_clashes_6 12 rfl) rfl
theorem dX10_clashes_205 : decode cX10_clashes 205 = .ok (.idiv, 1) := oq_108 (bq_in kqX10_clashes_6 13 rfl)
theorem dX10_clashes_206 : decode cX10_clashes 206 = .ok (.iload_n 3, 1) := oq_29 (bq_in kqX10_clashes_6 14 rfl)
theorem dX10_clashes_207 : decode cX10_clashes 207 = .ok (.iload 4, 2) := oq_21 (bq_in kqX10_clashes_6 15 rfl) (bq_in kqX10_clashes_6 16 rfl)
theorem dX10_clashes_209 : decode cX10_clashes 209 = .ok (.invokestatic 65, 3) := oq_184 (bq_in kqX10_clashes_6 17 rfl) (bq_in kqX10_clashes_6 18 rfl) (bq_in kqX10_clashes_6 19 rfl) rfl
theorem dX10_clashes_212 : decode cX10_clashes 212 = .ok (.ifCond .eq 6, 3) := oq_153 (bq_in kqX10_clashes_6 20 rfl) (bq_in kqX10_clashes_6 21 rfl) (bq_in kqX10_clashes_6 22 rfl) rfl
theorem dX10_clashes_215 : decode cX10_clashes 215 = .ok (.iinc 5 1, 3) := oq_132 (bq_in kqX10_clashes_6 23 rfl) (bq_in kqX10_clashes_6 24 rfl) (bq_in kqX10_clashes_6 25 rfl) rfl
theorem dX10_clashes_218 : decode cX10_clashes 218 = .ok (.iinc 9 1, 3) := oq_132 (bq_in kqX10_clashes_6 26 rfl) (bq_in kqX10_clashes_6 27 rfl) (bq_in kqX10_clashes_6 28 rfl) rfl
theorem dX10_clashes_221 : decode cX10_clashes 221 = .ok (.goto (-78), 3) := oq_167 (bq_in kqX10_clashes_6 29 rfl) (bq_in kqX10_clashes_6 30 rfl) (bq_in kqX10_clashes_6 31 rfl) rfl
theorem kqX10_clashes_7 : ((cX10_clashes.data.toList.drop 224).take 34).map UInt8.toNat = [132, 7, 1, 167, 255, 109, 21, 5, 172] := by decide +kernel
theorem dX10_clashes_224 : decode cX10_clashes 224 = .ok (.iinc 7 1, 3) := oq_132 (bq_in kqX10_clashes_7 0 rfl) (bq_in kqX10_clashes_7 1 rfl) (bq_in kqX10_clashes_7 2 rfl) rfl
theorem dX10_clashes_227 : decode cX10_clashes 227 = .ok (.goto (-147), 3) := oq_167 (bq_in kqX10_clashes_7 3 rfl) (bq_in kqX10_clashes_7 4 rfl) (bq_in kqX10_clashes_7 5 rfl) rfl
theorem dX10_clashes_230 : decode cX10_clashes 230 = .ok (.iload 5, 2) := oq_21 (bq_in kqX10_clashes_7 6 rfl) (bq_in kqX10_clashes_7 7 rfl)
theorem dX10_clashes_232 : decode cX10_clashes 232 = .ok (.ireturn, 1) := oq_172 (bq_in kqX10_clashes_7 8 rfl)
theorem kqX10_roomClash_0 : ((cX10_roomClash.data.toList.drop 0).take 34).map UInt8.toNat = [42, 3, 181, 0, 60, 27, 3, 16, 7, 184, 0, 65, 153, 0, 19, 28, 184, 0, 248, 153, 0, 12, 29, 3, 5, 184, 0, 65, 154, 0, 5, 2, 172, 2] := by decide +kernel
theorem dX10_roomClash_0 : decode cX10_roomClash 0 = .ok (.aload_n 0, 1) := oq_42 (bq_in kqX10_roomClash_0 0 rfl)
theorem dX10_roomClash_1 : decode cX10_roomClash 1 = .ok (.iconst 0, 1) := oq_3 (bq_in kqX10_roomClash_0 1 rfl)
theorem dX10_roomClash_2 : decode cX10_roomClash 2 = .ok (.putfield 60, 3) := oq_181 (bq_in kqX10_roomClash_0 2 rfl) (bq_in kqX10_roomClash_0 3 rfl) (bq_in kqX10_roomClash_0 4 rfl) rfl
theorem dX10_roomClash_5 : decode cX10_roomClash 5 = .ok (.iload_n 1, 1) := oq_27 (bq_in kqX10_roomClash_0 5 rfl)
theorem dX10_roomClash_6 : decode cX10_roomClash 6 = .ok (.iconst 0, 1) := oq_3 (bq_in kqX10_roomClash_0 6 rfl)
theorem dX10_roomClash_7 : decode cX10_roomClash 7 = .ok (.bipush 7, 2) := oq_16 (bq_in kqX10_roomClash_0 7 rfl) (bq_in kqX10_roomClash_0 8 rfl) rfl
theorem dX10_roomClash_9 : decode cX10_roomClash 9 = .ok (.invokestatic 65, 3) := oq_184 (bq_in kqX10_roomClash_0 9 rfl) (bq_in kqX10_roomClash_0 10 rfl) (bq_in kqX10_roomClash_0 11 rfl) rfl
theorem dX10_roomClash_12 : decode cX10_roomClash 12 = .ok (.ifCond .eq 19, 3) := oq_153 (bq_in kqX10_roomClash_0 12 rfl) (bq_in kqX10_roomClash_0 13 rfl) (bq_in kqX10_roomClash_0 14 rfl) rfl
theorem dX10_roomClash_15 : decode cX10_roomClash 15 = .ok (.iload_n 2, 1) := oq_28 (bq_in kqX10_roomClash_0 15 rfl)
theorem dX10_roomClash_16 : decode cX10_roomClash 16 = .ok (.invokestatic 248, 3) := oq_184 (bq_in kqX10_roomClash_0 16 rfl) (bq_in kqX10_roomClash_0 17 rfl) (bq_in kqX10_roomClash_0 18 rfl) rfl
theorem dX10_roomClash_19 : decode cX10_roomClash 19 = .ok (.ifCond .eq 12, 3) := oq_153 (bq_in kqX10_roomClash_0 19 rfl) (bq_in kqX10_roomClash_0 20 rfl) (bq_in kqX10_roomClash_0 21 rfl) rfl
theorem dX10_roomClash_22 : decode cX10_roomClash 22 = .ok (.iload_n 3, 1) := oq_29 (bq_in kqX10_roomClash_0 22 rfl)
theorem dX10_roomClash_23 : decode cX10_roomClash 23 = .ok (.iconst 0, 1) := oq_3 (bq_in kqX10_roomClash_0 23 rfl)
theorem dX10_roomClash_24 : decode cX10_roomClash 24 = .ok (.iconst 2, 1) := oq_5 (bq_in kqX10_roomClash_0 24 rfl)
theorem dX10_roomClash_25 : decode cX10_roomClash 25 = .ok (.invokestatic 65, 3) := oq_184 (bq_in kqX10_roomClash_0 25 rfl) (bq_in kqX10_roomClash_0 26 rfl) (bq_in kqX10_roomClash_0 27 rfl) rfl
theorem dX10_roomClash_28 : decode cX10_roomClash 28 = .ok (.ifCond .ne 5, 3) := oq_154 (bq_in kqX10_roomClash_0 28 rfl) (bq_in kqX10_roomClash_0 29 rfl) (bq_in kqX10_roomClash_0 30 rfl) rfl
theorem dX10_roomClash_31 : decode cX10_roomClash 31 = .ok (.iconst (-1), 1) := oq_2 (bq_in kqX10_roomClash_0 31 rfl)
theorem kqX10_roomClash_1 : ((cX10_roomClash.data.toList.drop 32).take 34).map UInt8.toNat = [172, 2, 54, 4, 2, 54, 5, 2, 54, 6, 3, 54, 7, 21, 7, 42, 180, 0, 70, 162, 0, 125, 42, 21, 7, 3, 182, 0, 229, 27, 159, 0, 6, 167] := by decide +kernel
theorem dX10_roomClash_32 : decode cX10_roomClash 32 = .ok (.ireturn, 1) := oq_172 (bq_in kqX10_roomClash_1 0 rfl)
theorem dX10_roomClash_33 : decode cX10_roomClash 33 = .ok (.iconst (-1), 1) := oq_2 (bq_in kqX10_roomClash_1 1 rfl)
theorem dX10_roomClash_34 : decode cX10_roomClash 34 = .ok (.istore 4, 2) := oq_54 (bq_in kqX10_roomClash_1 2 rfl) (bq_in kqX10_roomClash_1 3 rfl)
theorem dX10_roomClash_36 : decode cX10_roomClash 36 = .ok (.iconst (-1), 1) := oq_2 (bq_in kqX10_roomClash_1 4 rfl)
theorem dX10_roomClash_37 : decode cX10_roomClash 37 = .ok (.istore 5, 2) := oq_54 (bq_in kqX10_roomClash_1 5 rfl) (bq_in kqX10_roomClash_1 6 rfl)
theorem dX10_roomClash_39 : decode cX10_roomClash 39 = .ok (.iconst (-1), 1) := oq_2 (bq_in kqX10_roomClash_1 7 rfl)
theorem dX10_roomClash_40 : decode cX10_roomClash 40 = .ok (.istore 6, 2) := oq_54 (bq_in kqX10_roomClash_1 8 rfl) (bq_in kqX10_roomClash_1 9 rfl)
theorem dX10_roomClash_42 : decode cX10_roomClash 42 = .ok (.iconst 0, 1) := oq_3 (bq_in kqX10_roomClash_1 10 rfl)
theorem dX10_roomClash_43 : decode cX10_roomClash 43 = .ok (.istore 7, 2) := oq_54 (bq_in kqX10_roomClash_1 11 rfl) (bq_in kqX10_roomClash_1 12 rfl)
theorem dX10_roomClash_45 : decode cX10_roomClash 45 = .ok (.iload 7, 2) := oq_21 (bq_in kqX10_roomClash_1 13 rfl) (bq_in kqX10_roomClash_1 14 rfl)
theorem dX10_roomClash_47 : decode cX10_roomClash 47 = .ok (.aload_n 0, 1) := oq_42 (bq_in kqX10_roomClash_1 15 rfl)
theorem dX10_roomClash_48 : decode cX10_roomClash 48 = .ok (.getfield 70, 3) := oq_180 (bq_in kqX10_roomClash_1 16 rfl) (bq_in kqX10_roomClash_1 17 rfl) (bq_in kqX10_roomClash_1 18 rfl) rfl
theorem dX10_roomClash_51 : decode cX10_roomClash 51 = .ok (.if_icmp .ge 125, 3) := oq_162 (bq_in kqX10_roomClash_1 19 rfl) (bq_in kqX10_roomClash_1 20 rfl) (bq_in kqX10_roomClash_1 21 rfl) rfl
theorem dX10_roomClash_54 : decode cX10_roomClash 54 = .ok (.aload_n 0, 1) := oq_42 (bq_in kqX10_roomClash_1 22 rfl)
theorem dX10_roomClash_55 : decode cX10_roomClash 55 = .ok (.iload 7, 2) := oq_21 (bq_in kqX10_roomClash_1 23 rfl) (bq_in kqX10_roomClash_1 24 rfl)
theorem dX10_roomClash_57 : decode cX10_roomClash 57 = .ok (.iconst 0, 1) := oq_3 (bq_in kqX10_roomClash_1 25 rfl)
theorem dX10_roomClash_58 : decode cX10_roomClash 58 = .ok (.invokevirtual 229, 3) := oq_182 (bq_in kqX10_roomClash_1 26 rfl) (bq_in kqX10_roomClash_1 27 rfl) (bq_in kqX10_roomClash_1 28 rfl) rfl
theorem dX10_roomClash_61 : decode cX10_roomClash 61 = .ok (.iload_n 1, 1) := oq_27 (bq_in kqX10_roomClash_1 29 rfl)
theorem dX10_roomClash_62 : decode cX10_roomClash 62 = .ok (.if_icmp .eq 6, 3) := oq_159 (bq_in kqX10_roomClash_1 30 rfl) (bq_in kqX10_roomClash_1 31 rfl) (bq_in kqX10_roomClash_1 32 rfl) rfl
theorem kqX10_roomClash_2 : ((cX10_roomClash.data.toList.drop 64).take 34).map UInt8.toNat = [6, 167, 0, 105, 42, 21, 7, 3, 182, 0, 255, 21, 7, 4, 96, 54, 8, 21, 8, 42, 180, 0, 70, 162, 0, 83, 42, 21, 8, 3, 182, 0, 229, 27] := by decide +kernel
theorem dX10_roomClash_65 : decode cX10_roomClash 65 = .ok (.goto 105, 3) := oq_167 (bq_in kqX10_roomClash_2 1 rfl) (bq_in kqX10_roomClash_2 2 rfl) (bq_in kqX10_roomClash_2 3 rfl) rfl
theorem dX10_roomClash_68 : decode cX10_roomClash 68 = .ok (.aload_n 0, 1) := oq_42 (bq_in kqX10_roomClash_2 4 rfl)
theorem dX10_roomClash_69 : decode cX10_roomClash 69 = .ok (.iload 7, 2) := oq_21 (bq_in kqX10_roomClash_2 5 rfl) (bq_in kqX10_roomClash_2 6 rfl)
theorem dX10_roomClash_71 : decode cX10_roomClash 71 = .ok (.iconst 0, 1) := oq_3 (bq_in kqX10_roomClash_2 7 rfl)
theorem dX10_roomClash_72 : decode cX10_roomClash 72 = .ok (.invokevirtual 255, 3) := oq_182 (bq_in kqX10_roomClash_2 8 rfl) (bq_in kqX10_roomClash_2 9 rfl) (bq_in kqX10_roomClash_2 10 rfl) rfl
theorem dX10_roomClash_75 : decode cX10_roomClash 75 = .ok (.iload 7, 2) := oq_21 (bq_in kqX10_roomClash_2 11 rfl) (bq_in kqX10_roomClash_2 12 rfl)
theorem dX10_roomClash_77 : decode cX10_roomClash 77 = .ok (.iconst 1, 1) := oq_4 (bq_in kqX10_roomClash_2 13 rfl)
theorem dX10_roomClash_78 : decode cX10_roomClash 78 = .ok (.iadd, 1) := oq_96 (bq_in kqX10_roomClash_2 14 rfl)
theorem dX10_roomClash_79 : decode cX10_roomClash 79 = .ok (.istore 8, 2) := oq_54 (bq_in kqX10_roomClash_2 15 rfl) (bq_in kqX10_roomClash_2 16 rfl)
theorem dX10_roomClash_81 : decode cX10_roomClash 81 = .ok (.iload 8, 2) := oq_21 (bq_in kqX10_roomClash_2 17 rfl) (bq_in kqX10_roomClash_2 18 rfl)
theorem dX10_roomClash_83 : decode cX10_roomClash 83 = .ok (.aload_n 0, 1) := oq_42 (bq_in kqX10_roomClash_2 19 rfl)
theorem dX10_roomClash_84 : decode cX10_roomClash 84 = .ok (.getfield 70, 3) := oq_180 (bq_in kqX10_roomClash_2 20 rfl) (bq_in kqX10_roomClash_2 21 rfl) (bq_in kqX10_roomClash_2 22 rfl) rfl
theorem dX10_roomClash_87 : decode cX10_roomClash 87 = .ok (.if_icmp .ge 83, 3) := oq_162 (bq_in kqX10_roomClash_2 23 rfl) (bq_in kqX10_roomClash_2 24 rfl) (bq_in kqX10_roomClash_2 25 rfl) rfl
theorem dX10_roomClash_90 : decode cX10_roomClash 90 = .ok (.aload_n 0, 1) := oq_42 (bq_in kqX10_roomClash_2 26 rfl)
theorem dX10_roomClash_91 : decode cX10_roomClash 91 = .ok (.iload 8, 2) := oq_21 (bq_in kqX10_roomClash_2 27 rfl) (bq_in kqX10_roomClash_2 28 rfl)
theorem dX10_roomClash_93 : decode cX10_roomClash 93 = .ok (.iconst 0, 1) := oq_3 (bq_in kqX10_roomClash_2 29 rfl)
theorem dX10_roomClash_94 : decode cX10_roomClash 94 = .ok (.invokevirtual 229, 3) := oq_182 (bq_in kqX10_roomClash_2 30 rfl) (bq_in kqX10_roomClash_2 31 rfl) (bq_in kqX10_roomClash_2 32 rfl) rfl
theorem kqX10_roomClash_3 : ((cX10_roomClash.data.toList.drop 96).take 34).map UInt8.toNat = [229, 27, 159, 0, 6, 167, 0, 63, 42, 21, 8, 4, 182, 0, 255, 42, 42, 21, 7, 5, 182, 0, 229, 42, 21, 8, 5, 182, 0, 229, 28, 182, 1, 20] := by decide +kernel
theorem dX10_roomClash_97 : decode cX10_roomClash 97 = .ok (.iload_n 1, 1) := oq_27 (bq_in kqX10_roomClash_3 1 rfl)
theorem dX10_roomClash_98 : decode cX10_roomClash 98 = .ok (.if_icmp .eq 6, 3) := oq_159 (bq_in kqX10_roomClash_3 2 rfl) (bq_in kqX10_roomClash_3 3 rfl) (bq_in kqX10_roomClash_3 4 rfl) rfl
theorem dX10_roomClash_101 : decode cX10_roomClash 101 = .ok (.goto 63, 3) := oq_167 (bq_in kqX10_roomClash_3 5 rfl) (bq_in kqX10_roomClash_3 6 rfl) (bq_in kqX10_roomClash_3 7 rfl) rfl
theorem dX10_roomClash_104 : decode cX10_roomClash 104 = .ok (.aload_n 0, 1) := oq_42 (bq_in kqX10_roomClash_3 8 rfl)
theorem dX10_roomClash_105 : decode cX10_roomClash 105 = .ok (.iload 8, 2) := oq_21 (bq_in kqX10_roomClash_3 9 rfl) (bq_in kqX10_roomClash_3 10 rfl)
theorem dX10_roomClash_107 : decode cX10_roomClash 107 = .ok (.iconst 1, 1) := oq_4 (bq_in kqX10_roomClash_3 11 rfl)
theorem dX10_roomClash_108 : decode cX10_roomClash 108 = .ok (.invokevirtual 255, 3) := oq_182 (bq_in kqX10_roomClash_3 12 rfl) (bq_in kqX10_roomClash_3 13 rfl) (bq_in kqX10_roomClash_3 14 rfl) rfl
theorem dX10_roomClash_111 : decode cX10_roomClash 111 = .ok (.aload_n 0, 1) := oq_42 (bq_in kqX10_roomClash_3 15 rfl)
theorem dX10_roomClash_112 : decode cX10_roomClash 112 = .ok (.aload_n 0, 1) := oq_42 (bq_in kqX10_roomClash_3 16 rfl)
theorem dX10_roomClash_113 : decode cX10_roomClash 113 = .ok (.iload 7, 2) := oq_21 (bq_in kqX10_roomClash_3 17 rfl) (bq_in kqX10_roomClash_3 18 rfl)
theorem dX10_roomClash_115 : decode cX10_roomClash 115 = .ok (.iconst 2, 1) := oq_5 (bq_in kqX10_roomClash_3 19 rfl)
theorem dX10_roomClash_116 : decode cX10_roomClash 116 = .ok (.invokevirtual 229, 3) := oq_182 (bq_in kqX10_roomClash_3 20 rfl) (bq_in kqX10_roomClash_3 21 rfl) (bq_in kqX10_roomClash_3 22 rfl) rfl
theorem dX10_roomClash_119 : decode cX10_roomClash 119 = .ok (.aload_n 0, 1) := oq_42 (bq_in kqX10_roomClash_3 23 rfl)
theorem dX10_roomClash_120 : decode cX10_roomClash 120 = .ok (.iload 8, 2) := oq_21 (bq_in kqX10_roomClash_3 24 rfl) (bq_in kqX10_roomClash_3 25 rfl)
theorem dX10_roomClash_122 : decode cX10_roomClash 122 = .ok (.iconst 2, 1) := oq_5 (bq_in kqX10_roomClash_3 26 rfl)
theorem dX10_roomClash_123 : decode cX10_roomClash 123 = .ok (.invokevirtual 229, 3) := oq_182 (bq_in kqX10_roomClash_3 27 rfl) (bq_in kqX10_roomClash_3 28 rfl) (bq_in kqX10_roomClash_3 29 rfl) rfl
theorem dX10_roomClash_126 : decode cX10_roomClash 126 = .ok (.iload_n 2, 1) := oq_28 (bq_in kqX10_roomClash_3 30 rfl)
theorem dX10_roomClash_127 : decode cX10_roomClash 127 = .ok (.invokevirtual 276, 3) := oq_182 (bq_in kqX10_roomClash_3 31 rfl) (bq_in kqX10_roomClash_3 32 rfl) (bq_in kqX10_roomClash_3 33 rfl) rfl
theorem kqX10_roomClash_4 : ((cX10_roomClash.data.toList.drop 128).take 34).map UInt8.toNat = [1, 20, 54, 9, 21, 9, 155, 0, 30, 21, 4, 155, 0, 13, 21, 9, 21, 4, 161, 0, 6, 167, 0, 15, 21, 9, 54, 4, 21, 7, 54, 5, 21, 8] := by decide +kernel
theorem dX10_roomClash_130 : decode cX10_roomClash 130 = .ok (.istore 9, 2) := oq_54 (bq_in kqX10_roomClash_4 2 rfl) (bq_in kqX10_roomClash_4 3 rfl)
theorem dX10_roomClash_132 : decode cX10_roomClash 132 = .ok (.iload 9, 2) := oq_21 (bq_in kqX10_roomClash_4 4 rfl) (bq_in kqX10_roomClash_4 5 rfl)
theorem dX10_roomClash_134 : decode cX10_roomClash 134 = .ok (.ifCond .lt 30, 3) := oq_155 (bq_in kqX10_roomClash_4 6 rfl) (bq_in kqX10_roomClash_4 7 rfl) (bq_in kqX10_roomClash_4 8 rfl) rfl
theorem dX10_roomClash_137 : decode cX10_roomClash 137 = .ok (.iload 4, 2) := oq_21 (bq_in kqX10_roomClash_4 9 rfl) (bq_in kqX10_roomClash_4 10 rfl)
theorem dX10_roomClash_139 : decode cX10_roomClash 139 = .ok (.ifCond .lt 13, 3) := oq_155 (bq_in kqX10_roomClash_4 11 rfl) (bq_in kqX10_roomClash_4 12 rfl) (bq_in kqX10_roomClash_4 13 rfl) rfl
theorem dX10_roomClash_142 : decode cX10_roomClash 142 = .ok (.iload 9, 2) := oq_21 (bq_in kqX10_roomClash_4 14 rfl) (bq_in kqX10_roomClash_4 15 rfl)
theorem dX10_roomClash_144 : decode cX10_roomClash 144 = .ok (.iload 4, 2) := oq_21 (bq_in kqX10_roomClash_4 16 rfl) (bq_in kqX10_roomClash_4 17 rfl)
theorem dX10_roomClash_146 : decode cX10_roomClash 146 = .ok (.if_icmp .lt 6, 3) := oq_161 (bq_in kqX10_roomClash_4 18 rfl) (bq_in kqX10_roomClash_4 19 rfl) (bq_in kqX10_roomClash_4 20 rfl) rfl
theorem dX10_roomClash_149 : decode cX10_roomClash 149 = .ok (.goto 15, 3) := oq_167 (bq_in kqX10_roomClash_4 21 rfl) (bq_in kqX10_roomClash_4 22 rfl) (bq_in kqX10_roomClash_4 23 rfl) rfl
theorem dX10_roomClash_152 : decode cX10_roomClash 152 = .ok (.iload 9, 2) := oq_21 (bq_in kqX10_roomClash_4 24 rfl) (bq_in kqX10_roomClash_4 25 rfl)
theorem dX10_roomClash_154 : decode cX10_roomClash 154 = .ok (.istore 4, 2) := oq_54 (bq_in kqX10_roomClash_4 26 rfl) (bq_in kqX10_roomClash_4 27 rfl)
theorem dX10_roomClash_156 : decode cX10_roomClash 156 = .ok (.iload 7, 2) := oq_21 (bq_in kqX10_roomClash_4 28 rfl) (bq_in kqX10_roomClash_4 29 rfl)
theorem dX10_roomClash_158 : decode cX10_roomClash 158 = .ok (.istore 5, 2) := oq_54 (bq_in kqX10_roomClash_4 30 rfl) (bq_in kqX10_roomClash_4 31 rfl)
theorem kqX10_roomClash_5 : ((cX10_roomClash.data.toList.drop 160).take 34).map UInt8.toNat = [21, 8, 54, 6, 132, 8, 1, 167, 255, 170, 132, 7, 1, 167, 255, 128, 29, 154, 0, 8, 21, 4, 167, 0, 15, 29, 4, 160, 0, 8, 21, 5, 167, 0] := by decide +kernel
theorem dX10_roomClash_160 : decode cX10_roomClash 160 = .ok (.iload 8, 2) := oq_21 (bq_in kqX10_roomClash_5 0 rfl) (bq_in kqX10_roomClash_5 1 rfl)
theorem dX10_roomClash_162 : decode cX10_roomClash 162 = .ok (.istore 6, 2) := oq_54 (bq_in kqX10_roomClash_5 2 rfl) (bq_in kqX10_roomClash_5 3 rfl)
theorem dX10_roomClash_164 : decode cX10_roomClash 164 = .ok (.iinc 8 1, 3) := oq_132 (bq_in kqX10_roomClash_5 4 rfl) (bq_in kqX10_roomClash_5 5 rfl) (bq_in kqX10_roomClash_5 6 rfl) rfl
theorem dX10_roomClash_167 : decode cX10_roomClash 167 = .ok (.goto (-86), 3) := oq_167 (bq_in kqX10_roomClash_5 7 rfl) (bq_in kqX10_roomClash_5 8 rfl) (bq_in kqX10_roomClash_5 9 rfl) rfl
theorem dX10_roomClash_170 : decode cX10_roomClash 170 = .ok (.iinc 7 1, 3) := oq_132 (bq_in kqX10_roomClash_5 10 rfl) (bq_in kqX10_roomClash_5 11 rfl) (bq_in kqX10_roomClash_5 12 rfl) rfl
theorem dX10_roomClash_173 : decode cX10_roomClash 173 = .ok (.goto (-128), 3) := oq_167 (bq_in kqX10_roomClash_5 13 rfl) (bq_in kqX10_roomClash_5 14 rfl) (bq_in kqX10_roomClash_5 15 rfl) rfl
theorem dX10_roomClash_176 : decode cX10_roomClash 176 = .ok (.iload_n 3, 1) := oq_29 (bq_in kqX10_roomClash_5 16 rfl)
theorem dX10_roomClash_177 : decode cX10_roomClash 177 = .ok (.ifCond .ne 8, 3) := oq_154 (bq_in kqX10_roomClash_5 17 rfl) (bq_in kqX10_roomClash_5 18 rfl) (bq_in kqX10_roomClash_5 19 rfl) rfl
theorem dX10_roomClash_180 : decode cX10_roomClash 180 = .ok (.iload 4, 2) := oq_21 (bq_in kqX10_roomClash_5 20 rfl) (bq_in kqX10_roomClash_5 21 rfl)
theorem dX10_roomClash_182 : decode cX10_roomClash 182 = .ok (.goto 15, 3) := oq_167 (bq_in kqX10_roomClash_5 22 rfl) (bq_in kqX10_roomClash_5 23 rfl) (bq_in kqX10_roomClash_5 24 rfl) rfl
theorem dX10_roomClash_185 : decode cX10_roomClash 185 = .ok (.iload_n 3, 1) := oq_29 (bq_in kqX10_roomClash_5 25 rfl)
theorem dX10_roomClash_186 : decode cX10_roomClash 186 = .ok (.iconst 1, 1) := oq_4 (bq_in kqX10_roomClash_5 26 rfl)
theorem dX10_roomClash_187 : decode cX10_roomClash 187 = .ok (.if_icmp .ne 8, 3) := oq_160 (bq_in kqX10_roomClash_5 27 rfl) (bq_in kqX10_roomClash_5 28 rfl) (bq_in kqX10_roomClash_5 29 rfl) rfl
theorem dX10_roomClash_190 : decode cX10_roomClash 190 = .ok (.iload 5, 2) := oq_21 (bq_in kqX10_roomClash_5 30 rfl) (bq_in kqX10_roomClash_5 31 rfl)
theorem kqX10_roomClash_6 : ((cX10_roomClash.data.toList.drop 192).take 34).map UInt8.toNat = [167, 0, 5, 21, 6, 172] := by decide +kernel
theorem dX10_roomClash_192 : decode cX10_roomClash 192 = .ok (.goto 5, 3) := oq_167 (bq_in kqX10_roomClash_6 0 rfl) (bq_in kqX10_roomClash_6 1 rfl) (bq_in kqX10_roomClash_6 2 rfl) rfl
theorem dX10_roomClash_195 : decode cX10_roomClash 195 = .ok (.iload 6, 2) := oq_21 (bq_in kqX10_roomClash_6 3 rfl) (bq_in kqX10_roomClash_6 4 rfl)
theorem dX10_roomClash_197 : decode cX10_roomClash 197 = .ok (.ireturn, 1) := oq_172 (bq_in kqX10_roomClash_6 5 rfl)
theorem kqX10_laysTaken_0 : ((cX10_laysTaken.data.toList.drop 0).take 34).map UInt8.toNat = [3, 54, 4, 21, 4, 29, 162, 0, 17, 42, 180, 0, 52, 21, 4, 3, 84, 132, 4, 1, 167, 255, 239, 3, 54, 4, 21, 4, 42, 180, 0, 70, 162, 0] := by decide +kernel
theorem dX10_laysTaken_0 : decode cX10_laysTaken 0 = .ok (.iconst 0, 1) := oq_3 (bq_in kqX10_laysTaken_0 0 rfl)
theorem dX10_laysTaken_1 : decode cX10_laysTaken 1 = .ok (.istore 4, 2) := oq_54 (bq_in kqX10_laysTaken_0 1 rfl) (bq_in kqX10_laysTaken_0 2 rfl)
theorem dX10_laysTaken_3 : decode cX10_laysTaken 3 = .ok (.iload 4, 2) := oq_21 (bq_in kqX10_laysTaken_0 3 rfl) (bq_in kqX10_laysTaken_0 4 rfl)
theorem dX10_laysTaken_5 : decode cX10_laysTaken 5 = .ok (.iload_n 3, 1) := oq_29 (bq_in kqX10_laysTaken_0 5 rfl)
theorem dX10_laysTaken_6 : decode cX10_laysTaken 6 = .ok (.if_icmp .ge 17, 3) := oq_162 (bq_in kqX10_laysTaken_0 6 rfl) (bq_in kqX10_laysTaken_0 7 rfl) (bq_in kqX10_laysTaken_0 8 rfl) rfl
theorem dX10_laysTaken_9 : decode cX10_laysTaken 9 = .ok (.aload_n 0, 1) := oq_42 (bq_in kqX10_laysTaken_0 9 rfl)
theorem dX10_laysTaken_10 : decode cX10_laysTaken 10 = .ok (.getfield 52, 3) := oq_180 (bq_in kqX10_laysTaken_0 10 rfl) (bq_in kqX10_laysTaken_0 11 rfl) (bq_in kqX10_laysTaken_0 12 rfl) rfl
theorem dX10_laysTaken_13 : decode cX10_laysTaken 13 = .ok (.iload 4, 2) := oq_21 (bq_in kqX10_laysTaken_0 13 rfl) (bq_in kqX10_laysTaken_0 14 rfl)
theorem dX10_laysTaken_15 : decode cX10_laysTaken 15 = .ok (.iconst 0, 1) := oq_3 (bq_in kqX10_laysTaken_0 15 rfl)
theorem dX10_laysTaken_16 : decode cX10_laysTaken 16 = .ok (.bastore, 1) := oq_84 (bq_in kqX10_laysTaken_0 16 rfl)
theorem dX10_laysTaken_17 : decode cX10_laysTaken 17 = .ok (.iinc 4 1, 3) := oq_132 (bq_in kqX10_laysTaken_0 17 rfl) (bq_in kqX10_laysTaken_0 18 rfl) (bq_in kqX10_laysTaken_0 19 rfl) rfl
theorem dX10_laysTaken_20 : decode cX10_laysTaken 20 = .ok (.goto (-17), 3) := oq_167 (bq_in kqX10_laysTaken_0 20 rfl) (bq_in kqX10_laysTaken_0 21 rfl) (bq_in kqX10_laysTaken_0 22 rfl) rfl
theorem dX10_laysTaken_23 : decode cX10_laysTaken 23 = .ok (.iconst 0, 1) := oq_3 (bq_in kqX10_laysTaken_0 23 rfl)
theorem dX10_laysTaken_24 : decode cX10_laysTaken 24 = .ok (.istore 4, 2) := oq_54 (bq_in kqX10_laysTaken_0 24 rfl) (bq_in kqX10_laysTaken_0 25 rfl)
theorem dX10_laysTaken_26 : decode cX10_laysTaken 26 = .ok (.iload 4, 2) := oq_21 (bq_in kqX10_laysTaken_0 26 rfl) (bq_in kqX10_laysTaken_0 27 rfl)
theorem dX10_laysTaken_28 : decode cX10_laysTaken 28 = .ok (.aload_n 0, 1) := oq_42 (bq_in kqX10_laysTaken_0 28 rfl)
theorem dX10_laysTaken_29 : decode cX10_laysTaken 29 = .ok (.getfield 70, 3) := oq_180 (bq_in kqX10_laysTaken_0 29 rfl) (bq_in kqX10_laysTaken_0 30 rfl) (bq_in kqX10_laysTaken_0 31 rfl) rfl
theorem kqX10_laysTaken_1 : ((cX10_laysTaken.data.toList.drop 32).take 34).map UInt8.toNat = [162, 0, 127, 42, 21, 4, 3, 182, 0, 229, 27, 159, 0, 6, 167, 0, 107, 42, 21, 4, 3, 182, 0, 255, 3, 54, 5, 21, 5, 42, 180, 0, 42, 3] := by decide +kernel
theorem dX10_laysTaken_32 : decode cX10_laysTaken 32 = .ok (.if_icmp .ge 127, 3) := oq_162 (bq_in kqX10_laysTaken_1 0 rfl) (bq_in kqX10_laysTaken_1 1 rfl) (bq_in kqX10_laysTaken_1 2 rfl) rfl
theorem dX10_laysTaken_35 : decode cX10_laysTaken 35 = .ok (.aload_n 0, 1) := oq_42 (bq_in kqX10_laysTaken_1 3 rfl)
theorem dX10_laysTaken_36 : decode cX10_laysTaken 36 = .ok (.iload 4, 2) := oq_21 (bq_in kqX10_laysTaken_1 4 rfl) (bq_in kqX10_laysTaken_1 5 rfl)
theorem dX10_laysTaken_38 : decode cX10_laysTaken 38 = .ok (.iconst 0, 1) := oq_3 (bq_in kqX10_laysTaken_1 6 rfl)
theorem dX10_laysTaken_39 : decode cX10_laysTaken 39 = .ok (.invokevirtual 229, 3) := oq_182 (bq_in kqX10_laysTaken_1 7 rfl) (bq_in kqX10_laysTaken_1 8 rfl) (bq_in kqX10_laysTaken_1 9 rfl) rfl
theorem dX10_laysTaken_42 : decode cX10_laysTaken 42 = .ok (.iload_n 1, 1) := oq_27 (bq_in kqX10_laysTaken_1 10 rfl)
theorem dX10_laysTaken_43 : decode cX10_laysTaken 43 = .ok (.if_icmp .eq 6, 3) := oq_159 (bq_in kqX10_laysTaken_1 11 rfl) (bq_in kqX10_laysTaken_1 12 rfl) (bq_in kqX10_laysTaken_1 13 rfl) rfl
theorem dX10_laysTaken_46 : decode cX10_laysTaken 46 = .ok (.goto 107, 3) := oq_167 (bq_in kqX10_laysTaken_1 14 rfl) (bq_in kqX10_laysTaken_1 15 rfl) (bq_in kqX10_laysTaken_1 16 rfl) rfl
theorem dX10_laysTaken_49 : decode cX10_laysTaken 49 = .ok (.aload_n 0, 1) := oq_42 (bq_in kqX10_laysTaken_1 17 rfl)
theorem dX10_laysTaken_50 : decode cX10_laysTaken 50 = .ok (.iload 4, 2) := oq_21 (bq_in kqX10_laysTaken_1 18 rfl) (bq_in kqX10_laysTaken_1 19 rfl)
theorem dX10_laysTaken_52 : decode cX10_laysTaken 52 = .ok (.iconst 0, 1) := oq_3 (bq_in kqX10_laysTaken_1 20 rfl)
theorem dX10_laysTaken_53 : decode cX10_laysTaken 53 = .ok (.invokevirtual 255, 3) := oq_182 (bq_in kqX10_laysTaken_1 21 rfl) (bq_in kqX10_laysTaken_1 22 rfl) (bq_in kqX10_laysTaken_1 23 rfl) rfl
theorem dX10_laysTaken_56 : decode cX10_laysTaken 56 = .ok (.iconst 0, 1) := oq_3 (bq_in kqX10_laysTaken_1 24 rfl)
theorem dX10_laysTaken_57 : decode cX10_laysTaken 57 = .ok (.istore 5, 2) := oq_54 (bq_in kqX10_laysTaken_1 25 rfl) (bq_in kqX10_laysTaken_1 26 rfl)
theorem dX10_laysTaken_59 : decode cX10_laysTaken 59 = .ok (.iload 5, 2) := oq_21 (bq_in kqX10_laysTaken_1 27 rfl) (bq_in kqX10_laysTaken_1 28 rfl)
theorem dX10_laysTaken_61 : decode cX10_laysTaken 61 = .ok (.aload_n 0, 1) := oq_42 (bq_in kqX10_laysTaken_1 29 rfl)
theorem dX10_laysTaken_62 : decode cX10_laysTaken 62 = .ok (.getfield 42, 3) := oq_180 (bq_in kqX10_laysTaken_1 30 rfl) (bq_in kqX10_laysTaken_1 31 rfl) (bq_in kqX10_laysTaken_1 32 rfl) rfl
theorem kqX10_laysTaken_2 : ((cX10_laysTaken.data.toList.drop 64).take 34).map UInt8.toNat = [42, 3, 46, 162, 0, 86, 42, 180, 0, 36, 21, 5, 46, 28, 100, 54, 6, 21, 6, 42, 21, 4, 5, 182, 0, 229, 96, 54, 7, 21, 6, 29, 162, 0] := by decide +kernel
theorem dX10_laysTaken_65 : decode cX10_laysTaken 65 = .ok (.iconst 0, 1) := oq_3 (bq_in kqX10_laysTaken_2 1 rfl)
theorem dX10_laysTaken_66 : decode cX10_laysTaken 66 = .ok (.iaload, 1) := oq_46 (bq_in kqX10_laysTaken_2 2 rfl)
theorem dX10_laysTaken_67 : decode cX10_laysTaken 67 = .ok (.if_icmp .ge 86, 3) := oq_162 (bq_in kqX10_laysTaken_2 3 rfl) (bq_in kqX10_laysTaken_2 4 rfl) (bq_in kqX10_laysTaken_2 5 rfl) rfl
theorem dX10_laysTaken_70 : decode cX10_laysTaken 70 = .ok (.aload_n 0, 1) := oq_42 (bq_in kqX10_laysTaken_2 6 rfl)
theorem dX10_laysTaken_71 : decode cX10_laysTaken 71 = .ok (.getfield 36, 3) := oq_180 (bq_in kqX10_laysTaken_2 7 rfl) (bq_in kqX10_laysTaken_2 8 rfl) (bq_in kqX10_laysTaken_2 9 rfl) rfl
theorem dX10_laysTaken_74 : decode cX10_laysTaken 74 = .ok (.iload 5, 2) := oq_21 (bq_in kqX10_laysTaken_2 10 rfl) (bq_in kqX10_laysTaken_2 11 rfl)
theorem dX10_laysTaken_76 : decode cX10_laysTaken 76 = .ok (.iaload, 1) := oq_46 (bq_in kqX10_laysTaken_2 12 rfl)
theorem dX10_laysTaken_77 : decode cX10_laysTaken 77 = .ok (.iload_n 2, 1) := oq_28 (bq_in kqX10_laysTaken_2 13 rfl)
theorem dX10_laysTaken_78 : decode cX10_laysTaken 78 = .ok (.isub, 1) := oq_100 (bq_in kqX10_laysTaken_2 14 rfl)
theorem dX10_laysTaken_79 : decode cX10_laysTaken 79 = .ok (.istore 6, 2) := oq_54 (bq_in kqX10_laysTaken_2 15 rfl) (bq_in kqX10_laysTaken_2 16 rfl)
theorem dX10_laysTaken_81 : decode cX10_laysTaken 81 = .ok (.iload 6, 2) := oq_21 (bq_in kqX10_laysTaken_2 17 rfl) (bq_in kqX10_laysTaken_2 18 rfl)
theorem dX10_laysTaken_83 : decode cX10_laysTaken 83 = .ok (.aload_n 0, 1) := oq_42 (bq_in kqX10_laysTaken_2 19 rfl)
theorem dX10_laysTaken_84 : decode cX10_laysTaken 84 = .ok (.iload 4, 2) := oq_21 (bq_in kqX10_laysTaken_2 20 rfl) (bq_in kqX10_laysTaken_2 21 rfl)
theorem dX10_laysTaken_86 : decode cX10_laysTaken 86 = .ok (.iconst 2, 1) := oq_5 (bq_in kqX10_laysTaken_2 22 rfl)
theorem dX10_laysTaken_87 : decode cX10_laysTaken 87 = .ok (.invokevirtual 229, 3) := oq_182 (bq_in kqX10_laysTaken_2 23 rfl) (bq_in kqX10_laysTaken_2 24 rfl) (bq_in kqX10_laysTaken_2 25 rfl) rfl
theorem dX10_laysTaken_90 : decode cX10_laysTaken 90 = .ok (.iadd, 1) := oq_96 (bq_in kqX10_laysTaken_2 26 rfl)
theorem dX10_laysTaken_91 : decode cX10_laysTaken 91 = .ok (.istore 7, 2) := oq_54 (bq_in kqX10_laysTaken_2 27 rfl) (bq_in kqX10_laysTaken_2 28 rfl)
theorem dX10_laysTaken_93 : decode cX10_laysTaken 93 = .ok (.iload 6, 2) := oq_21 (bq_in kqX10_laysTaken_2 29 rfl) (bq_in kqX10_laysTaken_2 30 rfl)
theorem dX10_laysTaken_95 : decode cX10_laysTaken 95 = .ok (.iload_n 3, 1) := oq_29 (bq_in kqX10_laysTaken_2 31 rfl)
theorem kqX10_laysTaken_3 : ((cX10_laysTaken.data.toList.drop 96).take 34).map UInt8.toNat = [162, 0, 51, 21, 7, 157, 0, 6, 167, 0, 43, 21, 6, 156, 0, 7, 3, 167, 0, 5, 21, 6, 54, 8, 21, 8, 21, 7, 162, 0, 23, 21, 8, 29] := by decide +kernel
theorem dX10_laysTaken_96 : decode cX10_laysTaken 96 = .ok (.if_icmp .ge 51, 3) := oq_162 (bq_in kqX10_laysTaken_3 0 rfl) (bq_in kqX10_laysTaken_3 1 rfl) (bq_in kqX10_laysTaken_3 2 rfl) rfl
theorem dX10_laysTaken_99 : decode cX10_laysTaken 99 = .ok (.iload 7, 2) := oq_21 (bq_in kqX10_laysTaken_3 3 rfl) (bq_in kqX10_laysTaken_3 4 rfl)
theorem dX10_laysTaken_101 : decode cX10_laysTaken 101 = .ok (.ifCond .gt 6, 3) := oq_157 (bq_in kqX10_laysTaken_3 5 rfl) (bq_in kqX10_laysTaken_3 6 rfl) (bq_in kqX10_laysTaken_3 7 rfl) rfl
theorem dX10_laysTaken_104 : decode cX10_laysTaken 104 = .ok (.goto 43, 3) := oq_167 (bq_in kqX10_laysTaken_3 8 rfl) (bq_in kqX10_laysTaken_3 9 rfl) (bq_in kqX10_laysTaken_3 10 rfl) rfl
theorem dX10_laysTaken_107 : decode cX10_laysTaken 107 = .ok (.iload 6, 2) := oq_21 (bq_in kqX10_laysTaken_3 11 rfl) (bq_in kqX10_laysTaken_3 12 rfl)
theorem dX10_laysTaken_109 : decode cX10_laysTaken 109 = .ok (.ifCond .ge 7, 3) := oq_156 (bq_in kqX10_laysTaken_3 13 rfl) (bq_in kqX10_laysTaken_3 14 rfl) (bq_in kqX10_laysTaken_3 15 rfl) rfl
theorem dX10_laysTaken_112 : decode cX10_laysTaken 112 = .ok (.iconst 0, 1) := oq_3 (bq_in kqX10_laysTaken_3 16 rfl)
theorem dX10_laysTaken_113 : decode cX10_laysTaken 113 = .ok (.goto 5, 3) := oq_167 (bq_in kqX10_laysTaken_3 17 rfl) (bq_in kqX10_laysTaken_3 18 rfl) (bq_in kqX10_laysTaken_3 19 rfl) rfl
theorem dX10_laysTaken_116 : decode cX10_laysTaken 116 = .ok (.iload 6, 2) := oq_21 (bq_in kqX10_laysTaken_3 20 rfl) (bq_in kqX10_laysTaken_3 21 rfl)
theorem dX10_laysTaken_118 : decode cX10_laysTaken 118 = .ok (.istore 8, 2) := oq_54 (bq_in kqX10_laysTaken_3 22 rfl) (bq_in kqX10_laysTaken_3 23 rfl)
theorem dX10_laysTaken_120 : decode cX10_laysTaken 120 = .ok (.iload 8, 2) := oq_21 (bq_in kqX10_laysTaken_3 24 rfl) (bq_in kqX10_laysTaken_3 25 rfl)
theorem dX10_laysTaken_122 : decode cX10_laysTaken 122 = .ok (.iload 7, 2) := oq_21 (bq_in kqX10_laysTaken_3 26 rfl) (bq_in kqX10_laysTaken_3 27 rfl)
theorem dX10_laysTaken_124 : decode cX10_laysTaken 124 = .ok (.if_icmp .ge 23, 3) := oq_162 (bq_in kqX10_laysTaken_3 28 rfl) (bq_in kqX10_laysTaken_3 29 rfl) (bq_in kqX10_laysTaken_3 30 rfl) rfl
theorem dX10_laysTaken_127 : decode cX10_laysTaken 127 = .ok (.iload 8, 2) := oq_21 (bq_in kqX10_laysTaken_3 31 rfl) (bq_in kqX10_laysTaken_3 32 rfl)
theorem kqX10_laysTaken_4 : ((cX10_laysTaken.data.toList.drop 128).take 34).map UInt8.toNat = [8, 29, 162, 0, 17, 42, 180, 0, 52, 21, 8, 4, 84, 132, 8, 1, 167, 255, 232, 132, 5, 1, 167, 255, 165, 132, 4, 1, 167, 255, 126, 177] := by decide +kernel
theorem dX10_laysTaken_129 : decode cX10_laysTaken 129 = .ok (.iload_n 3, 1) := oq_29 (bq_in kqX10_laysTaken_4 1 rfl)
theorem dX10_laysTaken_130 : decode cX10_laysTaken 130 = .ok (.if_icmp .ge 17, 3) := oq_162 (bq_in kqX10_laysTaken_4 2 rfl) (bq_in kqX10_laysTaken_4 3 rfl) (bq_in kqX10_laysTaken_4 4 rfl) rfl
theorem dX10_laysTaken_133 : decode cX10_laysTaken 133 = .ok (.aload_n 0, 1) := oq_42 (bq_in kqX10_laysTaken_4 5 rfl)
theorem dX10_laysTaken_134 : decode cX10_laysTaken 134 = .ok (.getfield 52, 3) := oq_180 (bq_in kqX10_laysTaken_4 6 rfl) (bq_in kqX10_laysTaken_4 7 rfl) (bq_in kqX10_laysTaken_4 8 rfl) rfl
theorem dX10_laysTaken_137 : decode cX10_laysTaken 137 = .ok (.iload 8, 2) := oq_21 (bq_in kqX10_laysTaken_4 9 rfl) (bq_in kqX10_laysTaken_4 10 rfl)
theorem dX10_laysTaken_139 : decode cX10_laysTaken 139 = .ok (.iconst 1, 1) := oq_4 (bq_in kqX10_laysTaken_4 11 rfl)
theorem dX10_laysTaken_140 : decode cX10_laysTaken 140 = .ok (.bastore, 1) := oq_84 (bq_in kqX10_laysTaken_4 12 rfl)
theorem dX10_laysTaken_141 : decode cX10_laysTaken 141 = .ok (.iinc 8 1, 3) := oq_132 (bq_in kqX10_laysTaken_4 13 rfl) (bq_in kqX10_laysTaken_4 14 rfl) (bq_in kqX10_laysTaken_4 15 rfl) rfl
theorem dX10_laysTaken_144 : decode cX10_laysTaken 144 = .ok (.goto (-24), 3) := oq_167 (bq_in kqX10_laysTaken_4 16 rfl) (bq_in kqX10_laysTaken_4 17 rfl) (bq_in kqX10_laysTaken_4 18 rfl) rfl
theorem dX10_laysTaken_147 : decode cX10_laysTaken 147 = .ok (.iinc 5 1, 3) := oq_132 (bq_in kqX10_laysTaken_4 19 rfl) (bq_in kqX10_laysTaken_4 20 rfl) (bq_in kqX10_laysTaken_4 21 rfl) rfl
theorem dX10_laysTaken_150 : decode cX10_laysTaken 150 = .ok (.goto (-91), 3) := oq_167 (bq_in kqX10_laysTaken_4 22 rfl) (bq_in kqX10_laysTaken_4 23 rfl) (bq_in kqX10_laysTaken_4 24 rfl) rfl
theorem dX10_laysTaken_153 : decode cX10_laysTaken 153 = .ok (.iinc 4 1, 3) := oq_132 (bq_in kqX10_laysTaken_4 25 rfl) (bq_in kqX10_laysTaken_4 26 rfl) (bq_in kqX10_laysTaken_4 27 rfl) rfl
theorem dX10_laysTaken_156 : decode cX10_laysTaken 156 = .ok (.goto (-130), 3) := oq_167 (bq_in kqX10_laysTaken_4 28 rfl) (bq_in kqX10_laysTaken_4 29 rfl) (bq_in kqX10_laysTaken_4 30 rfl) rfl
theorem dX10_laysTaken_159 : decode cX10_laysTaken 159 = .ok (.return_, 1) := oq_177 (bq_in kqX10_laysTaken_4 31 rfl)
theorem kqX10_free_0 : ((cX10_free.data.toList.drop 0).take 34).map UInt8.toNat = [42, 3, 181, 0, 60, 27, 3, 16, 7, 184, 0, 65, 153, 0, 21, 28, 184, 0, 248, 153, 0, 14, 29, 4, 17, 16, 224, 184, 0, 65, 154, 0, 5, 2] := by decide +kernel
theorem dX10_free_0 : decode cX10_free 0 = .ok (.aload_n 0, 1) := oq_42 (bq_in kqX10_free_0 0 rfl)
theorem dX10_free_1 : decode cX10_free 1 = .ok (.iconst 0, 1) := oq_3 (bq_in kqX10_free_0 1 rfl)
theorem dX10_free_2 : decode cX10_free 2 = .ok (.putfield 60, 3) := oq_181 (bq_in kqX10_free_0 2 rfl) (bq_in kqX10_free_0 3 rfl) (bq_in kqX10_free_0 4 rfl) rfl
theorem dX10_free_5 : decode cX10_free 5 = .ok (.iload_n 1, 1) := oq_27 (bq_in kqX10_free_0 5 rfl)
theorem dX10_free_6 : decode cX10_free 6 = .ok (.iconst 0, 1) := oq_3 (bq_in kqX10_free_0 6 rfl)
theorem dX10_free_7 : decode cX10_free 7 = .ok (.bipush 7, 2) := oq_16 (bq_in kqX10_free_0 7 rfl) (bq_in kqX10_free_0 8 rfl) rfl
theorem dX10_free_9 : decode cX10_free 9 = .ok (.invokestatic 65, 3) := oq_184 (bq_in kqX10_free_0 9 rfl) (bq_in kqX10_free_0 10 rfl) (bq_in kqX10_free_0 11 rfl) rfl
theorem dX10_free_12 : decode cX10_free 12 = .ok (.ifCond .eq 21, 3) := oq_153 (bq_in kqX10_free_0 12 rfl) (bq_in kqX10_free_0 13 rfl) (bq_in kqX10_free_0 14 rfl) rfl
theorem dX10_free_15 : decode cX10_free 15 = .ok (.iload_n 2, 1) := oq_28 (bq_in kqX10_free_0 15 rfl)
theorem dX10_free_16 : decode cX10_free 16 = .ok (.invokestatic 248, 3) := oq_184 (bq_in kqX10_free_0 16 rfl) (bq_in kqX10_free_0 17 rfl) (bq_in kqX10_free_0 18 rfl) rfl
theorem dX10_free_19 : decode cX10_free 19 = .ok (.ifCond .eq 14, 3) := oq_153 (bq_in kqX10_free_0 19 rfl) (bq_in kqX10_free_0 20 rfl) (bq_in kqX10_free_0 21 rfl) rfl
theorem dX10_free_22 : decode cX10_free 22 = .ok (.iload_n 3, 1) := oq_29 (bq_in kqX10_free_0 22 rfl)
theorem dX10_free_23 : decode cX10_free 23 = .ok (.iconst 1, 1) := oq_4 (bq_in kqX10_free_0 23 rfl)
theorem dX10_free_24 : decode cX10_free 24 = .ok (.sipush 4320, 3) := oq_17 (bq_in kqX10_free_0 24 rfl) (bq_in kqX10_free_0 25 rfl) (bq_in kqX10_free_0 26 rfl) rfl
theorem dX10_free_27 : decode cX10_free 27 = .ok (.invokestatic 65, 3) := oq_184 (bq_in kqX10_free_0 27 rfl) (bq_in kqX10_free_0 28 rfl) (bq_in kqX10_free_0 29 rfl) rfl
theorem dX10_free_30 : decode cX10_free 30 = .ok (.ifCond .ne 5, 3) := oq_154 (bq_in kqX10_free_0 30 rfl) (bq_in kqX10_free_0 31 rfl) (bq_in kqX10_free_0 32 rfl) rfl
theorem kqX10_free_1 : ((cX10_free.data.toList.drop 32).take 34).map UInt8.toNat = [5, 2, 172, 42, 27, 28, 19, 1, 23, 182, 1, 24, 3, 54, 4, 3, 54, 5, 21, 5, 19, 1, 13, 29, 96, 162, 0, 62, 42, 180, 0, 52, 21, 5] := by decide +kernel
theorem dX10_free_33 : decode cX10_free 33 = .ok (.iconst (-1), 1) := oq_2 (bq_in kqX10_free_1 1 rfl)
theorem dX10_free_34 : decode cX10_free 34 = .ok (.ireturn, 1) := oq_172 (bq_in kqX10_free_1 2 rfl)
theorem dX10_free_35 : decode cX10_free 35 = .ok (.aload_n 0, 1) := oq_42 (bq_in kqX10_free_1 3 rfl)
theorem dX10_free_36 : decode cX10_free 36 = .ok (.iload_n 1, 1) := oq_27 (bq_in kqX10_free_1 4 rfl)
theorem dX10_free_37 : decode cX10_free 37 = .ok (.iload_n 2, 1) := oq_28 (bq_in kqX10_free_1 5 rfl)
theorem dX10_free_38 : decode cX10_free 38 = .ok (.ldc_w 279, 3) := oq_19 (bq_in kqX10_free_1 6 rfl) (bq_in kqX10_free_1 7 rfl) (bq_in kqX10_free_1 8 rfl) rfl
theorem dX10_free_41 : decode cX10_free 41 = .ok (.invokevirtual 280, 3) := oq_182 (bq_in kqX10_free_1 9 rfl) (bq_in kqX10_free_1 10 rfl) (bq_in kqX10_free_1 11 rfl) rfl
theorem dX10_free_44 : decode cX10_free 44 = .ok (.iconst 0, 1) := oq_3 (bq_in kqX10_free_1 12 rfl)
theorem dX10_free_45 : decode cX10_free 45 = .ok (.istore 4, 2) := oq_54 (bq_in kqX10_free_1 13 rfl) (bq_in kqX10_free_1 14 rfl)
theorem dX10_free_47 : decode cX10_free 47 = .ok (.iconst 0, 1) := oq_3 (bq_in kqX10_free_1 15 rfl)
theorem dX10_free_48 : decode cX10_free 48 = .ok (.istore 5, 2) := oq_54 (bq_in kqX10_free_1 16 rfl) (bq_in kqX10_free_1 17 rfl)
theorem dX10_free_50 : decode cX10_free 50 = .ok (.iload 5, 2) := oq_21 (bq_in kqX10_free_1 18 rfl) (bq_in kqX10_free_1 19 rfl)
theorem dX10_free_52 : decode cX10_free 52 = .ok (.ldc_w 269, 3) := oq_19 (bq_in kqX10_free_1 20 rfl) (bq_in kqX10_free_1 21 rfl) (bq_in kqX10_free_1 22 rfl) rfl
theorem dX10_free_55 : decode cX10_free 55 = .ok (.iload_n 3, 1) := oq_29 (bq_in kqX10_free_1 23 rfl)
theorem dX10_free_56 : decode cX10_free 56 = .ok (.iadd, 1) := oq_96 (bq_in kqX10_free_1 24 rfl)
theorem dX10_free_57 : decode cX10_free 57 = .ok (.if_icmp .ge 62, 3) := oq_162 (bq_in kqX10_free_1 25 rfl) (bq_in kqX10_free_1 26 rfl) (bq_in kqX10_free_1 27 rfl) rfl
theorem dX10_free_60 : decode cX10_free 60 = .ok (.aload_n 0, 1) := oq_42 (bq_in kqX10_free_1 28 rfl)
theorem dX10_free_61 : decode cX10_free 61 = .ok (.getfield 52, 3) := oq_180 (bq_in kqX10_free_1 29 rfl) (bq_in kqX10_free_1 30 rfl) (bq_in kqX10_free_1 31 rfl) rfl
theorem kqX10_free_2 : ((cX10_free.data.toList.drop 64).take 34).map UInt8.toNat = [21, 5, 51, 153, 0, 7, 3, 167, 0, 7, 21, 4, 4, 96, 54, 4, 21, 4, 29, 160, 0, 30, 28, 21, 5, 96, 29, 100, 4, 96, 184, 0, 248, 153] := by decide +kernel
theorem dX10_free_64 : decode cX10_free 64 = .ok (.iload 5, 2) := oq_21 (bq_in kqX10_free_2 0 rfl) (bq_in kqX10_free_2 1 rfl)
theorem dX10_free_66 : decode cX10_free 66 = .ok (.baload, 1) := oq_51 (bq_in kqX10_free_2 2 rfl)
theorem dX10_free_67 : decode cX10_free 67 = .ok (.ifCond .eq 7, 3) := oq_153 (bq_in kqX10_free_2 3 rfl) (bq_in kqX10_free_2 4 rfl) (bq_in kqX10_free_2 5 rfl) rfl
theorem dX10_free_70 : decode cX10_free 70 = .ok (.iconst 0, 1) := oq_3 (bq_in kqX10_free_2 6 rfl)
theorem dX10_free_71 : decode cX10_free 71 = .ok (.goto 7, 3) := oq_167 (bq_in kqX10_free_2 7 rfl) (bq_in kqX10_free_2 8 rfl) (bq_in kqX10_free_2 9 rfl) rfl
theorem dX10_free_74 : decode cX10_free 74 = .ok (.iload 4, 2) := oq_21 (bq_in kqX10_free_2 10 rfl) (bq_in kqX10_free_2 11 rfl)
theorem dX10_free_76 : decode cX10_free 76 = .ok (.iconst 1, 1) := oq_4 (bq_in kqX10_free_2 12 rfl)
theorem dX10_free_77 : decode cX10_free 77 = .ok (.iadd, 1) := oq_96 (bq_in kqX10_free_2 13 rfl)
theorem dX10_free_78 : decode cX10_free 78 = .ok (.istore 4, 2) := oq_54 (bq_in kqX10_free_2 14 rfl) (bq_in kqX10_free_2 15 rfl)
theorem dX10_free_80 : decode cX10_free 80 = .ok (.iload 4, 2) := oq_21 (bq_in kqX10_free_2 16 rfl) (bq_in kqX10_free_2 17 rfl)
theorem dX10_free_82 : decode cX10_free 82 = .ok (.iload_n 3, 1) := oq_29 (bq_in kqX10_free_2 18 rfl)
theorem dX10_free_83 : decode cX10_free 83 = .ok (.if_icmp .ne 30, 3) := oq_160 (bq_in kqX10_free_2 19 rfl) (bq_in kqX10_free_2 20 rfl) (bq_in kqX10_free_2 21 rfl) rfl
theorem dX10_free_86 : decode cX10_free 86 = .ok (.iload_n 2, 1) := oq_28 (bq_in kqX10_free_2 22 rfl)
theorem dX10_free_87 : decode cX10_free 87 = .ok (.iload 5, 2) := oq_21 (bq_in kqX10_free_2 23 rfl) (bq_in kqX10_free_2 24 rfl)
theorem dX10_free_89 : decode cX10_free 89 = .ok (.iadd, 1) := oq_96 (bq_in kqX10_free_2 25 rfl)
theorem dX10_free_90 : decode cX10_free 90 = .ok (.iload_n 3, 1) := oq_29 (bq_in kqX10_free_2 26 rfl)
theorem dX10_free_91 : decode cX10_free 91 = .ok (.isub, 1) := oq_100 (bq_in kqX10_free_2 27 rfl)
theorem dX10_free_92 : decode cX10_free 92 = .ok (.iconst 1, 1) := oq_4 (bq_in kqX10_free_2 28 rfl)
theorem dX10_free_93 : decode cX10_free 93 = .ok (.iadd, 1) := oq_96 (bq_in kqX10_free_2 29 rfl)
theorem dX10_free_94 : decode cX10_free 94 = .ok (.invokestatic 248, 3) := oq_184 (bq_in kqX10_free_2 30 rfl) (bq_in kqX10_free_2 31 rfl) (bq_in kqX10_free_2 32 rfl) rfl
theorem kqX10_free_3 : ((cX10_free.data.toList.drop 96).take 34).map UInt8.toNat = [248, 153, 0, 14, 28, 21, 5, 96, 29, 100, 4, 96, 167, 0, 4, 2, 172, 132, 5, 1, 167, 255, 190, 2, 172] := by decide +kernel
theorem dX10_free_97 : decode cX10_free 97 = .ok (.ifCond .eq 14, 3) := oq_153 (bq_in kqX10_free_3 1 rfl) (bq_in kqX10_free_3 2 rfl) (bq_in kqX10_free_3 3 rfl) rfl
theorem dX10_free_100 : decode cX10_free 100 = .ok (.iload_n 2, 1) := oq_28 (bq_in kqX10_free_3 4 rfl)
theorem dX10_free_101 : decode cX10_free 101 = .ok (.iload 5, 2) := oq_21 (bq_in kqX10_free_3 5 rfl) (bq_in kqX10_free_3 6 rfl)
theorem dX10_free_103 : decode cX10_free 103 = .ok (.iadd, 1) := oq_96 (bq_in kqX10_free_3 7 rfl)
theorem dX10_free_104 : decode cX10_free 104 = .ok (.iload_n 3, 1) := oq_29 (bq_in kqX10_free_3 8 rfl)
theorem dX10_free_105 : decode cX10_free 105 = .ok (.isub, 1) := oq_100 (bq_in kqX10_free_3 9 rfl)
theorem dX10_free_106 : decode cX10_free 106 = .ok (.iconst 1, 1) := oq_4 (bq_in kqX10_free_3 10 rfl)
theorem dX10_free_107 : decode cX10_free 107 = .ok (.iadd, 1) := oq_96 (bq_in kqX10_free_3 11 rfl)
theorem dX10_free_108 : decode cX10_free 108 = .ok (.goto 4, 3) := oq_167 (bq_in kqX10_free_3 12 rfl) (bq_in kqX10_free_3 13 rfl) (bq_in kqX10_free_3 14 rfl) rfl
theorem dX10_free_111 : decode cX10_free 111 = .ok (.iconst (-1), 1) := oq_2 (bq_in kqX10_free_3 15 rfl)
theorem dX10_free_112 : decode cX10_free 112 = .ok (.ireturn, 1) := oq_172 (bq_in kqX10_free_3 16 rfl)
theorem dX10_free_113 : decode cX10_free 113 = .ok (.iinc 5 1, 3) := oq_132 (bq_in kqX10_free_3 17 rfl) (bq_in kqX10_free_3 18 rfl) (bq_in kqX10_free_3 19 rfl) rfl
theorem dX10_free_116 : decode cX10_free 116 = .ok (.goto (-66), 3) := oq_167 (bq_in kqX10_free_3 20 rfl) (bq_in kqX10_free_3 21 rfl) (bq_in kqX10_free_3 22 rfl) rfl
theorem dX10_free_119 : decode cX10_free 119 = .ok (.iconst (-1), 1) := oq_2 (bq_in kqX10_free_3 23 rfl)
theorem dX10_free_120 : decode cX10_free 120 = .ok (.ireturn, 1) := oq_172 (bq_in kqX10_free_3 24 rfl)
theorem kqX10_busyOf_0 : ((cX10_busyOf.data.toList.drop 0).take 34).map UInt8.toNat = [42, 27, 17, 5, 160, 28, 104, 17, 5, 160, 182, 1, 24, 3, 62, 3, 54, 4, 21, 4, 17, 5, 160, 162, 0, 22, 42, 180, 0, 52, 21, 4, 51, 153] := by decide +kernel
theorem dX10_busyOf_0 : decode cX10_busyOf 0 = .ok (.aload_n 0, 1) := oq_42 (bq_in kqX10_busyOf_0 0 rfl)
theorem dX10_busyOf_1 : decode cX10_busyOf 1 = .ok (.iload_n 1, 1) := oq_27 (bq_in kqX10_busyOf_0 1 rfl)
theorem dX10_busyOf_2 : decode cX10_busyOf 2 = .ok (.sipush 1440, 3) := oq_17 (bq_in kqX10_busyOf_0 2 rfl) (bq_in kqX10_busyOf_0 3 rfl) (bq_in kqX10_busyOf_0 4 rfl) rfl
theorem dX10_busyOf_5 : decode cX10_busyOf 5 = .ok (.iload_n 2, 1) := oq_28 (bq_in kqX10_busyOf_0 5 rfl)
theorem dX10_busyOf_6 : decode cX10_busyOf 6 = .ok (.imul, 1) := oq_104 (bq_in kqX10_busyOf_0 6 rfl)
theorem dX10_busyOf_7 : decode cX10_busyOf 7 = .ok (.sipush 1440, 3) := oq_17 (bq_in kqX10_busyOf_0 7 rfl) (bq_in kqX10_busyOf_0 8 rfl) (bq_in kqX10_busyOf_0 9 rfl) rfl
theorem dX10_busyOf_10 : decode cX10_busyOf 10 = .ok (.invokevirtual 280, 3) := oq_182 (bq_in kqX10_busyOf_0 10 rfl) (bq_in kqX10_busyOf_0 11 rfl) (bq_in kqX10_busyOf_0 12 rfl) rfl
theorem dX10_busyOf_13 : decode cX10_busyOf 13 = .ok (.iconst 0, 1) := oq_3 (bq_in kqX10_busyOf_0 13 rfl)
theorem dX10_busyOf_14 : decode cX10_busyOf 14 = .ok (.istore_n 3, 1) := oq_62 (bq_in kqX10_busyOf_0 14 rfl)
theorem dX10_busyOf_15 : decode cX10_busyOf 15 = .ok (.iconst 0, 1) := oq_3 (bq_in kqX10_busyOf_0 15 rfl)
theorem dX10_busyOf_16 : decode cX10_busyOf 16 = .ok (.istore 4, 2) := oq_54 (bq_in kqX10_busyOf_0 16 rfl) (bq_in kqX10_busyOf_0 17 rfl)
theorem dX10_busyOf_18 : decode cX10_busyOf 18 = .ok (.iload 4, 2) := oq_21 (bq_in kqX10_busyOf_0 18 rfl) (bq_in kqX10_busyOf_0 19 rfl)
theorem dX10_busyOf_20 : decode cX10_busyOf 20 = .ok (.sipush 1440, 3) := oq_17 (bq_in kqX10_busyOf_0 20 rfl) (bq_in kqX10_busyOf_0 21 rfl) (bq_in kqX10_busyOf_0 22 rfl) rfl
theorem dX10_busyOf_23 : decode cX10_busyOf 23 = .ok (.if_icmp .ge 22, 3) := oq_162 (bq_in kqX10_busyOf_0 23 rfl) (bq_in kqX10_busyOf_0 24 rfl) (bq_in kqX10_busyOf_0 25 rfl) rfl
theorem dX10_busyOf_26 : decode cX10_busyOf 26 = .ok (.aload_n 0, 1) := oq_42 (bq_in kqX10_busyOf_0 26 rfl)
theorem dX10_busyOf_27 : decode cX10_busyOf 27 = .ok (.getfield 52, 3) := oq_180 (bq_in kqX10_busyOf_0 27 rfl) (bq_in kqX10_busyOf_0 28 rfl) (bq_in kqX10_busyOf_0 29 rfl) rfl
theorem dX10_busyOf_30 : decode cX10_busyOf 30 = .ok (.iload 4, 2) := oq_21 (bq_in kqX10_busyOf_0 30 rfl) (bq_in kqX10_busyOf_0 31 rfl)
theorem kqX10_busyOf_1 : ((cX10_busyOf.data.toList.drop 32).take 34).map UInt8.toNat = [51, 153, 0, 6, 132, 3, 1, 132, 4, 1, 167, 255, 232, 29, 172] := by decide +kernel
theorem dX10_busyOf_32 : decode cX10_busyOf 32 = .ok (.baload, 1) := oq_51 (bq_in kqX10_busyOf_1 0 rfl)
theorem dX10_busyOf_33 : decode cX10_busyOf 33 = .ok (.ifCond .eq 6, 3) := oq_153 (bq_in kqX10_busyOf_1 1 rfl) (bq_in kqX10_busyOf_1 2 rfl) (bq_in kqX10_busyOf_1 3 rfl) rfl
theorem dX10_busyOf_36 : decode cX10_busyOf 36 = .ok (.iinc 3 1, 3) := oq_132 (bq_in kqX10_busyOf_1 4 rfl) (bq_in kqX10_busyOf_1 5 rfl) (bq_in kqX10_busyOf_1 6 rfl) rfl
theorem dX10_busyOf_39 : decode cX10_busyOf 39 = .ok (.iinc 4 1, 3) := oq_132 (bq_in kqX10_busyOf_1 7 rfl) (bq_in kqX10_busyOf_1 8 rfl) (bq_in kqX10_busyOf_1 9 rfl) rfl
theorem dX10_busyOf_42 : decode cX10_busyOf 42 = .ok (.goto (-24), 3) := oq_167 (bq_in kqX10_busyOf_1 10 rfl) (bq_in kqX10_busyOf_1 11 rfl) (bq_in kqX10_busyOf_1 12 rfl) rfl
theorem dX10_busyOf_45 : decode cX10_busyOf 45 = .ok (.iload_n 3, 1) := oq_29 (bq_in kqX10_busyOf_1 13 rfl)
theorem dX10_busyOf_46 : decode cX10_busyOf 46 = .ok (.ireturn, 1) := oq_172 (bq_in kqX10_busyOf_1 14 rfl)
theorem kqX10_busy_0 : ((cX10_busy.data.toList.drop 0).take 34).map UInt8.toNat = [42, 3, 181, 0, 60, 27, 3, 16, 7, 184, 0, 65, 153, 0, 19, 28, 184, 0, 223, 153, 0, 12, 42, 27, 28, 182, 1, 27, 167, 0, 4, 2, 172] := by decide +kernel
theorem dX10_busy_0 : decode cX10_busy 0 = .ok (.aload_n 0, 1) := oq_42 (bq_in kqX10_busy_0 0 rfl)
theorem dX10_busy_1 : decode cX10_busy 1 = .ok (.iconst 0, 1) := oq_3 (bq_in kqX10_busy_0 1 rfl)
theorem dX10_busy_2 : decode cX10_busy 2 = .ok (.putfield 60, 3) := oq_181 (bq_in kqX10_busy_0 2 rfl) (bq_in kqX10_busy_0 3 rfl) (bq_in kqX10_busy_0 4 rfl) rfl
theorem dX10_busy_5 : decode cX10_busy 5 = .ok (.iload_n 1, 1) := oq_27 (bq_in kqX10_busy_0 5 rfl)
theorem dX10_busy_6 : decode cX10_busy 6 = .ok (.iconst 0, 1) := oq_3 (bq_in kqX10_busy_0 6 rfl)
theorem dX10_busy_7 : decode cX10_busy 7 = .ok (.bipush 7, 2) := oq_16 (bq_in kqX10_busy_0 7 rfl) (bq_in kqX10_busy_0 8 rfl) rfl
theorem dX10_busy_9 : decode cX10_busy 9 = .ok (.invokestatic 65, 3) := oq_184 (bq_in kqX10_busy_0 9 rfl) (bq_in kqX10_busy_0 10 rfl) (bq_in kqX10_busy_0 11 rfl) rfl
theorem dX10_busy_12 : decode cX10_busy 12 = .ok (.ifCond .eq 19, 3) := oq_153 (bq_in kqX10_busy_0 12 rfl) (bq_in kqX10_busy_0 13 rfl) (bq_in kqX10_busy_0 14 rfl) rfl
theorem dX10_busy_15 : decode cX10_busy 15 = .ok (.iload_n 2, 1) := oq_28 (bq_in kqX10_busy_0 15 rfl)
theorem dX10_busy_16 : decode cX10_busy 16 = .ok (.invokestatic 223, 3) := oq_184 (bq_in kqX10_busy_0 16 rfl) (bq_in kqX10_busy_0 17 rfl) (bq_in kqX10_busy_0 18 rfl) rfl
theorem dX10_busy_19 : decode cX10_busy 19 = .ok (.ifCond .eq 12, 3) := oq_153 (bq_in kqX10_busy_0 19 rfl) (bq_in kqX10_busy_0 20 rfl) (bq_in kqX10_busy_0 21 rfl) rfl
theorem dX10_busy_22 : decode cX10_busy 22 = .ok (.aload_n 0, 1) := oq_42 (bq_in kqX10_busy_0 22 rfl)
theorem dX10_busy_23 : decode cX10_busy 23 = .ok (.iload_n 1, 1) := oq_27 (bq_in kqX10_busy_0 23 rfl)
theorem dX10_busy_24 : decode cX10_busy 24 = .ok (.iload_n 2, 1) := oq_28 (bq_in kqX10_busy_0 24 rfl)
theorem dX10_busy_25 : decode cX10_busy 25 = .ok (.invokevirtual 283, 3) := oq_182 (bq_in kqX10_busy_0 25 rfl) (bq_in kqX10_busy_0 26 rfl) (bq_in kqX10_busy_0 27 rfl) rfl
theorem dX10_busy_28 : decode cX10_busy 28 = .ok (.goto 4, 3) := oq_167 (bq_in kqX10_busy_0 28 rfl) (bq_in kqX10_busy_0 29 rfl) (bq_in kqX10_busy_0 30 rfl) rfl
theorem dX10_busy_31 : decode cX10_busy 31 = .ok (.iconst (-1), 1) := oq_2 (bq_in kqX10_busy_0 31 rfl)
theorem kqX10_busy_1 : ((cX10_busy.data.toList.drop 32).take 34).map UInt8.toNat = [172] := by decide +kernel
theorem dX10_busy_32 : decode cX10_busy 32 = .ok (.ireturn, 1) := oq_172 (bq_in kqX10_busy_1 0 rfl)
theorem kqX10_busiest_0 : ((cX10_busiest.data.toList.drop 0).take 34).map UInt8.toNat = [42, 3, 181, 0, 60, 27, 3, 16, 7, 184, 0, 65, 153, 0, 30, 28, 184, 0, 223, 153, 0, 23, 29, 184, 0, 223, 153, 0, 16, 29, 28, 161, 0, 11] := by decide +kernel
theorem dX10_busiest_0 : decode cX10_busiest 0 = .ok (.aload_n 0, 1) := oq_42 (bq_in kqX10_busiest_0 0 rfl)
theorem dX10_busiest_1 : decode cX10_busiest 1 = .ok (.iconst 0, 1) := oq_3 (bq_in kqX10_busiest_0 1 rfl)
theorem dX10_busiest_2 : decode cX10_busiest 2 = .ok (.putfield 60, 3) := oq_181 (bq_in kqX10_busiest_0 2 rfl) (bq_in kqX10_busiest_0 3 rfl) (bq_in kqX10_busiest_0 4 rfl) rfl
theorem dX10_busiest_5 : decode cX10_busiest 5 = .ok (.iload_n 1, 1) := oq_27 (bq_in kqX10_busiest_0 5 rfl)
theorem dX10_busiest_6 : decode cX10_busiest 6 = .ok (.iconst 0, 1) := oq_3 (bq_in kqX10_busiest_0 6 rfl)
theorem dX10_busiest_7 : decode cX10_busiest 7 = .ok (.bipush 7, 2) := oq_16 (bq_in kqX10_busiest_0 7 rfl) (bq_in kqX10_busiest_0 8 rfl) rfl
theorem dX10_busiest_9 : decode cX10_busiest 9 = .ok (.invokestatic 65, 3) := oq_184 (bq_in kqX10_busiest_0 9 rfl) (bq_in kqX10_busiest_0 10 rfl) (bq_in kqX10_busiest_0 11 rfl) rfl
theorem dX10_busiest_12 : decode cX10_busiest 12 = .ok (.ifCond .eq 30, 3) := oq_153 (bq_in kqX10_busiest_0 12 rfl) (bq_in kqX10_busiest_0 13 rfl) (bq_in kqX10_busiest_0 14 rfl) rfl
theorem dX10_busiest_15 : decode cX10_busiest 15 = .ok (.iload_n 2, 1) := oq_28 (bq_in kqX10_busiest_0 15 rfl)
theorem dX10_busiest_16 : decode cX10_busiest 16 = .ok (.invokestatic 223, 3) := oq_184 (bq_in kqX10_busiest_0 16 rfl) (bq_in kqX10_busiest_0 17 rfl) (bq_in kqX10_busiest_0 18 rfl) rfl
theorem dX10_busiest_19 : decode cX10_busiest 19 = .ok (.ifCond .eq 23, 3) := oq_153 (bq_in kqX10_busiest_0 19 rfl) (bq_in kqX10_busiest_0 20 rfl) (bq_in kqX10_busiest_0 21 rfl) rfl
theorem dX10_busiest_22 : decode cX10_busiest 22 = .ok (.iload_n 3, 1) := oq_29 (bq_in kqX10_busiest_0 22 rfl)
theorem dX10_busiest_23 : decode cX10_busiest 23 = .ok (.invokestatic 223, 3) := oq_184 (bq_in kqX10_busiest_0 23 rfl) (bq_in kqX10_busiest_0 24 rfl) (bq_in kqX10_busiest_0 25 rfl) rfl
theorem dX10_busiest_26 : decode cX10_busiest 26 = .ok (.ifCond .eq 16, 3) := oq_153 (bq_in kqX10_busiest_0 26 rfl) (bq_in kqX10_busiest_0 27 rfl) (bq_in kqX10_busiest_0 28 rfl) rfl
theorem dX10_busiest_29 : decode cX10_busiest 29 = .ok (.iload_n 3, 1) := oq_29 (bq_in kqX10_busiest_0 29 rfl)
theorem dX10_busiest_30 : decode cX10_busiest 30 = .ok (.iload_n 2, 1) := oq_28 (bq_in kqX10_busiest_0 30 rfl)
theorem dX10_busiest_31 : decode cX10_busiest 31 = .ok (.if_icmp .lt 11, 3) := oq_161 (bq_in kqX10_busiest_0 31 rfl) (bq_in kqX10_busiest_0 32 rfl) (bq_in kqX10_busiest_0 33 rfl) rfl
theorem kqX10_busiest_1 : ((cX10_busiest.data.toList.drop 32).take 34).map UInt8.toNat = [0, 11, 29, 28, 100, 16, 59, 164, 0, 5, 2, 172, 42, 27, 17, 5, 160, 28, 104, 17, 5, 160, 29, 28, 100, 4, 96, 104, 182, 1, 24, 28, 54, 4] := by decide +kernel
theorem dX10_busiest_34 : decode cX10_busiest 34 = .ok (.iload_n 3, 1) := oq_29 (bq_in kqX10_busiest_1 2 rfl)
theorem dX10_busiest_35 : decode cX10_busiest 35 = .ok (.iload_n 2, 1) := oq_28 (bq_in kqX10_busiest_1 3 rfl)
theorem dX10_busiest_36 : decode cX10_busiest 36 = .ok (.isub, 1) := oq_100 (bq_in kqX10_busiest_1 4 rfl)
theorem dX10_busiest_37 : decode cX10_busiest 37 = .ok (.bipush 59, 2) := oq_16 (bq_in kqX10_busiest_1 5 rfl) (bq_in kqX10_busiest_1 6 rfl) rfl
theorem dX10_busiest_39 : decode cX10_busiest 39 = .ok (.if_icmp .le 5, 3) := oq_164 (bq_in kqX10_busiest_1 7 rfl) (bq_in kqX10_busiest_1 8 rfl) (bq_in kqX10_busiest_1 9 rfl) rfl
theorem dX10_busiest_42 : decode cX10_busiest 42 = .ok (.iconst (-1), 1) := oq_2 (bq_in kqX10_busiest_1 10 rfl)
theorem dX10_busiest_43 : decode cX10_busiest 43 = .ok (.ireturn, 1) := oq_172 (bq_in kqX10_busiest_1 11 rfl)
theorem dX10_busiest_44 : decode cX10_busiest 44 = .ok (.aload_n 0, 1) := oq_42 (bq_in kqX10_busiest_1 12 rfl)
theorem dX10_busiest_45 : decode cX10_busiest 45 = .ok (.iload_n 1, 1) := oq_27 (bq_in kqX10_busiest_1 13 rfl)
theorem dX10_busiest_46 : decode cX10_busiest 46 = .ok (.sipush 1440, 3) := oq_17 (bq_in kqX10_busiest_1 14 rfl) (bq_in kqX10_busiest_1 15 rfl) (bq_in kqX10_busiest_1 16 rfl) rfl
theorem dX10_busiest_49 : decode cX10_busiest 49 = .ok (.iload_n 2, 1) := oq_28 (bq_in kqX10_busiest_1 17 rfl)
theorem dX10_busiest_50 : decode cX10_busiest 50 = .ok (.imul, 1) := oq_104 (bq_in kqX10_busiest_1 18 rfl)
theorem dX10_busiest_51 : decode cX10_busiest 51 = .ok (.sipush 1440, 3) := oq_17 (bq_in kqX10_busiest_1 19 rfl) (bq_in kqX10_busiest_1 20 rfl) (bq_in kqX10_busiest_1 21 rfl) rfl
theorem dX10_busiest_54 : decode cX10_busiest 54 = .ok (.iload_n 3, 1) := oq_29 (bq_in kqX10_busiest_1 22 rfl)
theorem dX10_busiest_55 : decode cX10_busiest 55 = .ok (.iload_n 2, 1) := oq_28 (bq_in kqX10_busiest_1 23 rfl)
theorem dX10_busiest_56 : decode cX10_busiest 56 = .ok (.isub, 1) := oq_100 (bq_in kqX10_busiest_1 24 rfl)
theorem dX10_busiest_57 : decode cX10_busiest 57 = .ok (.iconst 1, 1) := oq_4 (bq_in kqX10_busiest_1 25 rfl)
theorem dX10_busiest_58 : decode cX10_busiest 58 = .ok (.iadd, 1) := oq_96 (bq_in kqX10_busiest_1 26 rfl)
theorem dX10_busiest_59 : decode cX10_busiest 59 = .ok (.imul, 1) := oq_104 (bq_in kqX10_busiest_1 27 rfl)
theorem dX10_busiest_60 : decode cX10_busiest 60 = .ok (.invokevirtual 280, 3) := oq_182 (bq_in kqX10_busiest_1 28 rfl) (bq_in kqX10_busiest_1 29 rfl) (bq_in kqX10_busiest_1 30 rfl) rfl
theorem dX10_busiest_63 : decode cX10_busiest 63 = .ok (.iload_n 2, 1) := oq_28 (bq_in kqX10_busiest_1 31 rfl)
theorem kqX10_busiest_2 : ((cX10_busiest.data.toList.drop 64).take 34).map UInt8.toNat = [54, 4, 2, 54, 5, 28, 54, 6, 21, 6, 29, 163, 0, 69, 3, 54, 7, 3, 54, 8, 21, 8, 17, 5, 160, 162, 0, 31, 42, 180, 0, 52, 17, 5] := by decide +kernel
theorem dX10_busiest_64 : decode cX10_busiest 64 = .ok (.istore 4, 2) := oq_54 (bq_in kqX10_busiest_2 0 rfl) (bq_in kqX10_busiest_2 1 rfl)
theorem dX10_busiest_66 : decode cX10_busiest 66 = .ok (.iconst (-1), 1) := oq_2 (bq_in kqX10_busiest_2 2 rfl)
theorem dX10_busiest_67 : decode cX10_busiest 67 = .ok (.istore 5, 2) := oq_54 (bq_in kqX10_busiest_2 3 rfl) (bq_in kqX10_busiest_2 4 rfl)
theorem dX10_busiest_69 : decode cX10_busiest 69 = .ok (.iload_n 2, 1) := oq_28 (bq_in kqX10_busiest_2 5 rfl)
theorem dX10_busiest_70 : decode cX10_busiest 70 = .ok (.istore 6, 2) := oq_54 (bq_in kqX10_busiest_2 6 rfl) (bq_in kqX10_busiest_2 7 rfl)
theorem dX10_busiest_72 : decode cX10_busiest 72 = .ok (.iload 6, 2) := oq_21 (bq_in kqX10_busiest_2 8 rfl) (bq_in kqX10_busiest_2 9 rfl)
theorem dX10_busiest_74 : decode cX10_busiest 74 = .ok (.iload_n 3, 1) := oq_29 (bq_in kqX10_busiest_2 10 rfl)
theorem dX10_busiest_75 : decode cX10_busiest 75 = .ok (.if_icmp .gt 69, 3) := oq_163 (bq_in kqX10_busiest_2 11 rfl) (bq_in kqX10_busiest_2 12 rfl) (bq_in kqX10_busiest_2 13 rfl) rfl
theorem dX10_busiest_78 : decode cX10_busiest 78 = .ok (.iconst 0, 1) := oq_3 (bq_in kqX10_busiest_2 14 rfl)
theorem dX10_busiest_79 : decode cX10_busiest 79 = .ok (.istore 7, 2) := oq_54 (bq_in kqX10_busiest_2 15 rfl) (bq_in kqX10_busiest_2 16 rfl)
theorem dX10_busiest_81 : decode cX10_busiest 81 = .ok (.iconst 0, 1) := oq_3 (bq_in kqX10_busiest_2 17 rfl)
theorem dX10_busiest_82 : decode cX10_busiest 82 = .ok (.istore 8, 2) := oq_54 (bq_in kqX10_busiest_2 18 rfl) (bq_in kqX10_busiest_2 19 rfl)
theorem dX10_busiest_84 : decode cX10_busiest 84 = .ok (.iload 8, 2) := oq_21 (bq_in kqX10_busiest_2 20 rfl) (bq_in kqX10_busiest_2 21 rfl)
theorem dX10_busiest_86 : decode cX10_busiest 86 = .ok (.sipush 1440, 3) := oq_17 (bq_in kqX10_busiest_2 22 rfl) (bq_in kqX10_busiest_2 23 rfl) (bq_in kqX10_busiest_2 24 rfl) rfl
theorem dX10_busiest_89 : decode cX10_busiest 89 = .ok (.if_icmp .ge 31, 3) := oq_162 (bq_in kqX10_busiest_2 25 rfl) (bq_in kqX10_busiest_2 26 rfl) (bq_in kqX10_busiest_2 27 rfl) rfl
theorem dX10_busiest_92 : decode cX10_busiest 92 = .ok (.aload_n 0, 1) := oq_42 (bq_in kqX10_busiest_2 28 rfl)
theorem dX10_busiest_93 : decode cX10_busiest 93 = .ok (.getfield 52, 3) := oq_180 (bq_in kqX10_busiest_2 29 rfl) (bq_in kqX10_busiest_2 30 rfl) (bq_in kqX10_busiest_2 31 rfl) rfl
theorem kqX10_busiest_3 : ((cX10_busiest.data.toList.drop 96).take 34).map UInt8.toNat = [17, 5, 160, 21, 6, 28, 100, 104, 21, 8, 96, 51, 153, 0, 6, 132, 7, 1, 132, 8, 1, 167, 255, 223, 21, 7, 21, 5, 163, 0, 6, 167, 0, 11] := by decide +kernel
theorem dX10_busiest_96 : decode cX10_busiest 96 = .ok (.sipush 1440, 3) := oq_17 (bq_in kqX10_busiest_3 0 rfl) (bq_in kqX10_busiest_3 1 rfl) (bq_in kqX10_busiest_3 2 rfl) rfl
theorem dX10_busiest_99 : decode cX10_busiest 99 = .ok (.iload 6, 2) := oq_21 (bq_in kqX10_busiest_3 3 rfl) (bq_in kqX10_busiest_3 4 rfl)
theorem dX10_busiest_101 : decode cX10_busiest 101 = .ok (.iload_n 2, 1) := oq_28 (bq_in kqX10_busiest_3 5 rfl)
theorem dX10_busiest_102 : decode cX10_busiest 102 = .ok (.isub, 1) := oq_100 (bq_in kqX10_busiest_3 6 rfl)
theorem dX10_busiest_103 : decode cX10_busiest 103 = .ok (.imul, 1) := oq_104 (bq_in kqX10_busiest_3 7 rfl)
theorem dX10_busiest_104 : decode cX10_busiest 104 = .ok (.iload 8, 2) := oq_21 (bq_in kqX10_busiest_3 8 rfl) (bq_in kqX10_busiest_3 9 rfl)
theorem dX10_busiest_106 : decode cX10_busiest 106 = .ok (.iadd, 1) := oq_96 (bq_in kqX10_busiest_3 10 rfl)
theorem dX10_busiest_107 : decode cX10_busiest 107 = .ok (.baload, 1) := oq_51 (bq_in kqX10_busiest_3 11 rfl)
theorem dX10_busiest_108 : decode cX10_busiest 108 = .ok (.ifCond .eq 6, 3) := oq_153 (bq_in kqX10_busiest_3 12 rfl) (bq_in kqX10_busiest_3 13 rfl) (bq_in kqX10_busiest_3 14 rfl) rfl
theorem dX10_busiest_111 : decode cX10_busiest 111 = .ok (.iinc 7 1, 3) := oq_132 (bq_in kqX10_busiest_3 15 rfl) (bq_in kqX10_busiest_3 16 rfl) (bq_in kqX10_busiest_3 17 rfl) rfl
theorem dX10_busiest_114 : decode cX10_busiest 114 = .ok (.iinc 8 1, 3) := oq_132 (bq_in kqX10_busiest_3 18 rfl) (bq_in kqX10_busiest_3 19 rfl) (bq_in kqX10_busiest_3 20 rfl) rfl
theorem dX10_busiest_117 : decode cX10_busiest 117 = .ok (.goto (-33), 3) := oq_167 (bq_in kqX10_busiest_3 21 rfl) (bq_in kqX10_busiest_3 22 rfl) (bq_in kqX10_busiest_3 23 rfl) rfl
theorem dX10_busiest_120 : decode cX10_busiest 120 = .ok (.iload 7, 2) := oq_21 (bq_in kqX10_busiest_3 24 rfl) (bq_in kqX10_busiest_3 25 rfl)
theorem dX10_busiest_122 : decode cX10_busiest 122 = .ok (.iload 5, 2) := oq_21 (bq_in kqX10_busiest_3 26 rfl) (bq_in kqX10_busiest_3 27 rfl)
theorem dX10_busiest_124 : decode cX10_busiest 124 = .ok (.if_icmp .gt 6, 3) := oq_163 (bq_in kqX10_busiest_3 28 rfl) (bq_in kqX10_busiest_3 29 rfl) (bq_in kqX10_busiest_3 30 rfl) rfl
theorem dX10_busiest_127 : decode cX10_busiest 127 = .ok (.goto 11, 3) := oq_167 (bq_in kqX10_busiest_3 31 rfl) (bq_in kqX10_busiest_3 32 rfl) (bq_in kqX10_busiest_3 33 rfl) rfl
theorem kqX10_busiest_4 : ((cX10_busiest.data.toList.drop 128).take 34).map UInt8.toNat = [0, 11, 21, 7, 54, 5, 21, 6, 54, 4, 132, 6, 1, 167, 255, 187, 21, 4, 172] := by decide +kernel
theorem dX10_busiest_130 : decode cX10_busiest 130 = .ok (.iload 7, 2) := oq_21 (bq_in kqX10_busiest_4 2 rfl) (bq_in kqX10_busiest_4 3 rfl)
theorem dX10_busiest_132 : decode cX10_busiest 132 = .ok (.istore 5, 2) := oq_54 (bq_in kqX10_busiest_4 4 rfl) (bq_in kqX10_busiest_4 5 rfl)
theorem dX10_busiest_134 : decode cX10_busiest 134 = .ok (.iload 6, 2) := oq_21 (bq_in kqX10_busiest_4 6 rfl) (bq_in kqX10_busiest_4 7 rfl)
theorem dX10_busiest_136 : decode cX10_busiest 136 = .ok (.istore 4, 2) := oq_54 (bq_in kqX10_busiest_4 8 rfl) (bq_in kqX10_busiest_4 9 rfl)
theorem dX10_busiest_138 : decode cX10_busiest 138 = .ok (.iinc 6 1, 3) := oq_132 (bq_in kqX10_busiest_4 10 rfl) (bq_in kqX10_busiest_4 11 rfl) (bq_in kqX10_busiest_4 12 rfl) rfl
theorem dX10_busiest_141 : decode cX10_busiest 141 = .ok (.goto (-69), 3) := oq_167 (bq_in kqX10_busiest_4 13 rfl) (bq_in kqX10_busiest_4 14 rfl) (bq_in kqX10_busiest_4 15 rfl) rfl
theorem dX10_busiest_144 : decode cX10_busiest 144 = .ok (.iload 4, 2) := oq_21 (bq_in kqX10_busiest_4 16 rfl) (bq_in kqX10_busiest_4 17 rfl)
theorem dX10_busiest_146 : decode cX10_busiest 146 = .ok (.ireturn, 1) := oq_172 (bq_in kqX10_busiest_4 18 rfl)
theorem kqX10_split_0 : ((cX10_split.data.toList.drop 0).take 34).map UInt8.toNat = [42, 3, 181, 0, 60, 42, 27, 182, 0, 220, 153, 0, 19, 28, 184, 0, 223, 153, 0, 12, 42, 180, 0, 70, 16, 12, 160, 0, 5, 2, 172, 42, 27, 3] := by decide +kernel
theorem dX10_split_0 : decode cX10_split 0 = .ok (.aload_n 0, 1) := oq_42 (bq_in kqX10_split_0 0 rfl)
theorem dX10_split_1 : decode cX10_split 1 = .ok (.iconst 0, 1) := oq_3 (bq_in kqX10_split_0 1 rfl)
theorem dX10_split_2 : decode cX10_split 2 = .ok (.putfield 60, 3) := oq_181 (bq_in kqX10_split_0 2 rfl) (bq_in kqX10_split_0 3 rfl) (bq_in kqX10_split_0 4 rfl) rfl
theorem dX10_split_5 : decode cX10_split 5 = .ok (.aload_n 0, 1) := oq_42 (bq_in kqX10_split_0 5 rfl)
theorem dX10_split_6 : decode cX10_split 6 = .ok (.iload_n 1, 1) := oq_27 (bq_in kqX10_split_0 6 rfl)
theorem dX10_split_7 : decode cX10_split 7 = .ok (.invokevirtual 220, 3) := oq_182 (bq_in kqX10_split_0 7 rfl) (bq_in kqX10_split_0 8 rfl) (bq_in kqX10_split_0 9 rfl) rfl
theorem dX10_split_10 : decode cX10_split 10 = .ok (.ifCond .eq 19, 3) := oq_153 (bq_in kqX10_split_0 10 rfl) (bq_in kqX10_split_0 11 rfl) (bq_in kqX10_split_0 12 rfl) rfl
theorem dX10_split_13 : decode cX10_split 13 = .ok (.iload_n 2, 1) := oq_28 (bq_in kqX10_split_0 13 rfl)
theorem dX10_split_14 : decode cX10_split 14 = .ok (.invokestatic 223, 3) := oq_184 (bq_in kqX10_split_0 14 rfl) (bq_in kqX10_split_0 15 rfl) (bq_in kqX10_split_0 16 rfl) rfl
theorem dX10_split_17 : decode cX10_split 17 = .ok (.ifCond .eq 12, 3) := oq_153 (bq_in kqX10_split_0 17 rfl) (bq_in kqX10_split_0 18 rfl) (bq_in kqX10_split_0 19 rfl) rfl
theorem dX10_split_20 : decode cX10_split 20 = .ok (.aload_n 0, 1) := oq_42 (bq_in kqX10_split_0 20 rfl)
theorem dX10_split_21 : decode cX10_split 21 = .ok (.getfield 70, 3) := oq_180 (bq_in kqX10_split_0 21 rfl) (bq_in kqX10_split_0 22 rfl) (bq_in kqX10_split_0 23 rfl) rfl
theorem dX10_split_24 : decode cX10_split 24 = .ok (.bipush 12, 2) := oq_16 (bq_in kqX10_split_0 24 rfl) (bq_in kqX10_split_0 25 rfl) rfl
theorem dX10_split_26 : decode cX10_split 26 = .ok (.if_icmp .ne 5, 3) := oq_160 (bq_in kqX10_split_0 26 rfl) (bq_in kqX10_split_0 27 rfl) (bq_in kqX10_split_0 28 rfl) rfl
theorem dX10_split_29 : decode cX10_split 29 = .ok (.iconst (-1), 1) := oq_2 (bq_in kqX10_split_0 29 rfl)
theorem dX10_split_30 : decode cX10_split 30 = .ok (.ireturn, 1) := oq_172 (bq_in kqX10_split_0 30 rfl)
theorem dX10_split_31 : decode cX10_split 31 = .ok (.aload_n 0, 1) := oq_42 (bq_in kqX10_split_0 31 rfl)
theorem kqX10_split_1 : ((cX10_split.data.toList.drop 32).take 34).map UInt8.toNat = [27, 3, 182, 0, 236, 62, 3, 54, 4, 21, 4, 29, 162, 0, 20, 42, 180, 0, 39, 21, 4, 46, 28, 162, 0, 9, 132, 4, 1, 167, 255, 236, 21, 4] := by decide +kernel
theorem dX10_split_32 : decode cX10_split 32 = .ok (.iload_n 1, 1) := oq_27 (bq_in kqX10_split_1 0 rfl)
theorem dX10_split_33 : decode cX10_split 33 = .ok (.iconst 0, 1) := oq_3 (bq_in kqX10_split_1 1 rfl)
theorem dX10_split_34 : decode cX10_split 34 = .ok (.invokevirtual 236, 3) := oq_182 (bq_in kqX10_split_1 2 rfl) (bq_in kqX10_split_1 3 rfl) (bq_in kqX10_split_1 4 rfl) rfl
theorem dX10_split_37 : decode cX10_split 37 = .ok (.istore_n 3, 1) := oq_62 (bq_in kqX10_split_1 5 rfl)
theorem dX10_split_38 : decode cX10_split 38 = .ok (.iconst 0, 1) := oq_3 (bq_in kqX10_split_1 6 rfl)
theorem dX10_split_39 : decode cX10_split 39 = .ok (.istore 4, 2) := oq_54 (bq_in kqX10_split_1 7 rfl) (bq_in kqX10_split_1 8 rfl)
theorem dX10_split_41 : decode cX10_split 41 = .ok (.iload 4, 2) := oq_21 (bq_in kqX10_split_1 9 rfl) (bq_in kqX10_split_1 10 rfl)
theorem dX10_split_43 : decode cX10_split 43 = .ok (.iload_n 3, 1) := oq_29 (bq_in kqX10_split_1 11 rfl)
theorem dX10_split_44 : decode cX10_split 44 = .ok (.if_icmp .ge 20, 3) := oq_162 (bq_in kqX10_split_1 12 rfl) (bq_in kqX10_split_1 13 rfl) (bq_in kqX10_split_1 14 rfl) rfl
theorem dX10_split_47 : decode cX10_split 47 = .ok (.aload_n 0, 1) := oq_42 (bq_in kqX10_split_1 15 rfl)
theorem dX10_split_48 : decode cX10_split 48 = .ok (.getfield 39, 3) := oq_180 (bq_in kqX10_split_1 16 rfl) (bq_in kqX10_split_1 17 rfl) (bq_in kqX10_split_1 18 rfl) rfl
theorem dX10_split_51 : decode cX10_split 51 = .ok (.iload 4, 2) := oq_21 (bq_in kqX10_split_1 19 rfl) (bq_in kqX10_split_1 20 rfl)
theorem dX10_split_53 : decode cX10_split 53 = .ok (.iaload, 1) := oq_46 (bq_in kqX10_split_1 21 rfl)
theorem dX10_split_54 : decode cX10_split 54 = .ok (.iload_n 2, 1) := oq_28 (bq_in kqX10_split_1 22 rfl)
theorem dX10_split_55 : decode cX10_split 55 = .ok (.if_icmp .ge 9, 3) := oq_162 (bq_in kqX10_split_1 23 rfl) (bq_in kqX10_split_1 24 rfl) (bq_in kqX10_split_1 25 rfl) rfl
theorem dX10_split_58 : decode cX10_split 58 = .ok (.iinc 4 1, 3) := oq_132 (bq_in kqX10_split_1 26 rfl) (bq_in kqX10_split_1 27 rfl) (bq_in kqX10_split_1 28 rfl) rfl
theorem dX10_split_61 : decode cX10_split 61 = .ok (.goto (-20), 3) := oq_167 (bq_in kqX10_split_1 29 rfl) (bq_in kqX10_split_1 30 rfl) (bq_in kqX10_split_1 31 rfl) rfl
theorem kqX10_split_2 : ((cX10_split.data.toList.drop 64).take 34).map UInt8.toNat = [21, 4, 153, 0, 9, 21, 4, 29, 160, 0, 5, 2, 172, 16, 44, 27, 104, 54, 5, 16, 44, 42, 180, 0, 70, 104, 54, 6, 3, 54, 7, 21, 7, 16] := by decide +kernel
theorem dX10_split_64 : decode cX10_split 64 = .ok (.iload 4, 2) := oq_21 (bq_in kqX10_split_2 0 rfl) (bq_in kqX10_split_2 1 rfl)
theorem dX10_split_66 : decode cX10_split 66 = .ok (.ifCond .eq 9, 3) := oq_153 (bq_in kqX10_split_2 2 rfl) (bq_in kqX10_split_2 3 rfl) (bq_in kqX10_split_2 4 rfl) rfl
theorem dX10_split_69 : decode cX10_split 69 = .ok (.iload 4, 2) := oq_21 (bq_in kqX10_split_2 5 rfl) (bq_in kqX10_split_2 6 rfl)
theorem dX10_split_71 : decode cX10_split 71 = .ok (.iload_n 3, 1) := oq_29 (bq_in kqX10_split_2 7 rfl)
theorem dX10_split_72 : decode cX10_split 72 = .ok (.if_icmp .ne 5, 3) := oq_160 (bq_in kqX10_split_2 8 rfl) (bq_in kqX10_split_2 9 rfl) (bq_in kqX10_split_2 10 rfl) rfl
theorem dX10_split_75 : decode cX10_split 75 = .ok (.iconst (-1), 1) := oq_2 (bq_in kqX10_split_2 11 rfl)
theorem dX10_split_76 : decode cX10_split 76 = .ok (.ireturn, 1) := oq_172 (bq_in kqX10_split_2 12 rfl)
theorem dX10_split_77 : decode cX10_split 77 = .ok (.bipush 44, 2) := oq_16 (bq_in kqX10_split_2 13 rfl) (bq_in kqX10_split_2 14 rfl) rfl
theorem dX10_split_79 : decode cX10_split 79 = .ok (.iload_n 1, 1) := oq_27 (bq_in kqX10_split_2 15 rfl)
theorem dX10_split_80 : decode cX10_split 80 = .ok (.imul, 1) := oq_104 (bq_in kqX10_split_2 16 rfl)
theorem dX10_split_81 : decode cX10_split 81 = .ok (.istore 5, 2) := oq_54 (bq_in kqX10_split_2 17 rfl) (bq_in kqX10_split_2 18 rfl)
theorem dX10_split_83 : decode cX10_split 83 = .ok (.bipush 44, 2) := oq_16 (bq_in kqX10_split_2 19 rfl) (bq_in kqX10_split_2 20 rfl) rfl
theorem dX10_split_85 : decode cX10_split 85 = .ok (.aload_n 0, 1) := oq_42 (bq_in kqX10_split_2 21 rfl)
theorem dX10_split_86 : decode cX10_split 86 = .ok (.getfield 70, 3) := oq_180 (bq_in kqX10_split_2 22 rfl) (bq_in kqX10_split_2 23 rfl) (bq_in kqX10_split_2 24 rfl) rfl
theorem dX10_split_89 : decode cX10_split 89 = .ok (.imul, 1) := oq_104 (bq_in kqX10_split_2 25 rfl)
theorem dX10_split_90 : decode cX10_split 90 = .ok (.istore 6, 2) := oq_54 (bq_in kqX10_split_2 26 rfl) (bq_in kqX10_split_2 27 rfl)
theorem dX10_split_92 : decode cX10_split 92 = .ok (.iconst 0, 1) := oq_3 (bq_in kqX10_split_2 28 rfl)
theorem dX10_split_93 : decode cX10_split 93 = .ok (.istore 7, 2) := oq_54 (bq_in kqX10_split_2 29 rfl) (bq_in kqX10_split_2 30 rfl)
theorem dX10_split_95 : decode cX10_split 95 = .ok (.iload 7, 2) := oq_21 (bq_in kqX10_split_2 31 rfl) (bq_in kqX10_split_2 32 rfl)
theorem kqX10_split_3 : ((cX10_split.data.toList.drop 96).take 34).map UInt8.toNat = [7, 16, 44, 162, 0, 29, 42, 180, 0, 23, 21, 6, 21, 7, 96, 42, 180, 0, 23, 21, 5, 21, 7, 96, 46, 79, 132, 7, 1, 167, 255, 226, 42, 180] := by decide +kernel
theorem dX10_split_97 : decode cX10_split 97 = .ok (.bipush 44, 2) := oq_16 (bq_in kqX10_split_3 1 rfl) (bq_in kqX10_split_3 2 rfl) rfl
theorem dX10_split_99 : decode cX10_split 99 = .ok (.if_icmp .ge 29, 3) := oq_162 (bq_in kqX10_split_3 3 rfl) (bq_in kqX10_split_3 4 rfl) (bq_in kqX10_split_3 5 rfl) rfl
theorem dX10_split_102 : decode cX10_split 102 = .ok (.aload_n 0, 1) := oq_42 (bq_in kqX10_split_3 6 rfl)
theorem dX10_split_103 : decode cX10_split 103 = .ok (.getfield 23, 3) := oq_180 (bq_in kqX10_split_3 7 rfl) (bq_in kqX10_split_3 8 rfl) (bq_in kqX10_split_3 9 rfl) rfl
theorem dX10_split_106 : decode cX10_split 106 = .ok (.iload 6, 2) := oq_21 (bq_in kqX10_split_3 10 rfl) (bq_in kqX10_split_3 11 rfl)
theorem dX10_split_108 : decode cX10_split 108 = .ok (.iload 7, 2) := oq_21 (bq_in kqX10_split_3 12 rfl) (bq_in kqX10_split_3 13 rfl)
theorem dX10_split_110 : decode cX10_split 110 = .ok (.iadd, 1) := oq_96 (bq_in kqX10_split_3 14 rfl)
theorem dX10_split_111 : decode cX10_split 111 = .ok (.aload_n 0, 1) := oq_42 (bq_in kqX10_split_3 15 rfl)
theorem dX10_split_112 : decode cX10_split 112 = .ok (.getfield 23, 3) := oq_180 (bq_in kqX10_split_3 16 rfl) (bq_in kqX10_split_3 17 rfl) (bq_in kqX10_split_3 18 rfl) rfl
theorem dX10_split_115 : decode cX10_split 115 = .ok (.iload 5, 2) := oq_21 (bq_in kqX10_split_3 19 rfl) (bq_in kqX10_split_3 20 rfl)
theorem dX10_split_117 : decode cX10_split 117 = .ok (.iload 7, 2) := oq_21 (bq_in kqX10_split_3 21 rfl) (bq_in kqX10_split_3 22 rfl)
theorem dX10_split_119 : decode cX10_split 119 = .ok (.iadd, 1) := oq_96 (bq_in kqX10_split_3 23 rfl)
theorem dX10_split_120 : decode cX10_split 120 = .ok (.iaload, 1) := oq_46 (bq_in kqX10_split_3 24 rfl)
theorem dX10_split_121 : decode cX10_split 121 = .ok (.iastore, 1) := oq_79 (bq_in kqX10_split_3 25 rfl)
theorem dX10_split_122 : decode cX10_split 122 = .ok (.iinc 7 1, 3) := oq_132 (bq_in kqX10_split_3 26 rfl) (bq_in kqX10_split_3 27 rfl) (bq_in kqX10_split_3 28 rfl) rfl
theorem dX10_split_125 : decode cX10_split 125 = .ok (.goto (-30), 3) := oq_167 (bq_in kqX10_split_3 29 rfl) (bq_in kqX10_split_3 30 rfl) (bq_in kqX10_split_3 31 rfl) rfl
theorem kqX10_split_4 : ((cX10_split.data.toList.drop 128).take 34).map UInt8.toNat = [42, 180, 0, 23, 21, 6, 16, 10, 96, 28, 79, 42, 180, 0, 23, 21, 5, 16, 9, 96, 46, 155, 0, 32, 42, 180, 0, 23, 21, 6, 16, 9, 96, 29] := by decide +kernel
theorem dX10_split_128 : decode cX10_split 128 = .ok (.aload_n 0, 1) := oq_42 (bq_in kqX10_split_4 0 rfl)
theorem dX10_split_129 : decode cX10_split 129 = .ok (.getfield 23, 3) := oq_180 (bq_in kqX10_split_4 1 rfl) (bq_in kqX10_split_4 2 rfl) (bq_in kqX10_split_4 3 rfl) rfl
theorem dX10_split_132 : decode cX10_split 132 = .ok (.iload 6, 2) := oq_21 (bq_in kqX10_split_4 4 rfl) (bq_in kqX10_split_4 5 rfl)
theorem dX10_split_134 : decode cX10_split 134 = .ok (.bipush 10, 2) := oq_16 (bq_in kqX10_split_4 6 rfl) (bq_in kqX10_split_4 7 rfl) rfl
theorem dX10_split_136 : decode cX10_split 136 = .ok (.iadd, 1) := oq_96 (bq_in kqX10_split_4 8 rfl)
theorem dX10_split_137 : decode cX10_split 137 = .ok (.iload_n 2, 1) := oq_28 (bq_in kqX10_split_4 9 rfl)
theorem dX10_split_138 : decode cX10_split 138 = .ok (.iastore, 1) := oq_79 (bq_in kqX10_split_4 10 rfl)
theorem dX10_split_139 : decode cX10_split 139 = .ok (.aload_n 0, 1) := oq_42 (bq_in kqX10_split_4 11 rfl)
theorem dX10_split_140 : decode cX10_split 140 = .ok (.getfield 23, 3) := oq_180 (bq_in kqX10_split_4 12 rfl) (bq_in kqX10_split_4 13 rfl) (bq_in kqX10_split_4 14 rfl) rfl
theorem dX10_split_143 : decode cX10_split 143 = .ok (.iload 5, 2) := oq_21 (bq_in kqX10_split_4 15 rfl) (bq_in kqX10_split_4 16 rfl)
theorem dX10_split_145 : decode cX10_split 145 = .ok (.bipush 9, 2) := oq_16 (bq_in kqX10_split_4 17 rfl) (bq_in kqX10_split_4 18 rfl) rfl
theorem dX10_split_147 : decode cX10_split 147 = .ok (.iadd, 1) := oq_96 (bq_in kqX10_split_4 19 rfl)
theorem dX10_split_148 : decode cX10_split 148 = .ok (.iaload, 1) := oq_46 (bq_in kqX10_split_4 20 rfl)
theorem dX10_split_149 : decode cX10_split 149 = .ok (.ifCond .lt 32, 3) := oq_155 (bq_in kqX10_split_4 21 rfl) (bq_in kqX10_split_4 22 rfl) (bq_in kqX10_split_4 23 rfl) rfl
theorem dX10_split_152 : decode cX10_split 152 = .ok (.aload_n 0, 1) := oq_42 (bq_in kqX10_split_4 24 rfl)
theorem dX10_split_153 : decode cX10_split 153 = .ok (.getfield 23, 3) := oq_180 (bq_in kqX10_split_4 25 rfl) (bq_in kqX10_split_4 26 rfl) (bq_in kqX10_split_4 27 rfl) rfl
theorem dX10_split_156 : decode cX10_split 156 = .ok (.iload 6, 2) := oq_21 (bq_in kqX10_split_4 28 rfl) (bq_in kqX10_split_4 29 rfl)
theorem dX10_split_158 : decode cX10_split 158 = .ok (.bipush 9, 2) := oq_16 (bq_in kqX10_split_4 30 rfl) (bq_in kqX10_split_4 31 rfl) rfl
theorem kqX10_split_5 : ((cX10_split.data.toList.drop 160).take 34).map UInt8.toNat = [96, 29, 21, 4, 100, 79, 42, 180, 0, 23, 21, 5, 16, 9, 96, 21, 4, 79, 167, 0, 16, 42, 180, 0, 23, 21, 5, 16, 8, 96, 28, 4, 100, 79] := by decide +kernel
theorem dX10_split_160 : decode cX10_split 160 = .ok (.iadd, 1) := oq_96 (bq_in kqX10_split_5 0 rfl)
theorem dX10_split_161 : decode cX10_split 161 = .ok (.iload_n 3, 1) := oq_29 (bq_in kqX10_split_5 1 rfl)
theorem dX10_split_162 : decode cX10_split 162 = .ok (.iload 4, 2) := oq_21 (bq_in kqX10_split_5 2 rfl) (bq_in kqX10_split_5 3 rfl)
theorem dX10_split_164 : decode cX10_split 164 = .ok (.isub, 1) := oq_100 (bq_in kqX10_split_5 4 rfl)
theorem dX10_split_165 : decode cX10_split 165 = .ok (.iastore, 1) := oq_79 (bq_in kqX10_split_5 5 rfl)
theorem dX10_split_166 : decode cX10_split 166 = .ok (.aload_n 0, 1) := oq_42 (bq_in kqX10_split_5 6 rfl)
theorem dX10_split_167 : decode cX10_split 167 = .ok (.getfield 23, 3) := oq_180 (bq_in kqX10_split_5 7 rfl) (bq_in kqX10_split_5 8 rfl) (bq_in kqX10_split_5 9 rfl) rfl
theorem dX10_split_170 : decode cX10_split 170 = .ok (.iload 5, 2) := oq_21 (bq_in kqX10_split_5 10 rfl) (bq_in kqX10_split_5 11 rfl)
theorem dX10_split_172 : decode cX10_split 172 = .ok (.bipush 9, 2) := oq_16 (bq_in kqX10_split_5 12 rfl) (bq_in kqX10_split_5 13 rfl) rfl
theorem dX10_split_174 : decode cX10_split 174 = .ok (.iadd, 1) := oq_96 (bq_in kqX10_split_5 14 rfl)
theorem dX10_split_175 : decode cX10_split 175 = .ok (.iload 4, 2) := oq_21 (bq_in kqX10_split_5 15 rfl) (bq_in kqX10_split_5 16 rfl)
theorem dX10_split_177 : decode cX10_split 177 = .ok (.iastore, 1) := oq_79 (bq_in kqX10_split_5 17 rfl)
theorem dX10_split_178 : decode cX10_split 178 = .ok (.goto 16, 3) := oq_167 (bq_in kqX10_split_5 18 rfl) (bq_in kqX10_split_5 19 rfl) (bq_in kqX10_split_5 20 rfl) rfl
theorem dX10_split_181 : decode cX10_split 181 = .ok (.aload_n 0, 1) := oq_42 (bq_in kqX10_split_5 21 rfl)
theorem dX10_split_182 : decode cX10_split 182 = .ok (.getfield 23, 3) := oq_180 (bq_in kqX10_split_5 22 rfl) (bq_in kqX10_split_5 23 rfl) (bq_in kqX10_split_5 24 rfl) rfl
theorem dX10_split_185 : decode cX10_split 185 = .ok (.iload 5, 2) := oq_21 (bq_in kqX10_split_5 25 rfl) (bq_in kqX10_split_5 26 rfl)
theorem dX10_split_187 : decode cX10_split 187 = .ok (.bipush 8, 2) := oq_16 (bq_in kqX10_split_5 27 rfl) (bq_in kqX10_split_5 28 rfl) rfl
theorem dX10_split_189 : decode cX10_split 189 = .ok (.iadd, 1) := oq_96 (bq_in kqX10_split_5 29 rfl)
theorem dX10_split_190 : decode cX10_split 190 = .ok (.iload_n 2, 1) := oq_28 (bq_in kqX10_split_5 30 rfl)
theorem dX10_split_191 : decode cX10_split 191 = .ok (.iconst 1, 1) := oq_4 (bq_in kqX10_split_5 31 rfl)
theorem kqX10_split_6 : ((cX10_split.data.toList.drop 192).take 34).map UInt8.toNat = [100, 79, 42, 89, 180, 0, 70, 4, 96, 181, 0, 70, 42, 27, 16, 11, 182, 0, 229, 4, 100, 54, 7, 21, 7, 155, 0, 32, 42, 27, 16, 12, 5, 21] := by decide +kernel
theorem dX10_split_192 : decode cX10_split 192 = .ok (.isub, 1) := oq_100 (bq_in kqX10_split_6 0 rfl)
theorem dX10_split_193 : decode cX10_split 193 = .ok (.iastore, 1) := oq_79 (bq_in kqX10_split_6 1 rfl)
theorem dX10_split_194 : decode cX10_split 194 = .ok (.aload_n 0, 1) := oq_42 (bq_in kqX10_split_6 2 rfl)
theorem dX10_split_195 : decode cX10_split 195 = .ok (.dup, 1) := oq_89 (bq_in kqX10_split_6 3 rfl)
theorem dX10_split_196 : decode cX10_split 196 = .ok (.getfield 70, 3) := oq_180 (bq_in kqX10_split_6 4 rfl) (bq_in kqX10_split_6 5 rfl) (bq_in kqX10_split_6 6 rfl) rfl
theorem dX10_split_199 : decode cX10_split 199 = .ok (.iconst 1, 1) := oq_4 (bq_in kqX10_split_6 7 rfl)
theorem dX10_split_200 : decode cX10_split 200 = .ok (.iadd, 1) := oq_96 (bq_in kqX10_split_6 8 rfl)
theorem dX10_split_201 : decode cX10_split 201 = .ok (.putfield 70, 3) := oq_181 (bq_in kqX10_split_6 9 rfl) (bq_in kqX10_split_6 10 rfl) (bq_in kqX10_split_6 11 rfl) rfl
theorem dX10_split_204 : decode cX10_split 204 = .ok (.aload_n 0, 1) := oq_42 (bq_in kqX10_split_6 12 rfl)
theorem dX10_split_205 : decode cX10_split 205 = .ok (.iload_n 1, 1) := oq_27 (bq_in kqX10_split_6 13 rfl)
theorem dX10_split_206 : decode cX10_split 206 = .ok (.bipush 11, 2) := oq_16 (bq_in kqX10_split_6 14 rfl) (bq_in kqX10_split_6 15 rfl) rfl
theorem dX10_split_208 : decode cX10_split 208 = .ok (.invokevirtual 229, 3) := oq_182 (bq_in kqX10_split_6 16 rfl) (bq_in kqX10_split_6 17 rfl) (bq_in kqX10_split_6 18 rfl) rfl
theorem dX10_split_211 : decode cX10_split 211 = .ok (.iconst 1, 1) := oq_4 (bq_in kqX10_split_6 19 rfl)
theorem dX10_split_212 : decode cX10_split 212 = .ok (.isub, 1) := oq_100 (bq_in kqX10_split_6 20 rfl)
theorem dX10_split_213 : decode cX10_split 213 = .ok (.istore 7, 2) := oq_54 (bq_in kqX10_split_6 21 rfl) (bq_in kqX10_split_6 22 rfl)
theorem dX10_split_215 : decode cX10_split 215 = .ok (.iload 7, 2) := oq_21 (bq_in kqX10_split_6 23 rfl) (bq_in kqX10_split_6 24 rfl)
theorem dX10_split_217 : decode cX10_split 217 = .ok (.ifCond .lt 32, 3) := oq_155 (bq_in kqX10_split_6 25 rfl) (bq_in kqX10_split_6 26 rfl) (bq_in kqX10_split_6 27 rfl) rfl
theorem dX10_split_220 : decode cX10_split 220 = .ok (.aload_n 0, 1) := oq_42 (bq_in kqX10_split_6 28 rfl)
theorem dX10_split_221 : decode cX10_split 221 = .ok (.iload_n 1, 1) := oq_27 (bq_in kqX10_split_6 29 rfl)
theorem dX10_split_222 : decode cX10_split 222 = .ok (.bipush 12, 2) := oq_16 (bq_in kqX10_split_6 30 rfl) (bq_in kqX10_split_6 31 rfl) rfl
theorem kqX10_split_7 : ((cX10_split.data.toList.drop 224).take 34).map UInt8.toNat = [5, 21, 7, 104, 96, 182, 0, 229, 28, 161, 0, 10, 42, 27, 21, 7, 182, 0, 251, 132, 7, 255, 167, 255, 225, 42, 42, 180, 0, 70, 4, 100, 16, 11] := by decide +kernel
theorem dX10_split_224 : decode cX10_split 224 = .ok (.iconst 2, 1) := oq_5 (bq_in kqX10_split_7 0 rfl)
theorem dX10_split_225 : decode cX10_split 225 = .ok (.iload 7, 2) := oq_21 (bq_in kqX10_split_7 1 rfl) (bq_in kqX10_split_7 2 rfl)
theorem dX10_split_227 : decode cX10_split 227 = .ok (.imul, 1) := oq_104 (bq_in kqX10_split_7 3 rfl)
theorem dX10_split_228 : decode cX10_split 228 = .ok (.iadd, 1) := oq_96 (bq_in kqX10_split_7 4 rfl)
theorem dX10_split_229 : decode cX10_split 229 = .ok (.invokevirtual 229, 3) := oq_182 (bq_in kqX10_split_7 5 rfl) (bq_in kqX10_split_7 6 rfl) (bq_in kqX10_split_7 7 rfl) rfl
theorem dX10_split_232 : decode cX10_split 232 = .ok (.iload_n 2, 1) := oq_28 (bq_in kqX10_split_7 8 rfl)
theorem dX10_split_233 : decode cX10_split 233 = .ok (.if_icmp .lt 10, 3) := oq_161 (bq_in kqX10_split_7 9 rfl) (bq_in kqX10_split_7 10 rfl) (bq_in kqX10_split_7 11 rfl) rfl
theorem dX10_split_236 : decode cX10_split 236 = .ok (.aload_n 0, 1) := oq_42 (bq_in kqX10_split_7 12 rfl)
theorem dX10_split_237 : decode cX10_split 237 = .ok (.iload_n 1, 1) := oq_27 (bq_in kqX10_split_7 13 rfl)
theorem dX10_split_238 : decode cX10_split 238 = .ok (.iload 7, 2) := oq_21 (bq_in kqX10_split_7 14 rfl) (bq_in kqX10_split_7 15 rfl)
theorem dX10_split_240 : decode cX10_split 240 = .ok (.invokevirtual 251, 3) := oq_182 (bq_in kqX10_split_7 16 rfl) (bq_in kqX10_split_7 17 rfl) (bq_in kqX10_split_7 18 rfl) rfl
theorem dX10_split_243 : decode cX10_split 243 = .ok (.iinc 7 (-1), 3) := oq_132 (bq_in kqX10_split_7 19 rfl) (bq_in kqX10_split_7 20 rfl) (bq_in kqX10_split_7 21 rfl) rfl
theorem dX10_split_246 : decode cX10_split 246 = .ok (.goto (-31), 3) := oq_167 (bq_in kqX10_split_7 22 rfl) (bq_in kqX10_split_7 23 rfl) (bq_in kqX10_split_7 24 rfl) rfl
theorem dX10_split_249 : decode cX10_split 249 = .ok (.aload_n 0, 1) := oq_42 (bq_in kqX10_split_7 25 rfl)
theorem dX10_split_250 : decode cX10_split 250 = .ok (.aload_n 0, 1) := oq_42 (bq_in kqX10_split_7 26 rfl)
theorem dX10_split_251 : decode cX10_split 251 = .ok (.getfield 70, 3) := oq_180 (bq_in kqX10_split_7 27 rfl) (bq_in kqX10_split_7 28 rfl) (bq_in kqX10_split_7 29 rfl) rfl
theorem dX10_split_254 : decode cX10_split 254 = .ok (.iconst 1, 1) := oq_4 (bq_in kqX10_split_7 30 rfl)
theorem dX10_split_255 : decode cX10_split 255 = .ok (.isub, 1) := oq_100 (bq_in kqX10_split_7 31 rfl)
theorem kqX10_split_8 : ((cX10_split.data.toList.drop 256).take 34).map UInt8.toNat = [16, 11, 182, 0, 229, 4, 100, 54, 7, 21, 7, 155, 0, 42, 42, 42, 180, 0, 70, 4, 100, 16, 12, 5, 21, 7, 104, 96, 182, 0, 229, 28, 162, 0] := by decide +kernel
theorem dX10_split_256 : decode cX10_split 256 = .ok (.bipush 11, 2) := oq_16 (bq_in kqX10_split_8 0 rfl) (bq_in kqX10_split_8 1 rfl) rfl
theorem dX10_split_258 : decode cX10_split 258 = .ok (.invokevirtual 229, 3) := oq_182 (bq_in kqX10_split_8 2 rfl) (bq_in kqX10_split_8 3 rfl) (bq_in kqX10_split_8 4 rfl) rfl
theorem dX10_split_261 : decode cX10_split 261 = .ok (.iconst 1, 1) := oq_4 (bq_in kqX10_split_8 5 rfl)
theorem dX10_split_262 : decode cX10_split 262 = .ok (.isub, 1) := oq_100 (bq_in kqX10_split_8 6 rfl)
theorem dX10_split_263 : decode cX10_split 263 = .ok (.istore 7, 2) := oq_54 (bq_in kqX10_split_8 7 rfl) (bq_in kqX10_split_8 8 rfl)
theorem dX10_split_265 : decode cX10_split 265 = .ok (.iload 7, 2) := oq_21 (bq_in kqX10_split_8 9 rfl) (bq_in kqX10_split_8 10 rfl)
theorem dX10_split_267 : decode cX10_split 267 = .ok (.ifCond .lt 42, 3) := oq_155 (bq_in kqX10_split_8 11 rfl) (bq_in kqX10_split_8 12 rfl) (bq_in kqX10_split_8 13 rfl) rfl
theorem dX10_split_270 : decode cX10_split 270 = .ok (.aload_n 0, 1) := oq_42 (bq_in kqX10_split_8 14 rfl)
theorem dX10_split_271 : decode cX10_split 271 = .ok (.aload_n 0, 1) := oq_42 (bq_in kqX10_split_8 15 rfl)
theorem dX10_split_272 : decode cX10_split 272 = .ok (.getfield 70, 3) := oq_180 (bq_in kqX10_split_8 16 rfl) (bq_in kqX10_split_8 17 rfl) (bq_in kqX10_split_8 18 rfl) rfl
theorem dX10_split_275 : decode cX10_split 275 = .ok (.iconst 1, 1) := oq_4 (bq_in kqX10_split_8 19 rfl)
theorem dX10_split_276 : decode cX10_split 276 = .ok (.isub, 1) := oq_100 (bq_in kqX10_split_8 20 rfl)
theorem dX10_split_277 : decode cX10_split 277 = .ok (.bipush 12, 2) := oq_16 (bq_in kqX10_split_8 21 rfl) (bq_in kqX10_split_8 22 rfl) rfl
theorem dX10_split_279 : decode cX10_split 279 = .ok (.iconst 2, 1) := oq_5 (bq_in kqX10_split_8 23 rfl)
theorem dX10_split_280 : decode cX10_split 280 = .ok (.iload 7, 2) := oq_21 (bq_in kqX10_split_8 24 rfl) (bq_in kqX10_split_8 25 rfl)
theorem dX10_split_282 : decode cX10_split 282 = .ok (.imul, 1) := oq_104 (bq_in kqX10_split_8 26 rfl)
theorem dX10_split_283 : decode cX10_split 283 = .ok (.iadd, 1) := oq_96 (bq_in kqX10_split_8 27 rfl)
theorem dX10_split_284 : decode cX10_split 284 = .ok (.invokevirtual 229, 3) := oq_182 (bq_in kqX10_split_8 28 rfl) (bq_in kqX10_split_8 29 rfl) (bq_in kqX10_split_8 30 rfl) rfl
theorem dX10_split_287 : decode cX10_split 287 = .ok (.iload_n 2, 1) := oq_28 (bq_in kqX10_split_8 31 rfl)
theorem kqX10_split_9 : ((cX10_split.data.toList.drop 288).take 34).map UInt8.toNat = [162, 0, 15, 42, 42, 180, 0, 70, 4, 100, 21, 7, 182, 0, 251, 132, 7, 255, 167, 255, 215, 42, 180, 0, 70, 4, 100, 172] := by decide +kernel
theorem dX10_split_288 : decode cX10_split 288 = .ok (.if_icmp .ge 15, 3) := oq_162 (bq_in kqX10_split_9 0 rfl) (bq_in kqX10_split_9 1 rfl) (bq_in kqX10_split_9 2 rfl) rfl
theorem dX10_split_291 : decode cX10_split 291 = .ok (.aload_n 0, 1) := oq_42 (bq_in kqX10_split_9 3 rfl)
theorem dX10_split_292 : decode cX10_split 292 = .ok (.aload_n 0, 1) := oq_42 (bq_in kqX10_split_9 4 rfl)
theorem dX10_split_293 : decode cX10_split 293 = .ok (.getfield 70, 3) := oq_180 (bq_in kqX10_split_9 5 rfl) (bq_in kqX10_split_9 6 rfl) (bq_in kqX10_split_9 7 rfl) rfl
theorem dX10_split_296 : decode cX10_split 296 = .ok (.iconst 1, 1) := oq_4 (bq_in kqX10_split_9 8 rfl)
theorem dX10_split_297 : decode cX10_split 297 = .ok (.isub, 1) := oq_100 (bq_in kqX10_split_9 9 rfl)
theorem dX10_split_298 : decode cX10_split 298 = .ok (.iload 7, 2) := oq_21 (bq_in kqX10_split_9 10 rfl) (bq_in kqX10_split_9 11 rfl)
theorem dX10_split_300 : decode cX10_split 300 = .ok (.invokevirtual 251, 3) := oq_182 (bq_in kqX10_split_9 12 rfl) (bq_in kqX10_split_9 13 rfl) (bq_in kqX10_split_9 14 rfl) rfl
theorem dX10_split_303 : decode cX10_split 303 = .ok (.iinc 7 (-1), 3) := oq_132 (bq_in kqX10_split_9 15 rfl) (bq_in kqX10_split_9 16 rfl) (bq_in kqX10_split_9 17 rfl) rfl
theorem dX10_split_306 : decode cX10_split 306 = .ok (.goto (-41), 3) := oq_167 (bq_in kqX10_split_9 18 rfl) (bq_in kqX10_split_9 19 rfl) (bq_in kqX10_split_9 20 rfl) rfl
theorem dX10_split_309 : decode cX10_split 309 = .ok (.aload_n 0, 1) := oq_42 (bq_in kqX10_split_9 21 rfl)
theorem dX10_split_310 : decode cX10_split 310 = .ok (.getfield 70, 3) := oq_180 (bq_in kqX10_split_9 22 rfl) (bq_in kqX10_split_9 23 rfl) (bq_in kqX10_split_9 24 rfl) rfl
theorem dX10_split_313 : decode cX10_split 313 = .ok (.iconst 1, 1) := oq_4 (bq_in kqX10_split_9 25 rfl)
theorem dX10_split_314 : decode cX10_split 314 = .ok (.isub, 1) := oq_100 (bq_in kqX10_split_9 26 rfl)
theorem dX10_split_315 : decode cX10_split 315 = .ok (.ireturn, 1) := oq_172 (bq_in kqX10_split_9 27 rfl)
theorem kqX10_gcd_0 : ((cX10_gcd.data.toList.drop 0).take 34).map UInt8.toNat = [30, 55, 4, 32, 55, 6, 22, 6, 9, 148, 153, 0, 21, 22, 4, 22, 6, 113, 55, 8, 22, 6, 55, 4, 22, 8, 55, 6, 167, 255, 234, 22, 4, 173] := by decide +kernel
theorem dX10_gcd_0 : decode cX10_gcd 0 = .ok (.lload_n 0, 1) := oq_30 (bq_in kqX10_gcd_0 0 rfl)
theorem dX10_gcd_1 : decode cX10_gcd 1 = .ok (.lstore 4, 2) := oq_55 (bq_in kqX10_gcd_0 1 rfl) (bq_in kqX10_gcd_0 2 rfl)
theorem dX10_gcd_3 : decode cX10_gcd 3 = .ok (.lload_n 2, 1) := oq_32 (bq_in kqX10_gcd_0 3 rfl)
theorem dX10_gcd_4 : decode cX10_gcd 4 = .ok (.lstore 6, 2) := oq_55 (bq_in kqX10_gcd_0 4 rfl) (bq_in kqX10_gcd_0 5 rfl)
theorem dX10_gcd_6 : decode cX10_gcd 6 = .ok (.lload 6, 2) := oq_22 (bq_in kqX10_gcd_0 6 rfl) (bq_in kqX10_gcd_0 7 rfl)
theorem dX10_gcd_8 : decode cX10_gcd 8 = .ok (.lconst 0, 1) := oq_9 (bq_in kqX10_gcd_0 8 rfl)
theorem dX10_gcd_9 : decode cX10_gcd 9 = .ok (.lcmp, 1) := oq_148 (bq_in kqX10_gcd_0 9 rfl)
theorem dX10_gcd_10 : decode cX10_gcd 10 = .ok (.ifCond .eq 21, 3) := oq_153 (bq_in kqX10_gcd_0 10 rfl) (bq_in kqX10_gcd_0 11 rfl) (bq_in kqX10_gcd_0 12 rfl) rfl
theorem dX10_gcd_13 : decode cX10_gcd 13 = .ok (.lload 4, 2) := oq_22 (bq_in kqX10_gcd_0 13 rfl) (bq_in kqX10_gcd_0 14 rfl)
theorem dX10_gcd_15 : decode cX10_gcd 15 = .ok (.lload 6, 2) := oq_22 (bq_in kqX10_gcd_0 15 rfl) (bq_in kqX10_gcd_0 16 rfl)
theorem dX10_gcd_17 : decode cX10_gcd 17 = .ok (.lrem, 1) := oq_113 (bq_in kqX10_gcd_0 17 rfl)
theorem dX10_gcd_18 : decode cX10_gcd 18 = .ok (.lstore 8, 2) := oq_55 (bq_in kqX10_gcd_0 18 rfl) (bq_in kqX10_gcd_0 19 rfl)
theorem dX10_gcd_20 : decode cX10_gcd 20 = .ok (.lload 6, 2) := oq_22 (bq_in kqX10_gcd_0 20 rfl) (bq_in kqX10_gcd_0 21 rfl)
theorem dX10_gcd_22 : decode cX10_gcd 22 = .ok (.lstore 4, 2) := oq_55 (bq_in kqX10_gcd_0 22 rfl) (bq_in kqX10_gcd_0 23 rfl)
theorem dX10_gcd_24 : decode cX10_gcd 24 = .ok (.lload 8, 2) := oq_22 (bq_in kqX10_gcd_0 24 rfl) (bq_in kqX10_gcd_0 25 rfl)
theorem dX10_gcd_26 : decode cX10_gcd 26 = .ok (.lstore 6, 2) := oq_55 (bq_in kqX10_gcd_0 26 rfl) (bq_in kqX10_gcd_0 27 rfl)
theorem dX10_gcd_28 : decode cX10_gcd 28 = .ok (.goto (-22), 3) := oq_167 (bq_in kqX10_gcd_0 28 rfl) (bq_in kqX10_gcd_0 29 rfl) (bq_in kqX10_gcd_0 30 rfl) rfl
theorem dX10_gcd_31 : decode cX10_gcd 31 = .ok (.lload 4, 2) := oq_22 (bq_in kqX10_gcd_0 31 rfl) (bq_in kqX10_gcd_0 32 rfl)
theorem kqX10_gcd_1 : ((cX10_gcd.data.toList.drop 32).take 34).map UInt8.toNat = [4, 173] := by decide +kernel
theorem dX10_gcd_33 : decode cX10_gcd 33 = .ok (.lreturn, 1) := oq_173 (bq_in kqX10_gcd_1 1 rfl)
theorem kqX10_periodFor_0 : ((cX10_periodFor.data.toList.drop 0).take 34).map UInt8.toNat = [42, 27, 7, 182, 0, 229, 133, 65, 42, 27, 6, 182, 0, 229, 170, 0, 0, 0, 0, 78, 0, 0, 0, 0, 0, 0, 0, 7, 0, 0, 0, 46, 0, 0] := by decide +kernel
theorem dX10_periodFor_0 : decode cX10_periodFor 0 = .ok (.aload_n 0, 1) := oq_42 (bq_in kqX10_periodFor_0 0 rfl)
theorem dX10_periodFor_1 : decode cX10_periodFor 1 = .ok (.iload_n 1, 1) := oq_27 (bq_in kqX10_periodFor_0 1 rfl)
theorem dX10_periodFor_2 : decode cX10_periodFor 2 = .ok (.iconst 4, 1) := oq_7 (bq_in kqX10_periodFor_0 2 rfl)
theorem dX10_periodFor_3 : decode cX10_periodFor 3 = .ok (.invokevirtual 229, 3) := oq_182 (bq_in kqX10_periodFor_0 3 rfl) (bq_in kqX10_periodFor_0 4 rfl) (bq_in kqX10_periodFor_0 5 rfl) rfl
theorem dX10_periodFor_6 : decode cX10_periodFor 6 = .ok (.i2l, 1) := oq_133 (bq_in kqX10_periodFor_0 6 rfl)
theorem dX10_periodFor_7 : decode cX10_periodFor 7 = .ok (.lstore_n 2, 1) := oq_65 (bq_in kqX10_periodFor_0 7 rfl)
theorem dX10_periodFor_8 : decode cX10_periodFor 8 = .ok (.aload_n 0, 1) := oq_42 (bq_in kqX10_periodFor_0 8 rfl)
theorem dX10_periodFor_9 : decode cX10_periodFor 9 = .ok (.iload_n 1, 1) := oq_27 (bq_in kqX10_periodFor_0 9 rfl)
theorem dX10_periodFor_10 : decode cX10_periodFor 10 = .ok (.iconst 3, 1) := oq_6 (bq_in kqX10_periodFor_0 10 rfl)
theorem dX10_periodFor_11 : decode cX10_periodFor 11 = .ok (.invokevirtual 229, 3) := oq_182 (bq_in kqX10_periodFor_0 11 rfl) (bq_in kqX10_periodFor_0 12 rfl) (bq_in kqX10_periodFor_0 13 rfl) rfl
theorem dX10_periodFor_14 : decode cX10_periodFor 14 = .ok (.tableswitch 78 0 7 #[46, 48, 50, 78, 78, 78, 78, 56], 46) := by decide +kernel
theorem kqX10_periodFor_1 : ((cX10_periodFor.data.toList.drop 32).take 34).map UInt8.toNat = [0, 0, 0, 48, 0, 0, 0, 50, 0, 0, 0, 78, 0, 0, 0, 78, 0, 0, 0, 78, 0, 0, 0, 78, 0, 0, 0, 56, 9, 173, 32, 173, 20, 1] := by decide +kernel
theorem dX10_periodFor_60 : decode cX10_periodFor 60 = .ok (.lconst 0, 1) := oq_9 (bq_in kqX10_periodFor_1 28 rfl)
theorem dX10_periodFor_61 : decode cX10_periodFor 61 = .ok (.lreturn, 1) := oq_173 (bq_in kqX10_periodFor_1 29 rfl)
theorem dX10_periodFor_62 : decode cX10_periodFor 62 = .ok (.lload_n 2, 1) := oq_32 (bq_in kqX10_periodFor_1 30 rfl)
theorem dX10_periodFor_63 : decode cX10_periodFor 63 = .ok (.lreturn, 1) := oq_173 (bq_in kqX10_periodFor_1 31 rfl)
theorem kqX10_periodFor_2 : ((cX10_periodFor.data.toList.drop 64).take 34).map UInt8.toNat = [20, 1, 30, 32, 105, 173, 20, 1, 32, 20, 1, 34, 32, 105, 20, 1, 34, 32, 105, 20, 1, 36, 184, 1, 38, 109, 105, 173, 20, 1, 32, 32, 32, 20] := by decide +kernel
theorem dX10_periodFor_64 : decode cX10_periodFor 64 = .ok (.ldc2_w 286, 3) := oq_20 (bq_in kqX10_periodFor_2 0 rfl) (bq_in kqX10_periodFor_2 1 rfl) (bq_in kqX10_periodFor_2 2 rfl) rfl
theorem dX10_periodFor_67 : decode cX10_periodFor 67 = .ok (.lload_n 2, 1) := oq_32 (bq_in kqX10_periodFor_2 3 rfl)
theorem dX10_periodFor_68 : decode cX10_periodFor 68 = .ok (.lmul, 1) := oq_105 (bq_in kqX10_periodFor_2 4 rfl)
theorem dX10_periodFor_69 : decode cX10_periodFor 69 = .ok (.lreturn, 1) := oq_173 (bq_in kqX10_periodFor_2 5 rfl)
theorem dX10_periodFor_70 : decode cX10_periodFor 70 = .ok (.ldc2_w 288, 3) := oq_20 (bq_in kqX10_periodFor_2 6 rfl) (bq_in kqX10_periodFor_2 7 rfl) (bq_in kqX10_periodFor_2 8 rfl) rfl
theorem dX10_periodFor_73 : decode cX10_periodFor 73 = .ok (.ldc2_w 290, 3) := oq_20 (bq_in kqX10_periodFor_2 9 rfl) (bq_in kqX10_periodFor_2 10 rfl) (bq_in kqX10_periodFor_2 11 rfl) rfl
theorem dX10_periodFor_76 : decode cX10_periodFor 76 = .ok (.lload_n 2, 1) := oq_32 (bq_in kqX10_periodFor_2 12 rfl)
theorem dX10_periodFor_77 : decode cX10_periodFor 77 = .ok (.lmul, 1) := oq_105 (bq_in kqX10_periodFor_2 13 rfl)
theorem dX10_periodFor_78 : decode cX10_periodFor 78 = .ok (.ldc2_w 290, 3) := oq_20 (bq_in kqX10_periodFor_2 14 rfl) (bq_in kqX10_periodFor_2 15 rfl) (bq_in kqX10_periodFor_2 16 rfl) rfl
theorem dX10_periodFor_81 : decode cX10_periodFor 81 = .ok (.lload_n 2, 1) := oq_32 (bq_in kqX10_periodFor_2 17 rfl)
theorem dX10_periodFor_82 : decode cX10_periodFor 82 = .ok (.lmul, 1) := oq_105 (bq_in kqX10_periodFor_2 18 rfl)
theorem dX10_periodFor_83 : decode cX10_periodFor 83 = .ok (.ldc2_w 292, 3) := oq_20 (bq_in kqX10_periodFor_2 19 rfl) (bq_in kqX10_periodFor_2 20 rfl) (bq_in kqX10_periodFor_2 21 rfl) rfl
theorem dX10_periodFor_86 : decode cX10_periodFor 86 = .ok (.invokestatic 294, 3) := oq_184 (bq_in kqX10_periodFor_2 22 rfl) (bq_in kqX10_periodFor_2 23 rfl) (bq_in kqX10_periodFor_2 24 rfl) rfl
theorem dX10_periodFor_89 : decode cX10_periodFor 89 = .ok (.ldiv, 1) := oq_109 (bq_in kqX10_periodFor_2 25 rfl)
theorem dX10_periodFor_90 : decode cX10_periodFor 90 = .ok (.lmul, 1) := oq_105 (bq_in kqX10_periodFor_2 26 rfl)
theorem dX10_periodFor_91 : decode cX10_periodFor 91 = .ok (.lreturn, 1) := oq_173 (bq_in kqX10_periodFor_2 27 rfl)
theorem dX10_periodFor_92 : decode cX10_periodFor 92 = .ok (.ldc2_w 288, 3) := oq_20 (bq_in kqX10_periodFor_2 28 rfl) (bq_in kqX10_periodFor_2 29 rfl) (bq_in kqX10_periodFor_2 30 rfl) rfl
theorem dX10_periodFor_95 : decode cX10_periodFor 95 = .ok (.lload_n 2, 1) := oq_32 (bq_in kqX10_periodFor_2 31 rfl)
theorem kqX10_periodFor_3 : ((cX10_periodFor.data.toList.drop 96).take 34).map UInt8.toNat = [32, 20, 1, 36, 184, 1, 38, 109, 105, 173] := by decide +kernel
theorem dX10_periodFor_96 : decode cX10_periodFor 96 = .ok (.lload_n 2, 1) := oq_32 (bq_in kqX10_periodFor_3 0 rfl)
theorem dX10_periodFor_97 : decode cX10_periodFor 97 = .ok (.ldc2_w 292, 3) := oq_20 (bq_in kqX10_periodFor_3 1 rfl) (bq_in kqX10_periodFor_3 2 rfl) (bq_in kqX10_periodFor_3 3 rfl) rfl
theorem dX10_periodFor_100 : decode cX10_periodFor 100 = .ok (.invokestatic 294, 3) := oq_184 (bq_in kqX10_periodFor_3 4 rfl) (bq_in kqX10_periodFor_3 5 rfl) (bq_in kqX10_periodFor_3 6 rfl) rfl
theorem dX10_periodFor_103 : decode cX10_periodFor 103 = .ok (.ldiv, 1) := oq_109 (bq_in kqX10_periodFor_3 7 rfl)
theorem dX10_periodFor_104 : decode cX10_periodFor 104 = .ok (.lmul, 1) := oq_105 (bq_in kqX10_periodFor_3 8 rfl)
theorem dX10_periodFor_105 : decode cX10_periodFor 105 = .ok (.lreturn, 1) := oq_173 (bq_in kqX10_periodFor_3 9 rfl)
theorem kqX10_asInt_0 : ((cX10_asInt.data.toList.drop 0).take 34).map UInt8.toNat = [30, 20, 1, 44, 148, 158, 0, 8, 16, 254, 167, 0, 5, 30, 136, 172] := by decide +kernel
theorem dX10_asInt_0 : decode cX10_asInt 0 = .ok (.lload_n 0, 1) := oq_30 (bq_in kqX10_asInt_0 0 rfl)
theorem dX10_asInt_1 : decode cX10_asInt 1 = .ok (.ldc2_w 300, 3) := oq_20 (bq_in kqX10_asInt_0 1 rfl) (bq_in kqX10_asInt_0 2 rfl) (bq_in kqX10_asInt_0 3 rfl) rfl
theorem dX10_asInt_4 : decode cX10_asInt 4 = .ok (.lcmp, 1) := oq_148 (bq_in kqX10_asInt_0 4 rfl)
theorem dX10_asInt_5 : decode cX10_asInt 5 = .ok (.ifCond .le 8, 3) := oq_158 (bq_in kqX10_asInt_0 5 rfl) (bq_in kqX10_asInt_0 6 rfl) (bq_in kqX10_asInt_0 7 rfl) rfl
theorem dX10_asInt_8 : decode cX10_asInt 8 = .ok (.bipush (-2), 2) := oq_16 (bq_in kqX10_asInt_0 8 rfl) (bq_in kqX10_asInt_0 9 rfl) rfl
theorem dX10_asInt_10 : decode cX10_asInt 10 = .ok (.goto 5, 3) := oq_167 (bq_in kqX10_asInt_0 10 rfl) (bq_in kqX10_asInt_0 11 rfl) (bq_in kqX10_asInt_0 12 rfl) rfl
theorem dX10_asInt_13 : decode cX10_asInt 13 = .ok (.lload_n 0, 1) := oq_30 (bq_in kqX10_asInt_0 13 rfl)
theorem dX10_asInt_14 : decode cX10_asInt 14 = .ok (.l2i, 1) := oq_136 (bq_in kqX10_asInt_0 14 rfl)
theorem dX10_asInt_15 : decode cX10_asInt 15 = .ok (.ireturn, 1) := oq_172 (bq_in kqX10_asInt_0 15 rfl)
theorem kqX10_period_0 : ((cX10_period.data.toList.drop 0).take 34).map UInt8.toNat = [42, 3, 181, 0, 60, 42, 27, 182, 0, 220, 153, 0, 14, 42, 27, 182, 1, 46, 184, 1, 50, 167, 0, 4, 2, 172] := by decide +kernel
theorem dX10_period_0 : decode cX10_period 0 = .ok (.aload_n 0, 1) := oq_42 (bq_in kqX10_period_0 0 rfl)
theorem dX10_period_1 : decode cX10_period 1 = .ok (.iconst 0, 1) := oq_3 (bq_in kqX10_period_0 1 rfl)
theorem dX10_period_2 : decode cX10_period 2 = .ok (.putfield 60, 3) := oq_181 (bq_in kqX10_period_0 2 rfl) (bq_in kqX10_period_0 3 rfl) (bq_in kqX10_period_0 4 rfl) rfl
theorem dX10_period_5 : decode cX10_period 5 = .ok (.aload_n 0, 1) := oq_42 (bq_in kqX10_period_0 5 rfl)
theorem dX10_period_6 : decode cX10_period 6 = .ok (.iload_n 1, 1) := oq_27 (bq_in kqX10_period_0 6 rfl)
theorem dX10_period_7 : decode cX10_period 7 = .ok (.invokevirtual 220, 3) := oq_182 (bq_in kqX10_period_0 7 rfl) (bq_in kqX10_period_0 8 rfl) (bq_in kqX10_period_0 9 rfl) rfl
theorem dX10_period_10 : decode cX10_period 10 = .ok (.ifCond .eq 14, 3) := oq_153 (bq_in kqX10_period_0 10 rfl) (bq_in kqX10_period_0 11 rfl) (bq_in kqX10_period_0 12 rfl) rfl
theorem dX10_period_13 : decode cX10_period 13 = .ok (.aload_n 0, 1) := oq_42 (bq_in kqX10_period_0 13 rfl)
theorem dX10_period_14 : decode cX10_period 14 = .ok (.iload_n 1, 1) := oq_27 (bq_in kqX10_period_0 14 rfl)
theorem dX10_period_15 : decode cX10_period 15 = .ok (.invokevirtual 302, 3) := oq_182 (bq_in kqX10_period_0 15 rfl) (bq_in kqX10_period_0 16 rfl) (bq_in kqX10_period_0 17 rfl) rfl
theorem dX10_period_18 : decode cX10_period 18 = .ok (.invokestatic 306, 3) := oq_184 (bq_in kqX10_period_0 18 rfl) (bq_in kqX10_period_0 19 rfl) (bq_in kqX10_period_0 20 rfl) rfl
theorem dX10_period_21 : decode cX10_period 21 = .ok (.goto 4, 3) := oq_167 (bq_in kqX10_period_0 21 rfl) (bq_in kqX10_period_0 22 rfl) (bq_in kqX10_period_0 23 rfl) rfl
theorem dX10_period_24 : decode cX10_period 24 = .ok (.iconst (-1), 1) := oq_2 (bq_in kqX10_period_0 24 rfl)
theorem dX10_period_25 : decode cX10_period 25 = .ok (.ireturn, 1) := oq_172 (bq_in kqX10_period_0 25 rfl)
theorem kqX10_periodOf_0 : ((cX10_periodOf.data.toList.drop 0).take 34).map UInt8.toNat = [42, 3, 181, 0, 60, 42, 27, 182, 0, 220, 153, 0, 11, 42, 28, 182, 0, 220, 154, 0, 5, 2, 172, 42, 27, 182, 1, 46, 66, 42, 28, 182, 1, 46] := by decide +kernel
theorem dX10_periodOf_0 : decode cX10_periodOf 0 = .ok (.aload_n 0, 1) := oq_42 (bq_in kqX10_periodOf_0 0 rfl)
theorem dX10_periodOf_1 : decode cX10_periodOf 1 = .ok (.iconst 0, 1) := oq_3 (bq_in kqX10_periodOf_0 1 rfl)
theorem dX10_periodOf_2 : decode cX10_periodOf 2 = .ok (.putfield 60, 3) := oq_181 (bq_in kqX10_periodOf_0 2 rfl) (bq_in kqX10_periodOf_0 3 rfl) (bq_in kqX10_periodOf_0 4 rfl) rfl
theorem dX10_periodOf_5 : decode cX10_periodOf 5 = .ok (.aload_n 0, 1) := oq_42 (bq_in kqX10_periodOf_0 5 rfl)
theorem dX10_periodOf_6 : decode cX10_periodOf 6 = .ok (.iload_n 1, 1) := oq_27 (bq_in kqX10_periodOf_0 6 rfl)
theorem dX10_periodOf_7 : decode cX10_periodOf 7 = .ok (.invokevirtual 220, 3) := oq_182 (bq_in kqX10_periodOf_0 7 rfl) (bq_in kqX10_periodOf_0 8 rfl) (bq_in kqX10_periodOf_0 9 rfl) rfl
theorem dX10_periodOf_10 : decode cX10_periodOf 10 = .ok (.ifCond .eq 11, 3) := oq_153 (bq_in kqX10_periodOf_0 10 rfl) (bq_in kqX10_periodOf_0 11 rfl) (bq_in kqX10_periodOf_0 12 rfl) rfl
theorem dX10_periodOf_13 : decode cX10_periodOf 13 = .ok (.aload_n 0, 1) := oq_42 (bq_in kqX10_periodOf_0 13 rfl)
theorem dX10_periodOf_14 : decode cX10_periodOf 14 = .ok (.iload_n 2, 1) := oq_28 (bq_in kqX10_periodOf_0 14 rfl)
theorem dX10_periodOf_15 : decode cX10_periodOf 15 = .ok (.invokevirtual 220, 3) := oq_182 (bq_in kqX10_periodOf_0 15 rfl) (bq_in kqX10_periodOf_0 16 rfl) (bq_in kqX10_periodOf_0 17 rfl) rfl
theorem dX10_periodOf_18 : decode cX10_periodOf 18 = .ok (.ifCond .ne 5, 3) := oq_154 (bq_in kqX10_periodOf_0 18 rfl) (bq_in kqX10_periodOf_0 19 rfl) (bq_in kqX10_periodOf_0 20 rfl) rfl
theorem dX10_periodOf_21 : decode cX10_periodOf 21 = .ok (.iconst (-1), 1) := oq_2 (bq_in kqX10_periodOf_0 21 rfl)
theorem dX10_periodOf_22 : decode cX10_periodOf 22 = .ok (.ireturn, 1) := oq_172 (bq_in kqX10_periodOf_0 22 rfl)
theorem dX10_periodOf_23 : decode cX10_periodOf 23 = .ok (.aload_n 0, 1) := oq_42 (bq_in kqX10_periodOf_0 23 rfl)
theorem dX10_periodOf_24 : decode cX10_periodOf 24 = .ok (.iload_n 1, 1) := oq_27 (bq_in kqX10_periodOf_0 24 rfl)
theorem dX10_periodOf_25 : decode cX10_periodOf 25 = .ok (.invokevirtual 302, 3) := oq_182 (bq_in kqX10_periodOf_0 25 rfl) (bq_in kqX10_periodOf_0 26 rfl) (bq_in kqX10_periodOf_0 27 rfl) rfl
theorem dX10_periodOf_28 : decode cX10_periodOf 28 = .ok (.lstore_n 3, 1) := oq_66 (bq_in kqX10_periodOf_0 28 rfl)
theorem dX10_periodOf_29 : decode cX10_periodOf 29 = .ok (.aload_n 0, 1) := oq_42 (bq_in kqX10_periodOf_0 29 rfl)
theorem dX10_periodOf_30 : decode cX10_periodOf 30 = .ok (.iload_n 2, 1) := oq_28 (bq_in kqX10_periodOf_0 30 rfl)
theorem dX10_periodOf_31 : decode cX10_periodOf 31 = .ok (.invokevirtual 302, 3) := oq_182 (bq_in kqX10_periodOf_0 31 rfl) (bq_in kqX10_periodOf_0 32 rfl) (bq_in kqX10_periodOf_0 33 rfl) rfl
theorem kqX10_periodOf_1 : ((cX10_periodOf.data.toList.drop 32).take 34).map UInt8.toNat = [1, 46, 55, 5, 33, 9, 148, 153, 0, 10, 22, 5, 9, 148, 154, 0, 7, 3, 167, 0, 17, 33, 33, 22, 5, 184, 1, 38, 109, 22, 5, 105, 184, 1] := by decide +kernel
theorem dX10_periodOf_34 : decode cX10_periodOf 34 = .ok (.lstore 5, 2) := oq_55 (bq_in kqX10_periodOf_1 2 rfl) (bq_in kqX10_periodOf_1 3 rfl)
theorem dX10_periodOf_36 : decode cX10_periodOf 36 = .ok (.lload_n 3, 1) := oq_33 (bq_in kqX10_periodOf_1 4 rfl)
theorem dX10_periodOf_37 : decode cX10_periodOf 37 = .ok (.lconst 0, 1) := oq_9 (bq_in kqX10_periodOf_1 5 rfl)
theorem dX10_periodOf_38 : decode cX10_periodOf 38 = .ok (.lcmp, 1) := oq_148 (bq_in kqX10_periodOf_1 6 rfl)
theorem dX10_periodOf_39 : decode cX10_periodOf 39 = .ok (.ifCond .eq 10, 3) := oq_153 (bq_in kqX10_periodOf_1 7 rfl) (bq_in kqX10_periodOf_1 8 rfl) (bq_in kqX10_periodOf_1 9 rfl) rfl
theorem dX10_periodOf_42 : decode cX10_periodOf 42 = .ok (.lload 5, 2) := oq_22 (bq_in kqX10_periodOf_1 10 rfl) (bq_in kqX10_periodOf_1 11 rfl)
theorem dX10_periodOf_44 : decode cX10_periodOf 44 = .ok (.lconst 0, 1) := oq_9 (bq_in kqX10_periodOf_1 12 rfl)
theorem dX10_periodOf_45 : decode cX10_periodOf 45 = .ok (.lcmp, 1) := oq_148 (bq_in kqX10_periodOf_1 13 rfl)
theorem dX10_periodOf_46 : decode cX10_periodOf 46 = .ok (.ifCond .ne 7, 3) := oq_154 (bq_in kqX10_periodOf_1 14 rfl) (bq_in kqX10_periodOf_1 15 rfl) (bq_in kqX10_periodOf_1 16 rfl) rfl
theorem dX10_periodOf_49 : decode cX10_periodOf 49 = .ok (.iconst 0, 1) := oq_3 (bq_in kqX10_periodOf_1 17 rfl)
theorem dX10_periodOf_50 : decode cX10_periodOf 50 = .ok (.goto 17, 3) := oq_167 (bq_in kqX10_periodOf_1 18 rfl) (bq_in kqX10_periodOf_1 19 rfl) (bq_in kqX10_periodOf_1 20 rfl) rfl
theorem dX10_periodOf_53 : decode cX10_periodOf 53 = .ok (.lload_n 3, 1) := oq_33 (bq_in kqX10_periodOf_1 21 rfl)
theorem dX10_periodOf_54 : decode cX10_periodOf 54 = .ok (.lload_n 3, 1) := oq_33 (bq_in kqX10_periodOf_1 22 rfl)
theorem dX10_periodOf_55 : decode cX10_periodOf 55 = .ok (.lload 5, 2) := oq_22 (bq_in kqX10_periodOf_1 23 rfl) (bq_in kqX10_periodOf_1 24 rfl)
theorem dX10_periodOf_57 : decode cX10_periodOf 57 = .ok (.invokestatic 294, 3) := oq_184 (bq_in kqX10_periodOf_1 25 rfl) (bq_in kqX10_periodOf_1 26 rfl) (bq_in kqX10_periodOf_1 27 rfl) rfl
theorem dX10_periodOf_60 : decode cX10_periodOf 60 = .ok (.ldiv, 1) := oq_109 (bq_in kqX10_periodOf_1 28 rfl)
theorem dX10_periodOf_61 : decode cX10_periodOf 61 = .ok (.lload 5, 2) := oq_22 (bq_in kqX10_periodOf_1 29 rfl) (bq_in kqX10_periodOf_1 30 rfl)
theorem dX10_periodOf_63 : decode cX10_periodOf 63 = .ok (.lmul, 1) := oq_105 (bq_in kqX10_periodOf_1 31 rfl)
theorem kqX10_periodOf_2 : ((cX10_periodOf.data.toList.drop 64).take 34).map UInt8.toNat = [184, 1, 50, 172] := by decide +kernel
theorem dX10_periodOf_64 : decode cX10_periodOf 64 = .ok (.invokestatic 306, 3) := oq_184 (bq_in kqX10_periodOf_2 0 rfl) (bq_in kqX10_periodOf_2 1 rfl) (bq_in kqX10_periodOf_2 2 rfl) rfl
theorem dX10_periodOf_67 : decode cX10_periodOf 67 = .ok (.ireturn, 1) := oq_172 (bq_in kqX10_periodOf_2 3 rfl)
theorem kqX10_oddMany_0 : ((cX10_oddMany.data.toList.drop 0).take 34).map UInt8.toNat = [3, 62, 3, 54, 4, 21, 4, 42, 27, 16, 11, 182, 0, 229, 162, 0, 38, 42, 27, 16, 12, 5, 21, 4, 104, 96, 4, 96, 182, 0, 229, 156, 0, 7] := by decide +kernel
theorem dX10_oddMany_0 : decode cX10_oddMany 0 = .ok (.iconst 0, 1) := oq_3 (bq_in kqX10_oddMany_0 0 rfl)
theorem dX10_oddMany_1 : decode cX10_oddMany 1 = .ok (.istore_n 3, 1) := oq_62 (bq_in kqX10_oddMany_0 1 rfl)
theorem dX10_oddMany_2 : decode cX10_oddMany 2 = .ok (.iconst 0, 1) := oq_3 (bq_in kqX10_oddMany_0 2 rfl)
theorem dX10_oddMany_3 : decode cX10_oddMany 3 = .ok (.istore 4, 2) := oq_54 (bq_in kqX10_oddMany_0 3 rfl) (bq_in kqX10_oddMany_0 4 rfl)
theorem dX10_oddMany_5 : decode cX10_oddMany 5 = .ok (.iload 4, 2) := oq_21 (bq_in kqX10_oddMany_0 5 rfl) (bq_in kqX10_oddMany_0 6 rfl)
theorem dX10_oddMany_7 : decode cX10_oddMany 7 = .ok (.aload_n 0, 1) := oq_42 (bq_in kqX10_oddMany_0 7 rfl)
theorem dX10_oddMany_8 : decode cX10_oddMany 8 = .ok (.iload_n 1, 1) := oq_27 (bq_in kqX10_oddMany_0 8 rfl)
theorem dX10_oddMany_9 : decode cX10_oddMany 9 = .ok (.bipush 11, 2) := oq_16 (bq_in kqX10_oddMany_0 9 rfl) (bq_in kqX10_oddMany_0 10 rfl) rfl
theorem dX10_oddMany_11 : decode cX10_oddMany 11 = .ok (.invokevirtual 229, 3) := oq_182 (bq_in kqX10_oddMany_0 11 rfl) (bq_in kqX10_oddMany_0 12 rfl) (bq_in kqX10_oddMany_0 13 rfl) rfl
theorem dX10_oddMany_14 : decode cX10_oddMany 14 = .ok (.if_icmp .ge 38, 3) := oq_162 (bq_in kqX10_oddMany_0 14 rfl) (bq_in kqX10_oddMany_0 15 rfl) (bq_in kqX10_oddMany_0 16 rfl) rfl
theorem dX10_oddMany_17 : decode cX10_oddMany 17 = .ok (.aload_n 0, 1) := oq_42 (bq_in kqX10_oddMany_0 17 rfl)
theorem dX10_oddMany_18 : decode cX10_oddMany 18 = .ok (.iload_n 1, 1) := oq_27 (bq_in kqX10_oddMany_0 18 rfl)
theorem dX10_oddMany_19 : decode cX10_oddMany 19 = .ok (.bipush 12, 2) := oq_16 (bq_in kqX10_oddMany_0 19 rfl) (bq_in kqX10_oddMany_0 20 rfl) rfl
theorem dX10_oddMany_21 : decode cX10_oddMany 21 = .ok (.iconst 2, 1) := oq_5 (bq_in kqX10_oddMany_0 21 rfl)
theorem dX10_oddMany_22 : decode cX10_oddMany 22 = .ok (.iload 4, 2) := oq_21 (bq_in kqX10_oddMany_0 22 rfl) (bq_in kqX10_oddMany_0 23 rfl)
theorem dX10_oddMany_24 : decode cX10_oddMany 24 = .ok (.imul, 1) := oq_104 (bq_in kqX10_oddMany_0 24 rfl)
theorem dX10_oddMany_25 : decode cX10_oddMany 25 = .ok (.iadd, 1) := oq_96 (bq_in kqX10_oddMany_0 25 rfl)
theorem dX10_oddMany_26 : decode cX10_oddMany 26 = .ok (.iconst 1, 1) := oq_4 (bq_in kqX10_oddMany_0 26 rfl)
theorem dX10_oddMany_27 : decode cX10_oddMany 27 = .ok (.iadd, 1) := oq_96 (bq_in kqX10_oddMany_0 27 rfl)
theorem dX10_oddMany_28 : decode cX10_oddMany 28 = .ok (.invokevirtual 229, 3) := oq_182 (bq_in kqX10_oddMany_0 28 rfl) (bq_in kqX10_oddMany_0 29 rfl) (bq_in kqX10_oddMany_0 30 rfl) rfl
theorem dX10_oddMany_31 : decode cX10_oddMany 31 = .ok (.ifCond .ge 7, 3) := oq_156 (bq_in kqX10_oddMany_0 31 rfl) (bq_in kqX10_oddMany_0 32 rfl) (bq_in kqX10_oddMany_0 33 rfl) rfl
theorem kqX10_oddMany_1 : ((cX10_oddMany.data.toList.drop 32).take 34).map UInt8.toNat = [0, 7, 4, 167, 0, 4, 3, 28, 160, 0, 6, 132, 3, 1, 132, 4, 1, 167, 255, 212, 29, 172] := by decide +kernel
theorem dX10_oddMany_34 : decode cX10_oddMany 34 = .ok (.iconst 1, 1) := oq_4 (bq_in kqX10_oddMany_1 2 rfl)
theorem dX10_oddMany_35 : decode cX10_oddMany 35 = .ok (.goto 4, 3) := oq_167 (bq_in kqX10_oddMany_1 3 rfl) (bq_in kqX10_oddMany_1 4 rfl) (bq_in kqX10_oddMany_1 5 rfl) rfl
theorem dX10_oddMany_38 : decode cX10_oddMany 38 = .ok (.iconst 0, 1) := oq_3 (bq_in kqX10_oddMany_1 6 rfl)
theorem dX10_oddMany_39 : decode cX10_oddMany 39 = .ok (.iload_n 2, 1) := oq_28 (bq_in kqX10_oddMany_1 7 rfl)
theorem dX10_oddMany_40 : decode cX10_oddMany 40 = .ok (.if_icmp .ne 6, 3) := oq_160 (bq_in kqX10_oddMany_1 8 rfl) (bq_in kqX10_oddMany_1 9 rfl) (bq_in kqX10_oddMany_1 10 rfl) rfl
theorem dX10_oddMany_43 : decode cX10_oddMany 43 = .ok (.iinc 3 1, 3) := oq_132 (bq_in kqX10_oddMany_1 11 rfl) (bq_in kqX10_oddMany_1 12 rfl) (bq_in kqX10_oddMany_1 13 rfl) rfl
theorem dX10_oddMany_46 : decode cX10_oddMany 46 = .ok (.iinc 4 1, 3) := oq_132 (bq_in kqX10_oddMany_1 14 rfl) (bq_in kqX10_oddMany_1 15 rfl) (bq_in kqX10_oddMany_1 16 rfl) rfl
theorem dX10_oddMany_49 : decode cX10_oddMany 49 = .ok (.goto (-44), 3) := oq_167 (bq_in kqX10_oddMany_1 17 rfl) (bq_in kqX10_oddMany_1 18 rfl) (bq_in kqX10_oddMany_1 19 rfl) rfl
theorem dX10_oddMany_52 : decode cX10_oddMany 52 = .ok (.iload_n 3, 1) := oq_29 (bq_in kqX10_oddMany_1 20 rfl)
theorem dX10_oddMany_53 : decode cX10_oddMany 53 = .ok (.ireturn, 1) := oq_172 (bq_in kqX10_oddMany_1 21 rfl)
theorem kqX10_of_0 : ((cX10_of.data.toList.drop 0).take 34).map UInt8.toNat = [42, 3, 181, 0, 60, 42, 27, 182, 0, 220, 153, 0, 13, 28, 3, 16, 13, 184, 0, 65, 154, 0, 6, 16, 254, 172, 28, 16, 10, 162, 0, 10, 42, 27] := by decide +kernel
theorem dX10_of_0 : decode cX10_of 0 = .ok (.aload_n 0, 1) := oq_42 (bq_in kqX10_of_0 0 rfl)
theorem dX10_of_1 : decode cX10_of 1 = .ok (.iconst 0, 1) := oq_3 (bq_in kqX10_of_0 1 rfl)
theorem dX10_of_2 : decode cX10_of 2 = .ok (.putfield 60, 3) := oq_181 (bq_in kqX10_of_0 2 rfl) (bq_in kqX10_of_0 3 rfl) (bq_in kqX10_of_0 4 rfl) rfl
theorem dX10_of_5 : decode cX10_of 5 = .ok (.aload_n 0, 1) := oq_42 (bq_in kqX10_of_0 5 rfl)
theorem dX10_of_6 : decode cX10_of 6 = .ok (.iload_n 1, 1) := oq_27 (bq_in kqX10_of_0 6 rfl)
theorem dX10_of_7 : decode cX10_of 7 = .ok (.invokevirtual 220, 3) := oq_182 (bq_in kqX10_of_0 7 rfl) (bq_in kqX10_of_0 8 rfl) (bq_in kqX10_of_0 9 rfl) rfl
theorem dX10_of_10 : decode cX10_of 10 = .ok (.ifCond .eq 13, 3) := oq_153 (bq_in kqX10_of_0 10 rfl) (bq_in kqX10_of_0 11 rfl) (bq_in kqX10_of_0 12 rfl) rfl
theorem dX10_of_13 : decode cX10_of 13 = .ok (.iload_n 2, 1) := oq_28 (bq_in kqX10_of_0 13 rfl)
theorem dX10_of_14 : decode cX10_of 14 = .ok (.iconst 0, 1) := oq_3 (bq_in kqX10_of_0 14 rfl)
theorem dX10_of_15 : decode cX10_of 15 = .ok (.bipush 13, 2) := oq_16 (bq_in kqX10_of_0 15 rfl) (bq_in kqX10_of_0 16 rfl) rfl
theorem dX10_of_17 : decode cX10_of 17 = .ok (.invokestatic 65, 3) := oq_184 (bq_in kqX10_of_0 17 rfl) (bq_in kqX10_of_0 18 rfl) (bq_in kqX10_of_0 19 rfl) rfl
theorem dX10_of_20 : decode cX10_of 20 = .ok (.ifCond .ne 6, 3) := oq_154 (bq_in kqX10_of_0 20 rfl) (bq_in kqX10_of_0 21 rfl) (bq_in kqX10_of_0 22 rfl) rfl
theorem dX10_of_23 : decode cX10_of 23 = .ok (.bipush (-2), 2) := oq_16 (bq_in kqX10_of_0 23 rfl) (bq_in kqX10_of_0 24 rfl) rfl
theorem dX10_of_25 : decode cX10_of 25 = .ok (.ireturn, 1) := oq_172 (bq_in kqX10_of_0 25 rfl)
theorem dX10_of_26 : decode cX10_of 26 = .ok (.iload_n 2, 1) := oq_28 (bq_in kqX10_of_0 26 rfl)
theorem dX10_of_27 : decode cX10_of 27 = .ok (.bipush 10, 2) := oq_16 (bq_in kqX10_of_0 27 rfl) (bq_in kqX10_of_0 28 rfl) rfl
theorem dX10_of_29 : decode cX10_of 29 = .ok (.if_icmp .ge 10, 3) := oq_162 (bq_in kqX10_of_0 29 rfl) (bq_in kqX10_of_0 30 rfl) (bq_in kqX10_of_0 31 rfl) rfl
theorem kqX10_of_1 : ((cX10_of.data.toList.drop 32).take 34).map UInt8.toNat = [42, 27, 28, 182, 0, 229, 172, 28, 16, 12, 162, 0, 20, 42, 27, 28, 16, 10, 160, 0, 7, 4, 167, 0, 4, 3, 182, 1, 54, 172, 42, 27, 3, 182] := by decide +kernel
theorem dX10_of_32 : decode cX10_of 32 = .ok (.aload_n 0, 1) := oq_42 (bq_in kqX10_of_1 0 rfl)
theorem dX10_of_33 : decode cX10_of 33 = .ok (.iload_n 1, 1) := oq_27 (bq_in kqX10_of_1 1 rfl)
theorem dX10_of_34 : decode cX10_of 34 = .ok (.iload_n 2, 1) := oq_28 (bq_in kqX10_of_1 2 rfl)
theorem dX10_of_35 : decode cX10_of 35 = .ok (.invokevirtual 229, 3) := oq_182 (bq_in kqX10_of_1 3 rfl) (bq_in kqX10_of_1 4 rfl) (bq_in kqX10_of_1 5 rfl) rfl
theorem dX10_of_38 : decode cX10_of 38 = .ok (.ireturn, 1) := oq_172 (bq_in kqX10_of_1 6 rfl)
theorem dX10_of_39 : decode cX10_of 39 = .ok (.iload_n 2, 1) := oq_28 (bq_in kqX10_of_1 7 rfl)
theorem dX10_of_40 : decode cX10_of 40 = .ok (.bipush 12, 2) := oq_16 (bq_in kqX10_of_1 8 rfl) (bq_in kqX10_of_1 9 rfl) rfl
theorem dX10_of_42 : decode cX10_of 42 = .ok (.if_icmp .ge 20, 3) := oq_162 (bq_in kqX10_of_1 10 rfl) (bq_in kqX10_of_1 11 rfl) (bq_in kqX10_of_1 12 rfl) rfl
theorem dX10_of_45 : decode cX10_of 45 = .ok (.aload_n 0, 1) := oq_42 (bq_in kqX10_of_1 13 rfl)
theorem dX10_of_46 : decode cX10_of 46 = .ok (.iload_n 1, 1) := oq_27 (bq_in kqX10_of_1 14 rfl)
theorem dX10_of_47 : decode cX10_of 47 = .ok (.iload_n 2, 1) := oq_28 (bq_in kqX10_of_1 15 rfl)
theorem dX10_of_48 : decode cX10_of 48 = .ok (.bipush 10, 2) := oq_16 (bq_in kqX10_of_1 16 rfl) (bq_in kqX10_of_1 17 rfl) rfl
theorem dX10_of_50 : decode cX10_of 50 = .ok (.if_icmp .ne 7, 3) := oq_160 (bq_in kqX10_of_1 18 rfl) (bq_in kqX10_of_1 19 rfl) (bq_in kqX10_of_1 20 rfl) rfl
theorem dX10_of_53 : decode cX10_of 53 = .ok (.iconst 1, 1) := oq_4 (bq_in kqX10_of_1 21 rfl)
theorem dX10_of_54 : decode cX10_of 54 = .ok (.goto 4, 3) := oq_167 (bq_in kqX10_of_1 22 rfl) (bq_in kqX10_of_1 23 rfl) (bq_in kqX10_of_1 24 rfl) rfl
theorem dX10_of_57 : decode cX10_of 57 = .ok (.iconst 0, 1) := oq_3 (bq_in kqX10_of_1 25 rfl)
theorem dX10_of_58 : decode cX10_of 58 = .ok (.invokevirtual 310, 3) := oq_182 (bq_in kqX10_of_1 26 rfl) (bq_in kqX10_of_1 27 rfl) (bq_in kqX10_of_1 28 rfl) rfl
theorem dX10_of_61 : decode cX10_of 61 = .ok (.ireturn, 1) := oq_172 (bq_in kqX10_of_1 29 rfl)
theorem dX10_of_62 : decode cX10_of 62 = .ok (.aload_n 0, 1) := oq_42 (bq_in kqX10_of_1 30 rfl)
theorem dX10_of_63 : decode cX10_of 63 = .ok (.iload_n 1, 1) := oq_27 (bq_in kqX10_of_1 31 rfl)
theorem kqX10_of_2 : ((cX10_of.data.toList.drop 64).take 34).map UInt8.toNat = [3, 182, 0, 236, 62, 29, 154, 0, 7, 2, 167, 0, 26, 28, 16, 12, 160, 0, 12, 42, 180, 0, 39, 3, 46, 167, 0, 11, 42, 180, 0, 39, 29, 4] := by decide +kernel
theorem dX10_of_64 : decode cX10_of 64 = .ok (.iconst 0, 1) := oq_3 (bq_in kqX10_of_2 0 rfl)
theorem dX10_of_65 : decode cX10_of 65 = .ok (.invokevirtual 236, 3) := oq_182 (bq_in kqX10_of_2 1 rfl) (bq_in kqX10_of_2 2 rfl) (bq_in kqX10_of_2 3 rfl) rfl
theorem dX10_of_68 : decode cX10_of 68 = .ok (.istore_n 3, 1) := oq_62 (bq_in kqX10_of_2 4 rfl)
theorem dX10_of_69 : decode cX10_of 69 = .ok (.iload_n 3, 1) := oq_29 (bq_in kqX10_of_2 5 rfl)
theorem dX10_of_70 : decode cX10_of 70 = .ok (.ifCond .ne 7, 3) := oq_154 (bq_in kqX10_of_2 6 rfl) (bq_in kqX10_of_2 7 rfl) (bq_in kqX10_of_2 8 rfl) rfl
theorem dX10_of_73 : decode cX10_of 73 = .ok (.iconst (-1), 1) := oq_2 (bq_in kqX10_of_2 9 rfl)
theorem dX10_of_74 : decode cX10_of 74 = .ok (.goto 26, 3) := oq_167 (bq_in kqX10_of_2 10 rfl) (bq_in kqX10_of_2 11 rfl) (bq_in kqX10_of_2 12 rfl) rfl
theorem dX10_of_77 : decode cX10_of 77 = .ok (.iload_n 2, 1) := oq_28 (bq_in kqX10_of_2 13 rfl)
theorem dX10_of_78 : decode cX10_of 78 = .ok (.bipush 12, 2) := oq_16 (bq_in kqX10_of_2 14 rfl) (bq_in kqX10_of_2 15 rfl) rfl
theorem dX10_of_80 : decode cX10_of 80 = .ok (.if_icmp .ne 12, 3) := oq_160 (bq_in kqX10_of_2 16 rfl) (bq_in kqX10_of_2 17 rfl) (bq_in kqX10_of_2 18 rfl) rfl
theorem dX10_of_83 : decode cX10_of 83 = .ok (.aload_n 0, 1) := oq_42 (bq_in kqX10_of_2 19 rfl)
theorem dX10_of_84 : decode cX10_of 84 = .ok (.getfield 39, 3) := oq_180 (bq_in kqX10_of_2 20 rfl) (bq_in kqX10_of_2 21 rfl) (bq_in kqX10_of_2 22 rfl) rfl
theorem dX10_of_87 : decode cX10_of 87 = .ok (.iconst 0, 1) := oq_3 (bq_in kqX10_of_2 23 rfl)
theorem dX10_of_88 : decode cX10_of 88 = .ok (.iaload, 1) := oq_46 (bq_in kqX10_of_2 24 rfl)
theorem dX10_of_89 : decode cX10_of 89 = .ok (.goto 11, 3) := oq_167 (bq_in kqX10_of_2 25 rfl) (bq_in kqX10_of_2 26 rfl) (bq_in kqX10_of_2 27 rfl) rfl
theorem dX10_of_92 : decode cX10_of 92 = .ok (.aload_n 0, 1) := oq_42 (bq_in kqX10_of_2 28 rfl)
theorem dX10_of_93 : decode cX10_of 93 = .ok (.getfield 39, 3) := oq_180 (bq_in kqX10_of_2 29 rfl) (bq_in kqX10_of_2 30 rfl) (bq_in kqX10_of_2 31 rfl) rfl
theorem kqX10_of_3 : ((cX10_of.data.toList.drop 96).take 34).map UInt8.toNat = [29, 4, 100, 46, 172] := by decide +kernel
theorem dX10_of_96 : decode cX10_of 96 = .ok (.iload_n 3, 1) := oq_29 (bq_in kqX10_of_3 0 rfl)
theorem dX10_of_97 : decode cX10_of 97 = .ok (.iconst 1, 1) := oq_4 (bq_in kqX10_of_3 1 rfl)
theorem dX10_of_98 : decode cX10_of 98 = .ok (.isub, 1) := oq_100 (bq_in kqX10_of_3 2 rfl)
theorem dX10_of_99 : decode cX10_of 99 = .ok (.iaload, 1) := oq_46 (bq_in kqX10_of_3 3 rfl)
theorem dX10_of_100 : decode cX10_of 100 = .ok (.ireturn, 1) := oq_172 (bq_in kqX10_of_3 4 rfl)
theorem kqX10_image_0 : ((cX10_image.data.toList.drop 0).take 34).map UInt8.toNat = [42, 3, 181, 0, 60, 27, 3, 4, 184, 0, 65, 154, 0, 5, 3, 172, 3, 61, 28, 17, 2, 16, 162, 0, 27, 42, 180, 0, 26, 17, 2, 16, 27, 104] := by decide +kernel
theorem dX10_image_0 : decode cX10_image 0 = .ok (.aload_n 0, 1) := oq_42 (bq_in kqX10_image_0 0 rfl)
theorem dX10_image_1 : decode cX10_image 1 = .ok (.iconst 0, 1) := oq_3 (bq_in kqX10_image_0 1 rfl)
theorem dX10_image_2 : decode cX10_image 2 = .ok (.putfield 60, 3) := oq_181 (bq_in kqX10_image_0 2 rfl) (bq_in kqX10_image_0 3 rfl) (bq_in kqX10_image_0 4 rfl) rfl
theorem dX10_image_5 : decode cX10_image 5 = .ok (.iload_n 1, 1) := oq_27 (bq_in kqX10_image_0 5 rfl)
theorem dX10_image_6 : decode cX10_image 6 = .ok (.iconst 0, 1) := oq_3 (bq_in kqX10_image_0 6 rfl)
theorem dX10_image_7 : decode cX10_image 7 = .ok (.iconst 1, 1) := oq_4 (bq_in kqX10_image_0 7 rfl)
theorem dX10_image_8 : decode cX10_image 8 = .ok (.invokestatic 65, 3) := oq_184 (bq_in kqX10_image_0 8 rfl) (bq_in kqX10_image_0 9 rfl) (bq_in kqX10_image_0 10 rfl) rfl
theorem dX10_image_11 : decode cX10_image 11 = .ok (.ifCond .ne 5, 3) := oq_154 (bq_in kqX10_image_0 11 rfl) (bq_in kqX10_image_0 12 rfl) (bq_in kqX10_image_0 13 rfl) rfl
theorem dX10_image_14 : decode cX10_image 14 = .ok (.iconst 0, 1) := oq_3 (bq_in kqX10_image_0 14 rfl)
theorem dX10_image_15 : decode cX10_image 15 = .ok (.ireturn, 1) := oq_172 (bq_in kqX10_image_0 15 rfl)
theorem dX10_image_16 : decode cX10_image 16 = .ok (.iconst 0, 1) := oq_3 (bq_in kqX10_image_0 16 rfl)
theorem dX10_image_17 : decode cX10_image 17 = .ok (.istore_n 2, 1) := oq_61 (bq_in kqX10_image_0 17 rfl)
theorem dX10_image_18 : decode cX10_image 18 = .ok (.iload_n 2, 1) := oq_28 (bq_in kqX10_image_0 18 rfl)
theorem dX10_image_19 : decode cX10_image 19 = .ok (.sipush 528, 3) := oq_17 (bq_in kqX10_image_0 19 rfl) (bq_in kqX10_image_0 20 rfl) (bq_in kqX10_image_0 21 rfl) rfl
theorem dX10_image_22 : decode cX10_image 22 = .ok (.if_icmp .ge 27, 3) := oq_162 (bq_in kqX10_image_0 22 rfl) (bq_in kqX10_image_0 23 rfl) (bq_in kqX10_image_0 24 rfl) rfl
theorem dX10_image_25 : decode cX10_image 25 = .ok (.aload_n 0, 1) := oq_42 (bq_in kqX10_image_0 25 rfl)
theorem dX10_image_26 : decode cX10_image 26 = .ok (.getfield 26, 3) := oq_180 (bq_in kqX10_image_0 26 rfl) (bq_in kqX10_image_0 27 rfl) (bq_in kqX10_image_0 28 rfl) rfl
theorem dX10_image_29 : decode cX10_image 29 = .ok (.sipush 528, 3) := oq_17 (bq_in kqX10_image_0 29 rfl) (bq_in kqX10_image_0 30 rfl) (bq_in kqX10_image_0 31 rfl) rfl
theorem kqX10_image_1 : ((cX10_image.data.toList.drop 32).take 34).map UInt8.toNat = [27, 104, 28, 96, 42, 180, 0, 23, 28, 46, 79, 132, 2, 1, 167, 255, 228, 42, 180, 0, 29, 27, 42, 180, 0, 70, 79, 4, 172] := by decide +kernel
theorem dX10_image_32 : decode cX10_image 32 = .ok (.iload_n 1, 1) := oq_27 (bq_in kqX10_image_1 0 rfl)
theorem dX10_image_33 : decode cX10_image 33 = .ok (.imul, 1) := oq_104 (bq_in kqX10_image_1 1 rfl)
theorem dX10_image_34 : decode cX10_image 34 = .ok (.iload_n 2, 1) := oq_28 (bq_in kqX10_image_1 2 rfl)
theorem dX10_image_35 : decode cX10_image 35 = .ok (.iadd, 1) := oq_96 (bq_in kqX10_image_1 3 rfl)
theorem dX10_image_36 : decode cX10_image 36 = .ok (.aload_n 0, 1) := oq_42 (bq_in kqX10_image_1 4 rfl)
theorem dX10_image_37 : decode cX10_image 37 = .ok (.getfield 23, 3) := oq_180 (bq_in kqX10_image_1 5 rfl) (bq_in kqX10_image_1 6 rfl) (bq_in kqX10_image_1 7 rfl) rfl
theorem dX10_image_40 : decode cX10_image 40 = .ok (.iload_n 2, 1) := oq_28 (bq_in kqX10_image_1 8 rfl)
theorem dX10_image_41 : decode cX10_image 41 = .ok (.iaload, 1) := oq_46 (bq_in kqX10_image_1 9 rfl)
theorem dX10_image_42 : decode cX10_image 42 = .ok (.iastore, 1) := oq_79 (bq_in kqX10_image_1 10 rfl)
theorem dX10_image_43 : decode cX10_image 43 = .ok (.iinc 2 1, 3) := oq_132 (bq_in kqX10_image_1 11 rfl) (bq_in kqX10_image_1 12 rfl) (bq_in kqX10_image_1 13 rfl) rfl
theorem dX10_image_46 : decode cX10_image 46 = .ok (.goto (-28), 3) := oq_167 (bq_in kqX10_image_1 14 rfl) (bq_in kqX10_image_1 15 rfl) (bq_in kqX10_image_1 16 rfl) rfl
theorem dX10_image_49 : decode cX10_image 49 = .ok (.aload_n 0, 1) := oq_42 (bq_in kqX10_image_1 17 rfl)
theorem dX10_image_50 : decode cX10_image 50 = .ok (.getfield 29, 3) := oq_180 (bq_in kqX10_image_1 18 rfl) (bq_in kqX10_image_1 19 rfl) (bq_in kqX10_image_1 20 rfl) rfl
theorem dX10_image_53 : decode cX10_image 53 = .ok (.iload_n 1, 1) := oq_27 (bq_in kqX10_image_1 21 rfl)
theorem dX10_image_54 : decode cX10_image 54 = .ok (.aload_n 0, 1) := oq_42 (bq_in kqX10_image_1 22 rfl)
theorem dX10_image_55 : decode cX10_image 55 = .ok (.getfield 70, 3) := oq_180 (bq_in kqX10_image_1 23 rfl) (bq_in kqX10_image_1 24 rfl) (bq_in kqX10_image_1 25 rfl) rfl
theorem dX10_image_58 : decode cX10_image 58 = .ok (.iastore, 1) := oq_79 (bq_in kqX10_image_1 26 rfl)
theorem dX10_image_59 : decode cX10_image 59 = .ok (.iconst 1, 1) := oq_4 (bq_in kqX10_image_1 27 rfl)
theorem dX10_image_60 : decode cX10_image 60 = .ok (.ireturn, 1) := oq_172 (bq_in kqX10_image_1 28 rfl)
theorem kqX10_back_0 : ((cX10_back.data.toList.drop 0).take 34).map UInt8.toNat = [42, 3, 181, 0, 60, 27, 3, 4, 184, 0, 65, 153, 0, 12, 42, 180, 0, 29, 27, 46, 156, 0, 5, 3, 172, 3, 61, 28, 17, 2, 16, 162, 0, 27] := by decide +kernel
theorem dX10_back_0 : decode cX10_back 0 = .ok (.aload_n 0, 1) := oq_42 (bq_in kqX10_back_0 0 rfl)
theorem dX10_back_1 : decode cX10_back 1 = .ok (.iconst 0, 1) := oq_3 (bq_in kqX10_back_0 1 rfl)
theorem dX10_back_2 : decode cX10_back 2 = .ok (.putfield 60, 3) := oq_181 (bq_in kqX10_back_0 2 rfl) (bq_in kqX10_back_0 3 rfl) (bq_in kqX10_back_0 4 rfl) rfl
theorem dX10_back_5 : decode cX10_back 5 = .ok (.iload_n 1, 1) := oq_27 (bq_in kqX10_back_0 5 rfl)
theorem dX10_back_6 : decode cX10_back 6 = .ok (.iconst 0, 1) := oq_3 (bq_in kqX10_back_0 6 rfl)
theorem dX10_back_7 : decode cX10_back 7 = .ok (.iconst 1, 1) := oq_4 (bq_in kqX10_back_0 7 rfl)
theorem dX10_back_8 : decode cX10_back 8 = .ok (.invokestatic 65, 3) := oq_184 (bq_in kqX10_back_0 8 rfl) (bq_in kqX10_back_0 9 rfl) (bq_in kqX10_back_0 10 rfl) rfl
theorem dX10_back_11 : decode cX10_back 11 = .ok (.ifCond .eq 12, 3) := oq_153 (bq_in kqX10_back_0 11 rfl) (bq_in kqX10_back_0 12 rfl) (bq_in kqX10_back_0 13 rfl) rfl
theorem dX10_back_14 : decode cX10_back 14 = .ok (.aload_n 0, 1) := oq_42 (bq_in kqX10_back_0 14 rfl)
theorem dX10_back_15 : decode cX10_back 15 = .ok (.getfield 29, 3) := oq_180 (bq_in kqX10_back_0 15 rfl) (bq_in kqX10_back_0 16 rfl) (bq_in kqX10_back_0 17 rfl) rfl
theorem dX10_back_18 : decode cX10_back 18 = .ok (.iload_n 1, 1) := oq_27 (bq_in kqX10_back_0 18 rfl)
theorem dX10_back_19 : decode cX10_back 19 = .ok (.iaload, 1) := oq_46 (bq_in kqX10_back_0 19 rfl)
theorem dX10_back_20 : decode cX10_back 20 = .ok (.ifCond .ge 5, 3) := oq_156 (bq_in kqX10_back_0 20 rfl) (bq_in kqX10_back_0 21 rfl) (bq_in kqX10_back_0 22 rfl) rfl
theorem dX10_back_23 : decode cX10_back 23 = .ok (.iconst 0, 1) := oq_3 (bq_in kqX10_back_0 23 rfl)
theorem dX10_back_24 : decode cX10_back 24 = .ok (.ireturn, 1) := oq_172 (bq_in kqX10_back_0 24 rfl)
theorem dX10_back_25 : decode cX10_back 25 = .ok (.iconst 0, 1) := oq_3 (bq_in kqX10_back_0 25 rfl)
theorem dX10_back_26 : decode cX10_back 26 = .ok (.istore_n 2, 1) := oq_61 (bq_in kqX10_back_0 26 rfl)
theorem dX10_back_27 : decode cX10_back 27 = .ok (.iload_n 2, 1) := oq_28 (bq_in kqX10_back_0 27 rfl)
theorem dX10_back_28 : decode cX10_back 28 = .ok (.sipush 528, 3) := oq_17 (bq_in kqX10_back_0 28 rfl) (bq_in kqX10_back_0 29 rfl) (bq_in kqX10_back_0 30 rfl) rfl
theorem dX10_back_31 : decode cX10_back 31 = .ok (.if_icmp .ge 27, 3) := oq_162 (bq_in kqX10_back_0 31 rfl) (bq_in kqX10_back_0 32 rfl) (bq_in kqX10_back_0 33 rfl) rfl
theorem kqX10_back_1 : ((cX10_back.data.toList.drop 32).take 34).map UInt8.toNat = [0, 27, 42, 180, 0, 23, 28, 42, 180, 0, 26, 17, 2, 16, 27, 104, 28, 96, 46, 79, 132, 2, 1, 167, 255, 228, 42, 42, 180, 0, 29, 27, 46, 181] := by decide +kernel
theorem dX10_back_34 : decode cX10_back 34 = .ok (.aload_n 0, 1) := oq_42 (bq_in kqX10_back_1 2 rfl)
theorem dX10_back_35 : decode cX10_back 35 = .ok (.getfield 23, 3) := oq_180 (bq_in kqX10_back_1 3 rfl) (bq_in kqX10_back_1 4 rfl) (bq_in kqX10_back_1 5 rfl) rfl
theorem dX10_back_38 : decode cX10_back 38 = .ok (.iload_n 2, 1) := oq_28 (bq_in kqX10_back_1 6 rfl)
theorem dX10_back_39 : decode cX10_back 39 = .ok (.aload_n 0, 1) := oq_42 (bq_in kqX10_back_1 7 rfl)
theorem dX10_back_40 : decode cX10_back 40 = .ok (.getfield 26, 3) := oq_180 (bq_in kqX10_back_1 8 rfl) (bq_in kqX10_back_1 9 rfl) (bq_in kqX10_back_1 10 rfl) rfl
theorem dX10_back_43 : decode cX10_back 43 = .ok (.sipush 528, 3) := oq_17 (bq_in kqX10_back_1 11 rfl) (bq_in kqX10_back_1 12 rfl) (bq_in kqX10_back_1 13 rfl) rfl
theorem dX10_back_46 : decode cX10_back 46 = .ok (.iload_n 1, 1) := oq_27 (bq_in kqX10_back_1 14 rfl)
theorem dX10_back_47 : decode cX10_back 47 = .ok (.imul, 1) := oq_104 (bq_in kqX10_back_1 15 rfl)
theorem dX10_back_48 : decode cX10_back 48 = .ok (.iload_n 2, 1) := oq_28 (bq_in kqX10_back_1 16 rfl)
theorem dX10_back_49 : decode cX10_back 49 = .ok (.iadd, 1) := oq_96 (bq_in kqX10_back_1 17 rfl)
theorem dX10_back_50 : decode cX10_back 50 = .ok (.iaload, 1) := oq_46 (bq_in kqX10_back_1 18 rfl)
theorem dX10_back_51 : decode cX10_back 51 = .ok (.iastore, 1) := oq_79 (bq_in kqX10_back_1 19 rfl)
theorem dX10_back_52 : decode cX10_back 52 = .ok (.iinc 2 1, 3) := oq_132 (bq_in kqX10_back_1 20 rfl) (bq_in kqX10_back_1 21 rfl) (bq_in kqX10_back_1 22 rfl) rfl
theorem dX10_back_55 : decode cX10_back 55 = .ok (.goto (-28), 3) := oq_167 (bq_in kqX10_back_1 23 rfl) (bq_in kqX10_back_1 24 rfl) (bq_in kqX10_back_1 25 rfl) rfl
theorem dX10_back_58 : decode cX10_back 58 = .ok (.aload_n 0, 1) := oq_42 (bq_in kqX10_back_1 26 rfl)
theorem dX10_back_59 : decode cX10_back 59 = .ok (.aload_n 0, 1) := oq_42 (bq_in kqX10_back_1 27 rfl)
theorem dX10_back_60 : decode cX10_back 60 = .ok (.getfield 29, 3) := oq_180 (bq_in kqX10_back_1 28 rfl) (bq_in kqX10_back_1 29 rfl) (bq_in kqX10_back_1 30 rfl) rfl
theorem dX10_back_63 : decode cX10_back 63 = .ok (.iload_n 1, 1) := oq_27 (bq_in kqX10_back_1 31 rfl)
theorem kqX10_back_2 : ((cX10_back.data.toList.drop 64).take 34).map UInt8.toNat = [46, 181, 0, 70, 4, 172] := by decide +kernel
theorem dX10_back_64 : decode cX10_back 64 = .ok (.iaload, 1) := oq_46 (bq_in kqX10_back_2 0 rfl)
theorem dX10_back_65 : decode cX10_back 65 = .ok (.putfield 70, 3) := oq_181 (bq_in kqX10_back_2 1 rfl) (bq_in kqX10_back_2 2 rfl) (bq_in kqX10_back_2 3 rfl) rfl
theorem dX10_back_68 : decode cX10_back 68 = .ok (.iconst 1, 1) := oq_4 (bq_in kqX10_back_2 4 rfl)
theorem dX10_back_69 : decode cX10_back 69 = .ok (.ireturn, 1) := oq_172 (bq_in kqX10_back_2 5 rfl)
theorem kqX10_told_0 : ((cX10_told.data.toList.drop 0).take 34).map UInt8.toNat = [42, 3, 181, 0, 60, 27, 170, 0, 0, 0, 0, 101, 0, 0, 0, 0, 0, 0, 0, 3, 0, 0, 0, 30, 0, 0, 0, 35, 0, 0, 0, 40, 0, 0] := by decide +kernel
theorem dX10_told_0 : decode cX10_told 0 = .ok (.aload_n 0, 1) := oq_42 (bq_in kqX10_told_0 0 rfl)
theorem dX10_told_1 : decode cX10_told 1 = .ok (.iconst 0, 1) := oq_3 (bq_in kqX10_told_0 1 rfl)
theorem dX10_told_2 : decode cX10_told 2 = .ok (.putfield 60, 3) := oq_181 (bq_in kqX10_told_0 2 rfl) (bq_in kqX10_told_0 3 rfl) (bq_in kqX10_told_0 4 rfl) rfl
theorem dX10_told_5 : decode cX10_told 5 = .ok (.iload_n 1, 1) := oq_27 (bq_in kqX10_told_0 5 rfl)
theorem dX10_told_6 : decode cX10_told 6 = .ok (.tableswitch 101 0 3 #[30, 35, 40, 71], 30) := by decide +kernel
theorem kqX10_told_1 : ((cX10_told.data.toList.drop 32).take 34).map UInt8.toNat = [0, 0, 0, 71, 42, 180, 0, 70, 172, 42, 180, 0, 73, 172, 3, 61, 3, 62, 29, 42, 180, 0, 70, 162, 0, 20, 28, 4, 42, 29, 3, 182, 0, 229] := by decide +kernel
theorem dX10_told_36 : decode cX10_told 36 = .ok (.aload_n 0, 1) := oq_42 (bq_in kqX10_told_1 4 rfl)
theorem dX10_told_37 : decode cX10_told 37 = .ok (.getfield 70, 3) := oq_180 (bq_in kqX10_told_1 5 rfl) (bq_in kqX10_told_1 6 rfl) (bq_in kqX10_told_1 7 rfl) rfl
theorem dX10_told_40 : decode cX10_told 40 = .ok (.ireturn, 1) := oq_172 (bq_in kqX10_told_1 8 rfl)
theorem dX10_told_41 : decode cX10_told 41 = .ok (.aload_n 0, 1) := oq_42 (bq_in kqX10_told_1 9 rfl)
theorem dX10_told_42 : decode cX10_told 42 = .ok (.getfield 73, 3) := oq_180 (bq_in kqX10_told_1 10 rfl) (bq_in kqX10_told_1 11 rfl) (bq_in kqX10_told_1 12 rfl) rfl
theorem dX10_told_45 : decode cX10_told 45 = .ok (.ireturn, 1) := oq_172 (bq_in kqX10_told_1 13 rfl)
theorem dX10_told_46 : decode cX10_told 46 = .ok (.iconst 0, 1) := oq_3 (bq_in kqX10_told_1 14 rfl)
theorem dX10_told_47 : decode cX10_told 47 = .ok (.istore_n 2, 1) := oq_61 (bq_in kqX10_told_1 15 rfl)
theorem dX10_told_48 : decode cX10_told 48 = .ok (.iconst 0, 1) := oq_3 (bq_in kqX10_told_1 16 rfl)
theorem dX10_told_49 : decode cX10_told 49 = .ok (.istore_n 3, 1) := oq_62 (bq_in kqX10_told_1 17 rfl)
theorem dX10_told_50 : decode cX10_told 50 = .ok (.iload_n 3, 1) := oq_29 (bq_in kqX10_told_1 18 rfl)
theorem dX10_told_51 : decode cX10_told 51 = .ok (.aload_n 0, 1) := oq_42 (bq_in kqX10_told_1 19 rfl)
theorem dX10_told_52 : decode cX10_told 52 = .ok (.getfield 70, 3) := oq_180 (bq_in kqX10_told_1 20 rfl) (bq_in kqX10_told_1 21 rfl) (bq_in kqX10_told_1 22 rfl) rfl
theorem dX10_told_55 : decode cX10_told 55 = .ok (.if_icmp .ge 20, 3) := oq_162 (bq_in kqX10_told_1 23 rfl) (bq_in kqX10_told_1 24 rfl) (bq_in kqX10_told_1 25 rfl) rfl
theorem dX10_told_58 : decode cX10_told 58 = .ok (.iload_n 2, 1) := oq_28 (bq_in kqX10_told_1 26 rfl)
theorem dX10_told_59 : decode cX10_told 59 = .ok (.iconst 1, 1) := oq_4 (bq_in kqX10_told_1 27 rfl)
theorem dX10_told_60 : decode cX10_told 60 = .ok (.aload_n 0, 1) := oq_42 (bq_in kqX10_told_1 28 rfl)
theorem dX10_told_61 : decode cX10_told 61 = .ok (.iload_n 3, 1) := oq_29 (bq_in kqX10_told_1 29 rfl)
theorem dX10_told_62 : decode cX10_told 62 = .ok (.iconst 0, 1) := oq_3 (bq_in kqX10_told_1 30 rfl)
theorem dX10_told_63 : decode cX10_told 63 = .ok (.invokevirtual 229, 3) := oq_182 (bq_in kqX10_told_1 31 rfl) (bq_in kqX10_told_1 32 rfl) (bq_in kqX10_told_1 33 rfl) rfl
theorem kqX10_told_2 : ((cX10_told.data.toList.drop 64).take 34).map UInt8.toNat = [0, 229, 120, 128, 61, 132, 3, 1, 167, 255, 234, 28, 172, 42, 180, 0, 29, 3, 46, 156, 0, 7, 3, 167, 0, 4, 4, 42, 180, 0, 29, 4, 46, 156] := by decide +kernel
theorem dX10_told_66 : decode cX10_told 66 = .ok (.ishl, 1) := oq_120 (bq_in kqX10_told_2 2 rfl)
theorem dX10_told_67 : decode cX10_told 67 = .ok (.ior, 1) := oq_128 (bq_in kqX10_told_2 3 rfl)
theorem dX10_told_68 : decode cX10_told 68 = .ok (.istore_n 2, 1) := oq_61 (bq_in kqX10_told_2 4 rfl)
theorem dX10_told_69 : decode cX10_told 69 = .ok (.iinc 3 1, 3) := oq_132 (bq_in kqX10_told_2 5 rfl) (bq_in kqX10_told_2 6 rfl) (bq_in kqX10_told_2 7 rfl) rfl
theorem dX10_told_72 : decode cX10_told 72 = .ok (.goto (-22), 3) := oq_167 (bq_in kqX10_told_2 8 rfl) (bq_in kqX10_told_2 9 rfl) (bq_in kqX10_told_2 10 rfl) rfl
theorem dX10_told_75 : decode cX10_told 75 = .ok (.iload_n 2, 1) := oq_28 (bq_in kqX10_told_2 11 rfl)
theorem dX10_told_76 : decode cX10_told 76 = .ok (.ireturn, 1) := oq_172 (bq_in kqX10_told_2 12 rfl)
theorem dX10_told_77 : decode cX10_told 77 = .ok (.aload_n 0, 1) := oq_42 (bq_in kqX10_told_2 13 rfl)
theorem dX10_told_78 : decode cX10_told 78 = .ok (.getfield 29, 3) := oq_180 (bq_in kqX10_told_2 14 rfl) (bq_in kqX10_told_2 15 rfl) (bq_in kqX10_told_2 16 rfl) rfl
theorem dX10_told_81 : decode cX10_told 81 = .ok (.iconst 0, 1) := oq_3 (bq_in kqX10_told_2 17 rfl)
theorem dX10_told_82 : decode cX10_told 82 = .ok (.iaload, 1) := oq_46 (bq_in kqX10_told_2 18 rfl)
theorem dX10_told_83 : decode cX10_told 83 = .ok (.ifCond .ge 7, 3) := oq_156 (bq_in kqX10_told_2 19 rfl) (bq_in kqX10_told_2 20 rfl) (bq_in kqX10_told_2 21 rfl) rfl
theorem dX10_told_86 : decode cX10_told 86 = .ok (.iconst 0, 1) := oq_3 (bq_in kqX10_told_2 22 rfl)
theorem dX10_told_87 : decode cX10_told 87 = .ok (.goto 4, 3) := oq_167 (bq_in kqX10_told_2 23 rfl) (bq_in kqX10_told_2 24 rfl) (bq_in kqX10_told_2 25 rfl) rfl
theorem dX10_told_90 : decode cX10_told 90 = .ok (.iconst 1, 1) := oq_4 (bq_in kqX10_told_2 26 rfl)
theorem dX10_told_91 : decode cX10_told 91 = .ok (.aload_n 0, 1) := oq_42 (bq_in kqX10_told_2 27 rfl)
theorem dX10_told_92 : decode cX10_told 92 = .ok (.getfield 29, 3) := oq_180 (bq_in kqX10_told_2 28 rfl) (bq_in kqX10_told_2 29 rfl) (bq_in kqX10_told_2 30 rfl) rfl
theorem dX10_told_95 : decode cX10_told 95 = .ok (.iconst 1, 1) := oq_4 (bq_in kqX10_told_2 31 rfl)
theorem kqX10_told_3 : ((cX10_told.data.toList.drop 96).take 34).map UInt8.toNat = [46, 156, 0, 7, 3, 167, 0, 4, 5, 96, 172, 2, 172] := by decide +kernel
theorem dX10_told_96 : decode cX10_told 96 = .ok (.iaload, 1) := oq_46 (bq_in kqX10_told_3 0 rfl)
theorem dX10_told_97 : decode cX10_told 97 = .ok (.ifCond .ge 7, 3) := oq_156 (bq_in kqX10_told_3 1 rfl) (bq_in kqX10_told_3 2 rfl) (bq_in kqX10_told_3 3 rfl) rfl
theorem dX10_told_100 : decode cX10_told 100 = .ok (.iconst 0, 1) := oq_3 (bq_in kqX10_told_3 4 rfl)
theorem dX10_told_101 : decode cX10_told 101 = .ok (.goto 4, 3) := oq_167 (bq_in kqX10_told_3 5 rfl) (bq_in kqX10_told_3 6 rfl) (bq_in kqX10_told_3 7 rfl) rfl
theorem dX10_told_104 : decode cX10_told 104 = .ok (.iconst 2, 1) := oq_5 (bq_in kqX10_told_3 8 rfl)
theorem dX10_told_105 : decode cX10_told 105 = .ok (.iadd, 1) := oq_96 (bq_in kqX10_told_3 9 rfl)
theorem dX10_told_106 : decode cX10_told 106 = .ok (.ireturn, 1) := oq_172 (bq_in kqX10_told_3 10 rfl)
theorem dX10_told_107 : decode cX10_told 107 = .ok (.iconst (-1), 1) := oq_2 (bq_in kqX10_told_3 11 rfl)
theorem dX10_told_108 : decode cX10_told 108 = .ok (.ireturn, 1) := oq_172 (bq_in kqX10_told_3 12 rfl)
