theorem kqX9_init_0 : ((cX9_init.data.toList.drop 0).take 34).map UInt8.toNat = [42, 183, 0, 3, 42, 17, 0, 168, 188, 5, 181, 0, 9, 42, 3, 181, 0, 13, 42, 187, 0, 17, 89, 183, 0, 19, 181, 0, 20, 42, 5, 189, 0, 17] := by decide +kernel
theorem dX9_init_0 : decode cX9_init 0 = .ok (.aload_n 0, 1) := oq_42 (bq_in kqX9_init_0 0 rfl)
theorem dX9_init_1 : decode cX9_init 1 = .ok (.invokespecial 3, 3) := oq_183 (bq_in kqX9_init_0 1 rfl) (bq_in kqX9_init_0 2 rfl) (bq_in kqX9_init_0 3 rfl) rfl
theorem dX9_init_4 : decode cX9_init 4 = .ok (.aload_n 0, 1) := oq_42 (bq_in kqX9_init_0 4 rfl)
theorem dX9_init_5 : decode cX9_init 5 = .ok (.sipush 168, 3) := oq_17 (bq_in kqX9_init_0 5 rfl) (bq_in kqX9_init_0 6 rfl) (bq_in kqX9_init_0 7 rfl) rfl
theorem dX9_init_8 : decode cX9_init 8 = .ok (.newarray .char, 2) := by decide +kernel
theorem dX9_init_10 : decode cX9_init 10 = .ok (.putfield 9, 3) := oq_181 (bq_in kqX9_init_0 10 rfl) (bq_in kqX9_init_0 11 rfl) (bq_in kqX9_init_0 12 rfl) rfl
theorem dX9_init_13 : decode cX9_init 13 = .ok (.aload_n 0, 1) := oq_42 (bq_in kqX9_init_0 13 rfl)
theorem dX9_init_14 : decode cX9_init 14 = .ok (.iconst 0, 1) := oq_3 (bq_in kqX9_init_0 14 rfl)
theorem dX9_init_15 : decode cX9_init 15 = .ok (.putfield 13, 3) := oq_181 (bq_in kqX9_init_0 15 rfl) (bq_in kqX9_init_0 16 rfl) (bq_in kqX9_init_0 17 rfl) rfl
theorem dX9_init_18 : decode cX9_init 18 = .ok (.aload_n 0, 1) := oq_42 (bq_in kqX9_init_0 18 rfl)
theorem dX9_init_19 : decode cX9_init 19 = .ok (.new 17, 3) := oq_187 (bq_in kqX9_init_0 19 rfl) (bq_in kqX9_init_0 20 rfl) (bq_in kqX9_init_0 21 rfl) rfl
theorem dX9_init_22 : decode cX9_init 22 = .ok (.dup, 1) := oq_89 (bq_in kqX9_init_0 22 rfl)
theorem dX9_init_23 : decode cX9_init 23 = .ok (.invokespecial 19, 3) := oq_183 (bq_in kqX9_init_0 23 rfl) (bq_in kqX9_init_0 24 rfl) (bq_in kqX9_init_0 25 rfl) rfl
theorem dX9_init_26 : decode cX9_init 26 = .ok (.putfield 20, 3) := oq_181 (bq_in kqX9_init_0 26 rfl) (bq_in kqX9_init_0 27 rfl) (bq_in kqX9_init_0 28 rfl) rfl
theorem dX9_init_29 : decode cX9_init 29 = .ok (.aload_n 0, 1) := oq_42 (bq_in kqX9_init_0 29 rfl)
theorem dX9_init_30 : decode cX9_init 30 = .ok (.iconst 2, 1) := oq_5 (bq_in kqX9_init_0 30 rfl)
theorem dX9_init_31 : decode cX9_init 31 = .ok (.anewarray 17, 3) := oq_189 (bq_in kqX9_init_0 31 rfl) (bq_in kqX9_init_0 32 rfl) (bq_in kqX9_init_0 33 rfl) rfl
theorem kqX9_init_1 : ((cX9_init.data.toList.drop 32).take 34).map UInt8.toNat = [0, 17, 181, 0, 24, 177] := by decide +kernel
theorem dX9_init_34 : decode cX9_init 34 = .ok (.putfield 24, 3) := oq_181 (bq_in kqX9_init_1 2 rfl) (bq_in kqX9_init_1 3 rfl) (bq_in kqX9_init_1 4 rfl) rfl
theorem dX9_init_37 : decode cX9_init 37 = .ok (.return_, 1) := oq_177 (bq_in kqX9_init_1 5 rfl)
theorem kqX9_feed_0 : ((cX9_feed.data.toList.drop 0).take 34).map UInt8.toNat = [42, 180, 0, 13, 16, 24, 96, 17, 0, 168, 164, 0, 5, 2, 172, 42, 31, 182, 0, 28, 42, 33, 182, 0, 28, 42, 22, 5, 182, 0, 28, 42, 180, 0] := by decide +kernel
theorem dX9_feed_0 : decode cX9_feed 0 = .ok (.aload_n 0, 1) := oq_42 (bq_in kqX9_feed_0 0 rfl)
theorem dX9_feed_1 : decode cX9_feed 1 = .ok (.getfield 13, 3) := oq_180 (bq_in kqX9_feed_0 1 rfl) (bq_in kqX9_feed_0 2 rfl) (bq_in kqX9_feed_0 3 rfl) rfl
theorem dX9_feed_4 : decode cX9_feed 4 = .ok (.bipush 24, 2) := oq_16 (bq_in kqX9_feed_0 4 rfl) (bq_in kqX9_feed_0 5 rfl) rfl
theorem dX9_feed_6 : decode cX9_feed 6 = .ok (.iadd, 1) := oq_96 (bq_in kqX9_feed_0 6 rfl)
theorem dX9_feed_7 : decode cX9_feed 7 = .ok (.sipush 168, 3) := oq_17 (bq_in kqX9_feed_0 7 rfl) (bq_in kqX9_feed_0 8 rfl) (bq_in kqX9_feed_0 9 rfl) rfl
theorem dX9_feed_10 : decode cX9_feed 10 = .ok (.if_icmp .le 5, 3) := oq_164 (bq_in kqX9_feed_0 10 rfl) (bq_in kqX9_feed_0 11 rfl) (bq_in kqX9_feed_0 12 rfl) rfl
theorem dX9_feed_13 : decode cX9_feed 13 = .ok (.iconst (-1), 1) := oq_2 (bq_in kqX9_feed_0 13 rfl)
theorem dX9_feed_14 : decode cX9_feed 14 = .ok (.ireturn, 1) := oq_172 (bq_in kqX9_feed_0 14 rfl)
theorem dX9_feed_15 : decode cX9_feed 15 = .ok (.aload_n 0, 1) := oq_42 (bq_in kqX9_feed_0 15 rfl)
theorem dX9_feed_16 : decode cX9_feed 16 = .ok (.lload_n 1, 1) := oq_31 (bq_in kqX9_feed_0 16 rfl)
theorem dX9_feed_17 : decode cX9_feed 17 = .ok (.invokevirtual 28, 3) := oq_182 (bq_in kqX9_feed_0 17 rfl) (bq_in kqX9_feed_0 18 rfl) (bq_in kqX9_feed_0 19 rfl) rfl
theorem dX9_feed_20 : decode cX9_feed 20 = .ok (.aload_n 0, 1) := oq_42 (bq_in kqX9_feed_0 20 rfl)
theorem dX9_feed_21 : decode cX9_feed 21 = .ok (.lload_n 3, 1) := oq_33 (bq_in kqX9_feed_0 21 rfl)
theorem dX9_feed_22 : decode cX9_feed 22 = .ok (.invokevirtual 28, 3) := oq_182 (bq_in kqX9_feed_0 22 rfl) (bq_in kqX9_feed_0 23 rfl) (bq_in kqX9_feed_0 24 rfl) rfl
theorem dX9_feed_25 : decode cX9_feed 25 = .ok (.aload_n 0, 1) := oq_42 (bq_in kqX9_feed_0 25 rfl)
theorem dX9_feed_26 : decode cX9_feed 26 = .ok (.lload 5, 2) := oq_22 (bq_in kqX9_feed_0 26 rfl) (bq_in kqX9_feed_0 27 rfl)
theorem dX9_feed_28 : decode cX9_feed 28 = .ok (.invokevirtual 28, 3) := oq_182 (bq_in kqX9_feed_0 28 rfl) (bq_in kqX9_feed_0 29 rfl) (bq_in kqX9_feed_0 30 rfl) rfl
theorem dX9_feed_31 : decode cX9_feed 31 = .ok (.aload_n 0, 1) := oq_42 (bq_in kqX9_feed_0 31 rfl)
theorem kqX9_feed_1 : ((cX9_feed.data.toList.drop 32).take 34).map UInt8.toNat = [180, 0, 13, 172] := by decide +kernel
theorem dX9_feed_32 : decode cX9_feed 32 = .ok (.getfield 13, 3) := oq_180 (bq_in kqX9_feed_1 0 rfl) (bq_in kqX9_feed_1 1 rfl) (bq_in kqX9_feed_1 2 rfl) rfl
theorem dX9_feed_35 : decode cX9_feed 35 = .ok (.ireturn, 1) := oq_172 (bq_in kqX9_feed_1 3 rfl)
theorem kqX9_end_0 : ((cX9_end.data.toList.drop 0).take 34).map UInt8.toNat = [27, 155, 0, 11, 27, 42, 180, 0, 13, 164, 0, 5, 2, 172, 42, 27, 181, 0, 13, 27, 172] := by decide +kernel
theorem dX9_end_0 : decode cX9_end 0 = .ok (.iload_n 1, 1) := oq_27 (bq_in kqX9_end_0 0 rfl)
theorem dX9_end_1 : decode cX9_end 1 = .ok (.ifCond .lt 11, 3) := oq_155 (bq_in kqX9_end_0 1 rfl) (bq_in kqX9_end_0 2 rfl) (bq_in kqX9_end_0 3 rfl) rfl
theorem dX9_end_4 : decode cX9_end 4 = .ok (.iload_n 1, 1) := oq_27 (bq_in kqX9_end_0 4 rfl)
theorem dX9_end_5 : decode cX9_end 5 = .ok (.aload_n 0, 1) := oq_42 (bq_in kqX9_end_0 5 rfl)
theorem dX9_end_6 : decode cX9_end 6 = .ok (.getfield 13, 3) := oq_180 (bq_in kqX9_end_0 6 rfl) (bq_in kqX9_end_0 7 rfl) (bq_in kqX9_end_0 8 rfl) rfl
theorem dX9_end_9 : decode cX9_end 9 = .ok (.if_icmp .le 5, 3) := oq_164 (bq_in kqX9_end_0 9 rfl) (bq_in kqX9_end_0 10 rfl) (bq_in kqX9_end_0 11 rfl) rfl
theorem dX9_end_12 : decode cX9_end 12 = .ok (.iconst (-1), 1) := oq_2 (bq_in kqX9_end_0 12 rfl)
theorem dX9_end_13 : decode cX9_end 13 = .ok (.ireturn, 1) := oq_172 (bq_in kqX9_end_0 13 rfl)
theorem dX9_end_14 : decode cX9_end 14 = .ok (.aload_n 0, 1) := oq_42 (bq_in kqX9_end_0 14 rfl)
theorem dX9_end_15 : decode cX9_end 15 = .ok (.iload_n 1, 1) := oq_27 (bq_in kqX9_end_0 15 rfl)
theorem dX9_end_16 : decode cX9_end 16 = .ok (.putfield 13, 3) := oq_181 (bq_in kqX9_end_0 16 rfl) (bq_in kqX9_end_0 17 rfl) (bq_in kqX9_end_0 18 rfl) rfl
theorem dX9_end_19 : decode cX9_end 19 = .ok (.iload_n 1, 1) := oq_27 (bq_in kqX9_end_0 19 rfl)
theorem dX9_end_20 : decode cX9_end 20 = .ok (.ireturn, 1) := oq_172 (bq_in kqX9_end_0 20 rfl)
theorem kqX9_book_0 : ((cX9_book.data.toList.drop 0).take 34).map UInt8.toNat = [42, 180, 0, 13, 60, 42, 3, 181, 0, 13, 27, 17, 0, 160, 163, 0, 13, 42, 180, 0, 20, 182, 0, 32, 153, 0, 5, 2, 172, 187, 0, 36, 89, 42] := by decide +kernel
theorem dX9_book_0 : decode cX9_book 0 = .ok (.aload_n 0, 1) := oq_42 (bq_in kqX9_book_0 0 rfl)
theorem dX9_book_1 : decode cX9_book 1 = .ok (.getfield 13, 3) := oq_180 (bq_in kqX9_book_0 1 rfl) (bq_in kqX9_book_0 2 rfl) (bq_in kqX9_book_0 3 rfl) rfl
theorem dX9_book_4 : decode cX9_book 4 = .ok (.istore_n 1, 1) := oq_60 (bq_in kqX9_book_0 4 rfl)
theorem dX9_book_5 : decode cX9_book 5 = .ok (.aload_n 0, 1) := oq_42 (bq_in kqX9_book_0 5 rfl)
theorem dX9_book_6 : decode cX9_book 6 = .ok (.iconst 0, 1) := oq_3 (bq_in kqX9_book_0 6 rfl)
theorem dX9_book_7 : decode cX9_book 7 = .ok (.putfield 13, 3) := oq_181 (bq_in kqX9_book_0 7 rfl) (bq_in kqX9_book_0 8 rfl) (bq_in kqX9_book_0 9 rfl) rfl
theorem dX9_book_10 : decode cX9_book 10 = .ok (.iload_n 1, 1) := oq_27 (bq_in kqX9_book_0 10 rfl)
theorem dX9_book_11 : decode cX9_book 11 = .ok (.sipush 160, 3) := oq_17 (bq_in kqX9_book_0 11 rfl) (bq_in kqX9_book_0 12 rfl) (bq_in kqX9_book_0 13 rfl) rfl
theorem dX9_book_14 : decode cX9_book 14 = .ok (.if_icmp .gt 13, 3) := oq_163 (bq_in kqX9_book_0 14 rfl) (bq_in kqX9_book_0 15 rfl) (bq_in kqX9_book_0 16 rfl) rfl
theorem dX9_book_17 : decode cX9_book 17 = .ok (.aload_n 0, 1) := oq_42 (bq_in kqX9_book_0 17 rfl)
theorem dX9_book_18 : decode cX9_book 18 = .ok (.getfield 20, 3) := oq_180 (bq_in kqX9_book_0 18 rfl) (bq_in kqX9_book_0 19 rfl) (bq_in kqX9_book_0 20 rfl) rfl
theorem dX9_book_21 : decode cX9_book 21 = .ok (.invokevirtual 32, 3) := oq_182 (bq_in kqX9_book_0 21 rfl) (bq_in kqX9_book_0 22 rfl) (bq_in kqX9_book_0 23 rfl) rfl
theorem dX9_book_24 : decode cX9_book 24 = .ok (.ifCond .eq 5, 3) := oq_153 (bq_in kqX9_book_0 24 rfl) (bq_in kqX9_book_0 25 rfl) (bq_in kqX9_book_0 26 rfl) rfl
theorem dX9_book_27 : decode cX9_book 27 = .ok (.iconst (-1), 1) := oq_2 (bq_in kqX9_book_0 27 rfl)
theorem dX9_book_28 : decode cX9_book 28 = .ok (.ireturn, 1) := oq_172 (bq_in kqX9_book_0 28 rfl)
theorem dX9_book_29 : decode cX9_book 29 = .ok (.new 36, 3) := oq_187 (bq_in kqX9_book_0 29 rfl) (bq_in kqX9_book_0 30 rfl) (bq_in kqX9_book_0 31 rfl) rfl
theorem kqX9_book_1 : ((cX9_book.data.toList.drop 32).take 34).map UInt8.toNat = [89, 42, 180, 0, 9, 27, 183, 0, 38, 77, 44, 42, 180, 0, 20, 182, 0, 41, 182, 0, 45, 62, 29, 153, 0, 8, 16, 254, 29, 100, 172, 42, 180, 0] := by decide +kernel
theorem dX9_book_32 : decode cX9_book 32 = .ok (.dup, 1) := oq_89 (bq_in kqX9_book_1 0 rfl)
theorem dX9_book_33 : decode cX9_book 33 = .ok (.aload_n 0, 1) := oq_42 (bq_in kqX9_book_1 1 rfl)
theorem dX9_book_34 : decode cX9_book 34 = .ok (.getfield 9, 3) := oq_180 (bq_in kqX9_book_1 2 rfl) (bq_in kqX9_book_1 3 rfl) (bq_in kqX9_book_1 4 rfl) rfl
theorem dX9_book_37 : decode cX9_book 37 = .ok (.iload_n 1, 1) := oq_27 (bq_in kqX9_book_1 5 rfl)
theorem dX9_book_38 : decode cX9_book 38 = .ok (.invokespecial 38, 3) := oq_183 (bq_in kqX9_book_1 6 rfl) (bq_in kqX9_book_1 7 rfl) (bq_in kqX9_book_1 8 rfl) rfl
theorem dX9_book_41 : decode cX9_book 41 = .ok (.astore_n 2, 1) := oq_77 (bq_in kqX9_book_1 9 rfl)
theorem dX9_book_42 : decode cX9_book 42 = .ok (.aload_n 2, 1) := oq_44 (bq_in kqX9_book_1 10 rfl)
theorem dX9_book_43 : decode cX9_book 43 = .ok (.aload_n 0, 1) := oq_42 (bq_in kqX9_book_1 11 rfl)
theorem dX9_book_44 : decode cX9_book 44 = .ok (.getfield 20, 3) := oq_180 (bq_in kqX9_book_1 12 rfl) (bq_in kqX9_book_1 13 rfl) (bq_in kqX9_book_1 14 rfl) rfl
theorem dX9_book_47 : decode cX9_book 47 = .ok (.invokevirtual 41, 3) := oq_182 (bq_in kqX9_book_1 15 rfl) (bq_in kqX9_book_1 16 rfl) (bq_in kqX9_book_1 17 rfl) rfl
theorem dX9_book_50 : decode cX9_book 50 = .ok (.invokevirtual 45, 3) := oq_182 (bq_in kqX9_book_1 18 rfl) (bq_in kqX9_book_1 19 rfl) (bq_in kqX9_book_1 20 rfl) rfl
theorem dX9_book_53 : decode cX9_book 53 = .ok (.istore_n 3, 1) := oq_62 (bq_in kqX9_book_1 21 rfl)
theorem dX9_book_54 : decode cX9_book 54 = .ok (.iload_n 3, 1) := oq_29 (bq_in kqX9_book_1 22 rfl)
theorem dX9_book_55 : decode cX9_book 55 = .ok (.ifCond .eq 8, 3) := oq_153 (bq_in kqX9_book_1 23 rfl) (bq_in kqX9_book_1 24 rfl) (bq_in kqX9_book_1 25 rfl) rfl
theorem dX9_book_58 : decode cX9_book 58 = .ok (.bipush (-2), 2) := oq_16 (bq_in kqX9_book_1 26 rfl) (bq_in kqX9_book_1 27 rfl) rfl
theorem dX9_book_60 : decode cX9_book 60 = .ok (.iload_n 3, 1) := oq_29 (bq_in kqX9_book_1 28 rfl)
theorem dX9_book_61 : decode cX9_book 61 = .ok (.isub, 1) := oq_100 (bq_in kqX9_book_1 29 rfl)
theorem dX9_book_62 : decode cX9_book 62 = .ok (.ireturn, 1) := oq_172 (bq_in kqX9_book_1 30 rfl)
theorem dX9_book_63 : decode cX9_book 63 = .ok (.aload_n 0, 1) := oq_42 (bq_in kqX9_book_1 31 rfl)
theorem kqX9_book_2 : ((cX9_book.data.toList.drop 64).take 34).map UInt8.toNat = [180, 0, 20, 182, 0, 49, 172] := by decide +kernel
theorem dX9_book_64 : decode cX9_book 64 = .ok (.getfield 20, 3) := oq_180 (bq_in kqX9_book_2 0 rfl) (bq_in kqX9_book_2 1 rfl) (bq_in kqX9_book_2 2 rfl) rfl
theorem dX9_book_67 : decode cX9_book 67 = .ok (.invokevirtual 49, 3) := oq_182 (bq_in kqX9_book_2 3 rfl) (bq_in kqX9_book_2 4 rfl) (bq_in kqX9_book_2 5 rfl) rfl
theorem dX9_book_70 : decode cX9_book 70 = .ok (.ireturn, 1) := oq_172 (bq_in kqX9_book_2 6 rfl)
theorem kqX9_cancel_0 : ((cX9_cancel.data.toList.drop 0).take 34).map UInt8.toNat = [42, 180, 0, 20, 27, 182, 0, 53, 154, 0, 5, 3, 172, 42, 180, 0, 20, 27, 182, 0, 57, 4, 172] := by decide +kernel
theorem dX9_cancel_0 : decode cX9_cancel 0 = .ok (.aload_n 0, 1) := oq_42 (bq_in kqX9_cancel_0 0 rfl)
theorem dX9_cancel_1 : decode cX9_cancel 1 = .ok (.getfield 20, 3) := oq_180 (bq_in kqX9_cancel_0 1 rfl) (bq_in kqX9_cancel_0 2 rfl) (bq_in kqX9_cancel_0 3 rfl) rfl
theorem dX9_cancel_4 : decode cX9_cancel 4 = .ok (.iload_n 1, 1) := oq_27 (bq_in kqX9_cancel_0 4 rfl)
theorem dX9_cancel_5 : decode cX9_cancel 5 = .ok (.invokevirtual 53, 3) := oq_182 (bq_in kqX9_cancel_0 5 rfl) (bq_in kqX9_cancel_0 6 rfl) (bq_in kqX9_cancel_0 7 rfl) rfl
theorem dX9_cancel_8 : decode cX9_cancel 8 = .ok (.ifCond .ne 5, 3) := oq_154 (bq_in kqX9_cancel_0 8 rfl) (bq_in kqX9_cancel_0 9 rfl) (bq_in kqX9_cancel_0 10 rfl) rfl
theorem dX9_cancel_11 : decode cX9_cancel 11 = .ok (.iconst 0, 1) := oq_3 (bq_in kqX9_cancel_0 11 rfl)
theorem dX9_cancel_12 : decode cX9_cancel 12 = .ok (.ireturn, 1) := oq_172 (bq_in kqX9_cancel_0 12 rfl)
theorem dX9_cancel_13 : decode cX9_cancel 13 = .ok (.aload_n 0, 1) := oq_42 (bq_in kqX9_cancel_0 13 rfl)
theorem dX9_cancel_14 : decode cX9_cancel 14 = .ok (.getfield 20, 3) := oq_180 (bq_in kqX9_cancel_0 14 rfl) (bq_in kqX9_cancel_0 15 rfl) (bq_in kqX9_cancel_0 16 rfl) rfl
theorem dX9_cancel_17 : decode cX9_cancel 17 = .ok (.iload_n 1, 1) := oq_27 (bq_in kqX9_cancel_0 17 rfl)
theorem dX9_cancel_18 : decode cX9_cancel 18 = .ok (.invokevirtual 57, 3) := oq_182 (bq_in kqX9_cancel_0 18 rfl) (bq_in kqX9_cancel_0 19 rfl) (bq_in kqX9_cancel_0 20 rfl) rfl
theorem dX9_cancel_21 : decode cX9_cancel 21 = .ok (.iconst 1, 1) := oq_4 (bq_in kqX9_cancel_0 21 rfl)
theorem dX9_cancel_22 : decode cX9_cancel 22 = .ok (.ireturn, 1) := oq_172 (bq_in kqX9_cancel_0 22 rfl)
theorem kqX9_day_0 : ((cX9_day.data.toList.drop 0).take 34).map UInt8.toNat = [29, 4, 161, 0, 12, 29, 27, 28, 184, 0, 61, 164, 0, 5, 2, 172, 27, 28, 184, 0, 67, 184, 0, 70, 29, 96, 4, 100, 172] := by decide +kernel
theorem dX9_day_0 : decode cX9_day 0 = .ok (.iload_n 3, 1) := oq_29 (bq_in kqX9_day_0 0 rfl)
theorem dX9_day_1 : decode cX9_day 1 = .ok (.iconst 1, 1) := oq_4 (bq_in kqX9_day_0 1 rfl)
theorem dX9_day_2 : decode cX9_day 2 = .ok (.if_icmp .lt 12, 3) := oq_161 (bq_in kqX9_day_0 2 rfl) (bq_in kqX9_day_0 3 rfl) (bq_in kqX9_day_0 4 rfl) rfl
theorem dX9_day_5 : decode cX9_day 5 = .ok (.iload_n 3, 1) := oq_29 (bq_in kqX9_day_0 5 rfl)
theorem dX9_day_6 : decode cX9_day 6 = .ok (.iload_n 1, 1) := oq_27 (bq_in kqX9_day_0 6 rfl)
theorem dX9_day_7 : decode cX9_day 7 = .ok (.iload_n 2, 1) := oq_28 (bq_in kqX9_day_0 7 rfl)
theorem dX9_day_8 : decode cX9_day 8 = .ok (.invokestatic 61, 3) := oq_184 (bq_in kqX9_day_0 8 rfl) (bq_in kqX9_day_0 9 rfl) (bq_in kqX9_day_0 10 rfl) rfl
theorem dX9_day_11 : decode cX9_day 11 = .ok (.if_icmp .le 5, 3) := oq_164 (bq_in kqX9_day_0 11 rfl) (bq_in kqX9_day_0 12 rfl) (bq_in kqX9_day_0 13 rfl) rfl
theorem dX9_day_14 : decode cX9_day 14 = .ok (.iconst (-1), 1) := oq_2 (bq_in kqX9_day_0 14 rfl)
theorem dX9_day_15 : decode cX9_day 15 = .ok (.ireturn, 1) := oq_172 (bq_in kqX9_day_0 15 rfl)
theorem dX9_day_16 : decode cX9_day 16 = .ok (.iload_n 1, 1) := oq_27 (bq_in kqX9_day_0 16 rfl)
theorem dX9_day_17 : decode cX9_day 17 = .ok (.iload_n 2, 1) := oq_28 (bq_in kqX9_day_0 17 rfl)
theorem dX9_day_18 : decode cX9_day 18 = .ok (.invokestatic 67, 3) := oq_184 (bq_in kqX9_day_0 18 rfl) (bq_in kqX9_day_0 19 rfl) (bq_in kqX9_day_0 20 rfl) rfl
theorem dX9_day_21 : decode cX9_day 21 = .ok (.invokestatic 70, 3) := oq_184 (bq_in kqX9_day_0 21 rfl) (bq_in kqX9_day_0 22 rfl) (bq_in kqX9_day_0 23 rfl) rfl
theorem dX9_day_24 : decode cX9_day 24 = .ok (.iload_n 3, 1) := oq_29 (bq_in kqX9_day_0 24 rfl)
theorem dX9_day_25 : decode cX9_day 25 = .ok (.iadd, 1) := oq_96 (bq_in kqX9_day_0 25 rfl)
theorem dX9_day_26 : decode cX9_day 26 = .ok (.iconst 1, 1) := oq_4 (bq_in kqX9_day_0 26 rfl)
theorem dX9_day_27 : decode cX9_day 27 = .ok (.isub, 1) := oq_100 (bq_in kqX9_day_0 27 rfl)
theorem dX9_day_28 : decode cX9_day 28 = .ok (.ireturn, 1) := oq_172 (bq_in kqX9_day_0 28 rfl)
theorem kqX9_date_0 : ((cX9_date.data.toList.drop 0).take 34).map UInt8.toNat = [27, 184, 0, 74, 154, 0, 5, 2, 172, 27, 184, 0, 77, 62, 28, 170, 0, 0, 0, 75, 0, 0, 0, 0, 0, 0, 0, 4, 0, 0, 0, 33, 0, 0] := by decide +kernel
theorem dX9_date_0 : decode cX9_date 0 = .ok (.iload_n 1, 1) := oq_27 (bq_in kqX9_date_0 0 rfl)
theorem dX9_date_1 : decode cX9_date 1 = .ok (.invokestatic 74, 3) := oq_184 (bq_in kqX9_date_0 1 rfl) (bq_in kqX9_date_0 2 rfl) (bq_in kqX9_date_0 3 rfl) rfl
theorem dX9_date_4 : decode cX9_date 4 = .ok (.ifCond .ne 5, 3) := oq_154 (bq_in kqX9_date_0 4 rfl) (bq_in kqX9_date_0 5 rfl) (bq_in kqX9_date_0 6 rfl) rfl
theorem dX9_date_7 : decode cX9_date 7 = .ok (.iconst (-1), 1) := oq_2 (bq_in kqX9_date_0 7 rfl)
theorem dX9_date_8 : decode cX9_date 8 = .ok (.ireturn, 1) := oq_172 (bq_in kqX9_date_0 8 rfl)
theorem dX9_date_9 : decode cX9_date 9 = .ok (.iload_n 1, 1) := oq_27 (bq_in kqX9_date_0 9 rfl)
theorem dX9_date_10 : decode cX9_date 10 = .ok (.invokestatic 77, 3) := oq_184 (bq_in kqX9_date_0 10 rfl) (bq_in kqX9_date_0 11 rfl) (bq_in kqX9_date_0 12 rfl) rfl
theorem dX9_date_13 : decode cX9_date 13 = .ok (.istore_n 3, 1) := oq_62 (bq_in kqX9_date_0 13 rfl)
theorem dX9_date_14 : decode cX9_date 14 = .ok (.iload_n 2, 1) := oq_28 (bq_in kqX9_date_0 14 rfl)
theorem dX9_date_15 : decode cX9_date 15 = .ok (.tableswitch 75 0 4 #[33, 42, 49, 58, 63], 33) := by decide +kernel
theorem kqX9_date_1 : ((cX9_date.data.toList.drop 32).take 34).map UInt8.toNat = [0, 0, 0, 42, 0, 0, 0, 49, 0, 0, 0, 58, 0, 0, 0, 63, 17, 7, 208, 29, 16, 12, 108, 96, 172, 29, 16, 12, 112, 4, 96, 172, 27, 29] := by decide +kernel
theorem dX9_date_48 : decode cX9_date 48 = .ok (.sipush 2000, 3) := oq_17 (bq_in kqX9_date_1 16 rfl) (bq_in kqX9_date_1 17 rfl) (bq_in kqX9_date_1 18 rfl) rfl
theorem dX9_date_51 : decode cX9_date 51 = .ok (.iload_n 3, 1) := oq_29 (bq_in kqX9_date_1 19 rfl)
theorem dX9_date_52 : decode cX9_date 52 = .ok (.bipush 12, 2) := oq_16 (bq_in kqX9_date_1 20 rfl) (bq_in kqX9_date_1 21 rfl) rfl
theorem dX9_date_54 : decode cX9_date 54 = .ok (.idiv, 1) := oq_108 (bq_in kqX9_date_1 22 rfl)
theorem dX9_date_55 : decode cX9_date 55 = .ok (.iadd, 1) := oq_96 (bq_in kqX9_date_1 23 rfl)
theorem dX9_date_56 : decode cX9_date 56 = .ok (.ireturn, 1) := oq_172 (bq_in kqX9_date_1 24 rfl)
theorem dX9_date_57 : decode cX9_date 57 = .ok (.iload_n 3, 1) := oq_29 (bq_in kqX9_date_1 25 rfl)
theorem dX9_date_58 : decode cX9_date 58 = .ok (.bipush 12, 2) := oq_16 (bq_in kqX9_date_1 26 rfl) (bq_in kqX9_date_1 27 rfl) rfl
theorem dX9_date_60 : decode cX9_date 60 = .ok (.irem, 1) := oq_112 (bq_in kqX9_date_1 28 rfl)
theorem dX9_date_61 : decode cX9_date 61 = .ok (.iconst 1, 1) := oq_4 (bq_in kqX9_date_1 29 rfl)
theorem dX9_date_62 : decode cX9_date 62 = .ok (.iadd, 1) := oq_96 (bq_in kqX9_date_1 30 rfl)
theorem dX9_date_63 : decode cX9_date 63 = .ok (.ireturn, 1) := oq_172 (bq_in kqX9_date_1 31 rfl)
theorem kqX9_date_2 : ((cX9_date.data.toList.drop 64).take 34).map UInt8.toNat = [27, 29, 184, 0, 70, 100, 4, 96, 172, 27, 184, 0, 80, 172, 29, 4, 96, 184, 0, 70, 29, 184, 0, 70, 100, 172, 2, 172] := by decide +kernel
theorem dX9_date_64 : decode cX9_date 64 = .ok (.iload_n 1, 1) := oq_27 (bq_in kqX9_date_2 0 rfl)
theorem dX9_date_65 : decode cX9_date 65 = .ok (.iload_n 3, 1) := oq_29 (bq_in kqX9_date_2 1 rfl)
theorem dX9_date_66 : decode cX9_date 66 = .ok (.invokestatic 70, 3) := oq_184 (bq_in kqX9_date_2 2 rfl) (bq_in kqX9_date_2 3 rfl) (bq_in kqX9_date_2 4 rfl) rfl
theorem dX9_date_69 : decode cX9_date 69 = .ok (.isub, 1) := oq_100 (bq_in kqX9_date_2 5 rfl)
theorem dX9_date_70 : decode cX9_date 70 = .ok (.iconst 1, 1) := oq_4 (bq_in kqX9_date_2 6 rfl)
theorem dX9_date_71 : decode cX9_date 71 = .ok (.iadd, 1) := oq_96 (bq_in kqX9_date_2 7 rfl)
theorem dX9_date_72 : decode cX9_date 72 = .ok (.ireturn, 1) := oq_172 (bq_in kqX9_date_2 8 rfl)
theorem dX9_date_73 : decode cX9_date 73 = .ok (.iload_n 1, 1) := oq_27 (bq_in kqX9_date_2 9 rfl)
theorem dX9_date_74 : decode cX9_date 74 = .ok (.invokestatic 80, 3) := oq_184 (bq_in kqX9_date_2 10 rfl) (bq_in kqX9_date_2 11 rfl) (bq_in kqX9_date_2 12 rfl) rfl
theorem dX9_date_77 : decode cX9_date 77 = .ok (.ireturn, 1) := oq_172 (bq_in kqX9_date_2 13 rfl)
theorem dX9_date_78 : decode cX9_date 78 = .ok (.iload_n 3, 1) := oq_29 (bq_in kqX9_date_2 14 rfl)
theorem dX9_date_79 : decode cX9_date 79 = .ok (.iconst 1, 1) := oq_4 (bq_in kqX9_date_2 15 rfl)
theorem dX9_date_80 : decode cX9_date 80 = .ok (.iadd, 1) := oq_96 (bq_in kqX9_date_2 16 rfl)
theorem dX9_date_81 : decode cX9_date 81 = .ok (.invokestatic 70, 3) := oq_184 (bq_in kqX9_date_2 17 rfl) (bq_in kqX9_date_2 18 rfl) (bq_in kqX9_date_2 19 rfl) rfl
theorem dX9_date_84 : decode cX9_date 84 = .ok (.iload_n 3, 1) := oq_29 (bq_in kqX9_date_2 20 rfl)
theorem dX9_date_85 : decode cX9_date 85 = .ok (.invokestatic 70, 3) := oq_184 (bq_in kqX9_date_2 21 rfl) (bq_in kqX9_date_2 22 rfl) (bq_in kqX9_date_2 23 rfl) rfl
theorem dX9_date_88 : decode cX9_date 88 = .ok (.isub, 1) := oq_100 (bq_in kqX9_date_2 24 rfl)
theorem dX9_date_89 : decode cX9_date 89 = .ok (.ireturn, 1) := oq_172 (bq_in kqX9_date_2 25 rfl)
theorem dX9_date_90 : decode cX9_date 90 = .ok (.iconst (-1), 1) := oq_2 (bq_in kqX9_date_2 26 rfl)
theorem dX9_date_91 : decode cX9_date 91 = .ok (.ireturn, 1) := oq_172 (bq_in kqX9_date_2 27 rfl)
theorem kqX9_key_0 : ((cX9_key.data.toList.drop 0).take 34).map UInt8.toNat = [42, 180, 0, 20, 27, 182, 0, 53, 153, 0, 10, 28, 184, 0, 74, 154, 0, 5, 2, 172, 42, 180, 0, 20, 27, 182, 0, 83, 28, 182, 0, 87, 172] := by decide +kernel
theorem dX9_key_0 : decode cX9_key 0 = .ok (.aload_n 0, 1) := oq_42 (bq_in kqX9_key_0 0 rfl)
theorem dX9_key_1 : decode cX9_key 1 = .ok (.getfield 20, 3) := oq_180 (bq_in kqX9_key_0 1 rfl) (bq_in kqX9_key_0 2 rfl) (bq_in kqX9_key_0 3 rfl) rfl
theorem dX9_key_4 : decode cX9_key 4 = .ok (.iload_n 1, 1) := oq_27 (bq_in kqX9_key_0 4 rfl)
theorem dX9_key_5 : decode cX9_key 5 = .ok (.invokevirtual 53, 3) := oq_182 (bq_in kqX9_key_0 5 rfl) (bq_in kqX9_key_0 6 rfl) (bq_in kqX9_key_0 7 rfl) rfl
theorem dX9_key_8 : decode cX9_key 8 = .ok (.ifCond .eq 10, 3) := oq_153 (bq_in kqX9_key_0 8 rfl) (bq_in kqX9_key_0 9 rfl) (bq_in kqX9_key_0 10 rfl) rfl
theorem dX9_key_11 : decode cX9_key 11 = .ok (.iload_n 2, 1) := oq_28 (bq_in kqX9_key_0 11 rfl)
theorem dX9_key_12 : decode cX9_key 12 = .ok (.invokestatic 74, 3) := oq_184 (bq_in kqX9_key_0 12 rfl) (bq_in kqX9_key_0 13 rfl) (bq_in kqX9_key_0 14 rfl) rfl
theorem dX9_key_15 : decode cX9_key 15 = .ok (.ifCond .ne 5, 3) := oq_154 (bq_in kqX9_key_0 15 rfl) (bq_in kqX9_key_0 16 rfl) (bq_in kqX9_key_0 17 rfl) rfl
theorem dX9_key_18 : decode cX9_key 18 = .ok (.iconst (-1), 1) := oq_2 (bq_in kqX9_key_0 18 rfl)
theorem dX9_key_19 : decode cX9_key 19 = .ok (.ireturn, 1) := oq_172 (bq_in kqX9_key_0 19 rfl)
theorem dX9_key_20 : decode cX9_key 20 = .ok (.aload_n 0, 1) := oq_42 (bq_in kqX9_key_0 20 rfl)
theorem dX9_key_21 : decode cX9_key 21 = .ok (.getfield 20, 3) := oq_180 (bq_in kqX9_key_0 21 rfl) (bq_in kqX9_key_0 22 rfl) (bq_in kqX9_key_0 23 rfl) rfl
theorem dX9_key_24 : decode cX9_key 24 = .ok (.iload_n 1, 1) := oq_27 (bq_in kqX9_key_0 24 rfl)
theorem dX9_key_25 : decode cX9_key 25 = .ok (.invokevirtual 83, 3) := oq_182 (bq_in kqX9_key_0 25 rfl) (bq_in kqX9_key_0 26 rfl) (bq_in kqX9_key_0 27 rfl) rfl
theorem dX9_key_28 : decode cX9_key 28 = .ok (.iload_n 2, 1) := oq_28 (bq_in kqX9_key_0 28 rfl)
theorem dX9_key_29 : decode cX9_key 29 = .ok (.invokevirtual 87, 3) := oq_182 (bq_in kqX9_key_0 29 rfl) (bq_in kqX9_key_0 30 rfl) (bq_in kqX9_key_0 31 rfl) rfl
theorem kqX9_key_1 : ((cX9_key.data.toList.drop 32).take 34).map UInt8.toNat = [172] := by decide +kernel
theorem dX9_key_32 : decode cX9_key 32 = .ok (.ireturn, 1) := oq_172 (bq_in kqX9_key_1 0 rfl)
theorem kqX9_keys_0 : ((cX9_keys.data.toList.drop 0).take 34).map UInt8.toNat = [42, 180, 0, 20, 27, 182, 0, 53, 153, 0, 13, 28, 29, 18, 92, 184, 0, 93, 154, 0, 5, 2, 172, 42, 180, 0, 20, 27, 182, 0, 83, 28, 29, 182] := by decide +kernel
theorem dX9_keys_0 : decode cX9_keys 0 = .ok (.aload_n 0, 1) := oq_42 (bq_in kqX9_keys_0 0 rfl)
theorem dX9_keys_1 : decode cX9_keys 1 = .ok (.getfield 20, 3) := oq_180 (bq_in kqX9_keys_0 1 rfl) (bq_in kqX9_keys_0 2 rfl) (bq_in kqX9_keys_0 3 rfl) rfl
theorem dX9_keys_4 : decode cX9_keys 4 = .ok (.iload_n 1, 1) := oq_27 (bq_in kqX9_keys_0 4 rfl)
theorem dX9_keys_5 : decode cX9_keys 5 = .ok (.invokevirtual 53, 3) := oq_182 (bq_in kqX9_keys_0 5 rfl) (bq_in kqX9_keys_0 6 rfl) (bq_in kqX9_keys_0 7 rfl) rfl
theorem dX9_keys_8 : decode cX9_keys 8 = .ok (.ifCond .eq 13, 3) := oq_153 (bq_in kqX9_keys_0 8 rfl) (bq_in kqX9_keys_0 9 rfl) (bq_in kqX9_keys_0 10 rfl) rfl
theorem dX9_keys_11 : decode cX9_keys 11 = .ok (.iload_n 2, 1) := oq_28 (bq_in kqX9_keys_0 11 rfl)
theorem dX9_keys_12 : decode cX9_keys 12 = .ok (.iload_n 3, 1) := oq_29 (bq_in kqX9_keys_0 12 rfl)
theorem dX9_keys_13 : decode cX9_keys 13 = .ok (.ldc 92, 2) := oq_18 (bq_in kqX9_keys_0 13 rfl) (bq_in kqX9_keys_0 14 rfl)
theorem dX9_keys_15 : decode cX9_keys 15 = .ok (.invokestatic 93, 3) := oq_184 (bq_in kqX9_keys_0 15 rfl) (bq_in kqX9_keys_0 16 rfl) (bq_in kqX9_keys_0 17 rfl) rfl
theorem dX9_keys_18 : decode cX9_keys 18 = .ok (.ifCond .ne 5, 3) := oq_154 (bq_in kqX9_keys_0 18 rfl) (bq_in kqX9_keys_0 19 rfl) (bq_in kqX9_keys_0 20 rfl) rfl
theorem dX9_keys_21 : decode cX9_keys 21 = .ok (.iconst (-1), 1) := oq_2 (bq_in kqX9_keys_0 21 rfl)
theorem dX9_keys_22 : decode cX9_keys 22 = .ok (.ireturn, 1) := oq_172 (bq_in kqX9_keys_0 22 rfl)
theorem dX9_keys_23 : decode cX9_keys 23 = .ok (.aload_n 0, 1) := oq_42 (bq_in kqX9_keys_0 23 rfl)
theorem dX9_keys_24 : decode cX9_keys 24 = .ok (.getfield 20, 3) := oq_180 (bq_in kqX9_keys_0 24 rfl) (bq_in kqX9_keys_0 25 rfl) (bq_in kqX9_keys_0 26 rfl) rfl
theorem dX9_keys_27 : decode cX9_keys 27 = .ok (.iload_n 1, 1) := oq_27 (bq_in kqX9_keys_0 27 rfl)
theorem dX9_keys_28 : decode cX9_keys 28 = .ok (.invokevirtual 83, 3) := oq_182 (bq_in kqX9_keys_0 28 rfl) (bq_in kqX9_keys_0 29 rfl) (bq_in kqX9_keys_0 30 rfl) rfl
theorem dX9_keys_31 : decode cX9_keys 31 = .ok (.iload_n 2, 1) := oq_28 (bq_in kqX9_keys_0 31 rfl)
theorem kqX9_keys_1 : ((cX9_keys.data.toList.drop 32).take 34).map UInt8.toNat = [29, 182, 0, 97, 172] := by decide +kernel
theorem dX9_keys_32 : decode cX9_keys 32 = .ok (.iload_n 3, 1) := oq_29 (bq_in kqX9_keys_1 0 rfl)
theorem dX9_keys_33 : decode cX9_keys 33 = .ok (.invokevirtual 97, 3) := oq_182 (bq_in kqX9_keys_1 1 rfl) (bq_in kqX9_keys_1 2 rfl) (bq_in kqX9_keys_1 3 rfl) rfl
theorem dX9_keys_36 : decode cX9_keys 36 = .ok (.ireturn, 1) := oq_172 (bq_in kqX9_keys_1 4 rfl)
theorem kqX9_drop_0 : ((cX9_drop.data.toList.drop 0).take 34).map UInt8.toNat = [42, 180, 0, 20, 27, 182, 0, 53, 153, 0, 18, 42, 180, 0, 20, 27, 182, 0, 83, 28, 182, 0, 100, 154, 0, 5, 3, 172, 42, 180, 0, 20, 27, 182] := by decide +kernel
theorem dX9_drop_0 : decode cX9_drop 0 = .ok (.aload_n 0, 1) := oq_42 (bq_in kqX9_drop_0 0 rfl)
theorem dX9_drop_1 : decode cX9_drop 1 = .ok (.getfield 20, 3) := oq_180 (bq_in kqX9_drop_0 1 rfl) (bq_in kqX9_drop_0 2 rfl) (bq_in kqX9_drop_0 3 rfl) rfl
theorem dX9_drop_4 : decode cX9_drop 4 = .ok (.iload_n 1, 1) := oq_27 (bq_in kqX9_drop_0 4 rfl)
theorem dX9_drop_5 : decode cX9_drop 5 = .ok (.invokevirtual 53, 3) := oq_182 (bq_in kqX9_drop_0 5 rfl) (bq_in kqX9_drop_0 6 rfl) (bq_in kqX9_drop_0 7 rfl) rfl
theorem dX9_drop_8 : decode cX9_drop 8 = .ok (.ifCond .eq 18, 3) := oq_153 (bq_in kqX9_drop_0 8 rfl) (bq_in kqX9_drop_0 9 rfl) (bq_in kqX9_drop_0 10 rfl) rfl
theorem dX9_drop_11 : decode cX9_drop 11 = .ok (.aload_n 0, 1) := oq_42 (bq_in kqX9_drop_0 11 rfl)
theorem dX9_drop_12 : decode cX9_drop 12 = .ok (.getfield 20, 3) := oq_180 (bq_in kqX9_drop_0 12 rfl) (bq_in kqX9_drop_0 13 rfl) (bq_in kqX9_drop_0 14 rfl) rfl
theorem dX9_drop_15 : decode cX9_drop 15 = .ok (.iload_n 1, 1) := oq_27 (bq_in kqX9_drop_0 15 rfl)
theorem dX9_drop_16 : decode cX9_drop 16 = .ok (.invokevirtual 83, 3) := oq_182 (bq_in kqX9_drop_0 16 rfl) (bq_in kqX9_drop_0 17 rfl) (bq_in kqX9_drop_0 18 rfl) rfl
theorem dX9_drop_19 : decode cX9_drop 19 = .ok (.iload_n 2, 1) := oq_28 (bq_in kqX9_drop_0 19 rfl)
theorem dX9_drop_20 : decode cX9_drop 20 = .ok (.invokevirtual 100, 3) := oq_182 (bq_in kqX9_drop_0 20 rfl) (bq_in kqX9_drop_0 21 rfl) (bq_in kqX9_drop_0 22 rfl) rfl
theorem dX9_drop_23 : decode cX9_drop 23 = .ok (.ifCond .ne 5, 3) := oq_154 (bq_in kqX9_drop_0 23 rfl) (bq_in kqX9_drop_0 24 rfl) (bq_in kqX9_drop_0 25 rfl) rfl
theorem dX9_drop_26 : decode cX9_drop 26 = .ok (.iconst 0, 1) := oq_3 (bq_in kqX9_drop_0 26 rfl)
theorem dX9_drop_27 : decode cX9_drop 27 = .ok (.ireturn, 1) := oq_172 (bq_in kqX9_drop_0 27 rfl)
theorem dX9_drop_28 : decode cX9_drop 28 = .ok (.aload_n 0, 1) := oq_42 (bq_in kqX9_drop_0 28 rfl)
theorem dX9_drop_29 : decode cX9_drop 29 = .ok (.getfield 20, 3) := oq_180 (bq_in kqX9_drop_0 29 rfl) (bq_in kqX9_drop_0 30 rfl) (bq_in kqX9_drop_0 31 rfl) rfl
theorem kqX9_drop_1 : ((cX9_drop.data.toList.drop 32).take 34).map UInt8.toNat = [27, 182, 0, 83, 78, 45, 28, 182, 0, 103, 154, 0, 16, 45, 28, 2, 182, 0, 106, 153, 0, 7, 4, 167, 0, 4, 3, 172] := by decide +kernel
theorem dX9_drop_32 : decode cX9_drop 32 = .ok (.iload_n 1, 1) := oq_27 (bq_in kqX9_drop_1 0 rfl)
theorem dX9_drop_33 : decode cX9_drop 33 = .ok (.invokevirtual 83, 3) := oq_182 (bq_in kqX9_drop_1 1 rfl) (bq_in kqX9_drop_1 2 rfl) (bq_in kqX9_drop_1 3 rfl) rfl
theorem dX9_drop_36 : decode cX9_drop 36 = .ok (.astore_n 3, 1) := oq_78 (bq_in kqX9_drop_1 4 rfl)
theorem dX9_drop_37 : decode cX9_drop 37 = .ok (.aload_n 3, 1) := oq_45 (bq_in kqX9_drop_1 5 rfl)
theorem dX9_drop_38 : decode cX9_drop 38 = .ok (.iload_n 2, 1) := oq_28 (bq_in kqX9_drop_1 6 rfl)
theorem dX9_drop_39 : decode cX9_drop 39 = .ok (.invokevirtual 103, 3) := oq_182 (bq_in kqX9_drop_1 7 rfl) (bq_in kqX9_drop_1 8 rfl) (bq_in kqX9_drop_1 9 rfl) rfl
theorem dX9_drop_42 : decode cX9_drop 42 = .ok (.ifCond .ne 16, 3) := oq_154 (bq_in kqX9_drop_1 10 rfl) (bq_in kqX9_drop_1 11 rfl) (bq_in kqX9_drop_1 12 rfl) rfl
theorem dX9_drop_45 : decode cX9_drop 45 = .ok (.aload_n 3, 1) := oq_45 (bq_in kqX9_drop_1 13 rfl)
theorem dX9_drop_46 : decode cX9_drop 46 = .ok (.iload_n 2, 1) := oq_28 (bq_in kqX9_drop_1 14 rfl)
theorem dX9_drop_47 : decode cX9_drop 47 = .ok (.iconst (-1), 1) := oq_2 (bq_in kqX9_drop_1 15 rfl)
theorem dX9_drop_48 : decode cX9_drop 48 = .ok (.invokevirtual 106, 3) := oq_182 (bq_in kqX9_drop_1 16 rfl) (bq_in kqX9_drop_1 17 rfl) (bq_in kqX9_drop_1 18 rfl) rfl
theorem dX9_drop_51 : decode cX9_drop 51 = .ok (.ifCond .eq 7, 3) := oq_153 (bq_in kqX9_drop_1 19 rfl) (bq_in kqX9_drop_1 20 rfl) (bq_in kqX9_drop_1 21 rfl) rfl
theorem dX9_drop_54 : decode cX9_drop 54 = .ok (.iconst 1, 1) := oq_4 (bq_in kqX9_drop_1 22 rfl)
theorem dX9_drop_55 : decode cX9_drop 55 = .ok (.goto 4, 3) := oq_167 (bq_in kqX9_drop_1 23 rfl) (bq_in kqX9_drop_1 24 rfl) (bq_in kqX9_drop_1 25 rfl) rfl
theorem dX9_drop_58 : decode cX9_drop 58 = .ok (.iconst 0, 1) := oq_3 (bq_in kqX9_drop_1 26 rfl)
theorem dX9_drop_59 : decode cX9_drop 59 = .ok (.ireturn, 1) := oq_172 (bq_in kqX9_drop_1 27 rfl)
theorem kqX9_move_0 : ((cX9_move.data.toList.drop 0).take 34).map UInt8.toNat = [42, 180, 0, 20, 27, 182, 0, 53, 153, 0, 25, 42, 180, 0, 20, 27, 182, 0, 83, 28, 182, 0, 100, 153, 0, 10, 29, 184, 0, 110, 154, 0, 5, 3] := by decide +kernel
theorem dX9_move_0 : decode cX9_move 0 = .ok (.aload_n 0, 1) := oq_42 (bq_in kqX9_move_0 0 rfl)
theorem dX9_move_1 : decode cX9_move 1 = .ok (.getfield 20, 3) := oq_180 (bq_in kqX9_move_0 1 rfl) (bq_in kqX9_move_0 2 rfl) (bq_in kqX9_move_0 3 rfl) rfl
theorem dX9_move_4 : decode cX9_move 4 = .ok (.iload_n 1, 1) := oq_27 (bq_in kqX9_move_0 4 rfl)
theorem dX9_move_5 : decode cX9_move 5 = .ok (.invokevirtual 53, 3) := oq_182 (bq_in kqX9_move_0 5 rfl) (bq_in kqX9_move_0 6 rfl) (bq_in kqX9_move_0 7 rfl) rfl
theorem dX9_move_8 : decode cX9_move 8 = .ok (.ifCond .eq 25, 3) := oq_153 (bq_in kqX9_move_0 8 rfl) (bq_in kqX9_move_0 9 rfl) (bq_in kqX9_move_0 10 rfl) rfl
theorem dX9_move_11 : decode cX9_move 11 = .ok (.aload_n 0, 1) := oq_42 (bq_in kqX9_move_0 11 rfl)
theorem dX9_move_12 : decode cX9_move 12 = .ok (.getfield 20, 3) := oq_180 (bq_in kqX9_move_0 12 rfl) (bq_in kqX9_move_0 13 rfl) (bq_in kqX9_move_0 14 rfl) rfl
theorem dX9_move_15 : decode cX9_move 15 = .ok (.iload_n 1, 1) := oq_27 (bq_in kqX9_move_0 15 rfl)
theorem dX9_move_16 : decode cX9_move 16 = .ok (.invokevirtual 83, 3) := oq_182 (bq_in kqX9_move_0 16 rfl) (bq_in kqX9_move_0 17 rfl) (bq_in kqX9_move_0 18 rfl) rfl
theorem dX9_move_19 : decode cX9_move 19 = .ok (.iload_n 2, 1) := oq_28 (bq_in kqX9_move_0 19 rfl)
theorem dX9_move_20 : decode cX9_move 20 = .ok (.invokevirtual 100, 3) := oq_182 (bq_in kqX9_move_0 20 rfl) (bq_in kqX9_move_0 21 rfl) (bq_in kqX9_move_0 22 rfl) rfl
theorem dX9_move_23 : decode cX9_move 23 = .ok (.ifCond .eq 10, 3) := oq_153 (bq_in kqX9_move_0 23 rfl) (bq_in kqX9_move_0 24 rfl) (bq_in kqX9_move_0 25 rfl) rfl
theorem dX9_move_26 : decode cX9_move 26 = .ok (.iload_n 3, 1) := oq_29 (bq_in kqX9_move_0 26 rfl)
theorem dX9_move_27 : decode cX9_move 27 = .ok (.invokestatic 110, 3) := oq_184 (bq_in kqX9_move_0 27 rfl) (bq_in kqX9_move_0 28 rfl) (bq_in kqX9_move_0 29 rfl) rfl
theorem dX9_move_30 : decode cX9_move 30 = .ok (.ifCond .ne 5, 3) := oq_154 (bq_in kqX9_move_0 30 rfl) (bq_in kqX9_move_0 31 rfl) (bq_in kqX9_move_0 32 rfl) rfl
theorem kqX9_move_1 : ((cX9_move.data.toList.drop 32).take 34).map UInt8.toNat = [5, 3, 172, 42, 180, 0, 20, 27, 182, 0, 83, 28, 29, 182, 0, 106, 172] := by decide +kernel
theorem dX9_move_33 : decode cX9_move 33 = .ok (.iconst 0, 1) := oq_3 (bq_in kqX9_move_1 1 rfl)
theorem dX9_move_34 : decode cX9_move 34 = .ok (.ireturn, 1) := oq_172 (bq_in kqX9_move_1 2 rfl)
theorem dX9_move_35 : decode cX9_move 35 = .ok (.aload_n 0, 1) := oq_42 (bq_in kqX9_move_1 3 rfl)
theorem dX9_move_36 : decode cX9_move 36 = .ok (.getfield 20, 3) := oq_180 (bq_in kqX9_move_1 4 rfl) (bq_in kqX9_move_1 5 rfl) (bq_in kqX9_move_1 6 rfl) rfl
theorem dX9_move_39 : decode cX9_move 39 = .ok (.iload_n 1, 1) := oq_27 (bq_in kqX9_move_1 7 rfl)
theorem dX9_move_40 : decode cX9_move 40 = .ok (.invokevirtual 83, 3) := oq_182 (bq_in kqX9_move_1 8 rfl) (bq_in kqX9_move_1 9 rfl) (bq_in kqX9_move_1 10 rfl) rfl
theorem dX9_move_43 : decode cX9_move 43 = .ok (.iload_n 2, 1) := oq_28 (bq_in kqX9_move_1 11 rfl)
theorem dX9_move_44 : decode cX9_move 44 = .ok (.iload_n 3, 1) := oq_29 (bq_in kqX9_move_1 12 rfl)
theorem dX9_move_45 : decode cX9_move 45 = .ok (.invokevirtual 106, 3) := oq_182 (bq_in kqX9_move_1 13 rfl) (bq_in kqX9_move_1 14 rfl) (bq_in kqX9_move_1 15 rfl) rfl
theorem dX9_move_48 : decode cX9_move 48 = .ok (.ireturn, 1) := oq_172 (bq_in kqX9_move_1 16 rfl)
theorem kqX9_restore_0 : ((cX9_restore.data.toList.drop 0).take 34).map UInt8.toNat = [42, 180, 0, 20, 27, 182, 0, 53, 153, 0, 18, 42, 180, 0, 20, 27, 182, 0, 83, 28, 182, 0, 100, 154, 0, 5, 2, 172, 42, 180, 0, 20, 27, 182] := by decide +kernel
theorem dX9_restore_0 : decode cX9_restore 0 = .ok (.aload_n 0, 1) := oq_42 (bq_in kqX9_restore_0 0 rfl)
theorem dX9_restore_1 : decode cX9_restore 1 = .ok (.getfield 20, 3) := oq_180 (bq_in kqX9_restore_0 1 rfl) (bq_in kqX9_restore_0 2 rfl) (bq_in kqX9_restore_0 3 rfl) rfl
theorem dX9_restore_4 : decode cX9_restore 4 = .ok (.iload_n 1, 1) := oq_27 (bq_in kqX9_restore_0 4 rfl)
theorem dX9_restore_5 : decode cX9_restore 5 = .ok (.invokevirtual 53, 3) := oq_182 (bq_in kqX9_restore_0 5 rfl) (bq_in kqX9_restore_0 6 rfl) (bq_in kqX9_restore_0 7 rfl) rfl
theorem dX9_restore_8 : decode cX9_restore 8 = .ok (.ifCond .eq 18, 3) := oq_153 (bq_in kqX9_restore_0 8 rfl) (bq_in kqX9_restore_0 9 rfl) (bq_in kqX9_restore_0 10 rfl) rfl
theorem dX9_restore_11 : decode cX9_restore 11 = .ok (.aload_n 0, 1) := oq_42 (bq_in kqX9_restore_0 11 rfl)
theorem dX9_restore_12 : decode cX9_restore 12 = .ok (.getfield 20, 3) := oq_180 (bq_in kqX9_restore_0 12 rfl) (bq_in kqX9_restore_0 13 rfl) (bq_in kqX9_restore_0 14 rfl) rfl
theorem dX9_restore_15 : decode cX9_restore 15 = .ok (.iload_n 1, 1) := oq_27 (bq_in kqX9_restore_0 15 rfl)
theorem dX9_restore_16 : decode cX9_restore 16 = .ok (.invokevirtual 83, 3) := oq_182 (bq_in kqX9_restore_0 16 rfl) (bq_in kqX9_restore_0 17 rfl) (bq_in kqX9_restore_0 18 rfl) rfl
theorem dX9_restore_19 : decode cX9_restore 19 = .ok (.iload_n 2, 1) := oq_28 (bq_in kqX9_restore_0 19 rfl)
theorem dX9_restore_20 : decode cX9_restore 20 = .ok (.invokevirtual 100, 3) := oq_182 (bq_in kqX9_restore_0 20 rfl) (bq_in kqX9_restore_0 21 rfl) (bq_in kqX9_restore_0 22 rfl) rfl
theorem dX9_restore_23 : decode cX9_restore 23 = .ok (.ifCond .ne 5, 3) := oq_154 (bq_in kqX9_restore_0 23 rfl) (bq_in kqX9_restore_0 24 rfl) (bq_in kqX9_restore_0 25 rfl) rfl
theorem dX9_restore_26 : decode cX9_restore 26 = .ok (.iconst (-1), 1) := oq_2 (bq_in kqX9_restore_0 26 rfl)
theorem dX9_restore_27 : decode cX9_restore 27 = .ok (.ireturn, 1) := oq_172 (bq_in kqX9_restore_0 27 rfl)
theorem dX9_restore_28 : decode cX9_restore 28 = .ok (.aload_n 0, 1) := oq_42 (bq_in kqX9_restore_0 28 rfl)
theorem dX9_restore_29 : decode cX9_restore 29 = .ok (.getfield 20, 3) := oq_180 (bq_in kqX9_restore_0 29 rfl) (bq_in kqX9_restore_0 30 rfl) (bq_in kqX9_restore_0 31 rfl) rfl
theorem kqX9_restore_1 : ((cX9_restore.data.toList.drop 32).take 34).map UInt8.toNat = [27, 182, 0, 83, 28, 182, 0, 113, 172] := by decide +kernel
theorem dX9_restore_32 : decode cX9_restore 32 = .ok (.iload_n 1, 1) := oq_27 (bq_in kqX9_restore_1 0 rfl)
theorem dX9_restore_33 : decode cX9_restore 33 = .ok (.invokevirtual 83, 3) := oq_182 (bq_in kqX9_restore_1 1 rfl) (bq_in kqX9_restore_1 2 rfl) (bq_in kqX9_restore_1 3 rfl) rfl
theorem dX9_restore_36 : decode cX9_restore 36 = .ok (.iload_n 2, 1) := oq_28 (bq_in kqX9_restore_1 4 rfl)
theorem dX9_restore_37 : decode cX9_restore 37 = .ok (.invokevirtual 113, 3) := oq_182 (bq_in kqX9_restore_1 5 rfl) (bq_in kqX9_restore_1 6 rfl) (bq_in kqX9_restore_1 7 rfl) rfl
theorem dX9_restore_40 : decode cX9_restore 40 = .ok (.ireturn, 1) := oq_172 (bq_in kqX9_restore_1 8 rfl)
theorem kqX9_next_0 : ((cX9_next.data.toList.drop 0).take 34).map UInt8.toNat = [42, 180, 0, 20, 27, 182, 0, 53, 153, 0, 10, 28, 184, 0, 110, 154, 0, 5, 2, 172, 42, 180, 0, 20, 27, 182, 0, 83, 58, 4, 25, 4, 28, 3] := by decide +kernel
theorem dX9_next_0 : decode cX9_next 0 = .ok (.aload_n 0, 1) := oq_42 (bq_in kqX9_next_0 0 rfl)
theorem dX9_next_1 : decode cX9_next 1 = .ok (.getfield 20, 3) := oq_180 (bq_in kqX9_next_0 1 rfl) (bq_in kqX9_next_0 2 rfl) (bq_in kqX9_next_0 3 rfl) rfl
theorem dX9_next_4 : decode cX9_next 4 = .ok (.iload_n 1, 1) := oq_27 (bq_in kqX9_next_0 4 rfl)
theorem dX9_next_5 : decode cX9_next 5 = .ok (.invokevirtual 53, 3) := oq_182 (bq_in kqX9_next_0 5 rfl) (bq_in kqX9_next_0 6 rfl) (bq_in kqX9_next_0 7 rfl) rfl
theorem dX9_next_8 : decode cX9_next 8 = .ok (.ifCond .eq 10, 3) := oq_153 (bq_in kqX9_next_0 8 rfl) (bq_in kqX9_next_0 9 rfl) (bq_in kqX9_next_0 10 rfl) rfl
theorem dX9_next_11 : decode cX9_next 11 = .ok (.iload_n 2, 1) := oq_28 (bq_in kqX9_next_0 11 rfl)
theorem dX9_next_12 : decode cX9_next 12 = .ok (.invokestatic 110, 3) := oq_184 (bq_in kqX9_next_0 12 rfl) (bq_in kqX9_next_0 13 rfl) (bq_in kqX9_next_0 14 rfl) rfl
theorem dX9_next_15 : decode cX9_next 15 = .ok (.ifCond .ne 5, 3) := oq_154 (bq_in kqX9_next_0 15 rfl) (bq_in kqX9_next_0 16 rfl) (bq_in kqX9_next_0 17 rfl) rfl
theorem dX9_next_18 : decode cX9_next 18 = .ok (.iconst (-1), 1) := oq_2 (bq_in kqX9_next_0 18 rfl)
theorem dX9_next_19 : decode cX9_next 19 = .ok (.ireturn, 1) := oq_172 (bq_in kqX9_next_0 19 rfl)
theorem dX9_next_20 : decode cX9_next 20 = .ok (.aload_n 0, 1) := oq_42 (bq_in kqX9_next_0 20 rfl)
theorem dX9_next_21 : decode cX9_next 21 = .ok (.getfield 20, 3) := oq_180 (bq_in kqX9_next_0 21 rfl) (bq_in kqX9_next_0 22 rfl) (bq_in kqX9_next_0 23 rfl) rfl
theorem dX9_next_24 : decode cX9_next 24 = .ok (.iload_n 1, 1) := oq_27 (bq_in kqX9_next_0 24 rfl)
theorem dX9_next_25 : decode cX9_next 25 = .ok (.invokevirtual 83, 3) := oq_182 (bq_in kqX9_next_0 25 rfl) (bq_in kqX9_next_0 26 rfl) (bq_in kqX9_next_0 27 rfl) rfl
theorem dX9_next_28 : decode cX9_next 28 = .ok (.astore 4, 2) := oq_58 (bq_in kqX9_next_0 28 rfl) (bq_in kqX9_next_0 29 rfl)
theorem dX9_next_30 : decode cX9_next 30 = .ok (.aload 4, 2) := oq_25 (bq_in kqX9_next_0 30 rfl) (bq_in kqX9_next_0 31 rfl)
theorem kqX9_next_1 : ((cX9_next.data.toList.drop 32).take 34).map UInt8.toNat = [28, 3, 182, 0, 116, 87, 25, 4, 29, 182, 0, 119, 172] := by decide +kernel
theorem dX9_next_32 : decode cX9_next 32 = .ok (.iload_n 2, 1) := oq_28 (bq_in kqX9_next_1 0 rfl)
theorem dX9_next_33 : decode cX9_next 33 = .ok (.iconst 0, 1) := oq_3 (bq_in kqX9_next_1 1 rfl)
theorem dX9_next_34 : decode cX9_next 34 = .ok (.invokevirtual 116, 3) := oq_182 (bq_in kqX9_next_1 2 rfl) (bq_in kqX9_next_1 3 rfl) (bq_in kqX9_next_1 4 rfl) rfl
theorem dX9_next_37 : decode cX9_next 37 = .ok (.pop, 1) := oq_87 (bq_in kqX9_next_1 5 rfl)
theorem dX9_next_38 : decode cX9_next 38 = .ok (.aload 4, 2) := oq_25 (bq_in kqX9_next_1 6 rfl) (bq_in kqX9_next_1 7 rfl)
theorem dX9_next_40 : decode cX9_next 40 = .ok (.iload_n 3, 1) := oq_29 (bq_in kqX9_next_1 8 rfl)
theorem dX9_next_41 : decode cX9_next 41 = .ok (.invokevirtual 119, 3) := oq_182 (bq_in kqX9_next_1 9 rfl) (bq_in kqX9_next_1 10 rfl) (bq_in kqX9_next_1 11 rfl) rfl
theorem dX9_next_44 : decode cX9_next 44 = .ok (.ireturn, 1) := oq_172 (bq_in kqX9_next_1 12 rfl)
theorem kqX9_ahead_0 : ((cX9_ahead.data.toList.drop 0).take 34).map UInt8.toNat = [42, 180, 0, 20, 27, 182, 0, 53, 153, 0, 10, 28, 184, 0, 110, 154, 0, 5, 2, 172, 42, 180, 0, 20, 27, 182, 0, 83, 58, 4, 25, 4, 28, 182] := by decide +kernel
theorem dX9_ahead_0 : decode cX9_ahead 0 = .ok (.aload_n 0, 1) := oq_42 (bq_in kqX9_ahead_0 0 rfl)
theorem dX9_ahead_1 : decode cX9_ahead 1 = .ok (.getfield 20, 3) := oq_180 (bq_in kqX9_ahead_0 1 rfl) (bq_in kqX9_ahead_0 2 rfl) (bq_in kqX9_ahead_0 3 rfl) rfl
theorem dX9_ahead_4 : decode cX9_ahead 4 = .ok (.iload_n 1, 1) := oq_27 (bq_in kqX9_ahead_0 4 rfl)
theorem dX9_ahead_5 : decode cX9_ahead 5 = .ok (.invokevirtual 53, 3) := oq_182 (bq_in kqX9_ahead_0 5 rfl) (bq_in kqX9_ahead_0 6 rfl) (bq_in kqX9_ahead_0 7 rfl) rfl
theorem dX9_ahead_8 : decode cX9_ahead 8 = .ok (.ifCond .eq 10, 3) := oq_153 (bq_in kqX9_ahead_0 8 rfl) (bq_in kqX9_ahead_0 9 rfl) (bq_in kqX9_ahead_0 10 rfl) rfl
theorem dX9_ahead_11 : decode cX9_ahead 11 = .ok (.iload_n 2, 1) := oq_28 (bq_in kqX9_ahead_0 11 rfl)
theorem dX9_ahead_12 : decode cX9_ahead 12 = .ok (.invokestatic 110, 3) := oq_184 (bq_in kqX9_ahead_0 12 rfl) (bq_in kqX9_ahead_0 13 rfl) (bq_in kqX9_ahead_0 14 rfl) rfl
theorem dX9_ahead_15 : decode cX9_ahead 15 = .ok (.ifCond .ne 5, 3) := oq_154 (bq_in kqX9_ahead_0 15 rfl) (bq_in kqX9_ahead_0 16 rfl) (bq_in kqX9_ahead_0 17 rfl) rfl
theorem dX9_ahead_18 : decode cX9_ahead 18 = .ok (.iconst (-1), 1) := oq_2 (bq_in kqX9_ahead_0 18 rfl)
theorem dX9_ahead_19 : decode cX9_ahead 19 = .ok (.ireturn, 1) := oq_172 (bq_in kqX9_ahead_0 19 rfl)
theorem dX9_ahead_20 : decode cX9_ahead 20 = .ok (.aload_n 0, 1) := oq_42 (bq_in kqX9_ahead_0 20 rfl)
theorem dX9_ahead_21 : decode cX9_ahead 21 = .ok (.getfield 20, 3) := oq_180 (bq_in kqX9_ahead_0 21 rfl) (bq_in kqX9_ahead_0 22 rfl) (bq_in kqX9_ahead_0 23 rfl) rfl
theorem dX9_ahead_24 : decode cX9_ahead 24 = .ok (.iload_n 1, 1) := oq_27 (bq_in kqX9_ahead_0 24 rfl)
theorem dX9_ahead_25 : decode cX9_ahead 25 = .ok (.invokevirtual 83, 3) := oq_182 (bq_in kqX9_ahead_0 25 rfl) (bq_in kqX9_ahead_0 26 rfl) (bq_in kqX9_ahead_0 27 rfl) rfl
theorem dX9_ahead_28 : decode cX9_ahead 28 = .ok (.astore 4, 2) := oq_58 (bq_in kqX9_ahead_0 28 rfl) (bq_in kqX9_ahead_0 29 rfl)
theorem dX9_ahead_30 : decode cX9_ahead 30 = .ok (.aload 4, 2) := oq_25 (bq_in kqX9_ahead_0 30 rfl) (bq_in kqX9_ahead_0 31 rfl)
theorem kqX9_ahead_1 : ((cX9_ahead.data.toList.drop 32).take 34).map UInt8.toNat = [28, 182, 0, 122, 87, 25, 4, 29, 182, 0, 119, 172] := by decide +kernel
theorem dX9_ahead_32 : decode cX9_ahead 32 = .ok (.iload_n 2, 1) := oq_28 (bq_in kqX9_ahead_1 0 rfl)
theorem dX9_ahead_33 : decode cX9_ahead 33 = .ok (.invokevirtual 122, 3) := oq_182 (bq_in kqX9_ahead_1 1 rfl) (bq_in kqX9_ahead_1 2 rfl) (bq_in kqX9_ahead_1 3 rfl) rfl
theorem dX9_ahead_36 : decode cX9_ahead 36 = .ok (.pop, 1) := oq_87 (bq_in kqX9_ahead_1 4 rfl)
theorem dX9_ahead_37 : decode cX9_ahead 37 = .ok (.aload 4, 2) := oq_25 (bq_in kqX9_ahead_1 5 rfl) (bq_in kqX9_ahead_1 6 rfl)
theorem dX9_ahead_39 : decode cX9_ahead 39 = .ok (.iload_n 3, 1) := oq_29 (bq_in kqX9_ahead_1 7 rfl)
theorem dX9_ahead_40 : decode cX9_ahead 40 = .ok (.invokevirtual 119, 3) := oq_182 (bq_in kqX9_ahead_1 8 rfl) (bq_in kqX9_ahead_1 9 rfl) (bq_in kqX9_ahead_1 10 rfl) rfl
theorem dX9_ahead_43 : decode cX9_ahead 43 = .ok (.ireturn, 1) := oq_172 (bq_in kqX9_ahead_1 11 rfl)
theorem kqX9_count_0 : ((cX9_count.data.toList.drop 0).take 34).map UInt8.toNat = [42, 180, 0, 20, 27, 182, 0, 53, 153, 0, 13, 28, 29, 18, 92, 184, 0, 93, 154, 0, 5, 2, 172, 42, 180, 0, 20, 27, 182, 0, 83, 28, 17, 5] := by decide +kernel
theorem dX9_count_0 : decode cX9_count 0 = .ok (.aload_n 0, 1) := oq_42 (bq_in kqX9_count_0 0 rfl)
theorem dX9_count_1 : decode cX9_count 1 = .ok (.getfield 20, 3) := oq_180 (bq_in kqX9_count_0 1 rfl) (bq_in kqX9_count_0 2 rfl) (bq_in kqX9_count_0 3 rfl) rfl
theorem dX9_count_4 : decode cX9_count 4 = .ok (.iload_n 1, 1) := oq_27 (bq_in kqX9_count_0 4 rfl)
theorem dX9_count_5 : decode cX9_count 5 = .ok (.invokevirtual 53, 3) := oq_182 (bq_in kqX9_count_0 5 rfl) (bq_in kqX9_count_0 6 rfl) (bq_in kqX9_count_0 7 rfl) rfl
theorem dX9_count_8 : decode cX9_count 8 = .ok (.ifCond .eq 13, 3) := oq_153 (bq_in kqX9_count_0 8 rfl) (bq_in kqX9_count_0 9 rfl) (bq_in kqX9_count_0 10 rfl) rfl
theorem dX9_count_11 : decode cX9_count 11 = .ok (.iload_n 2, 1) := oq_28 (bq_in kqX9_count_0 11 rfl)
theorem dX9_count_12 : decode cX9_count 12 = .ok (.iload_n 3, 1) := oq_29 (bq_in kqX9_count_0 12 rfl)
theorem dX9_count_13 : decode cX9_count 13 = .ok (.ldc 92, 2) := oq_18 (bq_in kqX9_count_0 13 rfl) (bq_in kqX9_count_0 14 rfl)
theorem dX9_count_15 : decode cX9_count 15 = .ok (.invokestatic 93, 3) := oq_184 (bq_in kqX9_count_0 15 rfl) (bq_in kqX9_count_0 16 rfl) (bq_in kqX9_count_0 17 rfl) rfl
theorem dX9_count_18 : decode cX9_count 18 = .ok (.ifCond .ne 5, 3) := oq_154 (bq_in kqX9_count_0 18 rfl) (bq_in kqX9_count_0 19 rfl) (bq_in kqX9_count_0 20 rfl) rfl
theorem dX9_count_21 : decode cX9_count 21 = .ok (.iconst (-1), 1) := oq_2 (bq_in kqX9_count_0 21 rfl)
theorem dX9_count_22 : decode cX9_count 22 = .ok (.ireturn, 1) := oq_172 (bq_in kqX9_count_0 22 rfl)
theorem dX9_count_23 : decode cX9_count 23 = .ok (.aload_n 0, 1) := oq_42 (bq_in kqX9_count_0 23 rfl)
theorem dX9_count_24 : decode cX9_count 24 = .ok (.getfield 20, 3) := oq_180 (bq_in kqX9_count_0 24 rfl) (bq_in kqX9_count_0 25 rfl) (bq_in kqX9_count_0 26 rfl) rfl
theorem dX9_count_27 : decode cX9_count 27 = .ok (.iload_n 1, 1) := oq_27 (bq_in kqX9_count_0 27 rfl)
theorem dX9_count_28 : decode cX9_count 28 = .ok (.invokevirtual 83, 3) := oq_182 (bq_in kqX9_count_0 28 rfl) (bq_in kqX9_count_0 29 rfl) (bq_in kqX9_count_0 30 rfl) rfl
theorem dX9_count_31 : decode cX9_count 31 = .ok (.iload_n 2, 1) := oq_28 (bq_in kqX9_count_0 31 rfl)
theorem kqX9_count_1 : ((cX9_count.data.toList.drop 32).take 34).map UInt8.toNat = [17, 5, 160, 104, 29, 17, 5, 160, 104, 17, 5, 160, 96, 4, 100, 182, 0, 125, 172] := by decide +kernel
theorem dX9_count_32 : decode cX9_count 32 = .ok (.sipush 1440, 3) := oq_17 (bq_in kqX9_count_1 0 rfl) (bq_in kqX9_count_1 1 rfl) (bq_in kqX9_count_1 2 rfl) rfl
theorem dX9_count_35 : decode cX9_count 35 = .ok (.imul, 1) := oq_104 (bq_in kqX9_count_1 3 rfl)
theorem dX9_count_36 : decode cX9_count 36 = .ok (.iload_n 3, 1) := oq_29 (bq_in kqX9_count_1 4 rfl)
theorem dX9_count_37 : decode cX9_count 37 = .ok (.sipush 1440, 3) := oq_17 (bq_in kqX9_count_1 5 rfl) (bq_in kqX9_count_1 6 rfl) (bq_in kqX9_count_1 7 rfl) rfl
theorem dX9_count_40 : decode cX9_count 40 = .ok (.imul, 1) := oq_104 (bq_in kqX9_count_1 8 rfl)
theorem dX9_count_41 : decode cX9_count 41 = .ok (.sipush 1440, 3) := oq_17 (bq_in kqX9_count_1 9 rfl) (bq_in kqX9_count_1 10 rfl) (bq_in kqX9_count_1 11 rfl) rfl
theorem dX9_count_44 : decode cX9_count 44 = .ok (.iadd, 1) := oq_96 (bq_in kqX9_count_1 12 rfl)
theorem dX9_count_45 : decode cX9_count 45 = .ok (.iconst 1, 1) := oq_4 (bq_in kqX9_count_1 13 rfl)
theorem dX9_count_46 : decode cX9_count 46 = .ok (.isub, 1) := oq_100 (bq_in kqX9_count_1 14 rfl)
theorem dX9_count_47 : decode cX9_count 47 = .ok (.invokevirtual 125, 3) := oq_182 (bq_in kqX9_count_1 15 rfl) (bq_in kqX9_count_1 16 rfl) (bq_in kqX9_count_1 17 rfl) rfl
theorem dX9_count_50 : decode cX9_count 50 = .ok (.ireturn, 1) := oq_172 (bq_in kqX9_count_1 18 rfl)
theorem kqX9_on_0 : ((cX9_on.data.toList.drop 0).take 34).map UInt8.toNat = [42, 27, 28, 29, 182, 0, 128, 172] := by decide +kernel
theorem dX9_on_0 : decode cX9_on 0 = .ok (.aload_n 0, 1) := oq_42 (bq_in kqX9_on_0 0 rfl)
theorem dX9_on_1 : decode cX9_on 1 = .ok (.iload_n 1, 1) := oq_27 (bq_in kqX9_on_0 1 rfl)
theorem dX9_on_2 : decode cX9_on 2 = .ok (.iload_n 2, 1) := oq_28 (bq_in kqX9_on_0 2 rfl)
theorem dX9_on_3 : decode cX9_on 3 = .ok (.iload_n 3, 1) := oq_29 (bq_in kqX9_on_0 3 rfl)
theorem dX9_on_4 : decode cX9_on 4 = .ok (.invokevirtual 128, 3) := oq_182 (bq_in kqX9_on_0 4 rfl) (bq_in kqX9_on_0 5 rfl) (bq_in kqX9_on_0 6 rfl) rfl
theorem dX9_on_7 : decode cX9_on 7 = .ok (.ireturn, 1) := oq_172 (bq_in kqX9_on_0 7 rfl)
theorem kqX9_onAt_0 : ((cX9_onAt.data.toList.drop 0).take 34).map UInt8.toNat = [21, 4, 155, 0, 26, 21, 4, 42, 27, 28, 29, 182, 0, 128, 162, 0, 14, 21, 5, 155, 0, 9, 21, 5, 5, 164, 0, 13, 187, 0, 132, 89, 18, 134] := by decide +kernel
theorem dX9_onAt_0 : decode cX9_onAt 0 = .ok (.iload 4, 2) := oq_21 (bq_in kqX9_onAt_0 0 rfl) (bq_in kqX9_onAt_0 1 rfl)
theorem dX9_onAt_2 : decode cX9_onAt 2 = .ok (.ifCond .lt 26, 3) := oq_155 (bq_in kqX9_onAt_0 2 rfl) (bq_in kqX9_onAt_0 3 rfl) (bq_in kqX9_onAt_0 4 rfl) rfl
theorem dX9_onAt_5 : decode cX9_onAt 5 = .ok (.iload 4, 2) := oq_21 (bq_in kqX9_onAt_0 5 rfl) (bq_in kqX9_onAt_0 6 rfl)
theorem dX9_onAt_7 : decode cX9_onAt 7 = .ok (.aload_n 0, 1) := oq_42 (bq_in kqX9_onAt_0 7 rfl)
theorem dX9_onAt_8 : decode cX9_onAt 8 = .ok (.iload_n 1, 1) := oq_27 (bq_in kqX9_onAt_0 8 rfl)
theorem dX9_onAt_9 : decode cX9_onAt 9 = .ok (.iload_n 2, 1) := oq_28 (bq_in kqX9_onAt_0 9 rfl)
theorem dX9_onAt_10 : decode cX9_onAt 10 = .ok (.iload_n 3, 1) := oq_29 (bq_in kqX9_onAt_0 10 rfl)
theorem dX9_onAt_11 : decode cX9_onAt 11 = .ok (.invokevirtual 128, 3) := oq_182 (bq_in kqX9_onAt_0 11 rfl) (bq_in kqX9_onAt_0 12 rfl) (bq_in kqX9_onAt_0 13 rfl) rfl
theorem dX9_onAt_14 : decode cX9_onAt 14 = .ok (.if_icmp .ge 14, 3) := oq_162 (bq_in kqX9_onAt_0 14 rfl) (bq_in kqX9_onAt_0 15 rfl) (bq_in kqX9_onAt_0 16 rfl) rfl
theorem dX9_onAt_17 : decode cX9_onAt 17 = .ok (.iload 5, 2) := oq_21 (bq_in kqX9_onAt_0 17 rfl) (bq_in kqX9_onAt_0 18 rfl)
theorem dX9_onAt_19 : decode cX9_onAt 19 = .ok (.ifCond .lt 9, 3) := oq_155 (bq_in kqX9_onAt_0 19 rfl) (bq_in kqX9_onAt_0 20 rfl) (bq_in kqX9_onAt_0 21 rfl) rfl
theorem dX9_onAt_22 : decode cX9_onAt 22 = .ok (.iload 5, 2) := oq_21 (bq_in kqX9_onAt_0 22 rfl) (bq_in kqX9_onAt_0 23 rfl)
theorem dX9_onAt_24 : decode cX9_onAt 24 = .ok (.iconst 2, 1) := oq_5 (bq_in kqX9_onAt_0 24 rfl)
theorem dX9_onAt_25 : decode cX9_onAt 25 = .ok (.if_icmp .le 13, 3) := oq_164 (bq_in kqX9_onAt_0 25 rfl) (bq_in kqX9_onAt_0 26 rfl) (bq_in kqX9_onAt_0 27 rfl) rfl
theorem dX9_onAt_28 : decode cX9_onAt 28 = .ok (.new 132, 3) := oq_187 (bq_in kqX9_onAt_0 28 rfl) (bq_in kqX9_onAt_0 29 rfl) (bq_in kqX9_onAt_0 30 rfl) rfl
theorem dX9_onAt_31 : decode cX9_onAt 31 = .ok (.dup, 1) := oq_89 (bq_in kqX9_onAt_0 31 rfl)
theorem kqX9_onAt_1 : ((cX9_onAt.data.toList.drop 32).take 34).map UInt8.toNat = [18, 134, 183, 0, 136, 191, 42, 27, 28, 21, 4, 182, 0, 139, 54, 6, 42, 180, 0, 20, 21, 6, 182, 0, 53, 154, 0, 13, 187, 0, 132, 89, 18, 134] := by decide +kernel
theorem dX9_onAt_32 : decode cX9_onAt 32 = .ok (.ldc 134, 2) := oq_18 (bq_in kqX9_onAt_1 0 rfl) (bq_in kqX9_onAt_1 1 rfl)
theorem dX9_onAt_34 : decode cX9_onAt 34 = .ok (.invokespecial 136, 3) := oq_183 (bq_in kqX9_onAt_1 2 rfl) (bq_in kqX9_onAt_1 3 rfl) (bq_in kqX9_onAt_1 4 rfl) rfl
theorem dX9_onAt_37 : decode cX9_onAt 37 = .ok (.athrow, 1) := oq_191 (bq_in kqX9_onAt_1 5 rfl)
theorem dX9_onAt_38 : decode cX9_onAt 38 = .ok (.aload_n 0, 1) := oq_42 (bq_in kqX9_onAt_1 6 rfl)
theorem dX9_onAt_39 : decode cX9_onAt 39 = .ok (.iload_n 1, 1) := oq_27 (bq_in kqX9_onAt_1 7 rfl)
theorem dX9_onAt_40 : decode cX9_onAt 40 = .ok (.iload_n 2, 1) := oq_28 (bq_in kqX9_onAt_1 8 rfl)
theorem dX9_onAt_41 : decode cX9_onAt 41 = .ok (.iload 4, 2) := oq_21 (bq_in kqX9_onAt_1 9 rfl) (bq_in kqX9_onAt_1 10 rfl)
theorem dX9_onAt_43 : decode cX9_onAt 43 = .ok (.invokevirtual 139, 3) := oq_182 (bq_in kqX9_onAt_1 11 rfl) (bq_in kqX9_onAt_1 12 rfl) (bq_in kqX9_onAt_1 13 rfl) rfl
theorem dX9_onAt_46 : decode cX9_onAt 46 = .ok (.istore 6, 2) := oq_54 (bq_in kqX9_onAt_1 14 rfl) (bq_in kqX9_onAt_1 15 rfl)
theorem dX9_onAt_48 : decode cX9_onAt 48 = .ok (.aload_n 0, 1) := oq_42 (bq_in kqX9_onAt_1 16 rfl)
theorem dX9_onAt_49 : decode cX9_onAt 49 = .ok (.getfield 20, 3) := oq_180 (bq_in kqX9_onAt_1 17 rfl) (bq_in kqX9_onAt_1 18 rfl) (bq_in kqX9_onAt_1 19 rfl) rfl
theorem dX9_onAt_52 : decode cX9_onAt 52 = .ok (.iload 6, 2) := oq_21 (bq_in kqX9_onAt_1 20 rfl) (bq_in kqX9_onAt_1 21 rfl)
theorem dX9_onAt_54 : decode cX9_onAt 54 = .ok (.invokevirtual 53, 3) := oq_182 (bq_in kqX9_onAt_1 22 rfl) (bq_in kqX9_onAt_1 23 rfl) (bq_in kqX9_onAt_1 24 rfl) rfl
theorem dX9_onAt_57 : decode cX9_onAt 57 = .ok (.ifCond .ne 13, 3) := oq_154 (bq_in kqX9_onAt_1 25 rfl) (bq_in kqX9_onAt_1 26 rfl) (bq_in kqX9_onAt_1 27 rfl) rfl
theorem dX9_onAt_60 : decode cX9_onAt 60 = .ok (.new 132, 3) := oq_187 (bq_in kqX9_onAt_1 28 rfl) (bq_in kqX9_onAt_1 29 rfl) (bq_in kqX9_onAt_1 30 rfl) rfl
theorem dX9_onAt_63 : decode cX9_onAt 63 = .ok (.dup, 1) := oq_89 (bq_in kqX9_onAt_1 31 rfl)
theorem kqX9_onAt_2 : ((cX9_onAt.data.toList.drop 64).take 34).map UInt8.toNat = [18, 134, 183, 0, 136, 191, 21, 5, 154, 0, 6, 21, 6, 172, 42, 180, 0, 20, 21, 6, 182, 0, 83, 58, 7, 21, 5, 4, 160, 0, 11, 25, 7, 180] := by decide +kernel
theorem dX9_onAt_64 : decode cX9_onAt 64 = .ok (.ldc 134, 2) := oq_18 (bq_in kqX9_onAt_2 0 rfl) (bq_in kqX9_onAt_2 1 rfl)
theorem dX9_onAt_66 : decode cX9_onAt 66 = .ok (.invokespecial 136, 3) := oq_183 (bq_in kqX9_onAt_2 2 rfl) (bq_in kqX9_onAt_2 3 rfl) (bq_in kqX9_onAt_2 4 rfl) rfl
theorem dX9_onAt_69 : decode cX9_onAt 69 = .ok (.athrow, 1) := oq_191 (bq_in kqX9_onAt_2 5 rfl)
theorem dX9_onAt_70 : decode cX9_onAt 70 = .ok (.iload 5, 2) := oq_21 (bq_in kqX9_onAt_2 6 rfl) (bq_in kqX9_onAt_2 7 rfl)
theorem dX9_onAt_72 : decode cX9_onAt 72 = .ok (.ifCond .ne 6, 3) := oq_154 (bq_in kqX9_onAt_2 8 rfl) (bq_in kqX9_onAt_2 9 rfl) (bq_in kqX9_onAt_2 10 rfl) rfl
theorem dX9_onAt_75 : decode cX9_onAt 75 = .ok (.iload 6, 2) := oq_21 (bq_in kqX9_onAt_2 11 rfl) (bq_in kqX9_onAt_2 12 rfl)
theorem dX9_onAt_77 : decode cX9_onAt 77 = .ok (.ireturn, 1) := oq_172 (bq_in kqX9_onAt_2 13 rfl)
theorem dX9_onAt_78 : decode cX9_onAt 78 = .ok (.aload_n 0, 1) := oq_42 (bq_in kqX9_onAt_2 14 rfl)
theorem dX9_onAt_79 : decode cX9_onAt 79 = .ok (.getfield 20, 3) := oq_180 (bq_in kqX9_onAt_2 15 rfl) (bq_in kqX9_onAt_2 16 rfl) (bq_in kqX9_onAt_2 17 rfl) rfl
theorem dX9_onAt_82 : decode cX9_onAt 82 = .ok (.iload 6, 2) := oq_21 (bq_in kqX9_onAt_2 18 rfl) (bq_in kqX9_onAt_2 19 rfl)
theorem dX9_onAt_84 : decode cX9_onAt 84 = .ok (.invokevirtual 83, 3) := oq_182 (bq_in kqX9_onAt_2 20 rfl) (bq_in kqX9_onAt_2 21 rfl) (bq_in kqX9_onAt_2 22 rfl) rfl
theorem dX9_onAt_87 : decode cX9_onAt 87 = .ok (.astore 7, 2) := oq_58 (bq_in kqX9_onAt_2 23 rfl) (bq_in kqX9_onAt_2 24 rfl)
theorem dX9_onAt_89 : decode cX9_onAt 89 = .ok (.iload 5, 2) := oq_21 (bq_in kqX9_onAt_2 25 rfl) (bq_in kqX9_onAt_2 26 rfl)
theorem dX9_onAt_91 : decode cX9_onAt 91 = .ok (.iconst 1, 1) := oq_4 (bq_in kqX9_onAt_2 27 rfl)
theorem dX9_onAt_92 : decode cX9_onAt 92 = .ok (.if_icmp .ne 11, 3) := oq_160 (bq_in kqX9_onAt_2 28 rfl) (bq_in kqX9_onAt_2 29 rfl) (bq_in kqX9_onAt_2 30 rfl) rfl
theorem dX9_onAt_95 : decode cX9_onAt 95 = .ok (.aload 7, 2) := oq_25 (bq_in kqX9_onAt_2 31 rfl) (bq_in kqX9_onAt_2 32 rfl)
theorem kqX9_onAt_3 : ((cX9_onAt.data.toList.drop 96).take 34).map UInt8.toNat = [7, 180, 0, 142, 167, 0, 8, 25, 7, 180, 0, 145, 172] := by decide +kernel
theorem dX9_onAt_97 : decode cX9_onAt 97 = .ok (.getfield 142, 3) := oq_180 (bq_in kqX9_onAt_3 1 rfl) (bq_in kqX9_onAt_3 2 rfl) (bq_in kqX9_onAt_3 3 rfl) rfl
theorem dX9_onAt_100 : decode cX9_onAt 100 = .ok (.goto 8, 3) := oq_167 (bq_in kqX9_onAt_3 4 rfl) (bq_in kqX9_onAt_3 5 rfl) (bq_in kqX9_onAt_3 6 rfl) rfl
theorem dX9_onAt_103 : decode cX9_onAt 103 = .ok (.aload 7, 2) := oq_25 (bq_in kqX9_onAt_3 7 rfl) (bq_in kqX9_onAt_3 8 rfl)
theorem dX9_onAt_105 : decode cX9_onAt 105 = .ok (.getfield 145, 3) := oq_180 (bq_in kqX9_onAt_3 9 rfl) (bq_in kqX9_onAt_3 10 rfl) (bq_in kqX9_onAt_3 11 rfl) rfl
theorem dX9_onAt_108 : decode cX9_onAt 108 = .ok (.ireturn, 1) := oq_172 (bq_in kqX9_onAt_3 12 rfl)
theorem kqX9_clash_0 : ((cX9_clash.data.toList.drop 0).take 34).map UInt8.toNat = [42, 27, 28, 182, 0, 148, 153, 0, 10, 29, 184, 0, 110, 154, 0, 5, 2, 172, 42, 180, 0, 20, 27, 182, 0, 83, 58, 4, 42, 180, 0, 20, 28, 182] := by decide +kernel
theorem dX9_clash_0 : decode cX9_clash 0 = .ok (.aload_n 0, 1) := oq_42 (bq_in kqX9_clash_0 0 rfl)
theorem dX9_clash_1 : decode cX9_clash 1 = .ok (.iload_n 1, 1) := oq_27 (bq_in kqX9_clash_0 1 rfl)
theorem dX9_clash_2 : decode cX9_clash 2 = .ok (.iload_n 2, 1) := oq_28 (bq_in kqX9_clash_0 2 rfl)
theorem dX9_clash_3 : decode cX9_clash 3 = .ok (.invokevirtual 148, 3) := oq_182 (bq_in kqX9_clash_0 3 rfl) (bq_in kqX9_clash_0 4 rfl) (bq_in kqX9_clash_0 5 rfl) rfl
theorem dX9_clash_6 : decode cX9_clash 6 = .ok (.ifCond .eq 10, 3) := oq_153 (bq_in kqX9_clash_0 6 rfl) (bq_in kqX9_clash_0 7 rfl) (bq_in kqX9_clash_0 8 rfl) rfl
theorem dX9_clash_9 : decode cX9_clash 9 = .ok (.iload_n 3, 1) := oq_29 (bq_in kqX9_clash_0 9 rfl)
theorem dX9_clash_10 : decode cX9_clash 10 = .ok (.invokestatic 110, 3) := oq_184 (bq_in kqX9_clash_0 10 rfl) (bq_in kqX9_clash_0 11 rfl) (bq_in kqX9_clash_0 12 rfl) rfl
theorem dX9_clash_13 : decode cX9_clash 13 = .ok (.ifCond .ne 5, 3) := oq_154 (bq_in kqX9_clash_0 13 rfl) (bq_in kqX9_clash_0 14 rfl) (bq_in kqX9_clash_0 15 rfl) rfl
theorem dX9_clash_16 : decode cX9_clash 16 = .ok (.iconst (-1), 1) := oq_2 (bq_in kqX9_clash_0 16 rfl)
theorem dX9_clash_17 : decode cX9_clash 17 = .ok (.ireturn, 1) := oq_172 (bq_in kqX9_clash_0 17 rfl)
theorem dX9_clash_18 : decode cX9_clash 18 = .ok (.aload_n 0, 1) := oq_42 (bq_in kqX9_clash_0 18 rfl)
theorem dX9_clash_19 : decode cX9_clash 19 = .ok (.getfield 20, 3) := oq_180 (bq_in kqX9_clash_0 19 rfl) (bq_in kqX9_clash_0 20 rfl) (bq_in kqX9_clash_0 21 rfl) rfl
theorem dX9_clash_22 : decode cX9_clash 22 = .ok (.iload_n 1, 1) := oq_27 (bq_in kqX9_clash_0 22 rfl)
theorem dX9_clash_23 : decode cX9_clash 23 = .ok (.invokevirtual 83, 3) := oq_182 (bq_in kqX9_clash_0 23 rfl) (bq_in kqX9_clash_0 24 rfl) (bq_in kqX9_clash_0 25 rfl) rfl
theorem dX9_clash_26 : decode cX9_clash 26 = .ok (.astore 4, 2) := oq_58 (bq_in kqX9_clash_0 26 rfl) (bq_in kqX9_clash_0 27 rfl)
theorem dX9_clash_28 : decode cX9_clash 28 = .ok (.aload_n 0, 1) := oq_42 (bq_in kqX9_clash_0 28 rfl)
theorem dX9_clash_29 : decode cX9_clash 29 = .ok (.getfield 20, 3) := oq_180 (bq_in kqX9_clash_0 29 rfl) (bq_in kqX9_clash_0 30 rfl) (bq_in kqX9_clash_0 31 rfl) rfl
theorem kqX9_clash_1 : ((cX9_clash.data.toList.drop 32).take 34).map UInt8.toNat = [28, 182, 0, 83, 58, 5, 25, 4, 25, 5, 29, 18, 151, 184, 0, 152, 54, 6, 25, 4, 25, 5, 29, 21, 6, 184, 0, 156, 54, 6, 21, 6, 18, 151] := by decide +kernel
theorem dX9_clash_32 : decode cX9_clash 32 = .ok (.iload_n 2, 1) := oq_28 (bq_in kqX9_clash_1 0 rfl)
theorem dX9_clash_33 : decode cX9_clash 33 = .ok (.invokevirtual 83, 3) := oq_182 (bq_in kqX9_clash_1 1 rfl) (bq_in kqX9_clash_1 2 rfl) (bq_in kqX9_clash_1 3 rfl) rfl
theorem dX9_clash_36 : decode cX9_clash 36 = .ok (.astore 5, 2) := oq_58 (bq_in kqX9_clash_1 4 rfl) (bq_in kqX9_clash_1 5 rfl)
theorem dX9_clash_38 : decode cX9_clash 38 = .ok (.aload 4, 2) := oq_25 (bq_in kqX9_clash_1 6 rfl) (bq_in kqX9_clash_1 7 rfl)
theorem dX9_clash_40 : decode cX9_clash 40 = .ok (.aload 5, 2) := oq_25 (bq_in kqX9_clash_1 8 rfl) (bq_in kqX9_clash_1 9 rfl)
theorem dX9_clash_42 : decode cX9_clash 42 = .ok (.iload_n 3, 1) := oq_29 (bq_in kqX9_clash_1 10 rfl)
theorem dX9_clash_43 : decode cX9_clash 43 = .ok (.ldc 151, 2) := oq_18 (bq_in kqX9_clash_1 11 rfl) (bq_in kqX9_clash_1 12 rfl)
theorem dX9_clash_45 : decode cX9_clash 45 = .ok (.invokestatic 152, 3) := oq_184 (bq_in kqX9_clash_1 13 rfl) (bq_in kqX9_clash_1 14 rfl) (bq_in kqX9_clash_1 15 rfl) rfl
theorem dX9_clash_48 : decode cX9_clash 48 = .ok (.istore 6, 2) := oq_54 (bq_in kqX9_clash_1 16 rfl) (bq_in kqX9_clash_1 17 rfl)
theorem dX9_clash_50 : decode cX9_clash 50 = .ok (.aload 4, 2) := oq_25 (bq_in kqX9_clash_1 18 rfl) (bq_in kqX9_clash_1 19 rfl)
theorem dX9_clash_52 : decode cX9_clash 52 = .ok (.aload 5, 2) := oq_25 (bq_in kqX9_clash_1 20 rfl) (bq_in kqX9_clash_1 21 rfl)
theorem dX9_clash_54 : decode cX9_clash 54 = .ok (.iload_n 3, 1) := oq_29 (bq_in kqX9_clash_1 22 rfl)
theorem dX9_clash_55 : decode cX9_clash 55 = .ok (.iload 6, 2) := oq_21 (bq_in kqX9_clash_1 23 rfl) (bq_in kqX9_clash_1 24 rfl)
theorem dX9_clash_57 : decode cX9_clash 57 = .ok (.invokestatic 156, 3) := oq_184 (bq_in kqX9_clash_1 25 rfl) (bq_in kqX9_clash_1 26 rfl) (bq_in kqX9_clash_1 27 rfl) rfl
theorem dX9_clash_60 : decode cX9_clash 60 = .ok (.istore 6, 2) := oq_54 (bq_in kqX9_clash_1 28 rfl) (bq_in kqX9_clash_1 29 rfl)
theorem dX9_clash_62 : decode cX9_clash 62 = .ok (.iload 6, 2) := oq_21 (bq_in kqX9_clash_1 30 rfl) (bq_in kqX9_clash_1 31 rfl)
theorem kqX9_clash_2 : ((cX9_clash.data.toList.drop 64).take 34).map UInt8.toNat = [18, 151, 160, 0, 7, 2, 167, 0, 5, 21, 6, 172] := by decide +kernel
theorem dX9_clash_64 : decode cX9_clash 64 = .ok (.ldc 151, 2) := oq_18 (bq_in kqX9_clash_2 0 rfl) (bq_in kqX9_clash_2 1 rfl)
theorem dX9_clash_66 : decode cX9_clash 66 = .ok (.if_icmp .ne 7, 3) := oq_160 (bq_in kqX9_clash_2 2 rfl) (bq_in kqX9_clash_2 3 rfl) (bq_in kqX9_clash_2 4 rfl) rfl
theorem dX9_clash_69 : decode cX9_clash 69 = .ok (.iconst (-1), 1) := oq_2 (bq_in kqX9_clash_2 5 rfl)
theorem dX9_clash_70 : decode cX9_clash 70 = .ok (.goto 5, 3) := oq_167 (bq_in kqX9_clash_2 6 rfl) (bq_in kqX9_clash_2 7 rfl) (bq_in kqX9_clash_2 8 rfl) rfl
theorem dX9_clash_73 : decode cX9_clash 73 = .ok (.iload 6, 2) := oq_21 (bq_in kqX9_clash_2 9 rfl) (bq_in kqX9_clash_2 10 rfl)
theorem dX9_clash_75 : decode cX9_clash 75 = .ok (.ireturn, 1) := oq_172 (bq_in kqX9_clash_2 11 rfl)
theorem kqX9_clashes_0 : ((cX9_clashes.data.toList.drop 0).take 34).map UInt8.toNat = [42, 27, 28, 182, 0, 148, 153, 0, 15, 29, 21, 4, 17, 1, 144, 184, 0, 93, 154, 0, 5, 2, 172, 42, 180, 0, 20, 27, 182, 0, 83, 58, 5, 42] := by decide +kernel
theorem dX9_clashes_0 : decode cX9_clashes 0 = .ok (.aload_n 0, 1) := oq_42 (bq_in kqX9_clashes_0 0 rfl)
theorem dX9_clashes_1 : decode cX9_clashes 1 = .ok (.iload_n 1, 1) := oq_27 (bq_in kqX9_clashes_0 1 rfl)
theorem dX9_clashes_2 : decode cX9_clashes 2 = .ok (.iload_n 2, 1) := oq_28 (bq_in kqX9_clashes_0 2 rfl)
theorem dX9_clashes_3 : decode cX9_clashes 3 = .ok (.invokevirtual 148, 3) := oq_182 (bq_in kqX9_clashes_0 3 rfl) (bq_in kqX9_clashes_0 4 rfl) (bq_in kqX9_clashes_0 5 rfl) rfl
theorem dX9_clashes_6 : decode cX9_clashes 6 = .ok (.ifCond .eq 15, 3) := oq_153 (bq_in kqX9_clashes_0 6 rfl) (bq_in kqX9_clashes_0 7 rfl) (bq_in kqX9_clashes_0 8 rfl) rfl
theorem dX9_clashes_9 : decode cX9_clashes 9 = .ok (.iload_n 3, 1) := oq_29 (bq_in kqX9_clashes_0 9 rfl)
theorem dX9_clashes_10 : decode cX9_clashes 10 = .ok (.iload 4, 2) := oq_21 (bq_in kqX9_clashes_0 10 rfl) (bq_in kqX9_clashes_0 11 rfl)
theorem dX9_clashes_12 : decode cX9_clashes 12 = .ok (.sipush 400, 3) := oq_17 (bq_in kqX9_clashes_0 12 rfl) (bq_in kqX9_clashes_0 13 rfl) (bq_in kqX9_clashes_0 14 rfl) rfl
theorem dX9_clashes_15 : decode cX9_clashes 15 = .ok (.invokestatic 93, 3) := oq_184 (bq_in kqX9_clashes_0 15 rfl) (bq_in kqX9_clashes_0 16 rfl) (bq_in kqX9_clashes_0 17 rfl) rfl
theorem dX9_clashes_18 : decode cX9_clashes 18 = .ok (.ifCond .ne 5, 3) := oq_154 (bq_in kqX9_clashes_0 18 rfl) (bq_in kqX9_clashes_0 19 rfl) (bq_in kqX9_clashes_0 20 rfl) rfl
theorem dX9_clashes_21 : decode cX9_clashes 21 = .ok (.iconst (-1), 1) := oq_2 (bq_in kqX9_clashes_0 21 rfl)
theorem dX9_clashes_22 : decode cX9_clashes 22 = .ok (.ireturn, 1) := oq_172 (bq_in kqX9_clashes_0 22 rfl)
theorem dX9_clashes_23 : decode cX9_clashes 23 = .ok (.aload_n 0, 1) := oq_42 (bq_in kqX9_clashes_0 23 rfl)
theorem dX9_clashes_24 : decode cX9_clashes 24 = .ok (.getfield 20, 3) := oq_180 (bq_in kqX9_clashes_0 24 rfl) (bq_in kqX9_clashes_0 25 rfl) (bq_in kqX9_clashes_0 26 rfl) rfl
theorem dX9_clashes_27 : decode cX9_clashes 27 = .ok (.iload_n 1, 1) := oq_27 (bq_in kqX9_clashes_0 27 rfl)
theorem dX9_clashes_28 : decode cX9_clashes 28 = .ok (.invokevirtual 83, 3) := oq_182 (bq_in kqX9_clashes_0 28 rfl) (bq_in kqX9_clashes_0 29 rfl) (bq_in kqX9_clashes_0 30 rfl) rfl
theorem dX9_clashes_31 : decode cX9_clashes 31 = .ok (.astore 5, 2) := oq_58 (bq_in kqX9_clashes_0 31 rfl) (bq_in kqX9_clashes_0 32 rfl)
theorem kqX9_clashes_1 : ((cX9_clashes.data.toList.drop 32).take 34).map UInt8.toNat = [5, 42, 180, 0, 20, 28, 182, 0, 83, 58, 6, 29, 17, 5, 160, 104, 54, 7, 21, 4, 17, 5, 160, 104, 17, 5, 160, 96, 4, 100, 54, 8, 25, 5] := by decide +kernel
theorem dX9_clashes_33 : decode cX9_clashes 33 = .ok (.aload_n 0, 1) := oq_42 (bq_in kqX9_clashes_1 1 rfl)
theorem dX9_clashes_34 : decode cX9_clashes 34 = .ok (.getfield 20, 3) := oq_180 (bq_in kqX9_clashes_1 2 rfl) (bq_in kqX9_clashes_1 3 rfl) (bq_in kqX9_clashes_1 4 rfl) rfl
theorem dX9_clashes_37 : decode cX9_clashes 37 = .ok (.iload_n 2, 1) := oq_28 (bq_in kqX9_clashes_1 5 rfl)
theorem dX9_clashes_38 : decode cX9_clashes 38 = .ok (.invokevirtual 83, 3) := oq_182 (bq_in kqX9_clashes_1 6 rfl) (bq_in kqX9_clashes_1 7 rfl) (bq_in kqX9_clashes_1 8 rfl) rfl
theorem dX9_clashes_41 : decode cX9_clashes 41 = .ok (.astore 6, 2) := oq_58 (bq_in kqX9_clashes_1 9 rfl) (bq_in kqX9_clashes_1 10 rfl)
theorem dX9_clashes_43 : decode cX9_clashes 43 = .ok (.iload_n 3, 1) := oq_29 (bq_in kqX9_clashes_1 11 rfl)
theorem dX9_clashes_44 : decode cX9_clashes 44 = .ok (.sipush 1440, 3) := oq_17 (bq_in kqX9_clashes_1 12 rfl) (bq_in kqX9_clashes_1 13 rfl) (bq_in kqX9_clashes_1 14 rfl) rfl
theorem dX9_clashes_47 : decode cX9_clashes 47 = .ok (.imul, 1) := oq_104 (bq_in kqX9_clashes_1 15 rfl)
theorem dX9_clashes_48 : decode cX9_clashes 48 = .ok (.istore 7, 2) := oq_54 (bq_in kqX9_clashes_1 16 rfl) (bq_in kqX9_clashes_1 17 rfl)
theorem dX9_clashes_50 : decode cX9_clashes 50 = .ok (.iload 4, 2) := oq_21 (bq_in kqX9_clashes_1 18 rfl) (bq_in kqX9_clashes_1 19 rfl)
theorem dX9_clashes_52 : decode cX9_clashes 52 = .ok (.sipush 1440, 3) := oq_17 (bq_in kqX9_clashes_1 20 rfl) (bq_in kqX9_clashes_1 21 rfl) (bq_in kqX9_clashes_1 22 rfl) rfl
theorem dX9_clashes_55 : decode cX9_clashes 55 = .ok (.imul, 1) := oq_104 (bq_in kqX9_clashes_1 23 rfl)
theorem dX9_clashes_56 : decode cX9_clashes 56 = .ok (.sipush 1440, 3) := oq_17 (bq_in kqX9_clashes_1 24 rfl) (bq_in kqX9_clashes_1 25 rfl) (bq_in kqX9_clashes_1 26 rfl) rfl
theorem dX9_clashes_59 : decode cX9_clashes 59 = .ok (.iadd, 1) := oq_96 (bq_in kqX9_clashes_1 27 rfl)
theorem dX9_clashes_60 : decode cX9_clashes 60 = .ok (.iconst 1, 1) := oq_4 (bq_in kqX9_clashes_1 28 rfl)
theorem dX9_clashes_61 : decode cX9_clashes 61 = .ok (.isub, 1) := oq_100 (bq_in kqX9_clashes_1 29 rfl)
theorem dX9_clashes_62 : decode cX9_clashes 62 = .ok (.istore 8, 2) := oq_54 (bq_in kqX9_clashes_1 30 rfl) (bq_in kqX9_clashes_1 31 rfl)
theorem kqX9_clashes_2 : ((cX9_clashes.data.toList.drop 64).take 34).map UInt8.toNat = [25, 5, 25, 6, 21, 7, 21, 8, 3, 184, 0, 159, 25, 6, 25, 5, 21, 7, 21, 8, 4, 184, 0, 159, 96, 172] := by decide +kernel
theorem dX9_clashes_64 : decode cX9_clashes 64 = .ok (.aload 5, 2) := oq_25 (bq_in kqX9_clashes_2 0 rfl) (bq_in kqX9_clashes_2 1 rfl)
theorem dX9_clashes_66 : decode cX9_clashes 66 = .ok (.aload 6, 2) := oq_25 (bq_in kqX9_clashes_2 2 rfl) (bq_in kqX9_clashes_2 3 rfl)
theorem dX9_clashes_68 : decode cX9_clashes 68 = .ok (.iload 7, 2) := oq_21 (bq_in kqX9_clashes_2 4 rfl) (bq_in kqX9_clashes_2 5 rfl)
theorem dX9_clashes_70 : decode cX9_clashes 70 = .ok (.iload 8, 2) := oq_21 (bq_in kqX9_clashes_2 6 rfl) (bq_in kqX9_clashes_2 7 rfl)
theorem dX9_clashes_72 : decode cX9_clashes 72 = .ok (.iconst 0, 1) := oq_3 (bq_in kqX9_clashes_2 8 rfl)
theorem dX9_clashes_73 : decode cX9_clashes 73 = .ok (.invokestatic 159, 3) := oq_184 (bq_in kqX9_clashes_2 9 rfl) (bq_in kqX9_clashes_2 10 rfl) (bq_in kqX9_clashes_2 11 rfl) rfl
theorem dX9_clashes_76 : decode cX9_clashes 76 = .ok (.aload 6, 2) := oq_25 (bq_in kqX9_clashes_2 12 rfl) (bq_in kqX9_clashes_2 13 rfl)
theorem dX9_clashes_78 : decode cX9_clashes 78 = .ok (.aload 5, 2) := oq_25 (bq_in kqX9_clashes_2 14 rfl) (bq_in kqX9_clashes_2 15 rfl)
theorem dX9_clashes_80 : decode cX9_clashes 80 = .ok (.iload 7, 2) := oq_21 (bq_in kqX9_clashes_2 16 rfl) (bq_in kqX9_clashes_2 17 rfl)
theorem dX9_clashes_82 : decode cX9_clashes 82 = .ok (.iload 8, 2) := oq_21 (bq_in kqX9_clashes_2 18 rfl) (bq_in kqX9_clashes_2 19 rfl)
theorem dX9_clashes_84 : decode cX9_clashes 84 = .ok (.iconst 1, 1) := oq_4 (bq_in kqX9_clashes_2 20 rfl)
theorem dX9_clashes_85 : decode cX9_clashes 85 = .ok (.invokestatic 159, 3) := oq_184 (bq_in kqX9_clashes_2 21 rfl) (bq_in kqX9_clashes_2 22 rfl) (bq_in kqX9_clashes_2 23 rfl) rfl
theorem dX9_clashes_88 : decode cX9_clashes 88 = .ok (.iadd, 1) := oq_96 (bq_in kqX9_clashes_2 24 rfl)
theorem dX9_clashes_89 : decode cX9_clashes 89 = .ok (.ireturn, 1) := oq_172 (bq_in kqX9_clashes_2 25 rfl)
theorem kqX9_roomClash_0 : ((cX9_roomClash.data.toList.drop 0).take 34).map UInt8.toNat = [27, 184, 0, 163, 153, 0, 19, 28, 184, 0, 110, 153, 0, 12, 29, 155, 0, 8, 29, 5, 164, 0, 5, 2, 172, 18, 151, 54, 4, 2, 54, 5, 2, 54] := by decide +kernel
theorem dX9_roomClash_0 : decode cX9_roomClash 0 = .ok (.iload_n 1, 1) := oq_27 (bq_in kqX9_roomClash_0 0 rfl)
theorem dX9_roomClash_1 : decode cX9_roomClash 1 = .ok (.invokestatic 163, 3) := oq_184 (bq_in kqX9_roomClash_0 1 rfl) (bq_in kqX9_roomClash_0 2 rfl) (bq_in kqX9_roomClash_0 3 rfl) rfl
theorem dX9_roomClash_4 : decode cX9_roomClash 4 = .ok (.ifCond .eq 19, 3) := oq_153 (bq_in kqX9_roomClash_0 4 rfl) (bq_in kqX9_roomClash_0 5 rfl) (bq_in kqX9_roomClash_0 6 rfl) rfl
theorem dX9_roomClash_7 : decode cX9_roomClash 7 = .ok (.iload_n 2, 1) := oq_28 (bq_in kqX9_roomClash_0 7 rfl)
theorem dX9_roomClash_8 : decode cX9_roomClash 8 = .ok (.invokestatic 110, 3) := oq_184 (bq_in kqX9_roomClash_0 8 rfl) (bq_in kqX9_roomClash_0 9 rfl) (bq_in kqX9_roomClash_0 10 rfl) rfl
theorem dX9_roomClash_11 : decode cX9_roomClash 11 = .ok (.ifCond .eq 12, 3) := oq_153 (bq_in kqX9_roomClash_0 11 rfl) (bq_in kqX9_roomClash_0 12 rfl) (bq_in kqX9_roomClash_0 13 rfl) rfl
theorem dX9_roomClash_14 : decode cX9_roomClash 14 = .ok (.iload_n 3, 1) := oq_29 (bq_in kqX9_roomClash_0 14 rfl)
theorem dX9_roomClash_15 : decode cX9_roomClash 15 = .ok (.ifCond .lt 8, 3) := oq_155 (bq_in kqX9_roomClash_0 15 rfl) (bq_in kqX9_roomClash_0 16 rfl) (bq_in kqX9_roomClash_0 17 rfl) rfl
theorem dX9_roomClash_18 : decode cX9_roomClash 18 = .ok (.iload_n 3, 1) := oq_29 (bq_in kqX9_roomClash_0 18 rfl)
theorem dX9_roomClash_19 : decode cX9_roomClash 19 = .ok (.iconst 2, 1) := oq_5 (bq_in kqX9_roomClash_0 19 rfl)
theorem dX9_roomClash_20 : decode cX9_roomClash 20 = .ok (.if_icmp .le 5, 3) := oq_164 (bq_in kqX9_roomClash_0 20 rfl) (bq_in kqX9_roomClash_0 21 rfl) (bq_in kqX9_roomClash_0 22 rfl) rfl
theorem dX9_roomClash_23 : decode cX9_roomClash 23 = .ok (.iconst (-1), 1) := oq_2 (bq_in kqX9_roomClash_0 23 rfl)
theorem dX9_roomClash_24 : decode cX9_roomClash 24 = .ok (.ireturn, 1) := oq_172 (bq_in kqX9_roomClash_0 24 rfl)
theorem dX9_roomClash_25 : decode cX9_roomClash 25 = .ok (.ldc 151, 2) := oq_18 (bq_in kqX9_roomClash_0 25 rfl) (bq_in kqX9_roomClash_0 26 rfl)
theorem dX9_roomClash_27 : decode cX9_roomClash 27 = .ok (.istore 4, 2) := oq_54 (bq_in kqX9_roomClash_0 27 rfl) (bq_in kqX9_roomClash_0 28 rfl)
theorem dX9_roomClash_29 : decode cX9_roomClash 29 = .ok (.iconst (-1), 1) := oq_2 (bq_in kqX9_roomClash_0 29 rfl)
theorem dX9_roomClash_30 : decode cX9_roomClash 30 = .ok (.istore 5, 2) := oq_54 (bq_in kqX9_roomClash_0 30 rfl) (bq_in kqX9_roomClash_0 31 rfl)
theorem kqX9_roomClash_1 : ((cX9_roomClash.data.toList.drop 32).take 34).map UInt8.toNat = [2, 54, 6, 3, 54, 7, 21, 7, 42, 180, 0, 20, 180, 0, 166, 162, 0, 130, 21, 7, 4, 96, 54, 8, 21, 8, 42, 180, 0, 20, 180, 0, 166, 162] := by decide +kernel
theorem dX9_roomClash_32 : decode cX9_roomClash 32 = .ok (.iconst (-1), 1) := oq_2 (bq_in kqX9_roomClash_1 0 rfl)
theorem dX9_roomClash_33 : decode cX9_roomClash 33 = .ok (.istore 6, 2) := oq_54 (bq_in kqX9_roomClash_1 1 rfl) (bq_in kqX9_roomClash_1 2 rfl)
theorem dX9_roomClash_35 : decode cX9_roomClash 35 = .ok (.iconst 0, 1) := oq_3 (bq_in kqX9_roomClash_1 3 rfl)
theorem dX9_roomClash_36 : decode cX9_roomClash 36 = .ok (.istore 7, 2) := oq_54 (bq_in kqX9_roomClash_1 4 rfl) (bq_in kqX9_roomClash_1 5 rfl)
theorem dX9_roomClash_38 : decode cX9_roomClash 38 = .ok (.iload 7, 2) := oq_21 (bq_in kqX9_roomClash_1 6 rfl) (bq_in kqX9_roomClash_1 7 rfl)
theorem dX9_roomClash_40 : decode cX9_roomClash 40 = .ok (.aload_n 0, 1) := oq_42 (bq_in kqX9_roomClash_1 8 rfl)
theorem dX9_roomClash_41 : decode cX9_roomClash 41 = .ok (.getfield 20, 3) := oq_180 (bq_in kqX9_roomClash_1 9 rfl) (bq_in kqX9_roomClash_1 10 rfl) (bq_in kqX9_roomClash_1 11 rfl) rfl
theorem dX9_roomClash_44 : decode cX9_roomClash 44 = .ok (.getfield 166, 3) := oq_180 (bq_in kqX9_roomClash_1 12 rfl) (bq_in kqX9_roomClash_1 13 rfl) (bq_in kqX9_roomClash_1 14 rfl) rfl
theorem dX9_roomClash_47 : decode cX9_roomClash 47 = .ok (.if_icmp .ge 130, 3) := oq_162 (bq_in kqX9_roomClash_1 15 rfl) (bq_in kqX9_roomClash_1 16 rfl) (bq_in kqX9_roomClash_1 17 rfl) rfl
theorem dX9_roomClash_50 : decode cX9_roomClash 50 = .ok (.iload 7, 2) := oq_21 (bq_in kqX9_roomClash_1 18 rfl) (bq_in kqX9_roomClash_1 19 rfl)
theorem dX9_roomClash_52 : decode cX9_roomClash 52 = .ok (.iconst 1, 1) := oq_4 (bq_in kqX9_roomClash_1 20 rfl)
theorem dX9_roomClash_53 : decode cX9_roomClash 53 = .ok (.iadd, 1) := oq_96 (bq_in kqX9_roomClash_1 21 rfl)
theorem dX9_roomClash_54 : decode cX9_roomClash 54 = .ok (.istore 8, 2) := oq_54 (bq_in kqX9_roomClash_1 22 rfl) (bq_in kqX9_roomClash_1 23 rfl)
theorem dX9_roomClash_56 : decode cX9_roomClash 56 = .ok (.iload 8, 2) := oq_21 (bq_in kqX9_roomClash_1 24 rfl) (bq_in kqX9_roomClash_1 25 rfl)
theorem dX9_roomClash_58 : decode cX9_roomClash 58 = .ok (.aload_n 0, 1) := oq_42 (bq_in kqX9_roomClash_1 26 rfl)
theorem dX9_roomClash_59 : decode cX9_roomClash 59 = .ok (.getfield 20, 3) := oq_180 (bq_in kqX9_roomClash_1 27 rfl) (bq_in kqX9_roomClash_1 28 rfl) (bq_in kqX9_roomClash_1 29 rfl) rfl
theorem dX9_roomClash_62 : decode cX9_roomClash 62 = .ok (.getfield 166, 3) := oq_180 (bq_in kqX9_roomClash_1 30 rfl) (bq_in kqX9_roomClash_1 31 rfl) (bq_in kqX9_roomClash_1 32 rfl) rfl
theorem kqX9_roomClash_2 : ((cX9_roomClash.data.toList.drop 64).take 34).map UInt8.toNat = [166, 162, 0, 106, 42, 180, 0, 20, 21, 7, 27, 182, 0, 169, 153, 0, 87, 42, 180, 0, 20, 21, 8, 27, 182, 0, 169, 153, 0, 74, 42, 180, 0, 20] := by decide +kernel
theorem dX9_roomClash_65 : decode cX9_roomClash 65 = .ok (.if_icmp .ge 106, 3) := oq_162 (bq_in kqX9_roomClash_2 1 rfl) (bq_in kqX9_roomClash_2 2 rfl) (bq_in kqX9_roomClash_2 3 rfl) rfl
theorem dX9_roomClash_68 : decode cX9_roomClash 68 = .ok (.aload_n 0, 1) := oq_42 (bq_in kqX9_roomClash_2 4 rfl)
theorem dX9_roomClash_69 : decode cX9_roomClash 69 = .ok (.getfield 20, 3) := oq_180 (bq_in kqX9_roomClash_2 5 rfl) (bq_in kqX9_roomClash_2 6 rfl) (bq_in kqX9_roomClash_2 7 rfl) rfl
theorem dX9_roomClash_72 : decode cX9_roomClash 72 = .ok (.iload 7, 2) := oq_21 (bq_in kqX9_roomClash_2 8 rfl) (bq_in kqX9_roomClash_2 9 rfl)
theorem dX9_roomClash_74 : decode cX9_roomClash 74 = .ok (.iload_n 1, 1) := oq_27 (bq_in kqX9_roomClash_2 10 rfl)
theorem dX9_roomClash_75 : decode cX9_roomClash 75 = .ok (.invokevirtual 169, 3) := oq_182 (bq_in kqX9_roomClash_2 11 rfl) (bq_in kqX9_roomClash_2 12 rfl) (bq_in kqX9_roomClash_2 13 rfl) rfl
theorem dX9_roomClash_78 : decode cX9_roomClash 78 = .ok (.ifCond .eq 87, 3) := oq_153 (bq_in kqX9_roomClash_2 14 rfl) (bq_in kqX9_roomClash_2 15 rfl) (bq_in kqX9_roomClash_2 16 rfl) rfl
theorem dX9_roomClash_81 : decode cX9_roomClash 81 = .ok (.aload_n 0, 1) := oq_42 (bq_in kqX9_roomClash_2 17 rfl)
theorem dX9_roomClash_82 : decode cX9_roomClash 82 = .ok (.getfield 20, 3) := oq_180 (bq_in kqX9_roomClash_2 18 rfl) (bq_in kqX9_roomClash_2 19 rfl) (bq_in kqX9_roomClash_2 20 rfl) rfl
theorem dX9_roomClash_85 : decode cX9_roomClash 85 = .ok (.iload 8, 2) := oq_21 (bq_in kqX9_roomClash_2 21 rfl) (bq_in kqX9_roomClash_2 22 rfl)
theorem dX9_roomClash_87 : decode cX9_roomClash 87 = .ok (.iload_n 1, 1) := oq_27 (bq_in kqX9_roomClash_2 23 rfl)
theorem dX9_roomClash_88 : decode cX9_roomClash 88 = .ok (.invokevirtual 169, 3) := oq_182 (bq_in kqX9_roomClash_2 24 rfl) (bq_in kqX9_roomClash_2 25 rfl) (bq_in kqX9_roomClash_2 26 rfl) rfl
theorem dX9_roomClash_91 : decode cX9_roomClash 91 = .ok (.ifCond .eq 74, 3) := oq_153 (bq_in kqX9_roomClash_2 27 rfl) (bq_in kqX9_roomClash_2 28 rfl) (bq_in kqX9_roomClash_2 29 rfl) rfl
theorem dX9_roomClash_94 : decode cX9_roomClash 94 = .ok (.aload_n 0, 1) := oq_42 (bq_in kqX9_roomClash_2 30 rfl)
theorem dX9_roomClash_95 : decode cX9_roomClash 95 = .ok (.getfield 20, 3) := oq_180 (bq_in kqX9_roomClash_2 31 rfl) (bq_in kqX9_roomClash_2 32 rfl) (bq_in kqX9_roomClash_2 33 rfl) rfl
theorem kqX9_roomClash_3 : ((cX9_roomClash.data.toList.drop 96).take 34).map UInt8.toNat = [0, 20, 21, 7, 182, 0, 83, 42, 180, 0, 20, 21, 8, 182, 0, 83, 28, 21, 4, 184, 0, 152, 54, 9, 42, 180, 0, 20, 21, 7, 182, 0, 83, 42] := by decide +kernel
theorem dX9_roomClash_98 : decode cX9_roomClash 98 = .ok (.iload 7, 2) := oq_21 (bq_in kqX9_roomClash_3 2 rfl) (bq_in kqX9_roomClash_3 3 rfl)
theorem dX9_roomClash_100 : decode cX9_roomClash 100 = .ok (.invokevirtual 83, 3) := oq_182 (bq_in kqX9_roomClash_3 4 rfl) (bq_in kqX9_roomClash_3 5 rfl) (bq_in kqX9_roomClash_3 6 rfl) rfl
theorem dX9_roomClash_103 : decode cX9_roomClash 103 = .ok (.aload_n 0, 1) := oq_42 (bq_in kqX9_roomClash_3 7 rfl)
theorem dX9_roomClash_104 : decode cX9_roomClash 104 = .ok (.getfield 20, 3) := oq_180 (bq_in kqX9_roomClash_3 8 rfl) (bq_in kqX9_roomClash_3 9 rfl) (bq_in kqX9_roomClash_3 10 rfl) rfl
theorem dX9_roomClash_107 : decode cX9_roomClash 107 = .ok (.iload 8, 2) := oq_21 (bq_in kqX9_roomClash_3 11 rfl) (bq_in kqX9_roomClash_3 12 rfl)
theorem dX9_roomClash_109 : decode cX9_roomClash 109 = .ok (.invokevirtual 83, 3) := oq_182 (bq_in kqX9_roomClash_3 13 rfl) (bq_in kqX9_roomClash_3 14 rfl) (bq_in kqX9_roomClash_3 15 rfl) rfl
theorem dX9_roomClash_112 : decode cX9_roomClash 112 = .ok (.iload_n 2, 1) := oq_28 (bq_in kqX9_roomClash_3 16 rfl)
theorem dX9_roomClash_113 : decode cX9_roomClash 113 = .ok (.iload 4, 2) := oq_21 (bq_in kqX9_roomClash_3 17 rfl) (bq_in kqX9_roomClash_3 18 rfl)
theorem dX9_roomClash_115 : decode cX9_roomClash 115 = .ok (.invokestatic 152, 3) := oq_184 (bq_in kqX9_roomClash_3 19 rfl) (bq_in kqX9_roomClash_3 20 rfl) (bq_in kqX9_roomClash_3 21 rfl) rfl
theorem dX9_roomClash_118 : decode cX9_roomClash 118 = .ok (.istore 9, 2) := oq_54 (bq_in kqX9_roomClash_3 22 rfl) (bq_in kqX9_roomClash_3 23 rfl)
theorem dX9_roomClash_120 : decode cX9_roomClash 120 = .ok (.aload_n 0, 1) := oq_42 (bq_in kqX9_roomClash_3 24 rfl)
theorem dX9_roomClash_121 : decode cX9_roomClash 121 = .ok (.getfield 20, 3) := oq_180 (bq_in kqX9_roomClash_3 25 rfl) (bq_in kqX9_roomClash_3 26 rfl) (bq_in kqX9_roomClash_3 27 rfl) rfl
theorem dX9_roomClash_124 : decode cX9_roomClash 124 = .ok (.iload 7, 2) := oq_21 (bq_in kqX9_roomClash_3 28 rfl) (bq_in kqX9_roomClash_3 29 rfl)
theorem dX9_roomClash_126 : decode cX9_roomClash 126 = .ok (.invokevirtual 83, 3) := oq_182 (bq_in kqX9_roomClash_3 30 rfl) (bq_in kqX9_roomClash_3 31 rfl) (bq_in kqX9_roomClash_3 32 rfl) rfl
theorem kqX9_roomClash_4 : ((cX9_roomClash.data.toList.drop 128).take 34).map UInt8.toNat = [83, 42, 180, 0, 20, 21, 8, 182, 0, 83, 28, 21, 9, 184, 0, 156, 54, 9, 21, 9, 21, 4, 162, 0, 15, 21, 9, 54, 4, 21, 7, 54, 5, 21] := by decide +kernel
theorem dX9_roomClash_129 : decode cX9_roomClash 129 = .ok (.aload_n 0, 1) := oq_42 (bq_in kqX9_roomClash_4 1 rfl)
theorem dX9_roomClash_130 : decode cX9_roomClash 130 = .ok (.getfield 20, 3) := oq_180 (bq_in kqX9_roomClash_4 2 rfl) (bq_in kqX9_roomClash_4 3 rfl) (bq_in kqX9_roomClash_4 4 rfl) rfl
theorem dX9_roomClash_133 : decode cX9_roomClash 133 = .ok (.iload 8, 2) := oq_21 (bq_in kqX9_roomClash_4 5 rfl) (bq_in kqX9_roomClash_4 6 rfl)
theorem dX9_roomClash_135 : decode cX9_roomClash 135 = .ok (.invokevirtual 83, 3) := oq_182 (bq_in kqX9_roomClash_4 7 rfl) (bq_in kqX9_roomClash_4 8 rfl) (bq_in kqX9_roomClash_4 9 rfl) rfl
theorem dX9_roomClash_138 : decode cX9_roomClash 138 = .ok (.iload_n 2, 1) := oq_28 (bq_in kqX9_roomClash_4 10 rfl)
theorem dX9_roomClash_139 : decode cX9_roomClash 139 = .ok (.iload 9, 2) := oq_21 (bq_in kqX9_roomClash_4 11 rfl) (bq_in kqX9_roomClash_4 12 rfl)
theorem dX9_roomClash_141 : decode cX9_roomClash 141 = .ok (.invokestatic 156, 3) := oq_184 (bq_in kqX9_roomClash_4 13 rfl) (bq_in kqX9_roomClash_4 14 rfl) (bq_in kqX9_roomClash_4 15 rfl) rfl
theorem dX9_roomClash_144 : decode cX9_roomClash 144 = .ok (.istore 9, 2) := oq_54 (bq_in kqX9_roomClash_4 16 rfl) (bq_in kqX9_roomClash_4 17 rfl)
theorem dX9_roomClash_146 : decode cX9_roomClash 146 = .ok (.iload 9, 2) := oq_21 (bq_in kqX9_roomClash_4 18 rfl) (bq_in kqX9_roomClash_4 19 rfl)
theorem dX9_roomClash_148 : decode cX9_roomClash 148 = .ok (.iload 4, 2) := oq_21 (bq_in kqX9_roomClash_4 20 rfl) (bq_in kqX9_roomClash_4 21 rfl)
theorem dX9_roomClash_150 : decode cX9_roomClash 150 = .ok (.if_icmp .ge 15, 3) := oq_162 (bq_in kqX9_roomClash_4 22 rfl) (bq_in kqX9_roomClash_4 23 rfl) (bq_in kqX9_roomClash_4 24 rfl) rfl
theorem dX9_roomClash_153 : decode cX9_roomClash 153 = .ok (.iload 9, 2) := oq_21 (bq_in kqX9_roomClash_4 25 rfl) (bq_in kqX9_roomClash_4 26 rfl)
theorem dX9_roomClash_155 : decode cX9_roomClash 155 = .ok (.istore 4, 2) := oq_54 (bq_in kqX9_roomClash_4 27 rfl) (bq_in kqX9_roomClash_4 28 rfl)
theorem dX9_roomClash_157 : decode cX9_roomClash 157 = .ok (.iload 7, 2) := oq_21 (bq_in kqX9_roomClash_4 29 rfl) (bq_in kqX9_roomClash_4 30 rfl)
theorem dX9_roomClash_159 : decode cX9_roomClash 159 = .ok (.istore 5, 2) := oq_54 (bq_in kqX9_roomClash_4 31 rfl) (bq_in kqX9_roomClash_4 32 rfl)
theorem kqX9_roomClash_5 : ((cX9_roomClash.data.toList.drop 160).take 34).map UInt8.toNat = [5, 21, 8, 54, 6, 132, 8, 1, 167, 255, 144, 132, 7, 1, 167, 255, 120, 21, 4, 18, 151, 159, 0, 8, 29, 4, 160, 0, 6, 21, 5, 172, 29, 154] := by decide +kernel
theorem dX9_roomClash_161 : decode cX9_roomClash 161 = .ok (.iload 8, 2) := oq_21 (bq_in kqX9_roomClash_5 1 rfl) (bq_in kqX9_roomClash_5 2 rfl)
theorem dX9_roomClash_163 : decode cX9_roomClash 163 = .ok (.istore 6, 2) := oq_54 (bq_in kqX9_roomClash_5 3 rfl) (bq_in kqX9_roomClash_5 4 rfl)
theorem dX9_roomClash_165 : decode cX9_roomClash 165 = .ok (.iinc 8 1, 3) := oq_132 (bq_in kqX9_roomClash_5 5 rfl) (bq_in kqX9_roomClash_5 6 rfl) (bq_in kqX9_roomClash_5 7 rfl) rfl
theorem dX9_roomClash_168 : decode cX9_roomClash 168 = .ok (.goto (-112), 3) := oq_167 (bq_in kqX9_roomClash_5 8 rfl) (bq_in kqX9_roomClash_5 9 rfl) (bq_in kqX9_roomClash_5 10 rfl) rfl
theorem dX9_roomClash_171 : decode cX9_roomClash 171 = .ok (.iinc 7 1, 3) := oq_132 (bq_in kqX9_roomClash_5 11 rfl) (bq_in kqX9_roomClash_5 12 rfl) (bq_in kqX9_roomClash_5 13 rfl) rfl
theorem dX9_roomClash_174 : decode cX9_roomClash 174 = .ok (.goto (-136), 3) := oq_167 (bq_in kqX9_roomClash_5 14 rfl) (bq_in kqX9_roomClash_5 15 rfl) (bq_in kqX9_roomClash_5 16 rfl) rfl
theorem dX9_roomClash_177 : decode cX9_roomClash 177 = .ok (.iload 4, 2) := oq_21 (bq_in kqX9_roomClash_5 17 rfl) (bq_in kqX9_roomClash_5 18 rfl)
theorem dX9_roomClash_179 : decode cX9_roomClash 179 = .ok (.ldc 151, 2) := oq_18 (bq_in kqX9_roomClash_5 19 rfl) (bq_in kqX9_roomClash_5 20 rfl)
theorem dX9_roomClash_181 : decode cX9_roomClash 181 = .ok (.if_icmp .eq 8, 3) := oq_159 (bq_in kqX9_roomClash_5 21 rfl) (bq_in kqX9_roomClash_5 22 rfl) (bq_in kqX9_roomClash_5 23 rfl) rfl
theorem dX9_roomClash_184 : decode cX9_roomClash 184 = .ok (.iload_n 3, 1) := oq_29 (bq_in kqX9_roomClash_5 24 rfl)
theorem dX9_roomClash_185 : decode cX9_roomClash 185 = .ok (.iconst 1, 1) := oq_4 (bq_in kqX9_roomClash_5 25 rfl)
theorem dX9_roomClash_186 : decode cX9_roomClash 186 = .ok (.if_icmp .ne 6, 3) := oq_160 (bq_in kqX9_roomClash_5 26 rfl) (bq_in kqX9_roomClash_5 27 rfl) (bq_in kqX9_roomClash_5 28 rfl) rfl
theorem dX9_roomClash_189 : decode cX9_roomClash 189 = .ok (.iload 5, 2) := oq_21 (bq_in kqX9_roomClash_5 29 rfl) (bq_in kqX9_roomClash_5 30 rfl)
theorem dX9_roomClash_191 : decode cX9_roomClash 191 = .ok (.ireturn, 1) := oq_172 (bq_in kqX9_roomClash_5 31 rfl)
theorem kqX9_roomClash_6 : ((cX9_roomClash.data.toList.drop 192).take 34).map UInt8.toNat = [29, 154, 0, 8, 21, 4, 167, 0, 5, 21, 6, 172] := by decide +kernel
theorem dX9_roomClash_192 : decode cX9_roomClash 192 = .ok (.iload_n 3, 1) := oq_29 (bq_in kqX9_roomClash_6 0 rfl)
theorem dX9_roomClash_193 : decode cX9_roomClash 193 = .ok (.ifCond .ne 8, 3) := oq_154 (bq_in kqX9_roomClash_6 1 rfl) (bq_in kqX9_roomClash_6 2 rfl) (bq_in kqX9_roomClash_6 3 rfl) rfl
theorem dX9_roomClash_196 : decode cX9_roomClash 196 = .ok (.iload 4, 2) := oq_21 (bq_in kqX9_roomClash_6 4 rfl) (bq_in kqX9_roomClash_6 5 rfl)
theorem dX9_roomClash_198 : decode cX9_roomClash 198 = .ok (.goto 5, 3) := oq_167 (bq_in kqX9_roomClash_6 6 rfl) (bq_in kqX9_roomClash_6 7 rfl) (bq_in kqX9_roomClash_6 8 rfl) rfl
theorem dX9_roomClash_201 : decode cX9_roomClash 201 = .ok (.iload 6, 2) := oq_21 (bq_in kqX9_roomClash_6 9 rfl) (bq_in kqX9_roomClash_6 10 rfl)
theorem dX9_roomClash_203 : decode cX9_roomClash 203 = .ok (.ireturn, 1) := oq_172 (bq_in kqX9_roomClash_6 11 rfl)
theorem kqX9_free_0 : ((cX9_free.data.toList.drop 0).take 34).map UInt8.toNat = [27, 184, 0, 163, 153, 0, 22, 28, 184, 0, 110, 153, 0, 15, 29, 4, 161, 0, 10, 29, 17, 16, 224, 164, 0, 5, 2, 172, 28, 18, 172, 96, 18, 173] := by decide +kernel
theorem dX9_free_0 : decode cX9_free 0 = .ok (.iload_n 1, 1) := oq_27 (bq_in kqX9_free_0 0 rfl)
theorem dX9_free_1 : decode cX9_free 1 = .ok (.invokestatic 163, 3) := oq_184 (bq_in kqX9_free_0 1 rfl) (bq_in kqX9_free_0 2 rfl) (bq_in kqX9_free_0 3 rfl) rfl
theorem dX9_free_4 : decode cX9_free 4 = .ok (.ifCond .eq 22, 3) := oq_153 (bq_in kqX9_free_0 4 rfl) (bq_in kqX9_free_0 5 rfl) (bq_in kqX9_free_0 6 rfl) rfl
theorem dX9_free_7 : decode cX9_free 7 = .ok (.iload_n 2, 1) := oq_28 (bq_in kqX9_free_0 7 rfl)
theorem dX9_free_8 : decode cX9_free 8 = .ok (.invokestatic 110, 3) := oq_184 (bq_in kqX9_free_0 8 rfl) (bq_in kqX9_free_0 9 rfl) (bq_in kqX9_free_0 10 rfl) rfl
theorem dX9_free_11 : decode cX9_free 11 = .ok (.ifCond .eq 15, 3) := oq_153 (bq_in kqX9_free_0 11 rfl) (bq_in kqX9_free_0 12 rfl) (bq_in kqX9_free_0 13 rfl) rfl
theorem dX9_free_14 : decode cX9_free 14 = .ok (.iload_n 3, 1) := oq_29 (bq_in kqX9_free_0 14 rfl)
theorem dX9_free_15 : decode cX9_free 15 = .ok (.iconst 1, 1) := oq_4 (bq_in kqX9_free_0 15 rfl)
theorem dX9_free_16 : decode cX9_free 16 = .ok (.if_icmp .lt 10, 3) := oq_161 (bq_in kqX9_free_0 16 rfl) (bq_in kqX9_free_0 17 rfl) (bq_in kqX9_free_0 18 rfl) rfl
theorem dX9_free_19 : decode cX9_free 19 = .ok (.iload_n 3, 1) := oq_29 (bq_in kqX9_free_0 19 rfl)
theorem dX9_free_20 : decode cX9_free 20 = .ok (.sipush 4320, 3) := oq_17 (bq_in kqX9_free_0 20 rfl) (bq_in kqX9_free_0 21 rfl) (bq_in kqX9_free_0 22 rfl) rfl
theorem dX9_free_23 : decode cX9_free 23 = .ok (.if_icmp .le 5, 3) := oq_164 (bq_in kqX9_free_0 23 rfl) (bq_in kqX9_free_0 24 rfl) (bq_in kqX9_free_0 25 rfl) rfl
theorem dX9_free_26 : decode cX9_free 26 = .ok (.iconst (-1), 1) := oq_2 (bq_in kqX9_free_0 26 rfl)
theorem dX9_free_27 : decode cX9_free 27 = .ok (.ireturn, 1) := oq_172 (bq_in kqX9_free_0 27 rfl)
theorem dX9_free_28 : decode cX9_free 28 = .ok (.iload_n 2, 1) := oq_28 (bq_in kqX9_free_0 28 rfl)
theorem dX9_free_29 : decode cX9_free 29 = .ok (.ldc 172, 2) := oq_18 (bq_in kqX9_free_0 29 rfl) (bq_in kqX9_free_0 30 rfl)
theorem dX9_free_31 : decode cX9_free 31 = .ok (.iadd, 1) := oq_96 (bq_in kqX9_free_0 31 rfl)
theorem kqX9_free_1 : ((cX9_free.data.toList.drop 32).take 34).map UInt8.toNat = [18, 173, 184, 0, 174, 54, 4, 28, 54, 5, 3, 54, 6, 21, 6, 18, 172, 163, 0, 40, 21, 5, 21, 4, 163, 0, 33, 42, 27, 21, 5, 29, 182, 0] := by decide +kernel
theorem dX9_free_32 : decode cX9_free 32 = .ok (.ldc 173, 2) := oq_18 (bq_in kqX9_free_1 0 rfl) (bq_in kqX9_free_1 1 rfl)
theorem dX9_free_34 : decode cX9_free 34 = .ok (.invokestatic 174, 3) := oq_184 (bq_in kqX9_free_1 2 rfl) (bq_in kqX9_free_1 3 rfl) (bq_in kqX9_free_1 4 rfl) rfl
theorem dX9_free_37 : decode cX9_free 37 = .ok (.istore 4, 2) := oq_54 (bq_in kqX9_free_1 5 rfl) (bq_in kqX9_free_1 6 rfl)
theorem dX9_free_39 : decode cX9_free 39 = .ok (.iload_n 2, 1) := oq_28 (bq_in kqX9_free_1 7 rfl)
theorem dX9_free_40 : decode cX9_free 40 = .ok (.istore 5, 2) := oq_54 (bq_in kqX9_free_1 8 rfl) (bq_in kqX9_free_1 9 rfl)
theorem dX9_free_42 : decode cX9_free 42 = .ok (.iconst 0, 1) := oq_3 (bq_in kqX9_free_1 10 rfl)
theorem dX9_free_43 : decode cX9_free 43 = .ok (.istore 6, 2) := oq_54 (bq_in kqX9_free_1 11 rfl) (bq_in kqX9_free_1 12 rfl)
theorem dX9_free_45 : decode cX9_free 45 = .ok (.iload 6, 2) := oq_21 (bq_in kqX9_free_1 13 rfl) (bq_in kqX9_free_1 14 rfl)
theorem dX9_free_47 : decode cX9_free 47 = .ok (.ldc 172, 2) := oq_18 (bq_in kqX9_free_1 15 rfl) (bq_in kqX9_free_1 16 rfl)
theorem dX9_free_49 : decode cX9_free 49 = .ok (.if_icmp .gt 40, 3) := oq_163 (bq_in kqX9_free_1 17 rfl) (bq_in kqX9_free_1 18 rfl) (bq_in kqX9_free_1 19 rfl) rfl
theorem dX9_free_52 : decode cX9_free 52 = .ok (.iload 5, 2) := oq_21 (bq_in kqX9_free_1 20 rfl) (bq_in kqX9_free_1 21 rfl)
theorem dX9_free_54 : decode cX9_free 54 = .ok (.iload 4, 2) := oq_21 (bq_in kqX9_free_1 22 rfl) (bq_in kqX9_free_1 23 rfl)
theorem dX9_free_56 : decode cX9_free 56 = .ok (.if_icmp .gt 33, 3) := oq_163 (bq_in kqX9_free_1 24 rfl) (bq_in kqX9_free_1 25 rfl) (bq_in kqX9_free_1 26 rfl) rfl
theorem dX9_free_59 : decode cX9_free 59 = .ok (.aload_n 0, 1) := oq_42 (bq_in kqX9_free_1 27 rfl)
theorem dX9_free_60 : decode cX9_free 60 = .ok (.iload_n 1, 1) := oq_27 (bq_in kqX9_free_1 28 rfl)
theorem dX9_free_61 : decode cX9_free 61 = .ok (.iload 5, 2) := oq_21 (bq_in kqX9_free_1 29 rfl) (bq_in kqX9_free_1 30 rfl)
theorem dX9_free_63 : decode cX9_free 63 = .ok (.iload_n 3, 1) := oq_29 (bq_in kqX9_free_1 31 rfl)
theorem kqX9_free_2 : ((cX9_free.data.toList.drop 64).take 34).map UInt8.toNat = [182, 0, 179, 54, 7, 21, 7, 21, 5, 163, 0, 6, 21, 5, 172, 21, 7, 54, 5, 132, 6, 1, 167, 255, 215, 2, 172] := by decide +kernel
theorem dX9_free_64 : decode cX9_free 64 = .ok (.invokevirtual 179, 3) := oq_182 (bq_in kqX9_free_2 0 rfl) (bq_in kqX9_free_2 1 rfl) (bq_in kqX9_free_2 2 rfl) rfl
theorem dX9_free_67 : decode cX9_free 67 = .ok (.istore 7, 2) := oq_54 (bq_in kqX9_free_2 3 rfl) (bq_in kqX9_free_2 4 rfl)
theorem dX9_free_69 : decode cX9_free 69 = .ok (.iload 7, 2) := oq_21 (bq_in kqX9_free_2 5 rfl) (bq_in kqX9_free_2 6 rfl)
theorem dX9_free_71 : decode cX9_free 71 = .ok (.iload 5, 2) := oq_21 (bq_in kqX9_free_2 7 rfl) (bq_in kqX9_free_2 8 rfl)
theorem dX9_free_73 : decode cX9_free 73 = .ok (.if_icmp .gt 6, 3) := oq_163 (bq_in kqX9_free_2 9 rfl) (bq_in kqX9_free_2 10 rfl) (bq_in kqX9_free_2 11 rfl) rfl
theorem dX9_free_76 : decode cX9_free 76 = .ok (.iload 5, 2) := oq_21 (bq_in kqX9_free_2 12 rfl) (bq_in kqX9_free_2 13 rfl)
theorem dX9_free_78 : decode cX9_free 78 = .ok (.ireturn, 1) := oq_172 (bq_in kqX9_free_2 14 rfl)
theorem dX9_free_79 : decode cX9_free 79 = .ok (.iload 7, 2) := oq_21 (bq_in kqX9_free_2 15 rfl) (bq_in kqX9_free_2 16 rfl)
theorem dX9_free_81 : decode cX9_free 81 = .ok (.istore 5, 2) := oq_54 (bq_in kqX9_free_2 17 rfl) (bq_in kqX9_free_2 18 rfl)
theorem dX9_free_83 : decode cX9_free 83 = .ok (.iinc 6 1, 3) := oq_132 (bq_in kqX9_free_2 19 rfl) (bq_in kqX9_free_2 20 rfl) (bq_in kqX9_free_2 21 rfl) rfl
theorem dX9_free_86 : decode cX9_free 86 = .ok (.goto (-41), 3) := oq_167 (bq_in kqX9_free_2 22 rfl) (bq_in kqX9_free_2 23 rfl) (bq_in kqX9_free_2 24 rfl) rfl
theorem dX9_free_89 : decode cX9_free 89 = .ok (.iconst (-1), 1) := oq_2 (bq_in kqX9_free_2 25 rfl)
theorem dX9_free_90 : decode cX9_free 90 = .ok (.ireturn, 1) := oq_172 (bq_in kqX9_free_2 26 rfl)
theorem kqX9_busy_0 : ((cX9_busy.data.toList.drop 0).take 34).map UInt8.toNat = [27, 184, 0, 163, 153, 0, 10, 28, 184, 0, 74, 154, 0, 5, 2, 172, 42, 27, 28, 182, 0, 182, 172] := by decide +kernel
theorem dX9_busy_0 : decode cX9_busy 0 = .ok (.iload_n 1, 1) := oq_27 (bq_in kqX9_busy_0 0 rfl)
theorem dX9_busy_1 : decode cX9_busy 1 = .ok (.invokestatic 163, 3) := oq_184 (bq_in kqX9_busy_0 1 rfl) (bq_in kqX9_busy_0 2 rfl) (bq_in kqX9_busy_0 3 rfl) rfl
theorem dX9_busy_4 : decode cX9_busy 4 = .ok (.ifCond .eq 10, 3) := oq_153 (bq_in kqX9_busy_0 4 rfl) (bq_in kqX9_busy_0 5 rfl) (bq_in kqX9_busy_0 6 rfl) rfl
theorem dX9_busy_7 : decode cX9_busy 7 = .ok (.iload_n 2, 1) := oq_28 (bq_in kqX9_busy_0 7 rfl)
theorem dX9_busy_8 : decode cX9_busy 8 = .ok (.invokestatic 74, 3) := oq_184 (bq_in kqX9_busy_0 8 rfl) (bq_in kqX9_busy_0 9 rfl) (bq_in kqX9_busy_0 10 rfl) rfl
theorem dX9_busy_11 : decode cX9_busy 11 = .ok (.ifCond .ne 5, 3) := oq_154 (bq_in kqX9_busy_0 11 rfl) (bq_in kqX9_busy_0 12 rfl) (bq_in kqX9_busy_0 13 rfl) rfl
theorem dX9_busy_14 : decode cX9_busy 14 = .ok (.iconst (-1), 1) := oq_2 (bq_in kqX9_busy_0 14 rfl)
theorem dX9_busy_15 : decode cX9_busy 15 = .ok (.ireturn, 1) := oq_172 (bq_in kqX9_busy_0 15 rfl)
theorem dX9_busy_16 : decode cX9_busy 16 = .ok (.aload_n 0, 1) := oq_42 (bq_in kqX9_busy_0 16 rfl)
theorem dX9_busy_17 : decode cX9_busy 17 = .ok (.iload_n 1, 1) := oq_27 (bq_in kqX9_busy_0 17 rfl)
theorem dX9_busy_18 : decode cX9_busy 18 = .ok (.iload_n 2, 1) := oq_28 (bq_in kqX9_busy_0 18 rfl)
theorem dX9_busy_19 : decode cX9_busy 19 = .ok (.invokevirtual 182, 3) := oq_182 (bq_in kqX9_busy_0 19 rfl) (bq_in kqX9_busy_0 20 rfl) (bq_in kqX9_busy_0 21 rfl) rfl
theorem dX9_busy_22 : decode cX9_busy 22 = .ok (.ireturn, 1) := oq_172 (bq_in kqX9_busy_0 22 rfl)
theorem kqX9_busiest_0 : ((cX9_busiest.data.toList.drop 0).take 34).map UInt8.toNat = [27, 184, 0, 163, 153, 0, 13, 28, 29, 16, 60, 184, 0, 93, 154, 0, 5, 2, 172, 28, 54, 4, 3, 54, 5, 28, 54, 6, 21, 6, 29, 163, 0, 33] := by decide +kernel
theorem dX9_busiest_0 : decode cX9_busiest 0 = .ok (.iload_n 1, 1) := oq_27 (bq_in kqX9_busiest_0 0 rfl)
theorem dX9_busiest_1 : decode cX9_busiest 1 = .ok (.invokestatic 163, 3) := oq_184 (bq_in kqX9_busiest_0 1 rfl) (bq_in kqX9_busiest_0 2 rfl) (bq_in kqX9_busiest_0 3 rfl) rfl
theorem dX9_busiest_4 : decode cX9_busiest 4 = .ok (.ifCond .eq 13, 3) := oq_153 (bq_in kqX9_busiest_0 4 rfl) (bq_in kqX9_busiest_0 5 rfl) (bq_in kqX9_busiest_0 6 rfl) rfl
theorem dX9_busiest_7 : decode cX9_busiest 7 = .ok (.iload_n 2, 1) := oq_28 (bq_in kqX9_busiest_0 7 rfl)
theorem dX9_busiest_8 : decode cX9_busiest 8 = .ok (.iload_n 3, 1) := oq_29 (bq_in kqX9_busiest_0 8 rfl)
theorem dX9_busiest_9 : decode cX9_busiest 9 = .ok (.bipush 60, 2) := oq_16 (bq_in kqX9_busiest_0 9 rfl) (bq_in kqX9_busiest_0 10 rfl) rfl
theorem dX9_busiest_11 : decode cX9_busiest 11 = .ok (.invokestatic 93, 3) := oq_184 (bq_in kqX9_busiest_0 11 rfl) (bq_in kqX9_busiest_0 12 rfl) (bq_in kqX9_busiest_0 13 rfl) rfl
theorem dX9_busiest_14 : decode cX9_busiest 14 = .ok (.ifCond .ne 5, 3) := oq_154 (bq_in kqX9_busiest_0 14 rfl) (bq_in kqX9_busiest_0 15 rfl) (bq_in kqX9_busiest_0 16 rfl) rfl
theorem dX9_busiest_17 : decode cX9_busiest 17 = .ok (.iconst (-1), 1) := oq_2 (bq_in kqX9_busiest_0 17 rfl)
theorem dX9_busiest_18 : decode cX9_busiest 18 = .ok (.ireturn, 1) := oq_172 (bq_in kqX9_busiest_0 18 rfl)
theorem dX9_busiest_19 : decode cX9_busiest 19 = .ok (.iload_n 2, 1) := oq_28 (bq_in kqX9_busiest_0 19 rfl)
theorem dX9_busiest_20 : decode cX9_busiest 20 = .ok (.istore 4, 2) := oq_54 (bq_in kqX9_busiest_0 20 rfl) (bq_in kqX9_busiest_0 21 rfl)
theorem dX9_busiest_22 : decode cX9_busiest 22 = .ok (.iconst 0, 1) := oq_3 (bq_in kqX9_busiest_0 22 rfl)
theorem dX9_busiest_23 : decode cX9_busiest 23 = .ok (.istore 5, 2) := oq_54 (bq_in kqX9_busiest_0 23 rfl) (bq_in kqX9_busiest_0 24 rfl)
theorem dX9_busiest_25 : decode cX9_busiest 25 = .ok (.iload_n 2, 1) := oq_28 (bq_in kqX9_busiest_0 25 rfl)
theorem dX9_busiest_26 : decode cX9_busiest 26 = .ok (.istore 6, 2) := oq_54 (bq_in kqX9_busiest_0 26 rfl) (bq_in kqX9_busiest_0 27 rfl)
theorem dX9_busiest_28 : decode cX9_busiest 28 = .ok (.iload 6, 2) := oq_21 (bq_in kqX9_busiest_0 28 rfl) (bq_in kqX9_busiest_0 29 rfl)
theorem dX9_busiest_30 : decode cX9_busiest 30 = .ok (.iload_n 3, 1) := oq_29 (bq_in kqX9_busiest_0 30 rfl)
theorem dX9_busiest_31 : decode cX9_busiest 31 = .ok (.if_icmp .gt 33, 3) := oq_163 (bq_in kqX9_busiest_0 31 rfl) (bq_in kqX9_busiest_0 32 rfl) (bq_in kqX9_busiest_0 33 rfl) rfl
theorem kqX9_busiest_1 : ((cX9_busiest.data.toList.drop 32).take 34).map UInt8.toNat = [0, 33, 42, 27, 21, 6, 182, 0, 182, 54, 7, 21, 7, 21, 5, 164, 0, 11, 21, 7, 54, 5, 21, 6, 54, 4, 132, 6, 1, 167, 255, 223, 21, 4] := by decide +kernel
theorem dX9_busiest_34 : decode cX9_busiest 34 = .ok (.aload_n 0, 1) := oq_42 (bq_in kqX9_busiest_1 2 rfl)
theorem dX9_busiest_35 : decode cX9_busiest 35 = .ok (.iload_n 1, 1) := oq_27 (bq_in kqX9_busiest_1 3 rfl)
theorem dX9_busiest_36 : decode cX9_busiest 36 = .ok (.iload 6, 2) := oq_21 (bq_in kqX9_busiest_1 4 rfl) (bq_in kqX9_busiest_1 5 rfl)
theorem dX9_busiest_38 : decode cX9_busiest 38 = .ok (.invokevirtual 182, 3) := oq_182 (bq_in kqX9_busiest_1 6 rfl) (bq_in kqX9_busiest_1 7 rfl) (bq_in kqX9_busiest_1 8 rfl) rfl
theorem dX9_busiest_41 : decode cX9_busiest 41 = .ok (.istore 7, 2) := oq_54 (bq_in kqX9_busiest_1 9 rfl) (bq_in kqX9_busiest_1 10 rfl)
theorem dX9_busiest_43 : decode cX9_busiest 43 = .ok (.iload 7, 2) := oq_21 (bq_in kqX9_busiest_1 11 rfl) (bq_in kqX9_busiest_1 12 rfl)
theorem dX9_busiest_45 : decode cX9_busiest 45 = .ok (.iload 5, 2) := oq_21 (bq_in kqX9_busiest_1 13 rfl) (bq_in kqX9_busiest_1 14 rfl)
theorem dX9_busiest_47 : decode cX9_busiest 47 = .ok (.if_icmp .le 11, 3) := oq_164 (bq_in kqX9_busiest_1 15 rfl) (bq_in kqX9_busiest_1 16 rfl) (bq_in kqX9_busiest_1 17 rfl) rfl
theorem dX9_busiest_50 : decode cX9_busiest 50 = .ok (.iload 7, 2) := oq_21 (bq_in kqX9_busiest_1 18 rfl) (bq_in kqX9_busiest_1 19 rfl)
theorem dX9_busiest_52 : decode cX9_busiest 52 = .ok (.istore 5, 2) := oq_54 (bq_in kqX9_busiest_1 20 rfl) (bq_in kqX9_busiest_1 21 rfl)
theorem dX9_busiest_54 : decode cX9_busiest 54 = .ok (.iload 6, 2) := oq_21 (bq_in kqX9_busiest_1 22 rfl) (bq_in kqX9_busiest_1 23 rfl)
theorem dX9_busiest_56 : decode cX9_busiest 56 = .ok (.istore 4, 2) := oq_54 (bq_in kqX9_busiest_1 24 rfl) (bq_in kqX9_busiest_1 25 rfl)
theorem dX9_busiest_58 : decode cX9_busiest 58 = .ok (.iinc 6 1, 3) := oq_132 (bq_in kqX9_busiest_1 26 rfl) (bq_in kqX9_busiest_1 27 rfl) (bq_in kqX9_busiest_1 28 rfl) rfl
theorem dX9_busiest_61 : decode cX9_busiest 61 = .ok (.goto (-33), 3) := oq_167 (bq_in kqX9_busiest_1 29 rfl) (bq_in kqX9_busiest_1 30 rfl) (bq_in kqX9_busiest_1 31 rfl) rfl
theorem kqX9_busiest_2 : ((cX9_busiest.data.toList.drop 64).take 34).map UInt8.toNat = [21, 4, 172] := by decide +kernel
theorem dX9_busiest_64 : decode cX9_busiest 64 = .ok (.iload 4, 2) := oq_21 (bq_in kqX9_busiest_2 0 rfl) (bq_in kqX9_busiest_2 1 rfl)
theorem dX9_busiest_66 : decode cX9_busiest 66 = .ok (.ireturn, 1) := oq_172 (bq_in kqX9_busiest_2 2 rfl)
theorem kqX9_split_0 : ((cX9_split.data.toList.drop 0).take 34).map UInt8.toNat = [42, 180, 0, 20, 27, 182, 0, 53, 153, 0, 20, 28, 184, 0, 74, 153, 0, 13, 42, 180, 0, 20, 182, 0, 32, 153, 0, 5, 2, 172, 42, 180, 0, 20] := by decide +kernel
theorem dX9_split_0 : decode cX9_split 0 = .ok (.aload_n 0, 1) := oq_42 (bq_in kqX9_split_0 0 rfl)
theorem dX9_split_1 : decode cX9_split 1 = .ok (.getfield 20, 3) := oq_180 (bq_in kqX9_split_0 1 rfl) (bq_in kqX9_split_0 2 rfl) (bq_in kqX9_split_0 3 rfl) rfl
theorem dX9_split_4 : decode cX9_split 4 = .ok (.iload_n 1, 1) := oq_27 (bq_in kqX9_split_0 4 rfl)
theorem dX9_split_5 : decode cX9_split 5 = .ok (.invokevirtual 53, 3) := oq_182 (bq_in kqX9_split_0 5 rfl) (bq_in kqX9_split_0 6 rfl) (bq_in kqX9_split_0 7 rfl) rfl
theorem dX9_split_8 : decode cX9_split 8 = .ok (.ifCond .eq 20, 3) := oq_153 (bq_in kqX9_split_0 8 rfl) (bq_in kqX9_split_0 9 rfl) (bq_in kqX9_split_0 10 rfl) rfl
theorem dX9_split_11 : decode cX9_split 11 = .ok (.iload_n 2, 1) := oq_28 (bq_in kqX9_split_0 11 rfl)
theorem dX9_split_12 : decode cX9_split 12 = .ok (.invokestatic 74, 3) := oq_184 (bq_in kqX9_split_0 12 rfl) (bq_in kqX9_split_0 13 rfl) (bq_in kqX9_split_0 14 rfl) rfl
theorem dX9_split_15 : decode cX9_split 15 = .ok (.ifCond .eq 13, 3) := oq_153 (bq_in kqX9_split_0 15 rfl) (bq_in kqX9_split_0 16 rfl) (bq_in kqX9_split_0 17 rfl) rfl
theorem dX9_split_18 : decode cX9_split 18 = .ok (.aload_n 0, 1) := oq_42 (bq_in kqX9_split_0 18 rfl)
theorem dX9_split_19 : decode cX9_split 19 = .ok (.getfield 20, 3) := oq_180 (bq_in kqX9_split_0 19 rfl) (bq_in kqX9_split_0 20 rfl) (bq_in kqX9_split_0 21 rfl) rfl
theorem dX9_split_22 : decode cX9_split 22 = .ok (.invokevirtual 32, 3) := oq_182 (bq_in kqX9_split_0 22 rfl) (bq_in kqX9_split_0 23 rfl) (bq_in kqX9_split_0 24 rfl) rfl
theorem dX9_split_25 : decode cX9_split 25 = .ok (.ifCond .eq 5, 3) := oq_153 (bq_in kqX9_split_0 25 rfl) (bq_in kqX9_split_0 26 rfl) (bq_in kqX9_split_0 27 rfl) rfl
theorem dX9_split_28 : decode cX9_split 28 = .ok (.iconst (-1), 1) := oq_2 (bq_in kqX9_split_0 28 rfl)
theorem dX9_split_29 : decode cX9_split 29 = .ok (.ireturn, 1) := oq_172 (bq_in kqX9_split_0 29 rfl)
theorem dX9_split_30 : decode cX9_split 30 = .ok (.aload_n 0, 1) := oq_42 (bq_in kqX9_split_0 30 rfl)
theorem dX9_split_31 : decode cX9_split 31 = .ok (.getfield 20, 3) := oq_180 (bq_in kqX9_split_0 31 rfl) (bq_in kqX9_split_0 32 rfl) (bq_in kqX9_split_0 33 rfl) rfl
theorem kqX9_split_1 : ((cX9_split.data.toList.drop 32).take 34).map UInt8.toNat = [0, 20, 27, 182, 0, 83, 78, 45, 3, 28, 4, 100, 182, 0, 97, 153, 0, 13, 45, 28, 18, 185, 182, 0, 97, 154, 0, 5, 2, 172, 45, 42, 180, 0] := by decide +kernel
theorem dX9_split_34 : decode cX9_split 34 = .ok (.iload_n 1, 1) := oq_27 (bq_in kqX9_split_1 2 rfl)
theorem dX9_split_35 : decode cX9_split 35 = .ok (.invokevirtual 83, 3) := oq_182 (bq_in kqX9_split_1 3 rfl) (bq_in kqX9_split_1 4 rfl) (bq_in kqX9_split_1 5 rfl) rfl
theorem dX9_split_38 : decode cX9_split 38 = .ok (.astore_n 3, 1) := oq_78 (bq_in kqX9_split_1 6 rfl)
theorem dX9_split_39 : decode cX9_split 39 = .ok (.aload_n 3, 1) := oq_45 (bq_in kqX9_split_1 7 rfl)
theorem dX9_split_40 : decode cX9_split 40 = .ok (.iconst 0, 1) := oq_3 (bq_in kqX9_split_1 8 rfl)
theorem dX9_split_41 : decode cX9_split 41 = .ok (.iload_n 2, 1) := oq_28 (bq_in kqX9_split_1 9 rfl)
theorem dX9_split_42 : decode cX9_split 42 = .ok (.iconst 1, 1) := oq_4 (bq_in kqX9_split_1 10 rfl)
theorem dX9_split_43 : decode cX9_split 43 = .ok (.isub, 1) := oq_100 (bq_in kqX9_split_1 11 rfl)
theorem dX9_split_44 : decode cX9_split 44 = .ok (.invokevirtual 97, 3) := oq_182 (bq_in kqX9_split_1 12 rfl) (bq_in kqX9_split_1 13 rfl) (bq_in kqX9_split_1 14 rfl) rfl
theorem dX9_split_47 : decode cX9_split 47 = .ok (.ifCond .eq 13, 3) := oq_153 (bq_in kqX9_split_1 15 rfl) (bq_in kqX9_split_1 16 rfl) (bq_in kqX9_split_1 17 rfl) rfl
theorem dX9_split_50 : decode cX9_split 50 = .ok (.aload_n 3, 1) := oq_45 (bq_in kqX9_split_1 18 rfl)
theorem dX9_split_51 : decode cX9_split 51 = .ok (.iload_n 2, 1) := oq_28 (bq_in kqX9_split_1 19 rfl)
theorem dX9_split_52 : decode cX9_split 52 = .ok (.ldc 185, 2) := oq_18 (bq_in kqX9_split_1 20 rfl) (bq_in kqX9_split_1 21 rfl)
theorem dX9_split_54 : decode cX9_split 54 = .ok (.invokevirtual 97, 3) := oq_182 (bq_in kqX9_split_1 22 rfl) (bq_in kqX9_split_1 23 rfl) (bq_in kqX9_split_1 24 rfl) rfl
theorem dX9_split_57 : decode cX9_split 57 = .ok (.ifCond .ne 5, 3) := oq_154 (bq_in kqX9_split_1 25 rfl) (bq_in kqX9_split_1 26 rfl) (bq_in kqX9_split_1 27 rfl) rfl
theorem dX9_split_60 : decode cX9_split 60 = .ok (.iconst (-1), 1) := oq_2 (bq_in kqX9_split_1 28 rfl)
theorem dX9_split_61 : decode cX9_split 61 = .ok (.ireturn, 1) := oq_172 (bq_in kqX9_split_1 29 rfl)
theorem dX9_split_62 : decode cX9_split 62 = .ok (.aload_n 3, 1) := oq_45 (bq_in kqX9_split_1 30 rfl)
theorem dX9_split_63 : decode cX9_split 63 = .ok (.aload_n 0, 1) := oq_42 (bq_in kqX9_split_1 31 rfl)
theorem kqX9_split_2 : ((cX9_split.data.toList.drop 64).take 34).map UInt8.toNat = [180, 0, 20, 182, 0, 41, 28, 182, 0, 186, 42, 180, 0, 20, 182, 0, 49, 172] := by decide +kernel
theorem dX9_split_64 : decode cX9_split 64 = .ok (.getfield 20, 3) := oq_180 (bq_in kqX9_split_2 0 rfl) (bq_in kqX9_split_2 1 rfl) (bq_in kqX9_split_2 2 rfl) rfl
theorem dX9_split_67 : decode cX9_split 67 = .ok (.invokevirtual 41, 3) := oq_182 (bq_in kqX9_split_2 3 rfl) (bq_in kqX9_split_2 4 rfl) (bq_in kqX9_split_2 5 rfl) rfl
theorem dX9_split_70 : decode cX9_split 70 = .ok (.iload_n 2, 1) := oq_28 (bq_in kqX9_split_2 6 rfl)
theorem dX9_split_71 : decode cX9_split 71 = .ok (.invokevirtual 186, 3) := oq_182 (bq_in kqX9_split_2 7 rfl) (bq_in kqX9_split_2 8 rfl) (bq_in kqX9_split_2 9 rfl) rfl
theorem dX9_split_74 : decode cX9_split 74 = .ok (.aload_n 0, 1) := oq_42 (bq_in kqX9_split_2 10 rfl)
theorem dX9_split_75 : decode cX9_split 75 = .ok (.getfield 20, 3) := oq_180 (bq_in kqX9_split_2 11 rfl) (bq_in kqX9_split_2 12 rfl) (bq_in kqX9_split_2 13 rfl) rfl
theorem dX9_split_78 : decode cX9_split 78 = .ok (.invokevirtual 49, 3) := oq_182 (bq_in kqX9_split_2 14 rfl) (bq_in kqX9_split_2 15 rfl) (bq_in kqX9_split_2 16 rfl) rfl
theorem dX9_split_81 : decode cX9_split 81 = .ok (.ireturn, 1) := oq_172 (bq_in kqX9_split_2 17 rfl)
theorem kqX9_period_0 : ((cX9_period.data.toList.drop 0).take 34).map UInt8.toNat = [42, 180, 0, 20, 27, 182, 0, 53, 154, 0, 5, 2, 172, 42, 180, 0, 20, 27, 182, 0, 83, 180, 0, 190, 182, 0, 194, 184, 0, 200, 172] := by decide +kernel
theorem dX9_period_0 : decode cX9_period 0 = .ok (.aload_n 0, 1) := oq_42 (bq_in kqX9_period_0 0 rfl)
theorem dX9_period_1 : decode cX9_period 1 = .ok (.getfield 20, 3) := oq_180 (bq_in kqX9_period_0 1 rfl) (bq_in kqX9_period_0 2 rfl) (bq_in kqX9_period_0 3 rfl) rfl
theorem dX9_period_4 : decode cX9_period 4 = .ok (.iload_n 1, 1) := oq_27 (bq_in kqX9_period_0 4 rfl)
theorem dX9_period_5 : decode cX9_period 5 = .ok (.invokevirtual 53, 3) := oq_182 (bq_in kqX9_period_0 5 rfl) (bq_in kqX9_period_0 6 rfl) (bq_in kqX9_period_0 7 rfl) rfl
theorem dX9_period_8 : decode cX9_period 8 = .ok (.ifCond .ne 5, 3) := oq_154 (bq_in kqX9_period_0 8 rfl) (bq_in kqX9_period_0 9 rfl) (bq_in kqX9_period_0 10 rfl) rfl
theorem dX9_period_11 : decode cX9_period 11 = .ok (.iconst (-1), 1) := oq_2 (bq_in kqX9_period_0 11 rfl)
theorem dX9_period_12 : decode cX9_period 12 = .ok (.ireturn, 1) := oq_172 (bq_in kqX9_period_0 12 rfl)
theorem dX9_period_13 : decode cX9_period 13 = .ok (.aload_n 0, 1) := oq_42 (bq_in kqX9_period_0 13 rfl)
theorem dX9_period_14 : decode cX9_period 14 = .ok (.getfield 20, 3) := oq_180 (bq_in kqX9_period_0 14 rfl) (bq_in kqX9_period_0 15 rfl) (bq_in kqX9_period_0 16 rfl) rfl
theorem dX9_period_17 : decode cX9_period 17 = .ok (.iload_n 1, 1) := oq_27 (bq_in kqX9_period_0 17 rfl)
theorem dX9_period_18 : decode cX9_period 18 = .ok (.invokevirtual 83, 3) := oq_182 (bq_in kqX9_period_0 18 rfl) (bq_in kqX9_period_0 19 rfl) (bq_in kqX9_period_0 20 rfl) rfl
theorem dX9_period_21 : decode cX9_period 21 = .ok (.getfield 190, 3) := oq_180 (bq_in kqX9_period_0 21 rfl) (bq_in kqX9_period_0 22 rfl) (bq_in kqX9_period_0 23 rfl) rfl
theorem dX9_period_24 : decode cX9_period 24 = .ok (.invokevirtual 194, 3) := oq_182 (bq_in kqX9_period_0 24 rfl) (bq_in kqX9_period_0 25 rfl) (bq_in kqX9_period_0 26 rfl) rfl
theorem dX9_period_27 : decode cX9_period 27 = .ok (.invokestatic 200, 3) := oq_184 (bq_in kqX9_period_0 27 rfl) (bq_in kqX9_period_0 28 rfl) (bq_in kqX9_period_0 29 rfl) rfl
theorem dX9_period_30 : decode cX9_period 30 = .ok (.ireturn, 1) := oq_172 (bq_in kqX9_period_0 30 rfl)
theorem kqX9_periodOf_0 : ((cX9_periodOf.data.toList.drop 0).take 34).map UInt8.toNat = [42, 180, 0, 20, 27, 182, 0, 53, 153, 0, 14, 42, 180, 0, 20, 28, 182, 0, 53, 154, 0, 5, 2, 172, 42, 180, 0, 20, 27, 182, 0, 83, 180, 0] := by decide +kernel
theorem dX9_periodOf_0 : decode cX9_periodOf 0 = .ok (.aload_n 0, 1) := oq_42 (bq_in kqX9_periodOf_0 0 rfl)
theorem dX9_periodOf_1 : decode cX9_periodOf 1 = .ok (.getfield 20, 3) := oq_180 (bq_in kqX9_periodOf_0 1 rfl) (bq_in kqX9_periodOf_0 2 rfl) (bq_in kqX9_periodOf_0 3 rfl) rfl
theorem dX9_periodOf_4 : decode cX9_periodOf 4 = .ok (.iload_n 1, 1) := oq_27 (bq_in kqX9_periodOf_0 4 rfl)
theorem dX9_periodOf_5 : decode cX9_periodOf 5 = .ok (.invokevirtual 53, 3) := oq_182 (bq_in kqX9_periodOf_0 5 rfl) (bq_in kqX9_periodOf_0 6 rfl) (bq_in kqX9_periodOf_0 7 rfl) rfl
theorem dX9_periodOf_8 : decode cX9_periodOf 8 = .ok (.ifCond .eq 14, 3) := oq_153 (bq_in kqX9_periodOf_0 8 rfl) (bq_in kqX9_periodOf_0 9 rfl) (bq_in kqX9_periodOf_0 10 rfl) rfl
theorem dX9_periodOf_11 : decode cX9_periodOf 11 = .ok (.aload_n 0, 1) := oq_42 (bq_in kqX9_periodOf_0 11 rfl)
theorem dX9_periodOf_12 : decode cX9_periodOf 12 = .ok (.getfield 20, 3) := oq_180 (bq_in kqX9_periodOf_0 12 rfl) (bq_in kqX9_periodOf_0 13 rfl) (bq_in kqX9_periodOf_0 14 rfl) rfl
theorem dX9_periodOf_15 : decode cX9_periodOf 15 = .ok (.iload_n 2, 1) := oq_28 (bq_in kqX9_periodOf_0 15 rfl)
theorem dX9_periodOf_16 : decode cX9_periodOf 16 = .ok (.invokevirtual 53, 3) := oq_182 (bq_in kqX9_periodOf_0 16 rfl) (bq_in kqX9_periodOf_0 17 rfl) (bq_in kqX9_periodOf_0 18 rfl) rfl
theorem dX9_periodOf_19 : decode cX9_periodOf 19 = .ok (.ifCond .ne 5, 3) := oq_154 (bq_in kqX9_periodOf_0 19 rfl) (bq_in kqX9_periodOf_0 20 rfl) (bq_in kqX9_periodOf_0 21 rfl) rfl
theorem dX9_periodOf_22 : decode cX9_periodOf 22 = .ok (.iconst (-1), 1) := oq_2 (bq_in kqX9_periodOf_0 22 rfl)
theorem dX9_periodOf_23 : decode cX9_periodOf 23 = .ok (.ireturn, 1) := oq_172 (bq_in kqX9_periodOf_0 23 rfl)
theorem dX9_periodOf_24 : decode cX9_periodOf 24 = .ok (.aload_n 0, 1) := oq_42 (bq_in kqX9_periodOf_0 24 rfl)
theorem dX9_periodOf_25 : decode cX9_periodOf 25 = .ok (.getfield 20, 3) := oq_180 (bq_in kqX9_periodOf_0 25 rfl) (bq_in kqX9_periodOf_0 26 rfl) (bq_in kqX9_periodOf_0 27 rfl) rfl
theorem dX9_periodOf_28 : decode cX9_periodOf 28 = .ok (.iload_n 1, 1) := oq_27 (bq_in kqX9_periodOf_0 28 rfl)
theorem dX9_periodOf_29 : decode cX9_periodOf 29 = .ok (.invokevirtual 83, 3) := oq_182 (bq_in kqX9_periodOf_0 29 rfl) (bq_in kqX9_periodOf_0 30 rfl) (bq_in kqX9_periodOf_0 31 rfl) rfl
theorem kqX9_periodOf_1 : ((cX9_periodOf.data.toList.drop 32).take 34).map UInt8.toNat = [180, 0, 190, 182, 0, 194, 42, 180, 0, 20, 28, 182, 0, 83, 180, 0, 190, 182, 0, 194, 184, 0, 204, 184, 0, 200, 172] := by decide +kernel
theorem dX9_periodOf_32 : decode cX9_periodOf 32 = .ok (.getfield 190, 3) := oq_180 (bq_in kqX9_periodOf_1 0 rfl) (bq_in kqX9_periodOf_1 1 rfl) (bq_in kqX9_periodOf_1 2 rfl) rfl
theorem dX9_periodOf_35 : decode cX9_periodOf 35 = .ok (.invokevirtual 194, 3) := oq_182 (bq_in kqX9_periodOf_1 3 rfl) (bq_in kqX9_periodOf_1 4 rfl) (bq_in kqX9_periodOf_1 5 rfl) rfl
theorem dX9_periodOf_38 : decode cX9_periodOf 38 = .ok (.aload_n 0, 1) := oq_42 (bq_in kqX9_periodOf_1 6 rfl)
theorem dX9_periodOf_39 : decode cX9_periodOf 39 = .ok (.getfield 20, 3) := oq_180 (bq_in kqX9_periodOf_1 7 rfl) (bq_in kqX9_periodOf_1 8 rfl) (bq_in kqX9_periodOf_1 9 rfl) rfl
theorem dX9_periodOf_42 : decode cX9_periodOf 42 = .ok (.iload_n 2, 1) := oq_28 (bq_in kqX9_periodOf_1 10 rfl)
theorem dX9_periodOf_43 : decode cX9_periodOf 43 = .ok (.invokevirtual 83, 3) := oq_182 (bq_in kqX9_periodOf_1 11 rfl) (bq_in kqX9_periodOf_1 12 rfl) (bq_in kqX9_periodOf_1 13 rfl) rfl
theorem dX9_periodOf_46 : decode cX9_periodOf 46 = .ok (.getfield 190, 3) := oq_180 (bq_in kqX9_periodOf_1 14 rfl) (bq_in kqX9_periodOf_1 15 rfl) (bq_in kqX9_periodOf_1 16 rfl) rfl
theorem dX9_periodOf_49 : decode cX9_periodOf 49 = .ok (.invokevirtual 194, 3) := oq_182 (bq_in kqX9_periodOf_1 17 rfl) (bq_in kqX9_periodOf_1 18 rfl) (bq_in kqX9_periodOf_1 19 rfl) rfl
theorem dX9_periodOf_52 : decode cX9_periodOf 52 = .ok (.invokestatic 204, 3) := oq_184 (bq_in kqX9_periodOf_1 20 rfl) (bq_in kqX9_periodOf_1 21 rfl) (bq_in kqX9_periodOf_1 22 rfl) rfl
theorem dX9_periodOf_55 : decode cX9_periodOf 55 = .ok (.invokestatic 200, 3) := oq_184 (bq_in kqX9_periodOf_1 23 rfl) (bq_in kqX9_periodOf_1 24 rfl) (bq_in kqX9_periodOf_1 25 rfl) rfl
theorem dX9_periodOf_58 : decode cX9_periodOf 58 = .ok (.ireturn, 1) := oq_172 (bq_in kqX9_periodOf_1 26 rfl)
theorem kqX9_of_0 : ((cX9_of.data.toList.drop 0).take 34).map UInt8.toNat = [42, 180, 0, 20, 27, 182, 0, 53, 154, 0, 6, 16, 254, 172, 42, 180, 0, 20, 27, 182, 0, 83, 28, 182, 0, 208, 172] := by decide +kernel
theorem dX9_of_0 : decode cX9_of 0 = .ok (.aload_n 0, 1) := oq_42 (bq_in kqX9_of_0 0 rfl)
theorem dX9_of_1 : decode cX9_of 1 = .ok (.getfield 20, 3) := oq_180 (bq_in kqX9_of_0 1 rfl) (bq_in kqX9_of_0 2 rfl) (bq_in kqX9_of_0 3 rfl) rfl
theorem dX9_of_4 : decode cX9_of 4 = .ok (.iload_n 1, 1) := oq_27 (bq_in kqX9_of_0 4 rfl)
theorem dX9_of_5 : decode cX9_of 5 = .ok (.invokevirtual 53, 3) := oq_182 (bq_in kqX9_of_0 5 rfl) (bq_in kqX9_of_0 6 rfl) (bq_in kqX9_of_0 7 rfl) rfl
theorem dX9_of_8 : decode cX9_of 8 = .ok (.ifCond .ne 6, 3) := oq_154 (bq_in kqX9_of_0 8 rfl) (bq_in kqX9_of_0 9 rfl) (bq_in kqX9_of_0 10 rfl) rfl
theorem dX9_of_11 : decode cX9_of 11 = .ok (.bipush (-2), 2) := oq_16 (bq_in kqX9_of_0 11 rfl) (bq_in kqX9_of_0 12 rfl) rfl
theorem dX9_of_13 : decode cX9_of 13 = .ok (.ireturn, 1) := oq_172 (bq_in kqX9_of_0 13 rfl)
theorem dX9_of_14 : decode cX9_of 14 = .ok (.aload_n 0, 1) := oq_42 (bq_in kqX9_of_0 14 rfl)
theorem dX9_of_15 : decode cX9_of 15 = .ok (.getfield 20, 3) := oq_180 (bq_in kqX9_of_0 15 rfl) (bq_in kqX9_of_0 16 rfl) (bq_in kqX9_of_0 17 rfl) rfl
theorem dX9_of_18 : decode cX9_of 18 = .ok (.iload_n 1, 1) := oq_27 (bq_in kqX9_of_0 18 rfl)
theorem dX9_of_19 : decode cX9_of 19 = .ok (.invokevirtual 83, 3) := oq_182 (bq_in kqX9_of_0 19 rfl) (bq_in kqX9_of_0 20 rfl) (bq_in kqX9_of_0 21 rfl) rfl
theorem dX9_of_22 : decode cX9_of 22 = .ok (.iload_n 2, 1) := oq_28 (bq_in kqX9_of_0 22 rfl)
theorem dX9_of_23 : decode cX9_of 23 = .ok (.invokevirtual 208, 3) := oq_182 (bq_in kqX9_of_0 23 rfl) (bq_in kqX9_of_0 24 rfl) (bq_in kqX9_of_0 25 rfl) rfl
theorem dX9_of_26 : decode cX9_of 26 = .ok (.ireturn, 1) := oq_172 (bq_in kqX9_of_0 26 rfl)
theorem kqX9_image_0 : ((cX9_image.data.toList.drop 0).take 34).map UInt8.toNat = [27, 155, 0, 12, 27, 42, 180, 0, 24, 190, 161, 0, 5, 3, 172, 42, 180, 0, 24, 27, 50, 199, 0, 16, 42, 180, 0, 24, 27, 187, 0, 17, 89, 183] := by decide +kernel
theorem dX9_image_0 : decode cX9_image 0 = .ok (.iload_n 1, 1) := oq_27 (bq_in kqX9_image_0 0 rfl)
theorem dX9_image_1 : decode cX9_image 1 = .ok (.ifCond .lt 12, 3) := oq_155 (bq_in kqX9_image_0 1 rfl) (bq_in kqX9_image_0 2 rfl) (bq_in kqX9_image_0 3 rfl) rfl
theorem dX9_image_4 : decode cX9_image 4 = .ok (.iload_n 1, 1) := oq_27 (bq_in kqX9_image_0 4 rfl)
theorem dX9_image_5 : decode cX9_image 5 = .ok (.aload_n 0, 1) := oq_42 (bq_in kqX9_image_0 5 rfl)
theorem dX9_image_6 : decode cX9_image 6 = .ok (.getfield 24, 3) := oq_180 (bq_in kqX9_image_0 6 rfl) (bq_in kqX9_image_0 7 rfl) (bq_in kqX9_image_0 8 rfl) rfl
theorem dX9_image_9 : decode cX9_image 9 = .ok (.arraylength, 1) := oq_190 (bq_in kqX9_image_0 9 rfl)
theorem dX9_image_10 : decode cX9_image 10 = .ok (.if_icmp .lt 5, 3) := oq_161 (bq_in kqX9_image_0 10 rfl) (bq_in kqX9_image_0 11 rfl) (bq_in kqX9_image_0 12 rfl) rfl
theorem dX9_image_13 : decode cX9_image 13 = .ok (.iconst 0, 1) := oq_3 (bq_in kqX9_image_0 13 rfl)
theorem dX9_image_14 : decode cX9_image 14 = .ok (.ireturn, 1) := oq_172 (bq_in kqX9_image_0 14 rfl)
theorem dX9_image_15 : decode cX9_image 15 = .ok (.aload_n 0, 1) := oq_42 (bq_in kqX9_image_0 15 rfl)
theorem dX9_image_16 : decode cX9_image 16 = .ok (.getfield 24, 3) := oq_180 (bq_in kqX9_image_0 16 rfl) (bq_in kqX9_image_0 17 rfl) (bq_in kqX9_image_0 18 rfl) rfl
theorem dX9_image_19 : decode cX9_image 19 = .ok (.iload_n 1, 1) := oq_27 (bq_in kqX9_image_0 19 rfl)
theorem dX9_image_20 : decode cX9_image 20 = .ok (.aaload, 1) := oq_50 (bq_in kqX9_image_0 20 rfl)
theorem dX9_image_21 : decode cX9_image 21 = .ok (.ifnonnull 16, 3) := oq_199 (bq_in kqX9_image_0 21 rfl) (bq_in kqX9_image_0 22 rfl) (bq_in kqX9_image_0 23 rfl) rfl
theorem dX9_image_24 : decode cX9_image 24 = .ok (.aload_n 0, 1) := oq_42 (bq_in kqX9_image_0 24 rfl)
theorem dX9_image_25 : decode cX9_image 25 = .ok (.getfield 24, 3) := oq_180 (bq_in kqX9_image_0 25 rfl) (bq_in kqX9_image_0 26 rfl) (bq_in kqX9_image_0 27 rfl) rfl
theorem dX9_image_28 : decode cX9_image 28 = .ok (.iload_n 1, 1) := oq_27 (bq_in kqX9_image_0 28 rfl)
theorem dX9_image_29 : decode cX9_image 29 = .ok (.new 17, 3) := oq_187 (bq_in kqX9_image_0 29 rfl) (bq_in kqX9_image_0 30 rfl) (bq_in kqX9_image_0 31 rfl) rfl
theorem kqX9_image_1 : ((cX9_image.data.toList.drop 32).take 34).map UInt8.toNat = [89, 183, 0, 19, 83, 42, 180, 0, 24, 27, 50, 42, 180, 0, 20, 182, 0, 211, 4, 172] := by decide +kernel
theorem dX9_image_32 : decode cX9_image 32 = .ok (.dup, 1) := oq_89 (bq_in kqX9_image_1 0 rfl)
theorem dX9_image_33 : decode cX9_image 33 = .ok (.invokespecial 19, 3) := oq_183 (bq_in kqX9_image_1 1 rfl) (bq_in kqX9_image_1 2 rfl) (bq_in kqX9_image_1 3 rfl) rfl
theorem dX9_image_36 : decode cX9_image 36 = .ok (.aastore, 1) := oq_83 (bq_in kqX9_image_1 4 rfl)
theorem dX9_image_37 : decode cX9_image 37 = .ok (.aload_n 0, 1) := oq_42 (bq_in kqX9_image_1 5 rfl)
theorem dX9_image_38 : decode cX9_image 38 = .ok (.getfield 24, 3) := oq_180 (bq_in kqX9_image_1 6 rfl) (bq_in kqX9_image_1 7 rfl) (bq_in kqX9_image_1 8 rfl) rfl
theorem dX9_image_41 : decode cX9_image 41 = .ok (.iload_n 1, 1) := oq_27 (bq_in kqX9_image_1 9 rfl)
theorem dX9_image_42 : decode cX9_image 42 = .ok (.aaload, 1) := oq_50 (bq_in kqX9_image_1 10 rfl)
theorem dX9_image_43 : decode cX9_image 43 = .ok (.aload_n 0, 1) := oq_42 (bq_in kqX9_image_1 11 rfl)
theorem dX9_image_44 : decode cX9_image 44 = .ok (.getfield 20, 3) := oq_180 (bq_in kqX9_image_1 12 rfl) (bq_in kqX9_image_1 13 rfl) (bq_in kqX9_image_1 14 rfl) rfl
theorem dX9_image_47 : decode cX9_image 47 = .ok (.invokevirtual 211, 3) := oq_182 (bq_in kqX9_image_1 15 rfl) (bq_in kqX9_image_1 16 rfl) (bq_in kqX9_image_1 17 rfl) rfl
theorem dX9_image_50 : decode cX9_image 50 = .ok (.iconst 1, 1) := oq_4 (bq_in kqX9_image_1 18 rfl)
theorem dX9_image_51 : decode cX9_image 51 = .ok (.ireturn, 1) := oq_172 (bq_in kqX9_image_1 19 rfl)
theorem kqX9_back_0 : ((cX9_back.data.toList.drop 0).take 34).map UInt8.toNat = [27, 155, 0, 21, 27, 42, 180, 0, 24, 190, 162, 0, 12, 42, 180, 0, 24, 27, 50, 199, 0, 5, 3, 172, 42, 180, 0, 20, 42, 180, 0, 24, 27, 50] := by decide +kernel
theorem dX9_back_0 : decode cX9_back 0 = .ok (.iload_n 1, 1) := oq_27 (bq_in kqX9_back_0 0 rfl)
theorem dX9_back_1 : decode cX9_back 1 = .ok (.ifCond .lt 21, 3) := oq_155 (bq_in kqX9_back_0 1 rfl) (bq_in kqX9_back_0 2 rfl) (bq_in kqX9_back_0 3 rfl) rfl
theorem dX9_back_4 : decode cX9_back 4 = .ok (.iload_n 1, 1) := oq_27 (bq_in kqX9_back_0 4 rfl)
theorem dX9_back_5 : decode cX9_back 5 = .ok (.aload_n 0, 1) := oq_42 (bq_in kqX9_back_0 5 rfl)
theorem dX9_back_6 : decode cX9_back 6 = .ok (.getfield 24, 3) := oq_180 (bq_in kqX9_back_0 6 rfl) (bq_in kqX9_back_0 7 rfl) (bq_in kqX9_back_0 8 rfl) rfl
theorem dX9_back_9 : decode cX9_back 9 = .ok (.arraylength, 1) := oq_190 (bq_in kqX9_back_0 9 rfl)
theorem dX9_back_10 : decode cX9_back 10 = .ok (.if_icmp .ge 12, 3) := oq_162 (bq_in kqX9_back_0 10 rfl) (bq_in kqX9_back_0 11 rfl) (bq_in kqX9_back_0 12 rfl) rfl
theorem dX9_back_13 : decode cX9_back 13 = .ok (.aload_n 0, 1) := oq_42 (bq_in kqX9_back_0 13 rfl)
theorem dX9_back_14 : decode cX9_back 14 = .ok (.getfield 24, 3) := oq_180 (bq_in kqX9_back_0 14 rfl) (bq_in kqX9_back_0 15 rfl) (bq_in kqX9_back_0 16 rfl) rfl
theorem dX9_back_17 : decode cX9_back 17 = .ok (.iload_n 1, 1) := oq_27 (bq_in kqX9_back_0 17 rfl)
theorem dX9_back_18 : decode cX9_back 18 = .ok (.aaload, 1) := oq_50 (bq_in kqX9_back_0 18 rfl)
theorem dX9_back_19 : decode cX9_back 19 = .ok (.ifnonnull 5, 3) := oq_199 (bq_in kqX9_back_0 19 rfl) (bq_in kqX9_back_0 20 rfl) (bq_in kqX9_back_0 21 rfl) rfl
theorem dX9_back_22 : decode cX9_back 22 = .ok (.iconst 0, 1) := oq_3 (bq_in kqX9_back_0 22 rfl)
theorem dX9_back_23 : decode cX9_back 23 = .ok (.ireturn, 1) := oq_172 (bq_in kqX9_back_0 23 rfl)
theorem dX9_back_24 : decode cX9_back 24 = .ok (.aload_n 0, 1) := oq_42 (bq_in kqX9_back_0 24 rfl)
theorem dX9_back_25 : decode cX9_back 25 = .ok (.getfield 20, 3) := oq_180 (bq_in kqX9_back_0 25 rfl) (bq_in kqX9_back_0 26 rfl) (bq_in kqX9_back_0 27 rfl) rfl
theorem dX9_back_28 : decode cX9_back 28 = .ok (.aload_n 0, 1) := oq_42 (bq_in kqX9_back_0 28 rfl)
theorem dX9_back_29 : decode cX9_back 29 = .ok (.getfield 24, 3) := oq_180 (bq_in kqX9_back_0 29 rfl) (bq_in kqX9_back_0 30 rfl) (bq_in kqX9_back_0 31 rfl) rfl
theorem kqX9_back_1 : ((cX9_back.data.toList.drop 32).take 34).map UInt8.toNat = [27, 50, 182, 0, 211, 4, 172] := by decide +kernel
theorem dX9_back_32 : decode cX9_back 32 = .ok (.iload_n 1, 1) := oq_27 (bq_in kqX9_back_1 0 rfl)
theorem dX9_back_33 : decode cX9_back 33 = .ok (.aaload, 1) := oq_50 (bq_in kqX9_back_1 1 rfl)
theorem dX9_back_34 : decode cX9_back 34 = .ok (.invokevirtual 211, 3) := oq_182 (bq_in kqX9_back_1 2 rfl) (bq_in kqX9_back_1 3 rfl) (bq_in kqX9_back_1 4 rfl) rfl
theorem dX9_back_37 : decode cX9_back 37 = .ok (.iconst 1, 1) := oq_4 (bq_in kqX9_back_1 5 rfl)
theorem dX9_back_38 : decode cX9_back 38 = .ok (.ireturn, 1) := oq_172 (bq_in kqX9_back_1 6 rfl)
theorem kqX9_told_0 : ((cX9_told.data.toList.drop 0).take 34).map UInt8.toNat = [27, 170, 0, 0, 0, 0, 0, 57, 0, 0, 0, 0, 0, 0, 0, 3, 0, 0, 0, 31, 0, 0, 0, 39, 0, 0, 0, 44, 0, 0, 0, 52, 42, 180] := by decide +kernel
theorem dX9_told_0 : decode cX9_told 0 = .ok (.iload_n 1, 1) := oq_27 (bq_in kqX9_told_0 0 rfl)
theorem dX9_told_1 : decode cX9_told 1 = .ok (.tableswitch 57 0 3 #[31, 39, 44, 52], 31) := by decide +kernel
theorem kqX9_told_1 : ((cX9_told.data.toList.drop 32).take 34).map UInt8.toNat = [42, 180, 0, 20, 180, 0, 166, 172, 42, 180, 0, 13, 172, 42, 180, 0, 20, 182, 0, 215, 172, 42, 182, 0, 218, 172, 2, 172] := by decide +kernel
theorem dX9_told_32 : decode cX9_told 32 = .ok (.aload_n 0, 1) := oq_42 (bq_in kqX9_told_1 0 rfl)
theorem dX9_told_33 : decode cX9_told 33 = .ok (.getfield 20, 3) := oq_180 (bq_in kqX9_told_1 1 rfl) (bq_in kqX9_told_1 2 rfl) (bq_in kqX9_told_1 3 rfl) rfl
theorem dX9_told_36 : decode cX9_told 36 = .ok (.getfield 166, 3) := oq_180 (bq_in kqX9_told_1 4 rfl) (bq_in kqX9_told_1 5 rfl) (bq_in kqX9_told_1 6 rfl) rfl
theorem dX9_told_39 : decode cX9_told 39 = .ok (.ireturn, 1) := oq_172 (bq_in kqX9_told_1 7 rfl)
theorem dX9_told_40 : decode cX9_told 40 = .ok (.aload_n 0, 1) := oq_42 (bq_in kqX9_told_1 8 rfl)
theorem dX9_told_41 : decode cX9_told 41 = .ok (.getfield 13, 3) := oq_180 (bq_in kqX9_told_1 9 rfl) (bq_in kqX9_told_1 10 rfl) (bq_in kqX9_told_1 11 rfl) rfl
theorem dX9_told_44 : decode cX9_told 44 = .ok (.ireturn, 1) := oq_172 (bq_in kqX9_told_1 12 rfl)
theorem dX9_told_45 : decode cX9_told 45 = .ok (.aload_n 0, 1) := oq_42 (bq_in kqX9_told_1 13 rfl)
theorem dX9_told_46 : decode cX9_told 46 = .ok (.getfield 20, 3) := oq_180 (bq_in kqX9_told_1 14 rfl) (bq_in kqX9_told_1 15 rfl) (bq_in kqX9_told_1 16 rfl) rfl
theorem dX9_told_49 : decode cX9_told 49 = .ok (.invokevirtual 215, 3) := oq_182 (bq_in kqX9_told_1 17 rfl) (bq_in kqX9_told_1 18 rfl) (bq_in kqX9_told_1 19 rfl) rfl
theorem dX9_told_52 : decode cX9_told 52 = .ok (.ireturn, 1) := oq_172 (bq_in kqX9_told_1 20 rfl)
theorem dX9_told_53 : decode cX9_told 53 = .ok (.aload_n 0, 1) := oq_42 (bq_in kqX9_told_1 21 rfl)
theorem dX9_told_54 : decode cX9_told 54 = .ok (.invokevirtual 218, 3) := oq_182 (bq_in kqX9_told_1 22 rfl) (bq_in kqX9_told_1 23 rfl) (bq_in kqX9_told_1 24 rfl) rfl
theorem dX9_told_57 : decode cX9_told 57 = .ok (.ireturn, 1) := oq_172 (bq_in kqX9_told_1 25 rfl)
theorem dX9_told_58 : decode cX9_told 58 = .ok (.iconst (-1), 1) := oq_2 (bq_in kqX9_told_1 26 rfl)
theorem dX9_told_59 : decode cX9_told 59 = .ok (.ireturn, 1) := oq_172 (bq_in kqX9_told_1 27 rfl)
theorem kqX9_putBytes_0 : ((cX9_putBytes.data.toList.drop 0).take 34).map UInt8.toNat = [16, 56, 62, 29, 155, 0, 47, 42, 180, 0, 13, 17, 0, 168, 162, 0, 37, 42, 180, 0, 9, 42, 180, 0, 13, 31, 29, 125, 20, 0, 221, 127, 136, 146] := by decide +kernel
theorem dX9_putBytes_0 : decode cX9_putBytes 0 = .ok (.bipush 56, 2) := oq_16 (bq_in kqX9_putBytes_0 0 rfl) (bq_in kqX9_putBytes_0 1 rfl) rfl
theorem dX9_putBytes_2 : decode cX9_putBytes 2 = .ok (.istore_n 3, 1) := oq_62 (bq_in kqX9_putBytes_0 2 rfl)
theorem dX9_putBytes_3 : decode cX9_putBytes 3 = .ok (.iload_n 3, 1) := oq_29 (bq_in kqX9_putBytes_0 3 rfl)
theorem dX9_putBytes_4 : decode cX9_putBytes 4 = .ok (.ifCond .lt 47, 3) := oq_155 (bq_in kqX9_putBytes_0 4 rfl) (bq_in kqX9_putBytes_0 5 rfl) (bq_in kqX9_putBytes_0 6 rfl) rfl
theorem dX9_putBytes_7 : decode cX9_putBytes 7 = .ok (.aload_n 0, 1) := oq_42 (bq_in kqX9_putBytes_0 7 rfl)
theorem dX9_putBytes_8 : decode cX9_putBytes 8 = .ok (.getfield 13, 3) := oq_180 (bq_in kqX9_putBytes_0 8 rfl) (bq_in kqX9_putBytes_0 9 rfl) (bq_in kqX9_putBytes_0 10 rfl) rfl
theorem dX9_putBytes_11 : decode cX9_putBytes 11 = .ok (.sipush 168, 3) := oq_17 (bq_in kqX9_putBytes_0 11 rfl) (bq_in kqX9_putBytes_0 12 rfl) (bq_in kqX9_putBytes_0 13 rfl) rfl
theorem dX9_putBytes_14 : decode cX9_putBytes 14 = .ok (.if_icmp .ge 37, 3) := oq_162 (bq_in kqX9_putBytes_0 14 rfl) (bq_in kqX9_putBytes_0 15 rfl) (bq_in kqX9_putBytes_0 16 rfl) rfl
theorem dX9_putBytes_17 : decode cX9_putBytes 17 = .ok (.aload_n 0, 1) := oq_42 (bq_in kqX9_putBytes_0 17 rfl)
theorem dX9_putBytes_18 : decode cX9_putBytes 18 = .ok (.getfield 9, 3) := oq_180 (bq_in kqX9_putBytes_0 18 rfl) (bq_in kqX9_putBytes_0 19 rfl) (bq_in kqX9_putBytes_0 20 rfl) rfl
theorem dX9_putBytes_21 : decode cX9_putBytes 21 = .ok (.aload_n 0, 1) := oq_42 (bq_in kqX9_putBytes_0 21 rfl)
theorem dX9_putBytes_22 : decode cX9_putBytes 22 = .ok (.getfield 13, 3) := oq_180 (bq_in kqX9_putBytes_0 22 rfl) (bq_in kqX9_putBytes_0 23 rfl) (bq_in kqX9_putBytes_0 24 rfl) rfl
theorem dX9_putBytes_25 : decode cX9_putBytes 25 = .ok (.lload_n 1, 1) := oq_31 (bq_in kqX9_putBytes_0 25 rfl)
theorem dX9_putBytes_26 : decode cX9_putBytes 26 = .ok (.iload_n 3, 1) := oq_29 (bq_in kqX9_putBytes_0 26 rfl)
theorem dX9_putBytes_27 : decode cX9_putBytes 27 = .ok (.lushr, 1) := oq_125 (bq_in kqX9_putBytes_0 27 rfl)
theorem dX9_putBytes_28 : decode cX9_putBytes 28 = .ok (.ldc2_w 221, 3) := oq_20 (bq_in kqX9_putBytes_0 28 rfl) (bq_in kqX9_putBytes_0 29 rfl) (bq_in kqX9_putBytes_0 30 rfl) rfl
theorem dX9_putBytes_31 : decode cX9_putBytes 31 = .ok (.land, 1) := oq_127 (bq_in kqX9_putBytes_0 31 rfl)
theorem kqX9_putBytes_1 : ((cX9_putBytes.data.toList.drop 32).take 34).map UInt8.toNat = [136, 146, 85, 42, 89, 180, 0, 13, 4, 96, 181, 0, 13, 132, 3, 248, 167, 255, 211, 177] := by decide +kernel
theorem dX9_putBytes_32 : decode cX9_putBytes 32 = .ok (.l2i, 1) := oq_136 (bq_in kqX9_putBytes_1 0 rfl)
theorem dX9_putBytes_33 : decode cX9_putBytes 33 = .ok (.i2c, 1) := oq_146 (bq_in kqX9_putBytes_1 1 rfl)
theorem dX9_putBytes_34 : decode cX9_putBytes 34 = .ok (.castore, 1) := oq_85 (bq_in kqX9_putBytes_1 2 rfl)
theorem dX9_putBytes_35 : decode cX9_putBytes 35 = .ok (.aload_n 0, 1) := oq_42 (bq_in kqX9_putBytes_1 3 rfl)
theorem dX9_putBytes_36 : decode cX9_putBytes 36 = .ok (.dup, 1) := oq_89 (bq_in kqX9_putBytes_1 4 rfl)
theorem dX9_putBytes_37 : decode cX9_putBytes 37 = .ok (.getfield 13, 3) := oq_180 (bq_in kqX9_putBytes_1 5 rfl) (bq_in kqX9_putBytes_1 6 rfl) (bq_in kqX9_putBytes_1 7 rfl) rfl
theorem dX9_putBytes_40 : decode cX9_putBytes 40 = .ok (.iconst 1, 1) := oq_4 (bq_in kqX9_putBytes_1 8 rfl)
theorem dX9_putBytes_41 : decode cX9_putBytes 41 = .ok (.iadd, 1) := oq_96 (bq_in kqX9_putBytes_1 9 rfl)
theorem dX9_putBytes_42 : decode cX9_putBytes 42 = .ok (.putfield 13, 3) := oq_181 (bq_in kqX9_putBytes_1 10 rfl) (bq_in kqX9_putBytes_1 11 rfl) (bq_in kqX9_putBytes_1 12 rfl) rfl
theorem dX9_putBytes_45 : decode cX9_putBytes 45 = .ok (.iinc 3 (-8), 3) := oq_132 (bq_in kqX9_putBytes_1 13 rfl) (bq_in kqX9_putBytes_1 14 rfl) (bq_in kqX9_putBytes_1 15 rfl) rfl
theorem dX9_putBytes_48 : decode cX9_putBytes 48 = .ok (.goto (-45), 3) := oq_167 (bq_in kqX9_putBytes_1 16 rfl) (bq_in kqX9_putBytes_1 17 rfl) (bq_in kqX9_putBytes_1 18 rfl) rfl
theorem dX9_putBytes_51 : decode cX9_putBytes 51 = .ok (.return_, 1) := oq_177 (bq_in kqX9_putBytes_1 19 rfl)
theorem kqX9_imageBits_0 : ((cX9_imageBits.data.toList.drop 0).take 34).map UInt8.toNat = [3, 60, 3, 61, 28, 42, 180, 0, 24, 190, 162, 0, 24, 42, 180, 0, 24, 28, 50, 198, 0, 9, 27, 4, 28, 120, 128, 60, 132, 2, 1, 167, 255, 229] := by decide +kernel
theorem dX9_imageBits_0 : decode cX9_imageBits 0 = .ok (.iconst 0, 1) := oq_3 (bq_in kqX9_imageBits_0 0 rfl)
theorem dX9_imageBits_1 : decode cX9_imageBits 1 = .ok (.istore_n 1, 1) := oq_60 (bq_in kqX9_imageBits_0 1 rfl)
theorem dX9_imageBits_2 : decode cX9_imageBits 2 = .ok (.iconst 0, 1) := oq_3 (bq_in kqX9_imageBits_0 2 rfl)
theorem dX9_imageBits_3 : decode cX9_imageBits 3 = .ok (.istore_n 2, 1) := oq_61 (bq_in kqX9_imageBits_0 3 rfl)
theorem dX9_imageBits_4 : decode cX9_imageBits 4 = .ok (.iload_n 2, 1) := oq_28 (bq_in kqX9_imageBits_0 4 rfl)
theorem dX9_imageBits_5 : decode cX9_imageBits 5 = .ok (.aload_n 0, 1) := oq_42 (bq_in kqX9_imageBits_0 5 rfl)
theorem dX9_imageBits_6 : decode cX9_imageBits 6 = .ok (.getfield 24, 3) := oq_180 (bq_in kqX9_imageBits_0 6 rfl) (bq_in kqX9_imageBits_0 7 rfl) (bq_in kqX9_imageBits_0 8 rfl) rfl
theorem dX9_imageBits_9 : decode cX9_imageBits 9 = .ok (.arraylength, 1) := oq_190 (bq_in kqX9_imageBits_0 9 rfl)
theorem dX9_imageBits_10 : decode cX9_imageBits 10 = .ok (.if_icmp .ge 24, 3) := oq_162 (bq_in kqX9_imageBits_0 10 rfl) (bq_in kqX9_imageBits_0 11 rfl) (bq_in kqX9_imageBits_0 12 rfl) rfl
theorem dX9_imageBits_13 : decode cX9_imageBits 13 = .ok (.aload_n 0, 1) := oq_42 (bq_in kqX9_imageBits_0 13 rfl)
theorem dX9_imageBits_14 : decode cX9_imageBits 14 = .ok (.getfield 24, 3) := oq_180 (bq_in kqX9_imageBits_0 14 rfl) (bq_in kqX9_imageBits_0 15 rfl) (bq_in kqX9_imageBits_0 16 rfl) rfl
theorem dX9_imageBits_17 : decode cX9_imageBits 17 = .ok (.iload_n 2, 1) := oq_28 (bq_in kqX9_imageBits_0 17 rfl)
theorem dX9_imageBits_18 : decode cX9_imageBits 18 = .ok (.aaload, 1) := oq_50 (bq_in kqX9_imageBits_0 18 rfl)
theorem dX9_imageBits_19 : decode cX9_imageBits 19 = .ok (.ifnull 9, 3) := oq_198 (bq_in kqX9_imageBits_0 19 rfl) (bq_in kqX9_imageBits_0 20 rfl) (bq_in kqX9_imageBits_0 21 rfl) rfl
theorem dX9_imageBits_22 : decode cX9_imageBits 22 = .ok (.iload_n 1, 1) := oq_27 (bq_in kqX9_imageBits_0 22 rfl)
theorem dX9_imageBits_23 : decode cX9_imageBits 23 = .ok (.iconst 1, 1) := oq_4 (bq_in kqX9_imageBits_0 23 rfl)
theorem dX9_imageBits_24 : decode cX9_imageBits 24 = .ok (.iload_n 2, 1) := oq_28 (bq_in kqX9_imageBits_0 24 rfl)
theorem dX9_imageBits_25 : decode cX9_imageBits 25 = .ok (.ishl, 1) := oq_120 (bq_in kqX9_imageBits_0 25 rfl)
theorem dX9_imageBits_26 : decode cX9_imageBits 26 = .ok (.ior, 1) := oq_128 (bq_in kqX9_imageBits_0 26 rfl)
theorem dX9_imageBits_27 : decode cX9_imageBits 27 = .ok (.istore_n 1, 1) := oq_60 (bq_in kqX9_imageBits_0 27 rfl)
theorem dX9_imageBits_28 : decode cX9_imageBits 28 = .ok (.iinc 2 1, 3) := oq_132 (bq_in kqX9_imageBits_0 28 rfl) (bq_in kqX9_imageBits_0 29 rfl) (bq_in kqX9_imageBits_0 30 rfl) rfl
theorem dX9_imageBits_31 : decode cX9_imageBits 31 = .ok (.goto (-27), 3) := oq_167 (bq_in kqX9_imageBits_0 31 rfl) (bq_in kqX9_imageBits_0 32 rfl) (bq_in kqX9_imageBits_0 33 rfl) rfl
theorem kqX9_imageBits_1 : ((cX9_imageBits.data.toList.drop 32).take 34).map UInt8.toNat = [255, 229, 27, 172] := by decide +kernel
theorem dX9_imageBits_34 : decode cX9_imageBits 34 = .ok (.iload_n 1, 1) := oq_27 (bq_in kqX9_imageBits_1 2 rfl)
theorem dX9_imageBits_35 : decode cX9_imageBits 35 = .ok (.ireturn, 1) := oq_172 (bq_in kqX9_imageBits_1 3 rfl)
theorem kqX9_isDay_0 : ((cX9_isDay.data.toList.drop 0).take 34).map UInt8.toNat = [26, 155, 0, 13, 26, 18, 185, 163, 0, 7, 4, 167, 0, 4, 3, 172] := by decide +kernel
theorem dX9_isDay_0 : decode cX9_isDay 0 = .ok (.iload_n 0, 1) := oq_26 (bq_in kqX9_isDay_0 0 rfl)
theorem dX9_isDay_1 : decode cX9_isDay 1 = .ok (.ifCond .lt 13, 3) := oq_155 (bq_in kqX9_isDay_0 1 rfl) (bq_in kqX9_isDay_0 2 rfl) (bq_in kqX9_isDay_0 3 rfl) rfl
theorem dX9_isDay_4 : decode cX9_isDay 4 = .ok (.iload_n 0, 1) := oq_26 (bq_in kqX9_isDay_0 4 rfl)
theorem dX9_isDay_5 : decode cX9_isDay 5 = .ok (.ldc 185, 2) := oq_18 (bq_in kqX9_isDay_0 5 rfl) (bq_in kqX9_isDay_0 6 rfl)
theorem dX9_isDay_7 : decode cX9_isDay 7 = .ok (.if_icmp .gt 7, 3) := oq_163 (bq_in kqX9_isDay_0 7 rfl) (bq_in kqX9_isDay_0 8 rfl) (bq_in kqX9_isDay_0 9 rfl) rfl
theorem dX9_isDay_10 : decode cX9_isDay 10 = .ok (.iconst 1, 1) := oq_4 (bq_in kqX9_isDay_0 10 rfl)
theorem dX9_isDay_11 : decode cX9_isDay 11 = .ok (.goto 4, 3) := oq_167 (bq_in kqX9_isDay_0 11 rfl) (bq_in kqX9_isDay_0 12 rfl) (bq_in kqX9_isDay_0 13 rfl) rfl
theorem dX9_isDay_14 : decode cX9_isDay 14 = .ok (.iconst 0, 1) := oq_3 (bq_in kqX9_isDay_0 14 rfl)
theorem dX9_isDay_15 : decode cX9_isDay 15 = .ok (.ireturn, 1) := oq_172 (bq_in kqX9_isDay_0 15 rfl)
theorem kqX9_isTime_0 : ((cX9_isTime.data.toList.drop 0).take 34).map UInt8.toNat = [26, 155, 0, 13, 26, 18, 173, 163, 0, 7, 4, 167, 0, 4, 3, 172] := by decide +kernel
theorem dX9_isTime_0 : decode cX9_isTime 0 = .ok (.iload_n 0, 1) := oq_26 (bq_in kqX9_isTime_0 0 rfl)
theorem dX9_isTime_1 : decode cX9_isTime 1 = .ok (.ifCond .lt 13, 3) := oq_155 (bq_in kqX9_isTime_0 1 rfl) (bq_in kqX9_isTime_0 2 rfl) (bq_in kqX9_isTime_0 3 rfl) rfl
theorem dX9_isTime_4 : decode cX9_isTime 4 = .ok (.iload_n 0, 1) := oq_26 (bq_in kqX9_isTime_0 4 rfl)
theorem dX9_isTime_5 : decode cX9_isTime 5 = .ok (.ldc 173, 2) := oq_18 (bq_in kqX9_isTime_0 5 rfl) (bq_in kqX9_isTime_0 6 rfl)
theorem dX9_isTime_7 : decode cX9_isTime 7 = .ok (.if_icmp .gt 7, 3) := oq_163 (bq_in kqX9_isTime_0 7 rfl) (bq_in kqX9_isTime_0 8 rfl) (bq_in kqX9_isTime_0 9 rfl) rfl
theorem dX9_isTime_10 : decode cX9_isTime 10 = .ok (.iconst 1, 1) := oq_4 (bq_in kqX9_isTime_0 10 rfl)
theorem dX9_isTime_11 : decode cX9_isTime 11 = .ok (.goto 4, 3) := oq_167 (bq_in kqX9_isTime_0 11 rfl) (bq_in kqX9_isTime_0 12 rfl) (bq_in kqX9_isTime_0 13 rfl) rfl
theorem dX9_isTime_14 : decode cX9_isTime 14 = .ok (.iconst 0, 1) := oq_3 (bq_in kqX9_isTime_0 14 rfl)
theorem dX9_isTime_15 : decode cX9_isTime 15 = .ok (.ireturn, 1) := oq_172 (bq_in kqX9_isTime_0 15 rfl)
theorem kqX9_isRoom_0 : ((cX9_isRoom.data.toList.drop 0).take 34).map UInt8.toNat = [26, 155, 0, 13, 26, 16, 7, 163, 0, 7, 4, 167, 0, 4, 3, 172] := by decide +kernel
theorem dX9_isRoom_0 : decode cX9_isRoom 0 = .ok (.iload_n 0, 1) := oq_26 (bq_in kqX9_isRoom_0 0 rfl)
theorem dX9_isRoom_1 : decode cX9_isRoom 1 = .ok (.ifCond .lt 13, 3) := oq_155 (bq_in kqX9_isRoom_0 1 rfl) (bq_in kqX9_isRoom_0 2 rfl) (bq_in kqX9_isRoom_0 3 rfl) rfl
theorem dX9_isRoom_4 : decode cX9_isRoom 4 = .ok (.iload_n 0, 1) := oq_26 (bq_in kqX9_isRoom_0 4 rfl)
theorem dX9_isRoom_5 : decode cX9_isRoom 5 = .ok (.bipush 7, 2) := oq_16 (bq_in kqX9_isRoom_0 5 rfl) (bq_in kqX9_isRoom_0 6 rfl) rfl
theorem dX9_isRoom_7 : decode cX9_isRoom 7 = .ok (.if_icmp .gt 7, 3) := oq_163 (bq_in kqX9_isRoom_0 7 rfl) (bq_in kqX9_isRoom_0 8 rfl) (bq_in kqX9_isRoom_0 9 rfl) rfl
theorem dX9_isRoom_10 : decode cX9_isRoom 10 = .ok (.iconst 1, 1) := oq_4 (bq_in kqX9_isRoom_0 10 rfl)
theorem dX9_isRoom_11 : decode cX9_isRoom 11 = .ok (.goto 4, 3) := oq_167 (bq_in kqX9_isRoom_0 11 rfl) (bq_in kqX9_isRoom_0 12 rfl) (bq_in kqX9_isRoom_0 13 rfl) rfl
theorem dX9_isRoom_14 : decode cX9_isRoom 14 = .ok (.iconst 0, 1) := oq_3 (bq_in kqX9_isRoom_0 14 rfl)
theorem dX9_isRoom_15 : decode cX9_isRoom 15 = .ok (.ireturn, 1) := oq_172 (bq_in kqX9_isRoom_0 15 rfl)
theorem kqX9_areDays_0 : ((cX9_areDays.data.toList.drop 0).take 34).map UInt8.toNat = [26, 184, 0, 74, 153, 0, 26, 27, 184, 0, 74, 153, 0, 19, 26, 27, 163, 0, 14, 27, 26, 100, 28, 162, 0, 7, 4, 167, 0, 4, 3, 172] := by decide +kernel
theorem dX9_areDays_0 : decode cX9_areDays 0 = .ok (.iload_n 0, 1) := oq_26 (bq_in kqX9_areDays_0 0 rfl)
theorem dX9_areDays_1 : decode cX9_areDays 1 = .ok (.invokestatic 74, 3) := oq_184 (bq_in kqX9_areDays_0 1 rfl) (bq_in kqX9_areDays_0 2 rfl) (bq_in kqX9_areDays_0 3 rfl) rfl
theorem dX9_areDays_4 : decode cX9_areDays 4 = .ok (.ifCond .eq 26, 3) := oq_153 (bq_in kqX9_areDays_0 4 rfl) (bq_in kqX9_areDays_0 5 rfl) (bq_in kqX9_areDays_0 6 rfl) rfl
theorem dX9_areDays_7 : decode cX9_areDays 7 = .ok (.iload_n 1, 1) := oq_27 (bq_in kqX9_areDays_0 7 rfl)
theorem dX9_areDays_8 : decode cX9_areDays 8 = .ok (.invokestatic 74, 3) := oq_184 (bq_in kqX9_areDays_0 8 rfl) (bq_in kqX9_areDays_0 9 rfl) (bq_in kqX9_areDays_0 10 rfl) rfl
theorem dX9_areDays_11 : decode cX9_areDays 11 = .ok (.ifCond .eq 19, 3) := oq_153 (bq_in kqX9_areDays_0 11 rfl) (bq_in kqX9_areDays_0 12 rfl) (bq_in kqX9_areDays_0 13 rfl) rfl
theorem dX9_areDays_14 : decode cX9_areDays 14 = .ok (.iload_n 0, 1) := oq_26 (bq_in kqX9_areDays_0 14 rfl)
theorem dX9_areDays_15 : decode cX9_areDays 15 = .ok (.iload_n 1, 1) := oq_27 (bq_in kqX9_areDays_0 15 rfl)
theorem dX9_areDays_16 : decode cX9_areDays 16 = .ok (.if_icmp .gt 14, 3) := oq_163 (bq_in kqX9_areDays_0 16 rfl) (bq_in kqX9_areDays_0 17 rfl) (bq_in kqX9_areDays_0 18 rfl) rfl
theorem dX9_areDays_19 : decode cX9_areDays 19 = .ok (.iload_n 1, 1) := oq_27 (bq_in kqX9_areDays_0 19 rfl)
theorem dX9_areDays_20 : decode cX9_areDays 20 = .ok (.iload_n 0, 1) := oq_26 (bq_in kqX9_areDays_0 20 rfl)
theorem dX9_areDays_21 : decode cX9_areDays 21 = .ok (.isub, 1) := oq_100 (bq_in kqX9_areDays_0 21 rfl)
theorem dX9_areDays_22 : decode cX9_areDays 22 = .ok (.iload_n 2, 1) := oq_28 (bq_in kqX9_areDays_0 22 rfl)
theorem dX9_areDays_23 : decode cX9_areDays 23 = .ok (.if_icmp .ge 7, 3) := oq_162 (bq_in kqX9_areDays_0 23 rfl) (bq_in kqX9_areDays_0 24 rfl) (bq_in kqX9_areDays_0 25 rfl) rfl
theorem dX9_areDays_26 : decode cX9_areDays 26 = .ok (.iconst 1, 1) := oq_4 (bq_in kqX9_areDays_0 26 rfl)
theorem dX9_areDays_27 : decode cX9_areDays 27 = .ok (.goto 4, 3) := oq_167 (bq_in kqX9_areDays_0 27 rfl) (bq_in kqX9_areDays_0 28 rfl) (bq_in kqX9_areDays_0 29 rfl) rfl
theorem dX9_areDays_30 : decode cX9_areDays 30 = .ok (.iconst 0, 1) := oq_3 (bq_in kqX9_areDays_0 30 rfl)
theorem dX9_areDays_31 : decode cX9_areDays 31 = .ok (.ireturn, 1) := oq_172 (bq_in kqX9_areDays_0 31 rfl)
theorem kqX9_areTwo_0 : ((cX9_areTwo.data.toList.drop 0).take 34).map UInt8.toNat = [42, 180, 0, 20, 27, 182, 0, 53, 153, 0, 23, 42, 180, 0, 20, 28, 182, 0, 53, 153, 0, 12, 27, 28, 159, 0, 7, 4, 167, 0, 4, 3, 172] := by decide +kernel
theorem dX9_areTwo_0 : decode cX9_areTwo 0 = .ok (.aload_n 0, 1) := oq_42 (bq_in kqX9_areTwo_0 0 rfl)
theorem dX9_areTwo_1 : decode cX9_areTwo 1 = .ok (.getfield 20, 3) := oq_180 (bq_in kqX9_areTwo_0 1 rfl) (bq_in kqX9_areTwo_0 2 rfl) (bq_in kqX9_areTwo_0 3 rfl) rfl
theorem dX9_areTwo_4 : decode cX9_areTwo 4 = .ok (.iload_n 1, 1) := oq_27 (bq_in kqX9_areTwo_0 4 rfl)
theorem dX9_areTwo_5 : decode cX9_areTwo 5 = .ok (.invokevirtual 53, 3) := oq_182 (bq_in kqX9_areTwo_0 5 rfl) (bq_in kqX9_areTwo_0 6 rfl) (bq_in kqX9_areTwo_0 7 rfl) rfl
theorem dX9_areTwo_8 : decode cX9_areTwo 8 = .ok (.ifCond .eq 23, 3) := oq_153 (bq_in kqX9_areTwo_0 8 rfl) (bq_in kqX9_areTwo_0 9 rfl) (bq_in kqX9_areTwo_0 10 rfl) rfl
theorem dX9_areTwo_11 : decode cX9_areTwo 11 = .ok (.aload_n 0, 1) := oq_42 (bq_in kqX9_areTwo_0 11 rfl)
theorem dX9_areTwo_12 : decode cX9_areTwo 12 = .ok (.getfield 20, 3) := oq_180 (bq_in kqX9_areTwo_0 12 rfl) (bq_in kqX9_areTwo_0 13 rfl) (bq_in kqX9_areTwo_0 14 rfl) rfl
theorem dX9_areTwo_15 : decode cX9_areTwo 15 = .ok (.iload_n 2, 1) := oq_28 (bq_in kqX9_areTwo_0 15 rfl)
theorem dX9_areTwo_16 : decode cX9_areTwo 16 = .ok (.invokevirtual 53, 3) := oq_182 (bq_in kqX9_areTwo_0 16 rfl) (bq_in kqX9_areTwo_0 17 rfl) (bq_in kqX9_areTwo_0 18 rfl) rfl
theorem dX9_areTwo_19 : decode cX9_areTwo 19 = .ok (.ifCond .eq 12, 3) := oq_153 (bq_in kqX9_areTwo_0 19 rfl) (bq_in kqX9_areTwo_0 20 rfl) (bq_in kqX9_areTwo_0 21 rfl) rfl
theorem dX9_areTwo_22 : decode cX9_areTwo 22 = .ok (.iload_n 1, 1) := oq_27 (bq_in kqX9_areTwo_0 22 rfl)
theorem dX9_areTwo_23 : decode cX9_areTwo 23 = .ok (.iload_n 2, 1) := oq_28 (bq_in kqX9_areTwo_0 23 rfl)
theorem dX9_areTwo_24 : decode cX9_areTwo 24 = .ok (.if_icmp .eq 7, 3) := oq_159 (bq_in kqX9_areTwo_0 24 rfl) (bq_in kqX9_areTwo_0 25 rfl) (bq_in kqX9_areTwo_0 26 rfl) rfl
theorem dX9_areTwo_27 : decode cX9_areTwo 27 = .ok (.iconst 1, 1) := oq_4 (bq_in kqX9_areTwo_0 27 rfl)
theorem dX9_areTwo_28 : decode cX9_areTwo 28 = .ok (.goto 4, 3) := oq_167 (bq_in kqX9_areTwo_0 28 rfl) (bq_in kqX9_areTwo_0 29 rfl) (bq_in kqX9_areTwo_0 30 rfl) rfl
theorem dX9_areTwo_31 : decode cX9_areTwo 31 = .ok (.iconst 0, 1) := oq_3 (bq_in kqX9_areTwo_0 31 rfl)
theorem kqX9_areTwo_1 : ((cX9_areTwo.data.toList.drop 32).take 34).map UInt8.toNat = [172] := by decide +kernel
theorem dX9_areTwo_32 : decode cX9_areTwo 32 = .ok (.ireturn, 1) := oq_172 (bq_in kqX9_areTwo_1 0 rfl)
theorem kqX9_asInt_0 : ((cX9_asInt.data.toList.drop 0).take 34).map UInt8.toNat = [30, 20, 0, 223, 148, 158, 0, 8, 16, 254, 167, 0, 5, 30, 136, 172] := by decide +kernel
theorem dX9_asInt_0 : decode cX9_asInt 0 = .ok (.lload_n 0, 1) := oq_30 (bq_in kqX9_asInt_0 0 rfl)
theorem dX9_asInt_1 : decode cX9_asInt 1 = .ok (.ldc2_w 223, 3) := oq_20 (bq_in kqX9_asInt_0 1 rfl) (bq_in kqX9_asInt_0 2 rfl) (bq_in kqX9_asInt_0 3 rfl) rfl
theorem dX9_asInt_4 : decode cX9_asInt 4 = .ok (.lcmp, 1) := oq_148 (bq_in kqX9_asInt_0 4 rfl)
theorem dX9_asInt_5 : decode cX9_asInt 5 = .ok (.ifCond .le 8, 3) := oq_158 (bq_in kqX9_asInt_0 5 rfl) (bq_in kqX9_asInt_0 6 rfl) (bq_in kqX9_asInt_0 7 rfl) rfl
theorem dX9_asInt_8 : decode cX9_asInt 8 = .ok (.bipush (-2), 2) := oq_16 (bq_in kqX9_asInt_0 8 rfl) (bq_in kqX9_asInt_0 9 rfl) rfl
theorem dX9_asInt_10 : decode cX9_asInt 10 = .ok (.goto 5, 3) := oq_167 (bq_in kqX9_asInt_0 10 rfl) (bq_in kqX9_asInt_0 11 rfl) (bq_in kqX9_asInt_0 12 rfl) rfl
theorem dX9_asInt_13 : decode cX9_asInt 13 = .ok (.lload_n 0, 1) := oq_30 (bq_in kqX9_asInt_0 13 rfl)
theorem dX9_asInt_14 : decode cX9_asInt 14 = .ok (.l2i, 1) := oq_136 (bq_in kqX9_asInt_0 14 rfl)
theorem dX9_asInt_15 : decode cX9_asInt 15 = .ok (.ireturn, 1) := oq_172 (bq_in kqX9_asInt_0 15 rfl)
theorem kqX9_commonDivisor_0 : ((cX9_commonDivisor.data.toList.drop 0).take 34).map UInt8.toNat = [30, 55, 4, 32, 55, 6, 3, 54, 8, 21, 8, 16, 100, 162, 0, 31, 22, 6, 9, 148, 153, 0, 24, 22, 4, 22, 6, 113, 55, 9, 22, 6, 55, 4] := by decide +kernel
theorem dX9_commonDivisor_0 : decode cX9_commonDivisor 0 = .ok (.lload_n 0, 1) := oq_30 (bq_in kqX9_commonDivisor_0 0 rfl)
theorem dX9_commonDivisor_1 : decode cX9_commonDivisor 1 = .ok (.lstore 4, 2) := oq_55 (bq_in kqX9_commonDivisor_0 1 rfl) (bq_in kqX9_commonDivisor_0 2 rfl)
theorem dX9_commonDivisor_3 : decode cX9_commonDivisor 3 = .ok (.lload_n 2, 1) := oq_32 (bq_in kqX9_commonDivisor_0 3 rfl)
theorem dX9_commonDivisor_4 : decode cX9_commonDivisor 4 = .ok (.lstore 6, 2) := oq_55 (bq_in kqX9_commonDivisor_0 4 rfl) (bq_in kqX9_commonDivisor_0 5 rfl)
theorem dX9_commonDivisor_6 : decode cX9_commonDivisor 6 = .ok (.iconst 0, 1) := oq_3 (bq_in kqX9_commonDivisor_0 6 rfl)
theorem dX9_commonDivisor_7 : decode cX9_commonDivisor 7 = .ok (.istore 8, 2) := oq_54 (bq_in kqX9_commonDivisor_0 7 rfl) (bq_in kqX9_commonDivisor_0 8 rfl)
theorem dX9_commonDivisor_9 : decode cX9_commonDivisor 9 = .ok (.iload 8, 2) := oq_21 (bq_in kqX9_commonDivisor_0 9 rfl) (bq_in kqX9_commonDivisor_0 10 rfl)
theorem dX9_commonDivisor_11 : decode cX9_commonDivisor 11 = .ok (.bipush 100, 2) := oq_16 (bq_in kqX9_commonDivisor_0 11 rfl) (bq_in kqX9_commonDivisor_0 12 rfl) rfl
theorem dX9_commonDivisor_13 : decode cX9_commonDivisor 13 = .ok (.if_icmp .ge 31, 3) := oq_162 (bq_in kqX9_commonDivisor_0 13 rfl) (bq_in kqX9_commonDivisor_0 14 rfl) (bq_in kqX9_commonDivisor_0 15 rfl) rfl
theorem dX9_commonDivisor_16 : decode cX9_commonDivisor 16 = .ok (.lload 6, 2) := oq_22 (bq_in kqX9_commonDivisor_0 16 rfl) (bq_in kqX9_commonDivisor_0 17 rfl)
theorem dX9_commonDivisor_18 : decode cX9_commonDivisor 18 = .ok (.lconst 0, 1) := oq_9 (bq_in kqX9_commonDivisor_0 18 rfl)
theorem dX9_commonDivisor_19 : decode cX9_commonDivisor 19 = .ok (.lcmp, 1) := oq_148 (bq_in kqX9_commonDivisor_0 19 rfl)
theorem dX9_commonDivisor_20 : decode cX9_commonDivisor 20 = .ok (.ifCond .eq 24, 3) := oq_153 (bq_in kqX9_commonDivisor_0 20 rfl) (bq_in kqX9_commonDivisor_0 21 rfl) (bq_in kqX9_commonDivisor_0 22 rfl) rfl
theorem dX9_commonDivisor_23 : decode cX9_commonDivisor 23 = .ok (.lload 4, 2) := oq_22 (bq_in kqX9_commonDivisor_0 23 rfl) (bq_in kqX9_commonDivisor_0 24 rfl)
theorem dX9_commonDivisor_25 : decode cX9_commonDivisor 25 = .ok (.lload 6, 2) := oq_22 (bq_in kqX9_commonDivisor_0 25 rfl) (bq_in kqX9_commonDivisor_0 26 rfl)
theorem dX9_commonDivisor_27 : decode cX9_commonDivisor 27 = .ok (.lrem, 1) := oq_113 (bq_in kqX9_commonDivisor_0 27 rfl)
theorem dX9_commonDivisor_28 : decode cX9_commonDivisor 28 = .ok (.lstore 9, 2) := oq_55 (bq_in kqX9_commonDivisor_0 28 rfl) (bq_in kqX9_commonDivisor_0 29 rfl)
theorem dX9_commonDivisor_30 : decode cX9_commonDivisor 30 = .ok (.lload 6, 2) := oq_22 (bq_in kqX9_commonDivisor_0 30 rfl) (bq_in kqX9_commonDivisor_0 31 rfl)
theorem kqX9_commonDivisor_1 : ((cX9_commonDivisor.data.toList.drop 32).take 34).map UInt8.toNat = [55, 4, 22, 9, 55, 6, 132, 8, 1, 167, 255, 224, 22, 4, 173] := by decide +kernel
theorem dX9_commonDivisor_32 : decode cX9_commonDivisor 32 = .ok (.lstore 4, 2) := oq_55 (bq_in kqX9_commonDivisor_1 0 rfl) (bq_in kqX9_commonDivisor_1 1 rfl)
theorem dX9_commonDivisor_34 : decode cX9_commonDivisor 34 = .ok (.lload 9, 2) := oq_22 (bq_in kqX9_commonDivisor_1 2 rfl) (bq_in kqX9_commonDivisor_1 3 rfl)
theorem dX9_commonDivisor_36 : decode cX9_commonDivisor 36 = .ok (.lstore 6, 2) := oq_55 (bq_in kqX9_commonDivisor_1 4 rfl) (bq_in kqX9_commonDivisor_1 5 rfl)
theorem dX9_commonDivisor_38 : decode cX9_commonDivisor 38 = .ok (.iinc 8 1, 3) := oq_132 (bq_in kqX9_commonDivisor_1 6 rfl) (bq_in kqX9_commonDivisor_1 7 rfl) (bq_in kqX9_commonDivisor_1 8 rfl) rfl
theorem dX9_commonDivisor_41 : decode cX9_commonDivisor 41 = .ok (.goto (-32), 3) := oq_167 (bq_in kqX9_commonDivisor_1 9 rfl) (bq_in kqX9_commonDivisor_1 10 rfl) (bq_in kqX9_commonDivisor_1 11 rfl) rfl
theorem dX9_commonDivisor_44 : decode cX9_commonDivisor 44 = .ok (.lload 4, 2) := oq_22 (bq_in kqX9_commonDivisor_1 12 rfl) (bq_in kqX9_commonDivisor_1 13 rfl)
theorem dX9_commonDivisor_46 : decode cX9_commonDivisor 46 = .ok (.lreturn, 1) := oq_173 (bq_in kqX9_commonDivisor_1 14 rfl)
theorem kqX9_commonMultiple_0 : ((cX9_commonMultiple.data.toList.drop 0).take 34).map UInt8.toNat = [30, 32, 184, 0, 225, 55, 4, 30, 9, 148, 153, 0, 16, 32, 9, 148, 153, 0, 10, 22, 4, 9, 148, 154, 0, 5, 9, 173, 30, 22, 4, 109, 32, 105] := by decide +kernel
theorem dX9_commonMultiple_0 : decode cX9_commonMultiple 0 = .ok (.lload_n 0, 1) := oq_30 (bq_in kqX9_commonMultiple_0 0 rfl)
theorem dX9_commonMultiple_1 : decode cX9_commonMultiple 1 = .ok (.lload_n 2, 1) := oq_32 (bq_in kqX9_commonMultiple_0 1 rfl)
theorem dX9_commonMultiple_2 : decode cX9_commonMultiple 2 = .ok (.invokestatic 225, 3) := oq_184 (bq_in kqX9_commonMultiple_0 2 rfl) (bq_in kqX9_commonMultiple_0 3 rfl) (bq_in kqX9_commonMultiple_0 4 rfl) rfl
theorem dX9_commonMultiple_5 : decode cX9_commonMultiple 5 = .ok (.lstore 4, 2) := oq_55 (bq_in kqX9_commonMultiple_0 5 rfl) (bq_in kqX9_commonMultiple_0 6 rfl)
theorem dX9_commonMultiple_7 : decode cX9_commonMultiple 7 = .ok (.lload_n 0, 1) := oq_30 (bq_in kqX9_commonMultiple_0 7 rfl)
theorem dX9_commonMultiple_8 : decode cX9_commonMultiple 8 = .ok (.lconst 0, 1) := oq_9 (bq_in kqX9_commonMultiple_0 8 rfl)
theorem dX9_commonMultiple_9 : decode cX9_commonMultiple 9 = .ok (.lcmp, 1) := oq_148 (bq_in kqX9_commonMultiple_0 9 rfl)
theorem dX9_commonMultiple_10 : decode cX9_commonMultiple 10 = .ok (.ifCond .eq 16, 3) := oq_153 (bq_in kqX9_commonMultiple_0 10 rfl) (bq_in kqX9_commonMultiple_0 11 rfl) (bq_in kqX9_commonMultiple_0 12 rfl) rfl
theorem dX9_commonMultiple_13 : decode cX9_commonMultiple 13 = .ok (.lload_n 2, 1) := oq_32 (bq_in kqX9_commonMultiple_0 13 rfl)
theorem dX9_commonMultiple_14 : decode cX9_commonMultiple 14 = .ok (.lconst 0, 1) := oq_9 (bq_in kqX9_commonMultiple_0 14 rfl)
theorem dX9_commonMultiple_15 : decode cX9_commonMultiple 15 = .ok (.lcmp, 1) := oq_148 (bq_in kqX9_commonMultiple_0 15 rfl)
theorem dX9_commonMultiple_16 : decode cX9_commonMultiple 16 = .ok (.ifCond .eq 10, 3) := oq_153 (bq_in kqX9_commonMultiple_0 16 rfl) (bq_in kqX9_commonMultiple_0 17 rfl) (bq_in kqX9_commonMultiple_0 18 rfl) rfl
theorem dX9_commonMultiple_19 : decode cX9_commonMultiple 19 = .ok (.lload 4, 2) := oq_22 (bq_in kqX9_commonMultiple_0 19 rfl) (bq_in kqX9_commonMultiple_0 20 rfl)
theorem dX9_commonMultiple_21 : decode cX9_commonMultiple 21 = .ok (.lconst 0, 1) := oq_9 (bq_in kqX9_commonMultiple_0 21 rfl)
theorem dX9_commonMultiple_22 : decode cX9_commonMultiple 22 = .ok (.lcmp, 1) := oq_148 (bq_in kqX9_commonMultiple_0 22 rfl)
theorem dX9_commonMultiple_23 : decode cX9_commonMultiple 23 = .ok (.ifCond .ne 5, 3) := oq_154 (bq_in kqX9_commonMultiple_0 23 rfl) (bq_in kqX9_commonMultiple_0 24 rfl) (bq_in kqX9_commonMultiple_0 25 rfl) rfl
theorem dX9_commonMultiple_26 : decode cX9_commonMultiple 26 = .ok (.lconst 0, 1) := oq_9 (bq_in kqX9_commonMultiple_0 26 rfl)
theorem dX9_commonMultiple_27 : decode cX9_commonMultiple 27 = .ok (.lreturn, 1) := oq_173 (bq_in kqX9_commonMultiple_0 27 rfl)
theorem dX9_commonMultiple_28 : decode cX9_commonMultiple 28 = .ok (.lload_n 0, 1) := oq_30 (bq_in kqX9_commonMultiple_0 28 rfl)
theorem dX9_commonMultiple_29 : decode cX9_commonMultiple 29 = .ok (.lload 4, 2) := oq_22 (bq_in kqX9_commonMultiple_0 29 rfl) (bq_in kqX9_commonMultiple_0 30 rfl)
theorem dX9_commonMultiple_31 : decode cX9_commonMultiple 31 = .ok (.ldiv, 1) := oq_109 (bq_in kqX9_commonMultiple_0 31 rfl)
theorem kqX9_commonMultiple_1 : ((cX9_commonMultiple.data.toList.drop 32).take 34).map UInt8.toNat = [32, 105, 173] := by decide +kernel
theorem dX9_commonMultiple_32 : decode cX9_commonMultiple 32 = .ok (.lload_n 2, 1) := oq_32 (bq_in kqX9_commonMultiple_1 0 rfl)
theorem dX9_commonMultiple_33 : decode cX9_commonMultiple 33 = .ok (.lmul, 1) := oq_105 (bq_in kqX9_commonMultiple_1 1 rfl)
theorem dX9_commonMultiple_34 : decode cX9_commonMultiple 34 = .ok (.lreturn, 1) := oq_173 (bq_in kqX9_commonMultiple_1 2 rfl)
theorem kqX9_countOn_0 : ((cX9_countOn.data.toList.drop 0).take 34).map UInt8.toNat = [27, 2, 159, 0, 10, 27, 184, 0, 163, 153, 0, 17, 28, 184, 0, 110, 153, 0, 10, 29, 184, 0, 110, 154, 0, 5, 2, 172, 29, 28, 164, 0, 11, 29] := by decide +kernel
theorem dX9_countOn_0 : decode cX9_countOn 0 = .ok (.iload_n 1, 1) := oq_27 (bq_in kqX9_countOn_0 0 rfl)
theorem dX9_countOn_1 : decode cX9_countOn 1 = .ok (.iconst (-1), 1) := oq_2 (bq_in kqX9_countOn_0 1 rfl)
theorem dX9_countOn_2 : decode cX9_countOn 2 = .ok (.if_icmp .eq 10, 3) := oq_159 (bq_in kqX9_countOn_0 2 rfl) (bq_in kqX9_countOn_0 3 rfl) (bq_in kqX9_countOn_0 4 rfl) rfl
theorem dX9_countOn_5 : decode cX9_countOn 5 = .ok (.iload_n 1, 1) := oq_27 (bq_in kqX9_countOn_0 5 rfl)
theorem dX9_countOn_6 : decode cX9_countOn 6 = .ok (.invokestatic 163, 3) := oq_184 (bq_in kqX9_countOn_0 6 rfl) (bq_in kqX9_countOn_0 7 rfl) (bq_in kqX9_countOn_0 8 rfl) rfl
theorem dX9_countOn_9 : decode cX9_countOn 9 = .ok (.ifCond .eq 17, 3) := oq_153 (bq_in kqX9_countOn_0 9 rfl) (bq_in kqX9_countOn_0 10 rfl) (bq_in kqX9_countOn_0 11 rfl) rfl
theorem dX9_countOn_12 : decode cX9_countOn 12 = .ok (.iload_n 2, 1) := oq_28 (bq_in kqX9_countOn_0 12 rfl)
theorem dX9_countOn_13 : decode cX9_countOn 13 = .ok (.invokestatic 110, 3) := oq_184 (bq_in kqX9_countOn_0 13 rfl) (bq_in kqX9_countOn_0 14 rfl) (bq_in kqX9_countOn_0 15 rfl) rfl
theorem dX9_countOn_16 : decode cX9_countOn 16 = .ok (.ifCond .eq 10, 3) := oq_153 (bq_in kqX9_countOn_0 16 rfl) (bq_in kqX9_countOn_0 17 rfl) (bq_in kqX9_countOn_0 18 rfl) rfl
theorem dX9_countOn_19 : decode cX9_countOn 19 = .ok (.iload_n 3, 1) := oq_29 (bq_in kqX9_countOn_0 19 rfl)
theorem dX9_countOn_20 : decode cX9_countOn 20 = .ok (.invokestatic 110, 3) := oq_184 (bq_in kqX9_countOn_0 20 rfl) (bq_in kqX9_countOn_0 21 rfl) (bq_in kqX9_countOn_0 22 rfl) rfl
theorem dX9_countOn_23 : decode cX9_countOn 23 = .ok (.ifCond .ne 5, 3) := oq_154 (bq_in kqX9_countOn_0 23 rfl) (bq_in kqX9_countOn_0 24 rfl) (bq_in kqX9_countOn_0 25 rfl) rfl
theorem dX9_countOn_26 : decode cX9_countOn 26 = .ok (.iconst (-1), 1) := oq_2 (bq_in kqX9_countOn_0 26 rfl)
theorem dX9_countOn_27 : decode cX9_countOn 27 = .ok (.ireturn, 1) := oq_172 (bq_in kqX9_countOn_0 27 rfl)
theorem dX9_countOn_28 : decode cX9_countOn 28 = .ok (.iload_n 3, 1) := oq_29 (bq_in kqX9_countOn_0 28 rfl)
theorem dX9_countOn_29 : decode cX9_countOn 29 = .ok (.iload_n 2, 1) := oq_28 (bq_in kqX9_countOn_0 29 rfl)
theorem dX9_countOn_30 : decode cX9_countOn 30 = .ok (.if_icmp .le 11, 3) := oq_164 (bq_in kqX9_countOn_0 30 rfl) (bq_in kqX9_countOn_0 31 rfl) (bq_in kqX9_countOn_0 32 rfl) rfl
theorem kqX9_countOn_1 : ((cX9_countOn.data.toList.drop 32).take 34).map UInt8.toNat = [11, 29, 28, 100, 18, 172, 164, 0, 5, 2, 172, 3, 54, 4, 3, 54, 5, 21, 5, 42, 180, 0, 20, 180, 0, 166, 162, 0, 55, 42, 180, 0, 20, 21] := by decide +kernel
theorem dX9_countOn_33 : decode cX9_countOn 33 = .ok (.iload_n 3, 1) := oq_29 (bq_in kqX9_countOn_1 1 rfl)
theorem dX9_countOn_34 : decode cX9_countOn 34 = .ok (.iload_n 2, 1) := oq_28 (bq_in kqX9_countOn_1 2 rfl)
theorem dX9_countOn_35 : decode cX9_countOn 35 = .ok (.isub, 1) := oq_100 (bq_in kqX9_countOn_1 3 rfl)
theorem dX9_countOn_36 : decode cX9_countOn 36 = .ok (.ldc 172, 2) := oq_18 (bq_in kqX9_countOn_1 4 rfl) (bq_in kqX9_countOn_1 5 rfl)
theorem dX9_countOn_38 : decode cX9_countOn 38 = .ok (.if_icmp .le 5, 3) := oq_164 (bq_in kqX9_countOn_1 6 rfl) (bq_in kqX9_countOn_1 7 rfl) (bq_in kqX9_countOn_1 8 rfl) rfl
theorem dX9_countOn_41 : decode cX9_countOn 41 = .ok (.iconst (-1), 1) := oq_2 (bq_in kqX9_countOn_1 9 rfl)
theorem dX9_countOn_42 : decode cX9_countOn 42 = .ok (.ireturn, 1) := oq_172 (bq_in kqX9_countOn_1 10 rfl)
theorem dX9_countOn_43 : decode cX9_countOn 43 = .ok (.iconst 0, 1) := oq_3 (bq_in kqX9_countOn_1 11 rfl)
theorem dX9_countOn_44 : decode cX9_countOn 44 = .ok (.istore 4, 2) := oq_54 (bq_in kqX9_countOn_1 12 rfl) (bq_in kqX9_countOn_1 13 rfl)
theorem dX9_countOn_46 : decode cX9_countOn 46 = .ok (.iconst 0, 1) := oq_3 (bq_in kqX9_countOn_1 14 rfl)
theorem dX9_countOn_47 : decode cX9_countOn 47 = .ok (.istore 5, 2) := oq_54 (bq_in kqX9_countOn_1 15 rfl) (bq_in kqX9_countOn_1 16 rfl)
theorem dX9_countOn_49 : decode cX9_countOn 49 = .ok (.iload 5, 2) := oq_21 (bq_in kqX9_countOn_1 17 rfl) (bq_in kqX9_countOn_1 18 rfl)
theorem dX9_countOn_51 : decode cX9_countOn 51 = .ok (.aload_n 0, 1) := oq_42 (bq_in kqX9_countOn_1 19 rfl)
theorem dX9_countOn_52 : decode cX9_countOn 52 = .ok (.getfield 20, 3) := oq_180 (bq_in kqX9_countOn_1 20 rfl) (bq_in kqX9_countOn_1 21 rfl) (bq_in kqX9_countOn_1 22 rfl) rfl
theorem dX9_countOn_55 : decode cX9_countOn 55 = .ok (.getfield 166, 3) := oq_180 (bq_in kqX9_countOn_1 23 rfl) (bq_in kqX9_countOn_1 24 rfl) (bq_in kqX9_countOn_1 25 rfl) rfl
theorem dX9_countOn_58 : decode cX9_countOn 58 = .ok (.if_icmp .ge 55, 3) := oq_162 (bq_in kqX9_countOn_1 26 rfl) (bq_in kqX9_countOn_1 27 rfl) (bq_in kqX9_countOn_1 28 rfl) rfl
theorem dX9_countOn_61 : decode cX9_countOn 61 = .ok (.aload_n 0, 1) := oq_42 (bq_in kqX9_countOn_1 29 rfl)
theorem dX9_countOn_62 : decode cX9_countOn 62 = .ok (.getfield 20, 3) := oq_180 (bq_in kqX9_countOn_1 30 rfl) (bq_in kqX9_countOn_1 31 rfl) (bq_in kqX9_countOn_1 32 rfl) rfl
theorem kqX9_countOn_2 : ((cX9_countOn.data.toList.drop 64).take 34).map UInt8.toNat = [20, 21, 5, 27, 182, 0, 169, 153, 0, 36, 42, 180, 0, 20, 21, 5, 182, 0, 83, 58, 6, 21, 4, 25, 6, 28, 25, 6, 180, 0, 228, 100, 4, 96] := by decide +kernel
theorem dX9_countOn_65 : decode cX9_countOn 65 = .ok (.iload 5, 2) := oq_21 (bq_in kqX9_countOn_2 1 rfl) (bq_in kqX9_countOn_2 2 rfl)
theorem dX9_countOn_67 : decode cX9_countOn 67 = .ok (.iload_n 1, 1) := oq_27 (bq_in kqX9_countOn_2 3 rfl)
theorem dX9_countOn_68 : decode cX9_countOn 68 = .ok (.invokevirtual 169, 3) := oq_182 (bq_in kqX9_countOn_2 4 rfl) (bq_in kqX9_countOn_2 5 rfl) (bq_in kqX9_countOn_2 6 rfl) rfl
theorem dX9_countOn_71 : decode cX9_countOn 71 = .ok (.ifCond .eq 36, 3) := oq_153 (bq_in kqX9_countOn_2 7 rfl) (bq_in kqX9_countOn_2 8 rfl) (bq_in kqX9_countOn_2 9 rfl) rfl
theorem dX9_countOn_74 : decode cX9_countOn 74 = .ok (.aload_n 0, 1) := oq_42 (bq_in kqX9_countOn_2 10 rfl)
theorem dX9_countOn_75 : decode cX9_countOn 75 = .ok (.getfield 20, 3) := oq_180 (bq_in kqX9_countOn_2 11 rfl) (bq_in kqX9_countOn_2 12 rfl) (bq_in kqX9_countOn_2 13 rfl) rfl
theorem dX9_countOn_78 : decode cX9_countOn 78 = .ok (.iload 5, 2) := oq_21 (bq_in kqX9_countOn_2 14 rfl) (bq_in kqX9_countOn_2 15 rfl)
theorem dX9_countOn_80 : decode cX9_countOn 80 = .ok (.invokevirtual 83, 3) := oq_182 (bq_in kqX9_countOn_2 16 rfl) (bq_in kqX9_countOn_2 17 rfl) (bq_in kqX9_countOn_2 18 rfl) rfl
theorem dX9_countOn_83 : decode cX9_countOn 83 = .ok (.astore 6, 2) := oq_58 (bq_in kqX9_countOn_2 19 rfl) (bq_in kqX9_countOn_2 20 rfl)
theorem dX9_countOn_85 : decode cX9_countOn 85 = .ok (.iload 4, 2) := oq_21 (bq_in kqX9_countOn_2 21 rfl) (bq_in kqX9_countOn_2 22 rfl)
theorem dX9_countOn_87 : decode cX9_countOn 87 = .ok (.aload 6, 2) := oq_25 (bq_in kqX9_countOn_2 23 rfl) (bq_in kqX9_countOn_2 24 rfl)
theorem dX9_countOn_89 : decode cX9_countOn 89 = .ok (.iload_n 2, 1) := oq_28 (bq_in kqX9_countOn_2 25 rfl)
theorem dX9_countOn_90 : decode cX9_countOn 90 = .ok (.aload 6, 2) := oq_25 (bq_in kqX9_countOn_2 26 rfl) (bq_in kqX9_countOn_2 27 rfl)
theorem dX9_countOn_92 : decode cX9_countOn 92 = .ok (.getfield 228, 3) := oq_180 (bq_in kqX9_countOn_2 28 rfl) (bq_in kqX9_countOn_2 29 rfl) (bq_in kqX9_countOn_2 30 rfl) rfl
theorem dX9_countOn_95 : decode cX9_countOn 95 = .ok (.isub, 1) := oq_100 (bq_in kqX9_countOn_2 31 rfl)
theorem kqX9_countOn_3 : ((cX9_countOn.data.toList.drop 96).take 34).map UInt8.toNat = [4, 96, 29, 4, 100, 182, 0, 125, 96, 54, 4, 132, 5, 1, 167, 255, 195, 21, 4, 172] := by decide +kernel
theorem dX9_countOn_96 : decode cX9_countOn 96 = .ok (.iconst 1, 1) := oq_4 (bq_in kqX9_countOn_3 0 rfl)
theorem dX9_countOn_97 : decode cX9_countOn 97 = .ok (.iadd, 1) := oq_96 (bq_in kqX9_countOn_3 1 rfl)
theorem dX9_countOn_98 : decode cX9_countOn 98 = .ok (.iload_n 3, 1) := oq_29 (bq_in kqX9_countOn_3 2 rfl)
theorem dX9_countOn_99 : decode cX9_countOn 99 = .ok (.iconst 1, 1) := oq_4 (bq_in kqX9_countOn_3 3 rfl)
theorem dX9_countOn_100 : decode cX9_countOn 100 = .ok (.isub, 1) := oq_100 (bq_in kqX9_countOn_3 4 rfl)
theorem dX9_countOn_101 : decode cX9_countOn 101 = .ok (.invokevirtual 125, 3) := oq_182 (bq_in kqX9_countOn_3 5 rfl) (bq_in kqX9_countOn_3 6 rfl) (bq_in kqX9_countOn_3 7 rfl) rfl
theorem dX9_countOn_104 : decode cX9_countOn 104 = .ok (.iadd, 1) := oq_96 (bq_in kqX9_countOn_3 8 rfl)
theorem dX9_countOn_105 : decode cX9_countOn 105 = .ok (.istore 4, 2) := oq_54 (bq_in kqX9_countOn_3 9 rfl) (bq_in kqX9_countOn_3 10 rfl)
theorem dX9_countOn_107 : decode cX9_countOn 107 = .ok (.iinc 5 1, 3) := oq_132 (bq_in kqX9_countOn_3 11 rfl) (bq_in kqX9_countOn_3 12 rfl) (bq_in kqX9_countOn_3 13 rfl) rfl
theorem dX9_countOn_110 : decode cX9_countOn 110 = .ok (.goto (-61), 3) := oq_167 (bq_in kqX9_countOn_3 14 rfl) (bq_in kqX9_countOn_3 15 rfl) (bq_in kqX9_countOn_3 16 rfl) rfl
theorem dX9_countOn_113 : decode cX9_countOn 113 = .ok (.iload 4, 2) := oq_21 (bq_in kqX9_countOn_3 17 rfl) (bq_in kqX9_countOn_3 18 rfl)
theorem dX9_countOn_115 : decode cX9_countOn 115 = .ok (.ireturn, 1) := oq_172 (bq_in kqX9_countOn_3 19 rfl)
theorem kqX9_walkOn_0 : ((cX9_walkOn.data.toList.drop 0).take 34).map UInt8.toNat = [3, 54, 4, 21, 4, 42, 180, 0, 20, 180, 0, 166, 162, 0, 36, 42, 180, 0, 20, 21, 4, 182, 0, 83, 58, 5, 25, 5, 28, 25, 5, 180, 0, 228] := by decide +kernel
theorem dX9_walkOn_0 : decode cX9_walkOn 0 = .ok (.iconst 0, 1) := oq_3 (bq_in kqX9_walkOn_0 0 rfl)
theorem dX9_walkOn_1 : decode cX9_walkOn 1 = .ok (.istore 4, 2) := oq_54 (bq_in kqX9_walkOn_0 1 rfl) (bq_in kqX9_walkOn_0 2 rfl)
theorem dX9_walkOn_3 : decode cX9_walkOn 3 = .ok (.iload 4, 2) := oq_21 (bq_in kqX9_walkOn_0 3 rfl) (bq_in kqX9_walkOn_0 4 rfl)
theorem dX9_walkOn_5 : decode cX9_walkOn 5 = .ok (.aload_n 0, 1) := oq_42 (bq_in kqX9_walkOn_0 5 rfl)
theorem dX9_walkOn_6 : decode cX9_walkOn 6 = .ok (.getfield 20, 3) := oq_180 (bq_in kqX9_walkOn_0 6 rfl) (bq_in kqX9_walkOn_0 7 rfl) (bq_in kqX9_walkOn_0 8 rfl) rfl
theorem dX9_walkOn_9 : decode cX9_walkOn 9 = .ok (.getfield 166, 3) := oq_180 (bq_in kqX9_walkOn_0 9 rfl) (bq_in kqX9_walkOn_0 10 rfl) (bq_in kqX9_walkOn_0 11 rfl) rfl
theorem dX9_walkOn_12 : decode cX9_walkOn 12 = .ok (.if_icmp .ge 36, 3) := oq_162 (bq_in kqX9_walkOn_0 12 rfl) (bq_in kqX9_walkOn_0 13 rfl) (bq_in kqX9_walkOn_0 14 rfl) rfl
theorem dX9_walkOn_15 : decode cX9_walkOn 15 = .ok (.aload_n 0, 1) := oq_42 (bq_in kqX9_walkOn_0 15 rfl)
theorem dX9_walkOn_16 : decode cX9_walkOn 16 = .ok (.getfield 20, 3) := oq_180 (bq_in kqX9_walkOn_0 16 rfl) (bq_in kqX9_walkOn_0 17 rfl) (bq_in kqX9_walkOn_0 18 rfl) rfl
theorem dX9_walkOn_19 : decode cX9_walkOn 19 = .ok (.iload 4, 2) := oq_21 (bq_in kqX9_walkOn_0 19 rfl) (bq_in kqX9_walkOn_0 20 rfl)
theorem dX9_walkOn_21 : decode cX9_walkOn 21 = .ok (.invokevirtual 83, 3) := oq_182 (bq_in kqX9_walkOn_0 21 rfl) (bq_in kqX9_walkOn_0 22 rfl) (bq_in kqX9_walkOn_0 23 rfl) rfl
theorem dX9_walkOn_24 : decode cX9_walkOn 24 = .ok (.astore 5, 2) := oq_58 (bq_in kqX9_walkOn_0 24 rfl) (bq_in kqX9_walkOn_0 25 rfl)
theorem dX9_walkOn_26 : decode cX9_walkOn 26 = .ok (.aload 5, 2) := oq_25 (bq_in kqX9_walkOn_0 26 rfl) (bq_in kqX9_walkOn_0 27 rfl)
theorem dX9_walkOn_28 : decode cX9_walkOn 28 = .ok (.iload_n 2, 1) := oq_28 (bq_in kqX9_walkOn_0 28 rfl)
theorem dX9_walkOn_29 : decode cX9_walkOn 29 = .ok (.aload 5, 2) := oq_25 (bq_in kqX9_walkOn_0 29 rfl) (bq_in kqX9_walkOn_0 30 rfl)
theorem dX9_walkOn_31 : decode cX9_walkOn 31 = .ok (.getfield 228, 3) := oq_180 (bq_in kqX9_walkOn_0 31 rfl) (bq_in kqX9_walkOn_0 32 rfl) (bq_in kqX9_walkOn_0 33 rfl) rfl
theorem kqX9_walkOn_1 : ((cX9_walkOn.data.toList.drop 32).take 34).map UInt8.toNat = [0, 228, 100, 4, 96, 3, 182, 0, 116, 87, 132, 4, 1, 167, 255, 214, 42, 27, 182, 0, 231, 54, 4, 3, 54, 5, 21, 5, 29, 162, 0, 57, 42, 180] := by decide +kernel
theorem dX9_walkOn_34 : decode cX9_walkOn 34 = .ok (.isub, 1) := oq_100 (bq_in kqX9_walkOn_1 2 rfl)
theorem dX9_walkOn_35 : decode cX9_walkOn 35 = .ok (.iconst 1, 1) := oq_4 (bq_in kqX9_walkOn_1 3 rfl)
theorem dX9_walkOn_36 : decode cX9_walkOn 36 = .ok (.iadd, 1) := oq_96 (bq_in kqX9_walkOn_1 4 rfl)
theorem dX9_walkOn_37 : decode cX9_walkOn 37 = .ok (.iconst 0, 1) := oq_3 (bq_in kqX9_walkOn_1 5 rfl)
theorem dX9_walkOn_38 : decode cX9_walkOn 38 = .ok (.invokevirtual 116, 3) := oq_182 (bq_in kqX9_walkOn_1 6 rfl) (bq_in kqX9_walkOn_1 7 rfl) (bq_in kqX9_walkOn_1 8 rfl) rfl
theorem dX9_walkOn_41 : decode cX9_walkOn 41 = .ok (.pop, 1) := oq_87 (bq_in kqX9_walkOn_1 9 rfl)
theorem dX9_walkOn_42 : decode cX9_walkOn 42 = .ok (.iinc 4 1, 3) := oq_132 (bq_in kqX9_walkOn_1 10 rfl) (bq_in kqX9_walkOn_1 11 rfl) (bq_in kqX9_walkOn_1 12 rfl) rfl
theorem dX9_walkOn_45 : decode cX9_walkOn 45 = .ok (.goto (-42), 3) := oq_167 (bq_in kqX9_walkOn_1 13 rfl) (bq_in kqX9_walkOn_1 14 rfl) (bq_in kqX9_walkOn_1 15 rfl) rfl
theorem dX9_walkOn_48 : decode cX9_walkOn 48 = .ok (.aload_n 0, 1) := oq_42 (bq_in kqX9_walkOn_1 16 rfl)
theorem dX9_walkOn_49 : decode cX9_walkOn 49 = .ok (.iload_n 1, 1) := oq_27 (bq_in kqX9_walkOn_1 17 rfl)
theorem dX9_walkOn_50 : decode cX9_walkOn 50 = .ok (.invokevirtual 231, 3) := oq_182 (bq_in kqX9_walkOn_1 18 rfl) (bq_in kqX9_walkOn_1 19 rfl) (bq_in kqX9_walkOn_1 20 rfl) rfl
theorem dX9_walkOn_53 : decode cX9_walkOn 53 = .ok (.istore 4, 2) := oq_54 (bq_in kqX9_walkOn_1 21 rfl) (bq_in kqX9_walkOn_1 22 rfl)
theorem dX9_walkOn_55 : decode cX9_walkOn 55 = .ok (.iconst 0, 1) := oq_3 (bq_in kqX9_walkOn_1 23 rfl)
theorem dX9_walkOn_56 : decode cX9_walkOn 56 = .ok (.istore 5, 2) := oq_54 (bq_in kqX9_walkOn_1 24 rfl) (bq_in kqX9_walkOn_1 25 rfl)
theorem dX9_walkOn_58 : decode cX9_walkOn 58 = .ok (.iload 5, 2) := oq_21 (bq_in kqX9_walkOn_1 26 rfl) (bq_in kqX9_walkOn_1 27 rfl)
theorem dX9_walkOn_60 : decode cX9_walkOn 60 = .ok (.iload_n 3, 1) := oq_29 (bq_in kqX9_walkOn_1 28 rfl)
theorem dX9_walkOn_61 : decode cX9_walkOn 61 = .ok (.if_icmp .ge 57, 3) := oq_162 (bq_in kqX9_walkOn_1 29 rfl) (bq_in kqX9_walkOn_1 30 rfl) (bq_in kqX9_walkOn_1 31 rfl) rfl
theorem kqX9_walkOn_2 : ((cX9_walkOn.data.toList.drop 64).take 34).map UInt8.toNat = [42, 180, 0, 20, 21, 4, 182, 0, 53, 153, 0, 45, 42, 180, 0, 20, 21, 4, 182, 0, 83, 58, 6, 25, 6, 25, 6, 180, 0, 145, 25, 6, 180, 0] := by decide +kernel
theorem dX9_walkOn_64 : decode cX9_walkOn 64 = .ok (.aload_n 0, 1) := oq_42 (bq_in kqX9_walkOn_2 0 rfl)
theorem dX9_walkOn_65 : decode cX9_walkOn 65 = .ok (.getfield 20, 3) := oq_180 (bq_in kqX9_walkOn_2 1 rfl) (bq_in kqX9_walkOn_2 2 rfl) (bq_in kqX9_walkOn_2 3 rfl) rfl
theorem dX9_walkOn_68 : decode cX9_walkOn 68 = .ok (.iload 4, 2) := oq_21 (bq_in kqX9_walkOn_2 4 rfl) (bq_in kqX9_walkOn_2 5 rfl)
theorem dX9_walkOn_70 : decode cX9_walkOn 70 = .ok (.invokevirtual 53, 3) := oq_182 (bq_in kqX9_walkOn_2 6 rfl) (bq_in kqX9_walkOn_2 7 rfl) (bq_in kqX9_walkOn_2 8 rfl) rfl
theorem dX9_walkOn_73 : decode cX9_walkOn 73 = .ok (.ifCond .eq 45, 3) := oq_153 (bq_in kqX9_walkOn_2 9 rfl) (bq_in kqX9_walkOn_2 10 rfl) (bq_in kqX9_walkOn_2 11 rfl) rfl
theorem dX9_walkOn_76 : decode cX9_walkOn 76 = .ok (.aload_n 0, 1) := oq_42 (bq_in kqX9_walkOn_2 12 rfl)
theorem dX9_walkOn_77 : decode cX9_walkOn 77 = .ok (.getfield 20, 3) := oq_180 (bq_in kqX9_walkOn_2 13 rfl) (bq_in kqX9_walkOn_2 14 rfl) (bq_in kqX9_walkOn_2 15 rfl) rfl
theorem dX9_walkOn_80 : decode cX9_walkOn 80 = .ok (.iload 4, 2) := oq_21 (bq_in kqX9_walkOn_2 16 rfl) (bq_in kqX9_walkOn_2 17 rfl)
theorem dX9_walkOn_82 : decode cX9_walkOn 82 = .ok (.invokevirtual 83, 3) := oq_182 (bq_in kqX9_walkOn_2 18 rfl) (bq_in kqX9_walkOn_2 19 rfl) (bq_in kqX9_walkOn_2 20 rfl) rfl
theorem dX9_walkOn_85 : decode cX9_walkOn 85 = .ok (.astore 6, 2) := oq_58 (bq_in kqX9_walkOn_2 21 rfl) (bq_in kqX9_walkOn_2 22 rfl)
theorem dX9_walkOn_87 : decode cX9_walkOn 87 = .ok (.aload 6, 2) := oq_25 (bq_in kqX9_walkOn_2 23 rfl) (bq_in kqX9_walkOn_2 24 rfl)
theorem dX9_walkOn_89 : decode cX9_walkOn 89 = .ok (.aload 6, 2) := oq_25 (bq_in kqX9_walkOn_2 25 rfl) (bq_in kqX9_walkOn_2 26 rfl)
theorem dX9_walkOn_91 : decode cX9_walkOn 91 = .ok (.getfield 145, 3) := oq_180 (bq_in kqX9_walkOn_2 27 rfl) (bq_in kqX9_walkOn_2 28 rfl) (bq_in kqX9_walkOn_2 29 rfl) rfl
theorem dX9_walkOn_94 : decode cX9_walkOn 94 = .ok (.aload 6, 2) := oq_25 (bq_in kqX9_walkOn_2 30 rfl) (bq_in kqX9_walkOn_2 31 rfl)
theorem kqX9_walkOn_3 : ((cX9_walkOn.data.toList.drop 96).take 34).map UInt8.toNat = [180, 0, 142, 4, 96, 182, 0, 116, 87, 42, 27, 182, 0, 231, 54, 4, 132, 5, 1, 167, 255, 199, 21, 4, 172] := by decide +kernel
theorem dX9_walkOn_96 : decode cX9_walkOn 96 = .ok (.getfield 142, 3) := oq_180 (bq_in kqX9_walkOn_3 0 rfl) (bq_in kqX9_walkOn_3 1 rfl) (bq_in kqX9_walkOn_3 2 rfl) rfl
theorem dX9_walkOn_99 : decode cX9_walkOn 99 = .ok (.iconst 1, 1) := oq_4 (bq_in kqX9_walkOn_3 3 rfl)
theorem dX9_walkOn_100 : decode cX9_walkOn 100 = .ok (.iadd, 1) := oq_96 (bq_in kqX9_walkOn_3 4 rfl)
theorem dX9_walkOn_101 : decode cX9_walkOn 101 = .ok (.invokevirtual 116, 3) := oq_182 (bq_in kqX9_walkOn_3 5 rfl) (bq_in kqX9_walkOn_3 6 rfl) (bq_in kqX9_walkOn_3 7 rfl) rfl
theorem dX9_walkOn_104 : decode cX9_walkOn 104 = .ok (.pop, 1) := oq_87 (bq_in kqX9_walkOn_3 8 rfl)
theorem dX9_walkOn_105 : decode cX9_walkOn 105 = .ok (.aload_n 0, 1) := oq_42 (bq_in kqX9_walkOn_3 9 rfl)
theorem dX9_walkOn_106 : decode cX9_walkOn 106 = .ok (.iload_n 1, 1) := oq_27 (bq_in kqX9_walkOn_3 10 rfl)
theorem dX9_walkOn_107 : decode cX9_walkOn 107 = .ok (.invokevirtual 231, 3) := oq_182 (bq_in kqX9_walkOn_3 11 rfl) (bq_in kqX9_walkOn_3 12 rfl) (bq_in kqX9_walkOn_3 13 rfl) rfl
theorem dX9_walkOn_110 : decode cX9_walkOn 110 = .ok (.istore 4, 2) := oq_54 (bq_in kqX9_walkOn_3 14 rfl) (bq_in kqX9_walkOn_3 15 rfl)
theorem dX9_walkOn_112 : decode cX9_walkOn 112 = .ok (.iinc 5 1, 3) := oq_132 (bq_in kqX9_walkOn_3 16 rfl) (bq_in kqX9_walkOn_3 17 rfl) (bq_in kqX9_walkOn_3 18 rfl) rfl
theorem dX9_walkOn_115 : decode cX9_walkOn 115 = .ok (.goto (-57), 3) := oq_167 (bq_in kqX9_walkOn_3 19 rfl) (bq_in kqX9_walkOn_3 20 rfl) (bq_in kqX9_walkOn_3 21 rfl) rfl
theorem dX9_walkOn_118 : decode cX9_walkOn 118 = .ok (.iload 4, 2) := oq_21 (bq_in kqX9_walkOn_3 22 rfl) (bq_in kqX9_walkOn_3 23 rfl)
theorem dX9_walkOn_120 : decode cX9_walkOn 120 = .ok (.ireturn, 1) := oq_172 (bq_in kqX9_walkOn_3 24 rfl)
theorem kqX9_firstFound_0 : ((cX9_firstFound.data.toList.drop 0).take 34).map UInt8.toNat = [2, 61, 18, 151, 62, 3, 54, 4, 21, 4, 42, 180, 0, 20, 180, 0, 166, 162, 0, 60, 42, 180, 0, 20, 21, 4, 182, 0, 83, 58, 5, 42, 180, 0] := by decide +kernel
theorem dX9_firstFound_0 : decode cX9_firstFound 0 = .ok (.iconst (-1), 1) := oq_2 (bq_in kqX9_firstFound_0 0 rfl)
theorem dX9_firstFound_1 : decode cX9_firstFound 1 = .ok (.istore_n 2, 1) := oq_61 (bq_in kqX9_firstFound_0 1 rfl)
theorem dX9_firstFound_2 : decode cX9_firstFound 2 = .ok (.ldc 151, 2) := oq_18 (bq_in kqX9_firstFound_0 2 rfl) (bq_in kqX9_firstFound_0 3 rfl)
theorem dX9_firstFound_4 : decode cX9_firstFound 4 = .ok (.istore_n 3, 1) := oq_62 (bq_in kqX9_firstFound_0 4 rfl)
theorem dX9_firstFound_5 : decode cX9_firstFound 5 = .ok (.iconst 0, 1) := oq_3 (bq_in kqX9_firstFound_0 5 rfl)
theorem dX9_firstFound_6 : decode cX9_firstFound 6 = .ok (.istore 4, 2) := oq_54 (bq_in kqX9_firstFound_0 6 rfl) (bq_in kqX9_firstFound_0 7 rfl)
theorem dX9_firstFound_8 : decode cX9_firstFound 8 = .ok (.iload 4, 2) := oq_21 (bq_in kqX9_firstFound_0 8 rfl) (bq_in kqX9_firstFound_0 9 rfl)
theorem dX9_firstFound_10 : decode cX9_firstFound 10 = .ok (.aload_n 0, 1) := oq_42 (bq_in kqX9_firstFound_0 10 rfl)
theorem dX9_firstFound_11 : decode cX9_firstFound 11 = .ok (.getfield 20, 3) := oq_180 (bq_in kqX9_firstFound_0 11 rfl) (bq_in kqX9_firstFound_0 12 rfl) (bq_in kqX9_firstFound_0 13 rfl) rfl
theorem dX9_firstFound_14 : decode cX9_firstFound 14 = .ok (.getfield 166, 3) := oq_180 (bq_in kqX9_firstFound_0 14 rfl) (bq_in kqX9_firstFound_0 15 rfl) (bq_in kqX9_firstFound_0 16 rfl) rfl
theorem dX9_firstFound_17 : decode cX9_firstFound 17 = .ok (.if_icmp .ge 60, 3) := oq_162 (bq_in kqX9_firstFound_0 17 rfl) (bq_in kqX9_firstFound_0 18 rfl) (bq_in kqX9_firstFound_0 19 rfl) rfl
theorem dX9_firstFound_20 : decode cX9_firstFound 20 = .ok (.aload_n 0, 1) := oq_42 (bq_in kqX9_firstFound_0 20 rfl)
theorem dX9_firstFound_21 : decode cX9_firstFound 21 = .ok (.getfield 20, 3) := oq_180 (bq_in kqX9_firstFound_0 21 rfl) (bq_in kqX9_firstFound_0 22 rfl) (bq_in kqX9_firstFound_0 23 rfl) rfl
theorem dX9_firstFound_24 : decode cX9_firstFound 24 = .ok (.iload 4, 2) := oq_21 (bq_in kqX9_firstFound_0 24 rfl) (bq_in kqX9_firstFound_0 25 rfl)
theorem dX9_firstFound_26 : decode cX9_firstFound 26 = .ok (.invokevirtual 83, 3) := oq_182 (bq_in kqX9_firstFound_0 26 rfl) (bq_in kqX9_firstFound_0 27 rfl) (bq_in kqX9_firstFound_0 28 rfl) rfl
theorem dX9_firstFound_29 : decode cX9_firstFound 29 = .ok (.astore 5, 2) := oq_58 (bq_in kqX9_firstFound_0 29 rfl) (bq_in kqX9_firstFound_0 30 rfl)
theorem dX9_firstFound_31 : decode cX9_firstFound 31 = .ok (.aload_n 0, 1) := oq_42 (bq_in kqX9_firstFound_0 31 rfl)
theorem kqX9_firstFound_1 : ((cX9_firstFound.data.toList.drop 32).take 34).map UInt8.toNat = [180, 0, 20, 21, 4, 27, 182, 0, 169, 153, 0, 30, 25, 5, 180, 0, 142, 2, 159, 0, 21, 25, 5, 180, 0, 145, 29, 162, 0, 12, 25, 5, 180, 0] := by decide +kernel
theorem dX9_firstFound_32 : decode cX9_firstFound 32 = .ok (.getfield 20, 3) := oq_180 (bq_in kqX9_firstFound_1 0 rfl) (bq_in kqX9_firstFound_1 1 rfl) (bq_in kqX9_firstFound_1 2 rfl) rfl
theorem dX9_firstFound_35 : decode cX9_firstFound 35 = .ok (.iload 4, 2) := oq_21 (bq_in kqX9_firstFound_1 3 rfl) (bq_in kqX9_firstFound_1 4 rfl)
theorem dX9_firstFound_37 : decode cX9_firstFound 37 = .ok (.iload_n 1, 1) := oq_27 (bq_in kqX9_firstFound_1 5 rfl)
theorem dX9_firstFound_38 : decode cX9_firstFound 38 = .ok (.invokevirtual 169, 3) := oq_182 (bq_in kqX9_firstFound_1 6 rfl) (bq_in kqX9_firstFound_1 7 rfl) (bq_in kqX9_firstFound_1 8 rfl) rfl
theorem dX9_firstFound_41 : decode cX9_firstFound 41 = .ok (.ifCond .eq 30, 3) := oq_153 (bq_in kqX9_firstFound_1 9 rfl) (bq_in kqX9_firstFound_1 10 rfl) (bq_in kqX9_firstFound_1 11 rfl) rfl
theorem dX9_firstFound_44 : decode cX9_firstFound 44 = .ok (.aload 5, 2) := oq_25 (bq_in kqX9_firstFound_1 12 rfl) (bq_in kqX9_firstFound_1 13 rfl)
theorem dX9_firstFound_46 : decode cX9_firstFound 46 = .ok (.getfield 142, 3) := oq_180 (bq_in kqX9_firstFound_1 14 rfl) (bq_in kqX9_firstFound_1 15 rfl) (bq_in kqX9_firstFound_1 16 rfl) rfl
theorem dX9_firstFound_49 : decode cX9_firstFound 49 = .ok (.iconst (-1), 1) := oq_2 (bq_in kqX9_firstFound_1 17 rfl)
theorem dX9_firstFound_50 : decode cX9_firstFound 50 = .ok (.if_icmp .eq 21, 3) := oq_159 (bq_in kqX9_firstFound_1 18 rfl) (bq_in kqX9_firstFound_1 19 rfl) (bq_in kqX9_firstFound_1 20 rfl) rfl
theorem dX9_firstFound_53 : decode cX9_firstFound 53 = .ok (.aload 5, 2) := oq_25 (bq_in kqX9_firstFound_1 21 rfl) (bq_in kqX9_firstFound_1 22 rfl)
theorem dX9_firstFound_55 : decode cX9_firstFound 55 = .ok (.getfield 145, 3) := oq_180 (bq_in kqX9_firstFound_1 23 rfl) (bq_in kqX9_firstFound_1 24 rfl) (bq_in kqX9_firstFound_1 25 rfl) rfl
theorem dX9_firstFound_58 : decode cX9_firstFound 58 = .ok (.iload_n 3, 1) := oq_29 (bq_in kqX9_firstFound_1 26 rfl)
theorem dX9_firstFound_59 : decode cX9_firstFound 59 = .ok (.if_icmp .ge 12, 3) := oq_162 (bq_in kqX9_firstFound_1 27 rfl) (bq_in kqX9_firstFound_1 28 rfl) (bq_in kqX9_firstFound_1 29 rfl) rfl
theorem dX9_firstFound_62 : decode cX9_firstFound 62 = .ok (.aload 5, 2) := oq_25 (bq_in kqX9_firstFound_1 30 rfl) (bq_in kqX9_firstFound_1 31 rfl)
theorem kqX9_firstFound_2 : ((cX9_firstFound.data.toList.drop 64).take 34).map UInt8.toNat = [180, 0, 145, 62, 21, 4, 61, 132, 4, 1, 167, 255, 190, 28, 172] := by decide +kernel
theorem dX9_firstFound_64 : decode cX9_firstFound 64 = .ok (.getfield 145, 3) := oq_180 (bq_in kqX9_firstFound_2 0 rfl) (bq_in kqX9_firstFound_2 1 rfl) (bq_in kqX9_firstFound_2 2 rfl) rfl
theorem dX9_firstFound_67 : decode cX9_firstFound 67 = .ok (.istore_n 3, 1) := oq_62 (bq_in kqX9_firstFound_2 3 rfl)
theorem dX9_firstFound_68 : decode cX9_firstFound 68 = .ok (.iload 4, 2) := oq_21 (bq_in kqX9_firstFound_2 4 rfl) (bq_in kqX9_firstFound_2 5 rfl)
theorem dX9_firstFound_70 : decode cX9_firstFound 70 = .ok (.istore_n 2, 1) := oq_61 (bq_in kqX9_firstFound_2 6 rfl)
theorem dX9_firstFound_71 : decode cX9_firstFound 71 = .ok (.iinc 4 1, 3) := oq_132 (bq_in kqX9_firstFound_2 7 rfl) (bq_in kqX9_firstFound_2 8 rfl) (bq_in kqX9_firstFound_2 9 rfl) rfl
theorem dX9_firstFound_74 : decode cX9_firstFound 74 = .ok (.goto (-66), 3) := oq_167 (bq_in kqX9_firstFound_2 10 rfl) (bq_in kqX9_firstFound_2 11 rfl) (bq_in kqX9_firstFound_2 12 rfl) rfl
theorem dX9_firstFound_77 : decode cX9_firstFound 77 = .ok (.iload_n 2, 1) := oq_28 (bq_in kqX9_firstFound_2 13 rfl)
theorem dX9_firstFound_78 : decode cX9_firstFound 78 = .ok (.ireturn, 1) := oq_172 (bq_in kqX9_firstFound_2 14 rfl)
theorem kqX9_movedClash_0 : ((cX9_movedClash.data.toList.drop 0).take 34).map UInt8.toNat = [29, 54, 4, 3, 54, 5, 21, 5, 42, 180, 0, 234, 162, 0, 43, 42, 180, 0, 237, 21, 5, 46, 2, 159, 0, 26, 21, 4, 43, 42, 180, 0, 237, 21] := by decide +kernel
theorem dX9_movedClash_0 : decode cX9_movedClash 0 = .ok (.iload_n 3, 1) := oq_29 (bq_in kqX9_movedClash_0 0 rfl)
theorem dX9_movedClash_1 : decode cX9_movedClash 1 = .ok (.istore 4, 2) := oq_54 (bq_in kqX9_movedClash_0 1 rfl) (bq_in kqX9_movedClash_0 2 rfl)
theorem dX9_movedClash_3 : decode cX9_movedClash 3 = .ok (.iconst 0, 1) := oq_3 (bq_in kqX9_movedClash_0 3 rfl)
theorem dX9_movedClash_4 : decode cX9_movedClash 4 = .ok (.istore 5, 2) := oq_54 (bq_in kqX9_movedClash_0 4 rfl) (bq_in kqX9_movedClash_0 5 rfl)
theorem dX9_movedClash_6 : decode cX9_movedClash 6 = .ok (.iload 5, 2) := oq_21 (bq_in kqX9_movedClash_0 6 rfl) (bq_in kqX9_movedClash_0 7 rfl)
theorem dX9_movedClash_8 : decode cX9_movedClash 8 = .ok (.aload_n 0, 1) := oq_42 (bq_in kqX9_movedClash_0 8 rfl)
theorem dX9_movedClash_9 : decode cX9_movedClash 9 = .ok (.getfield 234, 3) := oq_180 (bq_in kqX9_movedClash_0 9 rfl) (bq_in kqX9_movedClash_0 10 rfl) (bq_in kqX9_movedClash_0 11 rfl) rfl
theorem dX9_movedClash_12 : decode cX9_movedClash 12 = .ok (.if_icmp .ge 43, 3) := oq_162 (bq_in kqX9_movedClash_0 12 rfl) (bq_in kqX9_movedClash_0 13 rfl) (bq_in kqX9_movedClash_0 14 rfl) rfl
theorem dX9_movedClash_15 : decode cX9_movedClash 15 = .ok (.aload_n 0, 1) := oq_42 (bq_in kqX9_movedClash_0 15 rfl)
theorem dX9_movedClash_16 : decode cX9_movedClash 16 = .ok (.getfield 237, 3) := oq_180 (bq_in kqX9_movedClash_0 16 rfl) (bq_in kqX9_movedClash_0 17 rfl) (bq_in kqX9_movedClash_0 18 rfl) rfl
theorem dX9_movedClash_19 : decode cX9_movedClash 19 = .ok (.iload 5, 2) := oq_21 (bq_in kqX9_movedClash_0 19 rfl) (bq_in kqX9_movedClash_0 20 rfl)
theorem dX9_movedClash_21 : decode cX9_movedClash 21 = .ok (.iaload, 1) := oq_46 (bq_in kqX9_movedClash_0 21 rfl)
theorem dX9_movedClash_22 : decode cX9_movedClash 22 = .ok (.iconst (-1), 1) := oq_2 (bq_in kqX9_movedClash_0 22 rfl)
theorem dX9_movedClash_23 : decode cX9_movedClash 23 = .ok (.if_icmp .eq 26, 3) := oq_159 (bq_in kqX9_movedClash_0 23 rfl) (bq_in kqX9_movedClash_0 24 rfl) (bq_in kqX9_movedClash_0 25 rfl) rfl
theorem dX9_movedClash_26 : decode cX9_movedClash 26 = .ok (.iload 4, 2) := oq_21 (bq_in kqX9_movedClash_0 26 rfl) (bq_in kqX9_movedClash_0 27 rfl)
theorem dX9_movedClash_28 : decode cX9_movedClash 28 = .ok (.aload_n 1, 1) := oq_43 (bq_in kqX9_movedClash_0 28 rfl)
theorem dX9_movedClash_29 : decode cX9_movedClash 29 = .ok (.aload_n 0, 1) := oq_42 (bq_in kqX9_movedClash_0 29 rfl)
theorem dX9_movedClash_30 : decode cX9_movedClash 30 = .ok (.getfield 237, 3) := oq_180 (bq_in kqX9_movedClash_0 30 rfl) (bq_in kqX9_movedClash_0 31 rfl) (bq_in kqX9_movedClash_0 32 rfl) rfl
theorem kqX9_movedClash_1 : ((cX9_movedClash.data.toList.drop 32).take 34).map UInt8.toNat = [237, 21, 5, 46, 42, 180, 0, 228, 28, 182, 0, 241, 184, 0, 174, 54, 4, 132, 5, 1, 167, 255, 210, 3, 54, 5, 21, 5, 43, 180, 0, 234, 162, 0] := by decide +kernel
theorem dX9_movedClash_33 : decode cX9_movedClash 33 = .ok (.iload 5, 2) := oq_21 (bq_in kqX9_movedClash_1 1 rfl) (bq_in kqX9_movedClash_1 2 rfl)
theorem dX9_movedClash_35 : decode cX9_movedClash 35 = .ok (.iaload, 1) := oq_46 (bq_in kqX9_movedClash_1 3 rfl)
theorem dX9_movedClash_36 : decode cX9_movedClash 36 = .ok (.aload_n 0, 1) := oq_42 (bq_in kqX9_movedClash_1 4 rfl)
theorem dX9_movedClash_37 : decode cX9_movedClash 37 = .ok (.getfield 228, 3) := oq_180 (bq_in kqX9_movedClash_1 5 rfl) (bq_in kqX9_movedClash_1 6 rfl) (bq_in kqX9_movedClash_1 7 rfl) rfl
theorem dX9_movedClash_40 : decode cX9_movedClash 40 = .ok (.iload_n 2, 1) := oq_28 (bq_in kqX9_movedClash_1 8 rfl)
theorem dX9_movedClash_41 : decode cX9_movedClash 41 = .ok (.invokevirtual 241, 3) := oq_182 (bq_in kqX9_movedClash_1 9 rfl) (bq_in kqX9_movedClash_1 10 rfl) (bq_in kqX9_movedClash_1 11 rfl) rfl
theorem dX9_movedClash_44 : decode cX9_movedClash 44 = .ok (.invokestatic 174, 3) := oq_184 (bq_in kqX9_movedClash_1 12 rfl) (bq_in kqX9_movedClash_1 13 rfl) (bq_in kqX9_movedClash_1 14 rfl) rfl
theorem dX9_movedClash_47 : decode cX9_movedClash 47 = .ok (.istore 4, 2) := oq_54 (bq_in kqX9_movedClash_1 15 rfl) (bq_in kqX9_movedClash_1 16 rfl)
theorem dX9_movedClash_49 : decode cX9_movedClash 49 = .ok (.iinc 5 1, 3) := oq_132 (bq_in kqX9_movedClash_1 17 rfl) (bq_in kqX9_movedClash_1 18 rfl) (bq_in kqX9_movedClash_1 19 rfl) rfl
theorem dX9_movedClash_52 : decode cX9_movedClash 52 = .ok (.goto (-46), 3) := oq_167 (bq_in kqX9_movedClash_1 20 rfl) (bq_in kqX9_movedClash_1 21 rfl) (bq_in kqX9_movedClash_1 22 rfl) rfl
theorem dX9_movedClash_55 : decode cX9_movedClash 55 = .ok (.iconst 0, 1) := oq_3 (bq_in kqX9_movedClash_1 23 rfl)
theorem dX9_movedClash_56 : decode cX9_movedClash 56 = .ok (.istore 5, 2) := oq_54 (bq_in kqX9_movedClash_1 24 rfl) (bq_in kqX9_movedClash_1 25 rfl)
theorem dX9_movedClash_58 : decode cX9_movedClash 58 = .ok (.iload 5, 2) := oq_21 (bq_in kqX9_movedClash_1 26 rfl) (bq_in kqX9_movedClash_1 27 rfl)
theorem dX9_movedClash_60 : decode cX9_movedClash 60 = .ok (.aload_n 1, 1) := oq_43 (bq_in kqX9_movedClash_1 28 rfl)
theorem dX9_movedClash_61 : decode cX9_movedClash 61 = .ok (.getfield 234, 3) := oq_180 (bq_in kqX9_movedClash_1 29 rfl) (bq_in kqX9_movedClash_1 30 rfl) (bq_in kqX9_movedClash_1 31 rfl) rfl
theorem kqX9_movedClash_2 : ((cX9_movedClash.data.toList.drop 64).take 34).map UInt8.toNat = [162, 0, 43, 43, 180, 0, 237, 21, 5, 46, 2, 159, 0, 26, 21, 4, 42, 43, 180, 0, 237, 21, 5, 46, 43, 180, 0, 228, 28, 182, 0, 241, 184, 0] := by decide +kernel
theorem dX9_movedClash_64 : decode cX9_movedClash 64 = .ok (.if_icmp .ge 43, 3) := oq_162 (bq_in kqX9_movedClash_2 0 rfl) (bq_in kqX9_movedClash_2 1 rfl) (bq_in kqX9_movedClash_2 2 rfl) rfl
theorem dX9_movedClash_67 : decode cX9_movedClash 67 = .ok (.aload_n 1, 1) := oq_43 (bq_in kqX9_movedClash_2 3 rfl)
theorem dX9_movedClash_68 : decode cX9_movedClash 68 = .ok (.getfield 237, 3) := oq_180 (bq_in kqX9_movedClash_2 4 rfl) (bq_in kqX9_movedClash_2 5 rfl) (bq_in kqX9_movedClash_2 6 rfl) rfl
theorem dX9_movedClash_71 : decode cX9_movedClash 71 = .ok (.iload 5, 2) := oq_21 (bq_in kqX9_movedClash_2 7 rfl) (bq_in kqX9_movedClash_2 8 rfl)
theorem dX9_movedClash_73 : decode cX9_movedClash 73 = .ok (.iaload, 1) := oq_46 (bq_in kqX9_movedClash_2 9 rfl)
theorem dX9_movedClash_74 : decode cX9_movedClash 74 = .ok (.iconst (-1), 1) := oq_2 (bq_in kqX9_movedClash_2 10 rfl)
theorem dX9_movedClash_75 : decode cX9_movedClash 75 = .ok (.if_icmp .eq 26, 3) := oq_159 (bq_in kqX9_movedClash_2 11 rfl) (bq_in kqX9_movedClash_2 12 rfl) (bq_in kqX9_movedClash_2 13 rfl) rfl
theorem dX9_movedClash_78 : decode cX9_movedClash 78 = .ok (.iload 4, 2) := oq_21 (bq_in kqX9_movedClash_2 14 rfl) (bq_in kqX9_movedClash_2 15 rfl)
theorem dX9_movedClash_80 : decode cX9_movedClash 80 = .ok (.aload_n 0, 1) := oq_42 (bq_in kqX9_movedClash_2 16 rfl)
theorem dX9_movedClash_81 : decode cX9_movedClash 81 = .ok (.aload_n 1, 1) := oq_43 (bq_in kqX9_movedClash_2 17 rfl)
theorem dX9_movedClash_82 : decode cX9_movedClash 82 = .ok (.getfield 237, 3) := oq_180 (bq_in kqX9_movedClash_2 18 rfl) (bq_in kqX9_movedClash_2 19 rfl) (bq_in kqX9_movedClash_2 20 rfl) rfl
theorem dX9_movedClash_85 : decode cX9_movedClash 85 = .ok (.iload 5, 2) := oq_21 (bq_in kqX9_movedClash_2 21 rfl) (bq_in kqX9_movedClash_2 22 rfl)
theorem dX9_movedClash_87 : decode cX9_movedClash 87 = .ok (.iaload, 1) := oq_46 (bq_in kqX9_movedClash_2 23 rfl)
theorem dX9_movedClash_88 : decode cX9_movedClash 88 = .ok (.aload_n 1, 1) := oq_43 (bq_in kqX9_movedClash_2 24 rfl)
theorem dX9_movedClash_89 : decode cX9_movedClash 89 = .ok (.getfield 228, 3) := oq_180 (bq_in kqX9_movedClash_2 25 rfl) (bq_in kqX9_movedClash_2 26 rfl) (bq_in kqX9_movedClash_2 27 rfl) rfl
theorem dX9_movedClash_92 : decode cX9_movedClash 92 = .ok (.iload_n 2, 1) := oq_28 (bq_in kqX9_movedClash_2 28 rfl)
theorem dX9_movedClash_93 : decode cX9_movedClash 93 = .ok (.invokevirtual 241, 3) := oq_182 (bq_in kqX9_movedClash_2 29 rfl) (bq_in kqX9_movedClash_2 30 rfl) (bq_in kqX9_movedClash_2 31 rfl) rfl
theorem kqX9_movedClash_3 : ((cX9_movedClash.data.toList.drop 96).take 34).map UInt8.toNat = [184, 0, 174, 54, 4, 132, 5, 1, 167, 255, 210, 21, 4, 172] := by decide +kernel
theorem dX9_movedClash_96 : decode cX9_movedClash 96 = .ok (.invokestatic 174, 3) := oq_184 (bq_in kqX9_movedClash_3 0 rfl) (bq_in kqX9_movedClash_3 1 rfl) (bq_in kqX9_movedClash_3 2 rfl) rfl
theorem dX9_movedClash_99 : decode cX9_movedClash 99 = .ok (.istore 4, 2) := oq_54 (bq_in kqX9_movedClash_3 3 rfl) (bq_in kqX9_movedClash_3 4 rfl)
theorem dX9_movedClash_101 : decode cX9_movedClash 101 = .ok (.iinc 5 1, 3) := oq_132 (bq_in kqX9_movedClash_3 5 rfl) (bq_in kqX9_movedClash_3 6 rfl) (bq_in kqX9_movedClash_3 7 rfl) rfl
theorem dX9_movedClash_104 : decode cX9_movedClash 104 = .ok (.goto (-46), 3) := oq_167 (bq_in kqX9_movedClash_3 8 rfl) (bq_in kqX9_movedClash_3 9 rfl) (bq_in kqX9_movedClash_3 10 rfl) rfl
theorem dX9_movedClash_107 : decode cX9_movedClash 107 = .ok (.iload 4, 2) := oq_21 (bq_in kqX9_movedClash_3 11 rfl) (bq_in kqX9_movedClash_3 12 rfl)
theorem dX9_movedClash_109 : decode cX9_movedClash 109 = .ok (.ireturn, 1) := oq_172 (bq_in kqX9_movedClash_3 13 rfl)
theorem kqX9_ruledClash_0 : ((cX9_ruledClash.data.toList.drop 0).take 34).map UInt8.toNat = [42, 180, 0, 244, 43, 180, 0, 244, 163, 0, 7, 42, 167, 0, 4, 43, 58, 4, 42, 180, 0, 244, 43, 180, 0, 244, 163, 0, 7, 43, 167, 0, 4, 42] := by decide +kernel
theorem dX9_ruledClash_0 : decode cX9_ruledClash 0 = .ok (.aload_n 0, 1) := oq_42 (bq_in kqX9_ruledClash_0 0 rfl)
theorem dX9_ruledClash_1 : decode cX9_ruledClash 1 = .ok (.getfield 244, 3) := oq_180 (bq_in kqX9_ruledClash_0 1 rfl) (bq_in kqX9_ruledClash_0 2 rfl) (bq_in kqX9_ruledClash_0 3 rfl) rfl
theorem dX9_ruledClash_4 : decode cX9_ruledClash 4 = .ok (.aload_n 1, 1) := oq_43 (bq_in kqX9_ruledClash_0 4 rfl)
theorem dX9_ruledClash_5 : decode cX9_ruledClash 5 = .ok (.getfield 244, 3) := oq_180 (bq_in kqX9_ruledClash_0 5 rfl) (bq_in kqX9_ruledClash_0 6 rfl) (bq_in kqX9_ruledClash_0 7 rfl) rfl
theorem dX9_ruledClash_8 : decode cX9_ruledClash 8 = .ok (.if_icmp .gt 7, 3) := oq_163 (bq_in kqX9_ruledClash_0 8 rfl) (bq_in kqX9_ruledClash_0 9 rfl) (bq_in kqX9_ruledClash_0 10 rfl) rfl
theorem dX9_ruledClash_11 : decode cX9_ruledClash 11 = .ok (.aload_n 0, 1) := oq_42 (bq_in kqX9_ruledClash_0 11 rfl)
theorem dX9_ruledClash_12 : decode cX9_ruledClash 12 = .ok (.goto 4, 3) := oq_167 (bq_in kqX9_ruledClash_0 12 rfl) (bq_in kqX9_ruledClash_0 13 rfl) (bq_in kqX9_ruledClash_0 14 rfl) rfl
theorem dX9_ruledClash_15 : decode cX9_ruledClash 15 = .ok (.aload_n 1, 1) := oq_43 (bq_in kqX9_ruledClash_0 15 rfl)
theorem dX9_ruledClash_16 : decode cX9_ruledClash 16 = .ok (.astore 4, 2) := oq_58 (bq_in kqX9_ruledClash_0 16 rfl) (bq_in kqX9_ruledClash_0 17 rfl)
theorem dX9_ruledClash_18 : decode cX9_ruledClash 18 = .ok (.aload_n 0, 1) := oq_42 (bq_in kqX9_ruledClash_0 18 rfl)
theorem dX9_ruledClash_19 : decode cX9_ruledClash 19 = .ok (.getfield 244, 3) := oq_180 (bq_in kqX9_ruledClash_0 19 rfl) (bq_in kqX9_ruledClash_0 20 rfl) (bq_in kqX9_ruledClash_0 21 rfl) rfl
theorem dX9_ruledClash_22 : decode cX9_ruledClash 22 = .ok (.aload_n 1, 1) := oq_43 (bq_in kqX9_ruledClash_0 22 rfl)
theorem dX9_ruledClash_23 : decode cX9_ruledClash 23 = .ok (.getfield 244, 3) := oq_180 (bq_in kqX9_ruledClash_0 23 rfl) (bq_in kqX9_ruledClash_0 24 rfl) (bq_in kqX9_ruledClash_0 25 rfl) rfl
theorem dX9_ruledClash_26 : decode cX9_ruledClash 26 = .ok (.if_icmp .gt 7, 3) := oq_163 (bq_in kqX9_ruledClash_0 26 rfl) (bq_in kqX9_ruledClash_0 27 rfl) (bq_in kqX9_ruledClash_0 28 rfl) rfl
theorem dX9_ruledClash_29 : decode cX9_ruledClash 29 = .ok (.aload_n 1, 1) := oq_43 (bq_in kqX9_ruledClash_0 29 rfl)
theorem dX9_ruledClash_30 : decode cX9_ruledClash 30 = .ok (.goto 4, 3) := oq_167 (bq_in kqX9_ruledClash_0 30 rfl) (bq_in kqX9_ruledClash_0 31 rfl) (bq_in kqX9_ruledClash_0 32 rfl) rfl
theorem kqX9_ruledClash_1 : ((cX9_ruledClash.data.toList.drop 32).take 34).map UInt8.toNat = [4, 42, 58, 5, 29, 54, 6, 25, 4, 25, 5, 28, 184, 0, 247, 54, 7, 25, 4, 28, 17, 5, 160, 108, 25, 5, 180, 0, 251, 184, 0, 254, 7, 100] := by decide +kernel
theorem dX9_ruledClash_33 : decode cX9_ruledClash 33 = .ok (.aload_n 0, 1) := oq_42 (bq_in kqX9_ruledClash_1 1 rfl)
theorem dX9_ruledClash_34 : decode cX9_ruledClash 34 = .ok (.astore 5, 2) := oq_58 (bq_in kqX9_ruledClash_1 2 rfl) (bq_in kqX9_ruledClash_1 3 rfl)
theorem dX9_ruledClash_36 : decode cX9_ruledClash 36 = .ok (.iload_n 3, 1) := oq_29 (bq_in kqX9_ruledClash_1 4 rfl)
theorem dX9_ruledClash_37 : decode cX9_ruledClash 37 = .ok (.istore 6, 2) := oq_54 (bq_in kqX9_ruledClash_1 5 rfl) (bq_in kqX9_ruledClash_1 6 rfl)
theorem dX9_ruledClash_39 : decode cX9_ruledClash 39 = .ok (.aload 4, 2) := oq_25 (bq_in kqX9_ruledClash_1 7 rfl) (bq_in kqX9_ruledClash_1 8 rfl)
theorem dX9_ruledClash_41 : decode cX9_ruledClash 41 = .ok (.aload 5, 2) := oq_25 (bq_in kqX9_ruledClash_1 9 rfl) (bq_in kqX9_ruledClash_1 10 rfl)
theorem dX9_ruledClash_43 : decode cX9_ruledClash 43 = .ok (.iload_n 2, 1) := oq_28 (bq_in kqX9_ruledClash_1 11 rfl)
theorem dX9_ruledClash_44 : decode cX9_ruledClash 44 = .ok (.invokestatic 247, 3) := oq_184 (bq_in kqX9_ruledClash_1 12 rfl) (bq_in kqX9_ruledClash_1 13 rfl) (bq_in kqX9_ruledClash_1 14 rfl) rfl
theorem dX9_ruledClash_47 : decode cX9_ruledClash 47 = .ok (.istore 7, 2) := oq_54 (bq_in kqX9_ruledClash_1 15 rfl) (bq_in kqX9_ruledClash_1 16 rfl)
theorem dX9_ruledClash_49 : decode cX9_ruledClash 49 = .ok (.aload 4, 2) := oq_25 (bq_in kqX9_ruledClash_1 17 rfl) (bq_in kqX9_ruledClash_1 18 rfl)
theorem dX9_ruledClash_51 : decode cX9_ruledClash 51 = .ok (.iload_n 2, 1) := oq_28 (bq_in kqX9_ruledClash_1 19 rfl)
theorem dX9_ruledClash_52 : decode cX9_ruledClash 52 = .ok (.sipush 1440, 3) := oq_17 (bq_in kqX9_ruledClash_1 20 rfl) (bq_in kqX9_ruledClash_1 21 rfl) (bq_in kqX9_ruledClash_1 22 rfl) rfl
theorem dX9_ruledClash_55 : decode cX9_ruledClash 55 = .ok (.idiv, 1) := oq_108 (bq_in kqX9_ruledClash_1 23 rfl)
theorem dX9_ruledClash_56 : decode cX9_ruledClash 56 = .ok (.aload 5, 2) := oq_25 (bq_in kqX9_ruledClash_1 24 rfl) (bq_in kqX9_ruledClash_1 25 rfl)
theorem dX9_ruledClash_58 : decode cX9_ruledClash 58 = .ok (.getfield 251, 3) := oq_180 (bq_in kqX9_ruledClash_1 26 rfl) (bq_in kqX9_ruledClash_1 27 rfl) (bq_in kqX9_ruledClash_1 28 rfl) rfl
theorem dX9_ruledClash_61 : decode cX9_ruledClash 61 = .ok (.invokestatic 254, 3) := oq_184 (bq_in kqX9_ruledClash_1 29 rfl) (bq_in kqX9_ruledClash_1 30 rfl) (bq_in kqX9_ruledClash_1 31 rfl) rfl
theorem kqX9_ruledClash_2 : ((cX9_ruledClash.data.toList.drop 64).take 34).map UInt8.toNat = [7, 100, 182, 0, 87, 54, 8, 3, 54, 9, 21, 9, 18, 185, 163, 0, 157, 21, 8, 2, 159, 0, 151, 21, 8, 21, 7, 163, 0, 144, 25, 4, 21, 8] := by decide +kernel
theorem dX9_ruledClash_64 : decode cX9_ruledClash 64 = .ok (.iconst 4, 1) := oq_7 (bq_in kqX9_ruledClash_2 0 rfl)
theorem dX9_ruledClash_65 : decode cX9_ruledClash 65 = .ok (.isub, 1) := oq_100 (bq_in kqX9_ruledClash_2 1 rfl)
theorem dX9_ruledClash_66 : decode cX9_ruledClash 66 = .ok (.invokevirtual 87, 3) := oq_182 (bq_in kqX9_ruledClash_2 2 rfl) (bq_in kqX9_ruledClash_2 3 rfl) (bq_in kqX9_ruledClash_2 4 rfl) rfl
theorem dX9_ruledClash_69 : decode cX9_ruledClash 69 = .ok (.istore 8, 2) := oq_54 (bq_in kqX9_ruledClash_2 5 rfl) (bq_in kqX9_ruledClash_2 6 rfl)
theorem dX9_ruledClash_71 : decode cX9_ruledClash 71 = .ok (.iconst 0, 1) := oq_3 (bq_in kqX9_ruledClash_2 7 rfl)
theorem dX9_ruledClash_72 : decode cX9_ruledClash 72 = .ok (.istore 9, 2) := oq_54 (bq_in kqX9_ruledClash_2 8 rfl) (bq_in kqX9_ruledClash_2 9 rfl)
theorem dX9_ruledClash_74 : decode cX9_ruledClash 74 = .ok (.iload 9, 2) := oq_21 (bq_in kqX9_ruledClash_2 10 rfl) (bq_in kqX9_ruledClash_2 11 rfl)
theorem dX9_ruledClash_76 : decode cX9_ruledClash 76 = .ok (.ldc 185, 2) := oq_18 (bq_in kqX9_ruledClash_2 12 rfl) (bq_in kqX9_ruledClash_2 13 rfl)
theorem dX9_ruledClash_78 : decode cX9_ruledClash 78 = .ok (.if_icmp .gt 157, 3) := oq_163 (bq_in kqX9_ruledClash_2 14 rfl) (bq_in kqX9_ruledClash_2 15 rfl) (bq_in kqX9_ruledClash_2 16 rfl) rfl
theorem dX9_ruledClash_81 : decode cX9_ruledClash 81 = .ok (.iload 8, 2) := oq_21 (bq_in kqX9_ruledClash_2 17 rfl) (bq_in kqX9_ruledClash_2 18 rfl)
theorem dX9_ruledClash_83 : decode cX9_ruledClash 83 = .ok (.iconst (-1), 1) := oq_2 (bq_in kqX9_ruledClash_2 19 rfl)
theorem dX9_ruledClash_84 : decode cX9_ruledClash 84 = .ok (.if_icmp .eq 151, 3) := oq_159 (bq_in kqX9_ruledClash_2 20 rfl) (bq_in kqX9_ruledClash_2 21 rfl) (bq_in kqX9_ruledClash_2 22 rfl) rfl
theorem dX9_ruledClash_87 : decode cX9_ruledClash 87 = .ok (.iload 8, 2) := oq_21 (bq_in kqX9_ruledClash_2 23 rfl) (bq_in kqX9_ruledClash_2 24 rfl)
theorem dX9_ruledClash_89 : decode cX9_ruledClash 89 = .ok (.iload 7, 2) := oq_21 (bq_in kqX9_ruledClash_2 25 rfl) (bq_in kqX9_ruledClash_2 26 rfl)
theorem dX9_ruledClash_91 : decode cX9_ruledClash 91 = .ok (.if_icmp .gt 144, 3) := oq_163 (bq_in kqX9_ruledClash_2 27 rfl) (bq_in kqX9_ruledClash_2 28 rfl) (bq_in kqX9_ruledClash_2 29 rfl) rfl
theorem dX9_ruledClash_94 : decode cX9_ruledClash 94 = .ok (.aload 4, 2) := oq_25 (bq_in kqX9_ruledClash_2 30 rfl) (bq_in kqX9_ruledClash_2 31 rfl)
theorem kqX9_ruledClash_3 : ((cX9_ruledClash.data.toList.drop 96).take 34).map UInt8.toNat = [21, 8, 182, 1, 1, 21, 6, 162, 0, 132, 25, 4, 21, 8, 182, 1, 1, 54, 10, 25, 5, 25, 5, 21, 10, 25, 5, 180, 0, 228, 100, 4, 96, 182] := by decide +kernel
theorem dX9_ruledClash_96 : decode cX9_ruledClash 96 = .ok (.iload 8, 2) := oq_21 (bq_in kqX9_ruledClash_3 0 rfl) (bq_in kqX9_ruledClash_3 1 rfl)
theorem dX9_ruledClash_98 : decode cX9_ruledClash 98 = .ok (.invokevirtual 257, 3) := oq_182 (bq_in kqX9_ruledClash_3 2 rfl) (bq_in kqX9_ruledClash_3 3 rfl) (bq_in kqX9_ruledClash_3 4 rfl) rfl
theorem dX9_ruledClash_101 : decode cX9_ruledClash 101 = .ok (.iload 6, 2) := oq_21 (bq_in kqX9_ruledClash_3 5 rfl) (bq_in kqX9_ruledClash_3 6 rfl)
theorem dX9_ruledClash_103 : decode cX9_ruledClash 103 = .ok (.if_icmp .ge 132, 3) := oq_162 (bq_in kqX9_ruledClash_3 7 rfl) (bq_in kqX9_ruledClash_3 8 rfl) (bq_in kqX9_ruledClash_3 9 rfl) rfl
theorem dX9_ruledClash_106 : decode cX9_ruledClash 106 = .ok (.aload 4, 2) := oq_25 (bq_in kqX9_ruledClash_3 10 rfl) (bq_in kqX9_ruledClash_3 11 rfl)
theorem dX9_ruledClash_108 : decode cX9_ruledClash 108 = .ok (.iload 8, 2) := oq_21 (bq_in kqX9_ruledClash_3 12 rfl) (bq_in kqX9_ruledClash_3 13 rfl)
theorem dX9_ruledClash_110 : decode cX9_ruledClash 110 = .ok (.invokevirtual 257, 3) := oq_182 (bq_in kqX9_ruledClash_3 14 rfl) (bq_in kqX9_ruledClash_3 15 rfl) (bq_in kqX9_ruledClash_3 16 rfl) rfl
theorem dX9_ruledClash_113 : decode cX9_ruledClash 113 = .ok (.istore 10, 2) := oq_54 (bq_in kqX9_ruledClash_3 17 rfl) (bq_in kqX9_ruledClash_3 18 rfl)
theorem dX9_ruledClash_115 : decode cX9_ruledClash 115 = .ok (.aload 5, 2) := oq_25 (bq_in kqX9_ruledClash_3 19 rfl) (bq_in kqX9_ruledClash_3 20 rfl)
theorem dX9_ruledClash_117 : decode cX9_ruledClash 117 = .ok (.aload 5, 2) := oq_25 (bq_in kqX9_ruledClash_3 21 rfl) (bq_in kqX9_ruledClash_3 22 rfl)
theorem dX9_ruledClash_119 : decode cX9_ruledClash 119 = .ok (.iload 10, 2) := oq_21 (bq_in kqX9_ruledClash_3 23 rfl) (bq_in kqX9_ruledClash_3 24 rfl)
theorem dX9_ruledClash_121 : decode cX9_ruledClash 121 = .ok (.aload 5, 2) := oq_25 (bq_in kqX9_ruledClash_3 25 rfl) (bq_in kqX9_ruledClash_3 26 rfl)
theorem dX9_ruledClash_123 : decode cX9_ruledClash 123 = .ok (.getfield 228, 3) := oq_180 (bq_in kqX9_ruledClash_3 27 rfl) (bq_in kqX9_ruledClash_3 28 rfl) (bq_in kqX9_ruledClash_3 29 rfl) rfl
theorem dX9_ruledClash_126 : decode cX9_ruledClash 126 = .ok (.isub, 1) := oq_100 (bq_in kqX9_ruledClash_3 30 rfl)
theorem dX9_ruledClash_127 : decode cX9_ruledClash 127 = .ok (.iconst 1, 1) := oq_4 (bq_in kqX9_ruledClash_3 31 rfl)
theorem kqX9_ruledClash_4 : ((cX9_ruledClash.data.toList.drop 128).take 34).map UInt8.toNat = [96, 182, 1, 4, 182, 0, 87, 54, 11, 21, 11, 2, 160, 0, 6, 21, 6, 172, 25, 4, 25, 5, 21, 11, 182, 1, 1, 25, 4, 180, 0, 228, 100, 4] := by decide +kernel
theorem dX9_ruledClash_128 : decode cX9_ruledClash 128 = .ok (.iadd, 1) := oq_96 (bq_in kqX9_ruledClash_4 0 rfl)
theorem dX9_ruledClash_129 : decode cX9_ruledClash 129 = .ok (.invokevirtual 260, 3) := oq_182 (bq_in kqX9_ruledClash_4 1 rfl) (bq_in kqX9_ruledClash_4 2 rfl) (bq_in kqX9_ruledClash_4 3 rfl) rfl
theorem dX9_ruledClash_132 : decode cX9_ruledClash 132 = .ok (.invokevirtual 87, 3) := oq_182 (bq_in kqX9_ruledClash_4 4 rfl) (bq_in kqX9_ruledClash_4 5 rfl) (bq_in kqX9_ruledClash_4 6 rfl) rfl
theorem dX9_ruledClash_135 : decode cX9_ruledClash 135 = .ok (.istore 11, 2) := oq_54 (bq_in kqX9_ruledClash_4 7 rfl) (bq_in kqX9_ruledClash_4 8 rfl)
theorem dX9_ruledClash_137 : decode cX9_ruledClash 137 = .ok (.iload 11, 2) := oq_21 (bq_in kqX9_ruledClash_4 9 rfl) (bq_in kqX9_ruledClash_4 10 rfl)
theorem dX9_ruledClash_139 : decode cX9_ruledClash 139 = .ok (.iconst (-1), 1) := oq_2 (bq_in kqX9_ruledClash_4 11 rfl)
theorem dX9_ruledClash_140 : decode cX9_ruledClash 140 = .ok (.if_icmp .ne 6, 3) := oq_160 (bq_in kqX9_ruledClash_4 12 rfl) (bq_in kqX9_ruledClash_4 13 rfl) (bq_in kqX9_ruledClash_4 14 rfl) rfl
theorem dX9_ruledClash_143 : decode cX9_ruledClash 143 = .ok (.iload 6, 2) := oq_21 (bq_in kqX9_ruledClash_4 15 rfl) (bq_in kqX9_ruledClash_4 16 rfl)
theorem dX9_ruledClash_145 : decode cX9_ruledClash 145 = .ok (.ireturn, 1) := oq_172 (bq_in kqX9_ruledClash_4 17 rfl)
theorem dX9_ruledClash_146 : decode cX9_ruledClash 146 = .ok (.aload 4, 2) := oq_25 (bq_in kqX9_ruledClash_4 18 rfl) (bq_in kqX9_ruledClash_4 19 rfl)
theorem dX9_ruledClash_148 : decode cX9_ruledClash 148 = .ok (.aload 5, 2) := oq_25 (bq_in kqX9_ruledClash_4 20 rfl) (bq_in kqX9_ruledClash_4 21 rfl)
theorem dX9_ruledClash_150 : decode cX9_ruledClash 150 = .ok (.iload 11, 2) := oq_21 (bq_in kqX9_ruledClash_4 22 rfl) (bq_in kqX9_ruledClash_4 23 rfl)
theorem dX9_ruledClash_152 : decode cX9_ruledClash 152 = .ok (.invokevirtual 257, 3) := oq_182 (bq_in kqX9_ruledClash_4 24 rfl) (bq_in kqX9_ruledClash_4 25 rfl) (bq_in kqX9_ruledClash_4 26 rfl) rfl
theorem dX9_ruledClash_155 : decode cX9_ruledClash 155 = .ok (.aload 4, 2) := oq_25 (bq_in kqX9_ruledClash_4 27 rfl) (bq_in kqX9_ruledClash_4 28 rfl)
theorem dX9_ruledClash_157 : decode cX9_ruledClash 157 = .ok (.getfield 228, 3) := oq_180 (bq_in kqX9_ruledClash_4 29 rfl) (bq_in kqX9_ruledClash_4 30 rfl) (bq_in kqX9_ruledClash_4 31 rfl) rfl
theorem kqX9_ruledClash_5 : ((cX9_ruledClash.data.toList.drop 160).take 34).map UInt8.toNat = [100, 4, 96, 182, 1, 4, 54, 12, 21, 12, 21, 8, 164, 0, 15, 25, 4, 21, 12, 182, 0, 87, 54, 8, 167, 0, 45, 25, 4, 21, 8, 182, 1, 7] := by decide +kernel
theorem dX9_ruledClash_160 : decode cX9_ruledClash 160 = .ok (.isub, 1) := oq_100 (bq_in kqX9_ruledClash_5 0 rfl)
theorem dX9_ruledClash_161 : decode cX9_ruledClash 161 = .ok (.iconst 1, 1) := oq_4 (bq_in kqX9_ruledClash_5 1 rfl)
theorem dX9_ruledClash_162 : decode cX9_ruledClash 162 = .ok (.iadd, 1) := oq_96 (bq_in kqX9_ruledClash_5 2 rfl)
theorem dX9_ruledClash_163 : decode cX9_ruledClash 163 = .ok (.invokevirtual 260, 3) := oq_182 (bq_in kqX9_ruledClash_5 3 rfl) (bq_in kqX9_ruledClash_5 4 rfl) (bq_in kqX9_ruledClash_5 5 rfl) rfl
theorem dX9_ruledClash_166 : decode cX9_ruledClash 166 = .ok (.istore 12, 2) := oq_54 (bq_in kqX9_ruledClash_5 6 rfl) (bq_in kqX9_ruledClash_5 7 rfl)
theorem dX9_ruledClash_168 : decode cX9_ruledClash 168 = .ok (.iload 12, 2) := oq_21 (bq_in kqX9_ruledClash_5 8 rfl) (bq_in kqX9_ruledClash_5 9 rfl)
theorem dX9_ruledClash_170 : decode cX9_ruledClash 170 = .ok (.iload 8, 2) := oq_21 (bq_in kqX9_ruledClash_5 10 rfl) (bq_in kqX9_ruledClash_5 11 rfl)
theorem dX9_ruledClash_172 : decode cX9_ruledClash 172 = .ok (.if_icmp .le 15, 3) := oq_164 (bq_in kqX9_ruledClash_5 12 rfl) (bq_in kqX9_ruledClash_5 13 rfl) (bq_in kqX9_ruledClash_5 14 rfl) rfl
theorem dX9_ruledClash_175 : decode cX9_ruledClash 175 = .ok (.aload 4, 2) := oq_25 (bq_in kqX9_ruledClash_5 15 rfl) (bq_in kqX9_ruledClash_5 16 rfl)
theorem dX9_ruledClash_177 : decode cX9_ruledClash 177 = .ok (.iload 12, 2) := oq_21 (bq_in kqX9_ruledClash_5 17 rfl) (bq_in kqX9_ruledClash_5 18 rfl)
theorem dX9_ruledClash_179 : decode cX9_ruledClash 179 = .ok (.invokevirtual 87, 3) := oq_182 (bq_in kqX9_ruledClash_5 19 rfl) (bq_in kqX9_ruledClash_5 20 rfl) (bq_in kqX9_ruledClash_5 21 rfl) rfl
theorem dX9_ruledClash_182 : decode cX9_ruledClash 182 = .ok (.istore 8, 2) := oq_54 (bq_in kqX9_ruledClash_5 22 rfl) (bq_in kqX9_ruledClash_5 23 rfl)
theorem dX9_ruledClash_184 : decode cX9_ruledClash 184 = .ok (.goto 45, 3) := oq_167 (bq_in kqX9_ruledClash_5 24 rfl) (bq_in kqX9_ruledClash_5 25 rfl) (bq_in kqX9_ruledClash_5 26 rfl) rfl
theorem dX9_ruledClash_187 : decode cX9_ruledClash 187 = .ok (.aload 4, 2) := oq_25 (bq_in kqX9_ruledClash_5 27 rfl) (bq_in kqX9_ruledClash_5 28 rfl)
theorem dX9_ruledClash_189 : decode cX9_ruledClash 189 = .ok (.iload 8, 2) := oq_21 (bq_in kqX9_ruledClash_5 29 rfl) (bq_in kqX9_ruledClash_5 30 rfl)
theorem dX9_ruledClash_191 : decode cX9_ruledClash 191 = .ok (.invokevirtual 263, 3) := oq_182 (bq_in kqX9_ruledClash_5 31 rfl) (bq_in kqX9_ruledClash_5 32 rfl) (bq_in kqX9_ruledClash_5 33 rfl) rfl
theorem kqX9_ruledClash_6 : ((cX9_ruledClash.data.toList.drop 192).take 34).map UInt8.toNat = [1, 7, 2, 160, 0, 23, 21, 6, 25, 5, 21, 10, 25, 4, 180, 0, 228, 28, 182, 0, 241, 184, 0, 174, 54, 6, 25, 4, 21, 8, 4, 96, 182, 0] := by decide +kernel
theorem dX9_ruledClash_194 : decode cX9_ruledClash 194 = .ok (.iconst (-1), 1) := oq_2 (bq_in kqX9_ruledClash_6 2 rfl)
theorem dX9_ruledClash_195 : decode cX9_ruledClash 195 = .ok (.if_icmp .ne 23, 3) := oq_160 (bq_in kqX9_ruledClash_6 3 rfl) (bq_in kqX9_ruledClash_6 4 rfl) (bq_in kqX9_ruledClash_6 5 rfl) rfl
theorem dX9_ruledClash_198 : decode cX9_ruledClash 198 = .ok (.iload 6, 2) := oq_21 (bq_in kqX9_ruledClash_6 6 rfl) (bq_in kqX9_ruledClash_6 7 rfl)
theorem dX9_ruledClash_200 : decode cX9_ruledClash 200 = .ok (.aload 5, 2) := oq_25 (bq_in kqX9_ruledClash_6 8 rfl) (bq_in kqX9_ruledClash_6 9 rfl)
theorem dX9_ruledClash_202 : decode cX9_ruledClash 202 = .ok (.iload 10, 2) := oq_21 (bq_in kqX9_ruledClash_6 10 rfl) (bq_in kqX9_ruledClash_6 11 rfl)
theorem dX9_ruledClash_204 : decode cX9_ruledClash 204 = .ok (.aload 4, 2) := oq_25 (bq_in kqX9_ruledClash_6 12 rfl) (bq_in kqX9_ruledClash_6 13 rfl)
theorem dX9_ruledClash_206 : decode cX9_ruledClash 206 = .ok (.getfield 228, 3) := oq_180 (bq_in kqX9_ruledClash_6 14 rfl) (bq_in kqX9_ruledClash_6 15 rfl) (bq_in kqX9_ruledClash_6 16 rfl) rfl
theorem dX9_ruledClash_209 : decode cX9_ruledClash 209 = .ok (.iload_n 2, 1) := oq_28 (bq_in kqX9_ruledClash_6 17 rfl)
theorem dX9_ruledClash_210 : decode cX9_ruledClash 210 = .ok (.invokevirtual 241, 3) := oq_182 (bq_in kqX9_ruledClash_6 18 rfl) (bq_in kqX9_ruledClash_6 19 rfl) (bq_in kqX9_ruledClash_6 20 rfl) rfl
theorem dX9_ruledClash_213 : decode cX9_ruledClash 213 = .ok (.invokestatic 174, 3) := oq_184 (bq_in kqX9_ruledClash_6 21 rfl) (bq_in kqX9_ruledClash_6 22 rfl) (bq_in kqX9_ruledClash_6 23 rfl) rfl
theorem dX9_ruledClash_216 : decode cX9_ruledClash 216 = .ok (.istore 6, 2) := oq_54 (bq_in kqX9_ruledClash_6 24 rfl) (bq_in kqX9_ruledClash_6 25 rfl)
theorem dX9_ruledClash_218 : decode cX9_ruledClash 218 = .ok (.aload 4, 2) := oq_25 (bq_in kqX9_ruledClash_6 26 rfl) (bq_in kqX9_ruledClash_6 27 rfl)
theorem dX9_ruledClash_220 : decode cX9_ruledClash 220 = .ok (.iload 8, 2) := oq_21 (bq_in kqX9_ruledClash_6 28 rfl) (bq_in kqX9_ruledClash_6 29 rfl)
theorem dX9_ruledClash_222 : decode cX9_ruledClash 222 = .ok (.iconst 1, 1) := oq_4 (bq_in kqX9_ruledClash_6 30 rfl)
theorem dX9_ruledClash_223 : decode cX9_ruledClash 223 = .ok (.iadd, 1) := oq_96 (bq_in kqX9_ruledClash_6 31 rfl)
theorem kqX9_ruledClash_7 : ((cX9_ruledClash.data.toList.drop 224).take 34).map UInt8.toNat = [182, 0, 87, 54, 8, 132, 9, 1, 167, 255, 98, 21, 6, 172] := by decide +kernel
theorem dX9_ruledClash_224 : decode cX9_ruledClash 224 = .ok (.invokevirtual 87, 3) := oq_182 (bq_in kqX9_ruledClash_7 0 rfl) (bq_in kqX9_ruledClash_7 1 rfl) (bq_in kqX9_ruledClash_7 2 rfl) rfl
theorem dX9_ruledClash_227 : decode cX9_ruledClash 227 = .ok (.istore 8, 2) := oq_54 (bq_in kqX9_ruledClash_7 3 rfl) (bq_in kqX9_ruledClash_7 4 rfl)
theorem dX9_ruledClash_229 : decode cX9_ruledClash 229 = .ok (.iinc 9 1, 3) := oq_132 (bq_in kqX9_ruledClash_7 5 rfl) (bq_in kqX9_ruledClash_7 6 rfl) (bq_in kqX9_ruledClash_7 7 rfl) rfl
theorem dX9_ruledClash_232 : decode cX9_ruledClash 232 = .ok (.goto (-158), 3) := oq_167 (bq_in kqX9_ruledClash_7 8 rfl) (bq_in kqX9_ruledClash_7 9 rfl) (bq_in kqX9_ruledClash_7 10 rfl) rfl
theorem dX9_ruledClash_235 : decode cX9_ruledClash 235 = .ok (.iload 6, 2) := oq_21 (bq_in kqX9_ruledClash_7 11 rfl) (bq_in kqX9_ruledClash_7 12 rfl)
theorem dX9_ruledClash_237 : decode cX9_ruledClash 237 = .ok (.ireturn, 1) := oq_172 (bq_in kqX9_ruledClash_7 13 rfl)
theorem kqX9_lastKeyToTry_0 : ((cX9_lastKeyToTry.data.toList.drop 0).take 34).map UInt8.toNat = [42, 180, 0, 190, 182, 0, 194, 43, 180, 0, 190, 182, 0, 194, 184, 0, 204, 66, 33, 9, 148, 154, 0, 6, 18, 185, 172, 42, 180, 0, 251, 43, 180, 0] := by decide +kernel
theorem dX9_lastKeyToTry_0 : decode cX9_lastKeyToTry 0 = .ok (.aload_n 0, 1) := oq_42 (bq_in kqX9_lastKeyToTry_0 0 rfl)
theorem dX9_lastKeyToTry_1 : decode cX9_lastKeyToTry 1 = .ok (.getfield 190, 3) := oq_180 (bq_in kqX9_lastKeyToTry_0 1 rfl) (bq_in kqX9_lastKeyToTry_0 2 rfl) (bq_in kqX9_lastKeyToTry_0 3 rfl) rfl
theorem dX9_lastKeyToTry_4 : decode cX9_lastKeyToTry 4 = .ok (.invokevirtual 194, 3) := oq_182 (bq_in kqX9_lastKeyToTry_0 4 rfl) (bq_in kqX9_lastKeyToTry_0 5 rfl) (bq_in kqX9_lastKeyToTry_0 6 rfl) rfl
theorem dX9_lastKeyToTry_7 : decode cX9_lastKeyToTry 7 = .ok (.aload_n 1, 1) := oq_43 (bq_in kqX9_lastKeyToTry_0 7 rfl)
theorem dX9_lastKeyToTry_8 : decode cX9_lastKeyToTry 8 = .ok (.getfield 190, 3) := oq_180 (bq_in kqX9_lastKeyToTry_0 8 rfl) (bq_in kqX9_lastKeyToTry_0 9 rfl) (bq_in kqX9_lastKeyToTry_0 10 rfl) rfl
theorem dX9_lastKeyToTry_11 : decode cX9_lastKeyToTry 11 = .ok (.invokevirtual 194, 3) := oq_182 (bq_in kqX9_lastKeyToTry_0 11 rfl) (bq_in kqX9_lastKeyToTry_0 12 rfl) (bq_in kqX9_lastKeyToTry_0 13 rfl) rfl
theorem dX9_lastKeyToTry_14 : decode cX9_lastKeyToTry 14 = .ok (.invokestatic 204, 3) := oq_184 (bq_in kqX9_lastKeyToTry_0 14 rfl) (bq_in kqX9_lastKeyToTry_0 15 rfl) (bq_in kqX9_lastKeyToTry_0 16 rfl) rfl
theorem dX9_lastKeyToTry_17 : decode cX9_lastKeyToTry 17 = .ok (.lstore_n 3, 1) := oq_66 (bq_in kqX9_lastKeyToTry_0 17 rfl)
theorem dX9_lastKeyToTry_18 : decode cX9_lastKeyToTry 18 = .ok (.lload_n 3, 1) := oq_33 (bq_in kqX9_lastKeyToTry_0 18 rfl)
theorem dX9_lastKeyToTry_19 : decode cX9_lastKeyToTry 19 = .ok (.lconst 0, 1) := oq_9 (bq_in kqX9_lastKeyToTry_0 19 rfl)
theorem dX9_lastKeyToTry_20 : decode cX9_lastKeyToTry 20 = .ok (.lcmp, 1) := oq_148 (bq_in kqX9_lastKeyToTry_0 20 rfl)
theorem dX9_lastKeyToTry_21 : decode cX9_lastKeyToTry 21 = .ok (.ifCond .ne 6, 3) := oq_154 (bq_in kqX9_lastKeyToTry_0 21 rfl) (bq_in kqX9_lastKeyToTry_0 22 rfl) (bq_in kqX9_lastKeyToTry_0 23 rfl) rfl
theorem dX9_lastKeyToTry_24 : decode cX9_lastKeyToTry 24 = .ok (.ldc 185, 2) := oq_18 (bq_in kqX9_lastKeyToTry_0 24 rfl) (bq_in kqX9_lastKeyToTry_0 25 rfl)
theorem dX9_lastKeyToTry_26 : decode cX9_lastKeyToTry 26 = .ok (.ireturn, 1) := oq_172 (bq_in kqX9_lastKeyToTry_0 26 rfl)
theorem dX9_lastKeyToTry_27 : decode cX9_lastKeyToTry 27 = .ok (.aload_n 0, 1) := oq_42 (bq_in kqX9_lastKeyToTry_0 27 rfl)
theorem dX9_lastKeyToTry_28 : decode cX9_lastKeyToTry 28 = .ok (.getfield 251, 3) := oq_180 (bq_in kqX9_lastKeyToTry_0 28 rfl) (bq_in kqX9_lastKeyToTry_0 29 rfl) (bq_in kqX9_lastKeyToTry_0 30 rfl) rfl
theorem dX9_lastKeyToTry_31 : decode cX9_lastKeyToTry 31 = .ok (.aload_n 1, 1) := oq_43 (bq_in kqX9_lastKeyToTry_0 31 rfl)
theorem kqX9_lastKeyToTry_1 : ((cX9_lastKeyToTry.data.toList.drop 32).take 34).map UInt8.toNat = [180, 0, 251, 184, 0, 254, 28, 17, 5, 160, 108, 4, 96, 184, 0, 254, 7, 96, 54, 5, 21, 5, 133, 42, 180, 0, 234, 43, 180, 0, 234, 96, 4, 96] := by decide +kernel
theorem dX9_lastKeyToTry_32 : decode cX9_lastKeyToTry 32 = .ok (.getfield 251, 3) := oq_180 (bq_in kqX9_lastKeyToTry_1 0 rfl) (bq_in kqX9_lastKeyToTry_1 1 rfl) (bq_in kqX9_lastKeyToTry_1 2 rfl) rfl
theorem dX9_lastKeyToTry_35 : decode cX9_lastKeyToTry 35 = .ok (.invokestatic 254, 3) := oq_184 (bq_in kqX9_lastKeyToTry_1 3 rfl) (bq_in kqX9_lastKeyToTry_1 4 rfl) (bq_in kqX9_lastKeyToTry_1 5 rfl) rfl
theorem dX9_lastKeyToTry_38 : decode cX9_lastKeyToTry 38 = .ok (.iload_n 2, 1) := oq_28 (bq_in kqX9_lastKeyToTry_1 6 rfl)
theorem dX9_lastKeyToTry_39 : decode cX9_lastKeyToTry 39 = .ok (.sipush 1440, 3) := oq_17 (bq_in kqX9_lastKeyToTry_1 7 rfl) (bq_in kqX9_lastKeyToTry_1 8 rfl) (bq_in kqX9_lastKeyToTry_1 9 rfl) rfl
theorem dX9_lastKeyToTry_42 : decode cX9_lastKeyToTry 42 = .ok (.idiv, 1) := oq_108 (bq_in kqX9_lastKeyToTry_1 10 rfl)
theorem dX9_lastKeyToTry_43 : decode cX9_lastKeyToTry 43 = .ok (.iconst 1, 1) := oq_4 (bq_in kqX9_lastKeyToTry_1 11 rfl)
theorem dX9_lastKeyToTry_44 : decode cX9_lastKeyToTry 44 = .ok (.iadd, 1) := oq_96 (bq_in kqX9_lastKeyToTry_1 12 rfl)
theorem dX9_lastKeyToTry_45 : decode cX9_lastKeyToTry 45 = .ok (.invokestatic 254, 3) := oq_184 (bq_in kqX9_lastKeyToTry_1 13 rfl) (bq_in kqX9_lastKeyToTry_1 14 rfl) (bq_in kqX9_lastKeyToTry_1 15 rfl) rfl
theorem dX9_lastKeyToTry_48 : decode cX9_lastKeyToTry 48 = .ok (.iconst 4, 1) := oq_7 (bq_in kqX9_lastKeyToTry_1 16 rfl)
theorem dX9_lastKeyToTry_49 : decode cX9_lastKeyToTry 49 = .ok (.iadd, 1) := oq_96 (bq_in kqX9_lastKeyToTry_1 17 rfl)
theorem dX9_lastKeyToTry_50 : decode cX9_lastKeyToTry 50 = .ok (.istore 5, 2) := oq_54 (bq_in kqX9_lastKeyToTry_1 18 rfl) (bq_in kqX9_lastKeyToTry_1 19 rfl)
theorem dX9_lastKeyToTry_52 : decode cX9_lastKeyToTry 52 = .ok (.iload 5, 2) := oq_21 (bq_in kqX9_lastKeyToTry_1 20 rfl) (bq_in kqX9_lastKeyToTry_1 21 rfl)
theorem dX9_lastKeyToTry_54 : decode cX9_lastKeyToTry 54 = .ok (.i2l, 1) := oq_133 (bq_in kqX9_lastKeyToTry_1 22 rfl)
theorem dX9_lastKeyToTry_55 : decode cX9_lastKeyToTry 55 = .ok (.aload_n 0, 1) := oq_42 (bq_in kqX9_lastKeyToTry_1 23 rfl)
theorem dX9_lastKeyToTry_56 : decode cX9_lastKeyToTry 56 = .ok (.getfield 234, 3) := oq_180 (bq_in kqX9_lastKeyToTry_1 24 rfl) (bq_in kqX9_lastKeyToTry_1 25 rfl) (bq_in kqX9_lastKeyToTry_1 26 rfl) rfl
theorem dX9_lastKeyToTry_59 : decode cX9_lastKeyToTry 59 = .ok (.aload_n 1, 1) := oq_43 (bq_in kqX9_lastKeyToTry_1 27 rfl)
theorem dX9_lastKeyToTry_60 : decode cX9_lastKeyToTry 60 = .ok (.getfield 234, 3) := oq_180 (bq_in kqX9_lastKeyToTry_1 28 rfl) (bq_in kqX9_lastKeyToTry_1 29 rfl) (bq_in kqX9_lastKeyToTry_1 30 rfl) rfl
theorem dX9_lastKeyToTry_63 : decode cX9_lastKeyToTry 63 = .ok (.iadd, 1) := oq_96 (bq_in kqX9_lastKeyToTry_1 31 rfl)
theorem kqX9_lastKeyToTry_2 : ((cX9_lastKeyToTry.data.toList.drop 64).take 34).map UInt8.toNat = [4, 96, 133, 33, 105, 97, 20, 1, 10, 184, 1, 12, 136, 172] := by decide +kernel
theorem dX9_lastKeyToTry_64 : decode cX9_lastKeyToTry 64 = .ok (.iconst 1, 1) := oq_4 (bq_in kqX9_lastKeyToTry_2 0 rfl)
theorem dX9_lastKeyToTry_65 : decode cX9_lastKeyToTry 65 = .ok (.iadd, 1) := oq_96 (bq_in kqX9_lastKeyToTry_2 1 rfl)
theorem dX9_lastKeyToTry_66 : decode cX9_lastKeyToTry 66 = .ok (.i2l, 1) := oq_133 (bq_in kqX9_lastKeyToTry_2 2 rfl)
theorem dX9_lastKeyToTry_67 : decode cX9_lastKeyToTry 67 = .ok (.lload_n 3, 1) := oq_33 (bq_in kqX9_lastKeyToTry_2 3 rfl)
theorem dX9_lastKeyToTry_68 : decode cX9_lastKeyToTry 68 = .ok (.lmul, 1) := oq_105 (bq_in kqX9_lastKeyToTry_2 4 rfl)
theorem dX9_lastKeyToTry_69 : decode cX9_lastKeyToTry 69 = .ok (.ladd, 1) := oq_97 (bq_in kqX9_lastKeyToTry_2 5 rfl)
theorem dX9_lastKeyToTry_70 : decode cX9_lastKeyToTry 70 = .ok (.ldc2_w 266, 3) := oq_20 (bq_in kqX9_lastKeyToTry_2 6 rfl) (bq_in kqX9_lastKeyToTry_2 7 rfl) (bq_in kqX9_lastKeyToTry_2 8 rfl) rfl
theorem dX9_lastKeyToTry_73 : decode cX9_lastKeyToTry 73 = .ok (.invokestatic 268, 3) := oq_184 (bq_in kqX9_lastKeyToTry_2 9 rfl) (bq_in kqX9_lastKeyToTry_2 10 rfl) (bq_in kqX9_lastKeyToTry_2 11 rfl) rfl
theorem dX9_lastKeyToTry_76 : decode cX9_lastKeyToTry 76 = .ok (.l2i, 1) := oq_136 (bq_in kqX9_lastKeyToTry_2 12 rfl)
theorem dX9_lastKeyToTry_77 : decode cX9_lastKeyToTry 77 = .ok (.ireturn, 1) := oq_172 (bq_in kqX9_lastKeyToTry_2 13 rfl)
theorem kqX9_countMet_0 : ((cX9_countMet.data.toList.drop 0).take 34).map UInt8.toNat = [3, 54, 5, 42, 28, 3, 182, 0, 116, 54, 6, 3, 54, 7, 21, 7, 18, 185, 163, 0, 65, 21, 6, 153, 0, 60, 42, 180, 0, 145, 29, 163, 0, 52] := by decide +kernel
theorem dX9_countMet_0 : decode cX9_countMet 0 = .ok (.iconst 0, 1) := oq_3 (bq_in kqX9_countMet_0 0 rfl)
theorem dX9_countMet_1 : decode cX9_countMet 1 = .ok (.istore 5, 2) := oq_54 (bq_in kqX9_countMet_0 1 rfl) (bq_in kqX9_countMet_0 2 rfl)
theorem dX9_countMet_3 : decode cX9_countMet 3 = .ok (.aload_n 0, 1) := oq_42 (bq_in kqX9_countMet_0 3 rfl)
theorem dX9_countMet_4 : decode cX9_countMet 4 = .ok (.iload_n 2, 1) := oq_28 (bq_in kqX9_countMet_0 4 rfl)
theorem dX9_countMet_5 : decode cX9_countMet 5 = .ok (.iconst 0, 1) := oq_3 (bq_in kqX9_countMet_0 5 rfl)
theorem dX9_countMet_6 : decode cX9_countMet 6 = .ok (.invokevirtual 116, 3) := oq_182 (bq_in kqX9_countMet_0 6 rfl) (bq_in kqX9_countMet_0 7 rfl) (bq_in kqX9_countMet_0 8 rfl) rfl
theorem dX9_countMet_9 : decode cX9_countMet 9 = .ok (.istore 6, 2) := oq_54 (bq_in kqX9_countMet_0 9 rfl) (bq_in kqX9_countMet_0 10 rfl)
theorem dX9_countMet_11 : decode cX9_countMet 11 = .ok (.iconst 0, 1) := oq_3 (bq_in kqX9_countMet_0 11 rfl)
theorem dX9_countMet_12 : decode cX9_countMet 12 = .ok (.istore 7, 2) := oq_54 (bq_in kqX9_countMet_0 12 rfl) (bq_in kqX9_countMet_0 13 rfl)
theorem dX9_countMet_14 : decode cX9_countMet 14 = .ok (.iload 7, 2) := oq_21 (bq_in kqX9_countMet_0 14 rfl) (bq_in kqX9_countMet_0 15 rfl)
theorem dX9_countMet_16 : decode cX9_countMet 16 = .ok (.ldc 185, 2) := oq_18 (bq_in kqX9_countMet_0 16 rfl) (bq_in kqX9_countMet_0 17 rfl)
theorem dX9_countMet_18 : decode cX9_countMet 18 = .ok (.if_icmp .gt 65, 3) := oq_163 (bq_in kqX9_countMet_0 18 rfl) (bq_in kqX9_countMet_0 19 rfl) (bq_in kqX9_countMet_0 20 rfl) rfl
theorem dX9_countMet_21 : decode cX9_countMet 21 = .ok (.iload 6, 2) := oq_21 (bq_in kqX9_countMet_0 21 rfl) (bq_in kqX9_countMet_0 22 rfl)
theorem dX9_countMet_23 : decode cX9_countMet 23 = .ok (.ifCond .eq 60, 3) := oq_153 (bq_in kqX9_countMet_0 23 rfl) (bq_in kqX9_countMet_0 24 rfl) (bq_in kqX9_countMet_0 25 rfl) rfl
theorem dX9_countMet_26 : decode cX9_countMet 26 = .ok (.aload_n 0, 1) := oq_42 (bq_in kqX9_countMet_0 26 rfl)
theorem dX9_countMet_27 : decode cX9_countMet 27 = .ok (.getfield 145, 3) := oq_180 (bq_in kqX9_countMet_0 27 rfl) (bq_in kqX9_countMet_0 28 rfl) (bq_in kqX9_countMet_0 29 rfl) rfl
theorem dX9_countMet_30 : decode cX9_countMet 30 = .ok (.iload_n 3, 1) := oq_29 (bq_in kqX9_countMet_0 30 rfl)
theorem dX9_countMet_31 : decode cX9_countMet 31 = .ok (.if_icmp .gt 52, 3) := oq_163 (bq_in kqX9_countMet_0 31 rfl) (bq_in kqX9_countMet_0 32 rfl) (bq_in kqX9_countMet_0 33 rfl) rfl
theorem kqX9_countMet_1 : ((cX9_countMet.data.toList.drop 32).take 34).map UInt8.toNat = [0, 52, 21, 5, 43, 42, 180, 0, 145, 43, 180, 0, 228, 100, 4, 96, 42, 180, 0, 145, 21, 4, 100, 182, 0, 125, 96, 54, 5, 42, 42, 180, 0, 145] := by decide +kernel
theorem dX9_countMet_34 : decode cX9_countMet 34 = .ok (.iload 5, 2) := oq_21 (bq_in kqX9_countMet_1 2 rfl) (bq_in kqX9_countMet_1 3 rfl)
theorem dX9_countMet_36 : decode cX9_countMet 36 = .ok (.aload_n 1, 1) := oq_43 (bq_in kqX9_countMet_1 4 rfl)
theorem dX9_countMet_37 : decode cX9_countMet 37 = .ok (.aload_n 0, 1) := oq_42 (bq_in kqX9_countMet_1 5 rfl)
theorem dX9_countMet_38 : decode cX9_countMet 38 = .ok (.getfield 145, 3) := oq_180 (bq_in kqX9_countMet_1 6 rfl) (bq_in kqX9_countMet_1 7 rfl) (bq_in kqX9_countMet_1 8 rfl) rfl
theorem dX9_countMet_41 : decode cX9_countMet 41 = .ok (.aload_n 1, 1) := oq_43 (bq_in kqX9_countMet_1 9 rfl)
theorem dX9_countMet_42 : decode cX9_countMet 42 = .ok (.getfield 228, 3) := oq_180 (bq_in kqX9_countMet_1 10 rfl) (bq_in kqX9_countMet_1 11 rfl) (bq_in kqX9_countMet_1 12 rfl) rfl
theorem dX9_countMet_45 : decode cX9_countMet 45 = .ok (.isub, 1) := oq_100 (bq_in kqX9_countMet_1 13 rfl)
theorem dX9_countMet_46 : decode cX9_countMet 46 = .ok (.iconst 1, 1) := oq_4 (bq_in kqX9_countMet_1 14 rfl)
theorem dX9_countMet_47 : decode cX9_countMet 47 = .ok (.iadd, 1) := oq_96 (bq_in kqX9_countMet_1 15 rfl)
theorem dX9_countMet_48 : decode cX9_countMet 48 = .ok (.aload_n 0, 1) := oq_42 (bq_in kqX9_countMet_1 16 rfl)
theorem dX9_countMet_49 : decode cX9_countMet 49 = .ok (.getfield 145, 3) := oq_180 (bq_in kqX9_countMet_1 17 rfl) (bq_in kqX9_countMet_1 18 rfl) (bq_in kqX9_countMet_1 19 rfl) rfl
theorem dX9_countMet_52 : decode cX9_countMet 52 = .ok (.iload 4, 2) := oq_21 (bq_in kqX9_countMet_1 20 rfl) (bq_in kqX9_countMet_1 21 rfl)
theorem dX9_countMet_54 : decode cX9_countMet 54 = .ok (.isub, 1) := oq_100 (bq_in kqX9_countMet_1 22 rfl)
theorem dX9_countMet_55 : decode cX9_countMet 55 = .ok (.invokevirtual 125, 3) := oq_182 (bq_in kqX9_countMet_1 23 rfl) (bq_in kqX9_countMet_1 24 rfl) (bq_in kqX9_countMet_1 25 rfl) rfl
theorem dX9_countMet_58 : decode cX9_countMet 58 = .ok (.iadd, 1) := oq_96 (bq_in kqX9_countMet_1 26 rfl)
theorem dX9_countMet_59 : decode cX9_countMet 59 = .ok (.istore 5, 2) := oq_54 (bq_in kqX9_countMet_1 27 rfl) (bq_in kqX9_countMet_1 28 rfl)
theorem dX9_countMet_61 : decode cX9_countMet 61 = .ok (.aload_n 0, 1) := oq_42 (bq_in kqX9_countMet_1 29 rfl)
theorem dX9_countMet_62 : decode cX9_countMet 62 = .ok (.aload_n 0, 1) := oq_42 (bq_in kqX9_countMet_1 30 rfl)
theorem dX9_countMet_63 : decode cX9_countMet 63 = .ok (.getfield 145, 3) := oq_180 (bq_in kqX9_countMet_1 31 rfl) (bq_in kqX9_countMet_1 32 rfl) (bq_in kqX9_countMet_1 33 rfl) rfl
theorem kqX9_countMet_2 : ((cX9_countMet.data.toList.drop 64).take 34).map UInt8.toNat = [0, 145, 42, 180, 0, 142, 4, 96, 182, 0, 116, 54, 6, 132, 7, 1, 167, 255, 190, 21, 5, 172] := by decide +kernel
theorem dX9_countMet_66 : decode cX9_countMet 66 = .ok (.aload_n 0, 1) := oq_42 (bq_in kqX9_countMet_2 2 rfl)
theorem dX9_countMet_67 : decode cX9_countMet 67 = .ok (.getfield 142, 3) := oq_180 (bq_in kqX9_countMet_2 3 rfl) (bq_in kqX9_countMet_2 4 rfl) (bq_in kqX9_countMet_2 5 rfl) rfl
theorem dX9_countMet_70 : decode cX9_countMet 70 = .ok (.iconst 1, 1) := oq_4 (bq_in kqX9_countMet_2 6 rfl)
theorem dX9_countMet_71 : decode cX9_countMet 71 = .ok (.iadd, 1) := oq_96 (bq_in kqX9_countMet_2 7 rfl)
theorem dX9_countMet_72 : decode cX9_countMet 72 = .ok (.invokevirtual 116, 3) := oq_182 (bq_in kqX9_countMet_2 8 rfl) (bq_in kqX9_countMet_2 9 rfl) (bq_in kqX9_countMet_2 10 rfl) rfl
theorem dX9_countMet_75 : decode cX9_countMet 75 = .ok (.istore 6, 2) := oq_54 (bq_in kqX9_countMet_2 11 rfl) (bq_in kqX9_countMet_2 12 rfl)
theorem dX9_countMet_77 : decode cX9_countMet 77 = .ok (.iinc 7 1, 3) := oq_132 (bq_in kqX9_countMet_2 13 rfl) (bq_in kqX9_countMet_2 14 rfl) (bq_in kqX9_countMet_2 15 rfl) rfl
theorem dX9_countMet_80 : decode cX9_countMet 80 = .ok (.goto (-66), 3) := oq_167 (bq_in kqX9_countMet_2 16 rfl) (bq_in kqX9_countMet_2 17 rfl) (bq_in kqX9_countMet_2 18 rfl) rfl
theorem dX9_countMet_83 : decode cX9_countMet 83 = .ok (.iload 5, 2) := oq_21 (bq_in kqX9_countMet_2 19 rfl) (bq_in kqX9_countMet_2 20 rfl)
theorem dX9_countMet_85 : decode cX9_countMet 85 = .ok (.ireturn, 1) := oq_172 (bq_in kqX9_countMet_2 21 rfl)
theorem kqX9_takenTill_0 : ((cX9_takenTill.data.toList.drop 0).take 34).map UInt8.toNat = [28, 54, 4, 3, 54, 5, 21, 5, 42, 180, 0, 20, 180, 0, 166, 162, 0, 62, 42, 180, 0, 20, 21, 5, 182, 0, 83, 58, 6, 42, 180, 0, 20, 21] := by decide +kernel
theorem dX9_takenTill_0 : decode cX9_takenTill 0 = .ok (.iload_n 2, 1) := oq_28 (bq_in kqX9_takenTill_0 0 rfl)
theorem dX9_takenTill_1 : decode cX9_takenTill 1 = .ok (.istore 4, 2) := oq_54 (bq_in kqX9_takenTill_0 1 rfl) (bq_in kqX9_takenTill_0 2 rfl)
theorem dX9_takenTill_3 : decode cX9_takenTill 3 = .ok (.iconst 0, 1) := oq_3 (bq_in kqX9_takenTill_0 3 rfl)
theorem dX9_takenTill_4 : decode cX9_takenTill 4 = .ok (.istore 5, 2) := oq_54 (bq_in kqX9_takenTill_0 4 rfl) (bq_in kqX9_takenTill_0 5 rfl)
theorem dX9_takenTill_6 : decode cX9_takenTill 6 = .ok (.iload 5, 2) := oq_21 (bq_in kqX9_takenTill_0 6 rfl) (bq_in kqX9_takenTill_0 7 rfl)
theorem dX9_takenTill_8 : decode cX9_takenTill 8 = .ok (.aload_n 0, 1) := oq_42 (bq_in kqX9_takenTill_0 8 rfl)
theorem dX9_takenTill_9 : decode cX9_takenTill 9 = .ok (.getfield 20, 3) := oq_180 (bq_in kqX9_takenTill_0 9 rfl) (bq_in kqX9_takenTill_0 10 rfl) (bq_in kqX9_takenTill_0 11 rfl) rfl
theorem dX9_takenTill_12 : decode cX9_takenTill 12 = .ok (.getfield 166, 3) := oq_180 (bq_in kqX9_takenTill_0 12 rfl) (bq_in kqX9_takenTill_0 13 rfl) (bq_in kqX9_takenTill_0 14 rfl) rfl
theorem dX9_takenTill_15 : decode cX9_takenTill 15 = .ok (.if_icmp .ge 62, 3) := oq_162 (bq_in kqX9_takenTill_0 15 rfl) (bq_in kqX9_takenTill_0 16 rfl) (bq_in kqX9_takenTill_0 17 rfl) rfl
theorem dX9_takenTill_18 : decode cX9_takenTill 18 = .ok (.aload_n 0, 1) := oq_42 (bq_in kqX9_takenTill_0 18 rfl)
theorem dX9_takenTill_19 : decode cX9_takenTill 19 = .ok (.getfield 20, 3) := oq_180 (bq_in kqX9_takenTill_0 19 rfl) (bq_in kqX9_takenTill_0 20 rfl) (bq_in kqX9_takenTill_0 21 rfl) rfl
theorem dX9_takenTill_22 : decode cX9_takenTill 22 = .ok (.iload 5, 2) := oq_21 (bq_in kqX9_takenTill_0 22 rfl) (bq_in kqX9_takenTill_0 23 rfl)
theorem dX9_takenTill_24 : decode cX9_takenTill 24 = .ok (.invokevirtual 83, 3) := oq_182 (bq_in kqX9_takenTill_0 24 rfl) (bq_in kqX9_takenTill_0 25 rfl) (bq_in kqX9_takenTill_0 26 rfl) rfl
theorem dX9_takenTill_27 : decode cX9_takenTill 27 = .ok (.astore 6, 2) := oq_58 (bq_in kqX9_takenTill_0 27 rfl) (bq_in kqX9_takenTill_0 28 rfl)
theorem dX9_takenTill_29 : decode cX9_takenTill 29 = .ok (.aload_n 0, 1) := oq_42 (bq_in kqX9_takenTill_0 29 rfl)
theorem dX9_takenTill_30 : decode cX9_takenTill 30 = .ok (.getfield 20, 3) := oq_180 (bq_in kqX9_takenTill_0 30 rfl) (bq_in kqX9_takenTill_0 31 rfl) (bq_in kqX9_takenTill_0 32 rfl) rfl
theorem kqX9_takenTill_1 : ((cX9_takenTill.data.toList.drop 32).take 34).map UInt8.toNat = [20, 21, 5, 27, 182, 0, 169, 153, 0, 32, 25, 6, 28, 29, 96, 182, 0, 122, 153, 0, 21, 21, 4, 25, 6, 180, 0, 145, 25, 6, 180, 0, 228, 96] := by decide +kernel
theorem dX9_takenTill_33 : decode cX9_takenTill 33 = .ok (.iload 5, 2) := oq_21 (bq_in kqX9_takenTill_1 1 rfl) (bq_in kqX9_takenTill_1 2 rfl)
theorem dX9_takenTill_35 : decode cX9_takenTill 35 = .ok (.iload_n 1, 1) := oq_27 (bq_in kqX9_takenTill_1 3 rfl)
theorem dX9_takenTill_36 : decode cX9_takenTill 36 = .ok (.invokevirtual 169, 3) := oq_182 (bq_in kqX9_takenTill_1 4 rfl) (bq_in kqX9_takenTill_1 5 rfl) (bq_in kqX9_takenTill_1 6 rfl) rfl
theorem dX9_takenTill_39 : decode cX9_takenTill 39 = .ok (.ifCond .eq 32, 3) := oq_153 (bq_in kqX9_takenTill_1 7 rfl) (bq_in kqX9_takenTill_1 8 rfl) (bq_in kqX9_takenTill_1 9 rfl) rfl
theorem dX9_takenTill_42 : decode cX9_takenTill 42 = .ok (.aload 6, 2) := oq_25 (bq_in kqX9_takenTill_1 10 rfl) (bq_in kqX9_takenTill_1 11 rfl)
theorem dX9_takenTill_44 : decode cX9_takenTill 44 = .ok (.iload_n 2, 1) := oq_28 (bq_in kqX9_takenTill_1 12 rfl)
theorem dX9_takenTill_45 : decode cX9_takenTill 45 = .ok (.iload_n 3, 1) := oq_29 (bq_in kqX9_takenTill_1 13 rfl)
theorem dX9_takenTill_46 : decode cX9_takenTill 46 = .ok (.iadd, 1) := oq_96 (bq_in kqX9_takenTill_1 14 rfl)
theorem dX9_takenTill_47 : decode cX9_takenTill 47 = .ok (.invokevirtual 122, 3) := oq_182 (bq_in kqX9_takenTill_1 15 rfl) (bq_in kqX9_takenTill_1 16 rfl) (bq_in kqX9_takenTill_1 17 rfl) rfl
theorem dX9_takenTill_50 : decode cX9_takenTill 50 = .ok (.ifCond .eq 21, 3) := oq_153 (bq_in kqX9_takenTill_1 18 rfl) (bq_in kqX9_takenTill_1 19 rfl) (bq_in kqX9_takenTill_1 20 rfl) rfl
theorem dX9_takenTill_53 : decode cX9_takenTill 53 = .ok (.iload 4, 2) := oq_21 (bq_in kqX9_takenTill_1 21 rfl) (bq_in kqX9_takenTill_1 22 rfl)
theorem dX9_takenTill_55 : decode cX9_takenTill 55 = .ok (.aload 6, 2) := oq_25 (bq_in kqX9_takenTill_1 23 rfl) (bq_in kqX9_takenTill_1 24 rfl)
theorem dX9_takenTill_57 : decode cX9_takenTill 57 = .ok (.getfield 145, 3) := oq_180 (bq_in kqX9_takenTill_1 25 rfl) (bq_in kqX9_takenTill_1 26 rfl) (bq_in kqX9_takenTill_1 27 rfl) rfl
theorem dX9_takenTill_60 : decode cX9_takenTill 60 = .ok (.aload 6, 2) := oq_25 (bq_in kqX9_takenTill_1 28 rfl) (bq_in kqX9_takenTill_1 29 rfl)
theorem dX9_takenTill_62 : decode cX9_takenTill 62 = .ok (.getfield 228, 3) := oq_180 (bq_in kqX9_takenTill_1 30 rfl) (bq_in kqX9_takenTill_1 31 rfl) (bq_in kqX9_takenTill_1 32 rfl) rfl
theorem kqX9_takenTill_2 : ((cX9_takenTill.data.toList.drop 64).take 34).map UInt8.toNat = [228, 96, 184, 0, 254, 54, 4, 132, 5, 1, 167, 255, 188, 21, 4, 172] := by decide +kernel
theorem dX9_takenTill_65 : decode cX9_takenTill 65 = .ok (.iadd, 1) := oq_96 (bq_in kqX9_takenTill_2 1 rfl)
theorem dX9_takenTill_66 : decode cX9_takenTill 66 = .ok (.invokestatic 254, 3) := oq_184 (bq_in kqX9_takenTill_2 2 rfl) (bq_in kqX9_takenTill_2 3 rfl) (bq_in kqX9_takenTill_2 4 rfl) rfl
theorem dX9_takenTill_69 : decode cX9_takenTill 69 = .ok (.istore 4, 2) := oq_54 (bq_in kqX9_takenTill_2 5 rfl) (bq_in kqX9_takenTill_2 6 rfl)
theorem dX9_takenTill_71 : decode cX9_takenTill 71 = .ok (.iinc 5 1, 3) := oq_132 (bq_in kqX9_takenTill_2 7 rfl) (bq_in kqX9_takenTill_2 8 rfl) (bq_in kqX9_takenTill_2 9 rfl) rfl
theorem dX9_takenTill_74 : decode cX9_takenTill 74 = .ok (.goto (-68), 3) := oq_167 (bq_in kqX9_takenTill_2 10 rfl) (bq_in kqX9_takenTill_2 11 rfl) (bq_in kqX9_takenTill_2 12 rfl) rfl
theorem dX9_takenTill_77 : decode cX9_takenTill 77 = .ok (.iload 4, 2) := oq_21 (bq_in kqX9_takenTill_2 13 rfl) (bq_in kqX9_takenTill_2 14 rfl)
theorem dX9_takenTill_79 : decode cX9_takenTill 79 = .ok (.ireturn, 1) := oq_172 (bq_in kqX9_takenTill_2 15 rfl)
theorem kqX9_firstBegin_0 : ((cX9_firstBegin.data.toList.drop 0).take 34).map UInt8.toNat = [18, 151, 62, 3, 54, 4, 21, 4, 42, 180, 0, 20, 180, 0, 166, 162, 0, 53, 42, 180, 0, 20, 21, 4, 182, 0, 83, 58, 5, 42, 180, 0, 20, 21] := by decide +kernel
theorem dX9_firstBegin_0 : decode cX9_firstBegin 0 = .ok (.ldc 151, 2) := oq_18 (bq_in kqX9_firstBegin_0 0 rfl) (bq_in kqX9_firstBegin_0 1 rfl)
theorem dX9_firstBegin_2 : decode cX9_firstBegin 2 = .ok (.istore_n 3, 1) := oq_62 (bq_in kqX9_firstBegin_0 2 rfl)
theorem dX9_firstBegin_3 : decode cX9_firstBegin 3 = .ok (.iconst 0, 1) := oq_3 (bq_in kqX9_firstBegin_0 3 rfl)
theorem dX9_firstBegin_4 : decode cX9_firstBegin 4 = .ok (.istore 4, 2) := oq_54 (bq_in kqX9_firstBegin_0 4 rfl) (bq_in kqX9_firstBegin_0 5 rfl)
theorem dX9_firstBegin_6 : decode cX9_firstBegin 6 = .ok (.iload 4, 2) := oq_21 (bq_in kqX9_firstBegin_0 6 rfl) (bq_in kqX9_firstBegin_0 7 rfl)
theorem dX9_firstBegin_8 : decode cX9_firstBegin 8 = .ok (.aload_n 0, 1) := oq_42 (bq_in kqX9_firstBegin_0 8 rfl)
theorem dX9_firstBegin_9 : decode cX9_firstBegin 9 = .ok (.getfield 20, 3) := oq_180 (bq_in kqX9_firstBegin_0 9 rfl) (bq_in kqX9_firstBegin_0 10 rfl) (bq_in kqX9_firstBegin_0 11 rfl) rfl
theorem dX9_firstBegin_12 : decode cX9_firstBegin 12 = .ok (.getfield 166, 3) := oq_180 (bq_in kqX9_firstBegin_0 12 rfl) (bq_in kqX9_firstBegin_0 13 rfl) (bq_in kqX9_firstBegin_0 14 rfl) rfl
theorem dX9_firstBegin_15 : decode cX9_firstBegin 15 = .ok (.if_icmp .ge 53, 3) := oq_162 (bq_in kqX9_firstBegin_0 15 rfl) (bq_in kqX9_firstBegin_0 16 rfl) (bq_in kqX9_firstBegin_0 17 rfl) rfl
theorem dX9_firstBegin_18 : decode cX9_firstBegin 18 = .ok (.aload_n 0, 1) := oq_42 (bq_in kqX9_firstBegin_0 18 rfl)
theorem dX9_firstBegin_19 : decode cX9_firstBegin 19 = .ok (.getfield 20, 3) := oq_180 (bq_in kqX9_firstBegin_0 19 rfl) (bq_in kqX9_firstBegin_0 20 rfl) (bq_in kqX9_firstBegin_0 21 rfl) rfl
theorem dX9_firstBegin_22 : decode cX9_firstBegin 22 = .ok (.iload 4, 2) := oq_21 (bq_in kqX9_firstBegin_0 22 rfl) (bq_in kqX9_firstBegin_0 23 rfl)
theorem dX9_firstBegin_24 : decode cX9_firstBegin 24 = .ok (.invokevirtual 83, 3) := oq_182 (bq_in kqX9_firstBegin_0 24 rfl) (bq_in kqX9_firstBegin_0 25 rfl) (bq_in kqX9_firstBegin_0 26 rfl) rfl
theorem dX9_firstBegin_27 : decode cX9_firstBegin 27 = .ok (.astore 5, 2) := oq_58 (bq_in kqX9_firstBegin_0 27 rfl) (bq_in kqX9_firstBegin_0 28 rfl)
theorem dX9_firstBegin_29 : decode cX9_firstBegin 29 = .ok (.aload_n 0, 1) := oq_42 (bq_in kqX9_firstBegin_0 29 rfl)
theorem dX9_firstBegin_30 : decode cX9_firstBegin 30 = .ok (.getfield 20, 3) := oq_180 (bq_in kqX9_firstBegin_0 30 rfl) (bq_in kqX9_firstBegin_0 31 rfl) (bq_in kqX9_firstBegin_0 32 rfl) rfl
theorem kqX9_firstBegin_1 : ((cX9_firstBegin.data.toList.drop 32).take 34).map UInt8.toNat = [20, 21, 4, 27, 182, 0, 169, 153, 0, 23, 25, 5, 28, 3, 182, 0, 116, 153, 0, 13, 29, 25, 5, 180, 0, 145, 184, 0, 174, 62, 132, 4, 1, 167] := by decide +kernel
theorem dX9_firstBegin_33 : decode cX9_firstBegin 33 = .ok (.iload 4, 2) := oq_21 (bq_in kqX9_firstBegin_1 1 rfl) (bq_in kqX9_firstBegin_1 2 rfl)
theorem dX9_firstBegin_35 : decode cX9_firstBegin 35 = .ok (.iload_n 1, 1) := oq_27 (bq_in kqX9_firstBegin_1 3 rfl)
theorem dX9_firstBegin_36 : decode cX9_firstBegin 36 = .ok (.invokevirtual 169, 3) := oq_182 (bq_in kqX9_firstBegin_1 4 rfl) (bq_in kqX9_firstBegin_1 5 rfl) (bq_in kqX9_firstBegin_1 6 rfl) rfl
theorem dX9_firstBegin_39 : decode cX9_firstBegin 39 = .ok (.ifCond .eq 23, 3) := oq_153 (bq_in kqX9_firstBegin_1 7 rfl) (bq_in kqX9_firstBegin_1 8 rfl) (bq_in kqX9_firstBegin_1 9 rfl) rfl
theorem dX9_firstBegin_42 : decode cX9_firstBegin 42 = .ok (.aload 5, 2) := oq_25 (bq_in kqX9_firstBegin_1 10 rfl) (bq_in kqX9_firstBegin_1 11 rfl)
theorem dX9_firstBegin_44 : decode cX9_firstBegin 44 = .ok (.iload_n 2, 1) := oq_28 (bq_in kqX9_firstBegin_1 12 rfl)
theorem dX9_firstBegin_45 : decode cX9_firstBegin 45 = .ok (.iconst 0, 1) := oq_3 (bq_in kqX9_firstBegin_1 13 rfl)
theorem dX9_firstBegin_46 : decode cX9_firstBegin 46 = .ok (.invokevirtual 116, 3) := oq_182 (bq_in kqX9_firstBegin_1 14 rfl) (bq_in kqX9_firstBegin_1 15 rfl) (bq_in kqX9_firstBegin_1 16 rfl) rfl
theorem dX9_firstBegin_49 : decode cX9_firstBegin 49 = .ok (.ifCond .eq 13, 3) := oq_153 (bq_in kqX9_firstBegin_1 17 rfl) (bq_in kqX9_firstBegin_1 18 rfl) (bq_in kqX9_firstBegin_1 19 rfl) rfl
theorem dX9_firstBegin_52 : decode cX9_firstBegin 52 = .ok (.iload_n 3, 1) := oq_29 (bq_in kqX9_firstBegin_1 20 rfl)
theorem dX9_firstBegin_53 : decode cX9_firstBegin 53 = .ok (.aload 5, 2) := oq_25 (bq_in kqX9_firstBegin_1 21 rfl) (bq_in kqX9_firstBegin_1 22 rfl)
theorem dX9_firstBegin_55 : decode cX9_firstBegin 55 = .ok (.getfield 145, 3) := oq_180 (bq_in kqX9_firstBegin_1 23 rfl) (bq_in kqX9_firstBegin_1 24 rfl) (bq_in kqX9_firstBegin_1 25 rfl) rfl
theorem dX9_firstBegin_58 : decode cX9_firstBegin 58 = .ok (.invokestatic 174, 3) := oq_184 (bq_in kqX9_firstBegin_1 26 rfl) (bq_in kqX9_firstBegin_1 27 rfl) (bq_in kqX9_firstBegin_1 28 rfl) rfl
theorem dX9_firstBegin_61 : decode cX9_firstBegin 61 = .ok (.istore_n 3, 1) := oq_62 (bq_in kqX9_firstBegin_1 29 rfl)
theorem dX9_firstBegin_62 : decode cX9_firstBegin 62 = .ok (.iinc 4 1, 3) := oq_132 (bq_in kqX9_firstBegin_1 30 rfl) (bq_in kqX9_firstBegin_1 31 rfl) (bq_in kqX9_firstBegin_1 32 rfl) rfl
theorem kqX9_firstBegin_2 : ((cX9_firstBegin.data.toList.drop 64).take 34).map UInt8.toNat = [1, 167, 255, 197, 29, 172] := by decide +kernel
theorem dX9_firstBegin_65 : decode cX9_firstBegin 65 = .ok (.goto (-59), 3) := oq_167 (bq_in kqX9_firstBegin_2 1 rfl) (bq_in kqX9_firstBegin_2 2 rfl) (bq_in kqX9_firstBegin_2 3 rfl) rfl
theorem dX9_firstBegin_68 : decode cX9_firstBegin 68 = .ok (.iload_n 3, 1) := oq_29 (bq_in kqX9_firstBegin_2 4 rfl)
theorem dX9_firstBegin_69 : decode cX9_firstBegin 69 = .ok (.ireturn, 1) := oq_172 (bq_in kqX9_firstBegin_2 5 rfl)
theorem kqX9_takenMinutes_0 : ((cX9_takenMinutes.data.toList.drop 0).take 34).map UInt8.toNat = [28, 17, 5, 160, 104, 62, 29, 17, 5, 160, 96, 54, 4, 3, 54, 5, 3, 54, 6, 21, 6, 17, 5, 160, 162, 0, 61, 29, 21, 4, 162, 0, 55, 42] := by decide +kernel
theorem dX9_takenMinutes_0 : decode cX9_takenMinutes 0 = .ok (.iload_n 2, 1) := oq_28 (bq_in kqX9_takenMinutes_0 0 rfl)
theorem dX9_takenMinutes_1 : decode cX9_takenMinutes 1 = .ok (.sipush 1440, 3) := oq_17 (bq_in kqX9_takenMinutes_0 1 rfl) (bq_in kqX9_takenMinutes_0 2 rfl) (bq_in kqX9_takenMinutes_0 3 rfl) rfl
theorem dX9_takenMinutes_4 : decode cX9_takenMinutes 4 = .ok (.imul, 1) := oq_104 (bq_in kqX9_takenMinutes_0 4 rfl)
theorem dX9_takenMinutes_5 : decode cX9_takenMinutes 5 = .ok (.istore_n 3, 1) := oq_62 (bq_in kqX9_takenMinutes_0 5 rfl)
theorem dX9_takenMinutes_6 : decode cX9_takenMinutes 6 = .ok (.iload_n 3, 1) := oq_29 (bq_in kqX9_takenMinutes_0 6 rfl)
theorem dX9_takenMinutes_7 : decode cX9_takenMinutes 7 = .ok (.sipush 1440, 3) := oq_17 (bq_in kqX9_takenMinutes_0 7 rfl) (bq_in kqX9_takenMinutes_0 8 rfl) (bq_in kqX9_takenMinutes_0 9 rfl) rfl
theorem dX9_takenMinutes_10 : decode cX9_takenMinutes 10 = .ok (.iadd, 1) := oq_96 (bq_in kqX9_takenMinutes_0 10 rfl)
theorem dX9_takenMinutes_11 : decode cX9_takenMinutes 11 = .ok (.istore 4, 2) := oq_54 (bq_in kqX9_takenMinutes_0 11 rfl) (bq_in kqX9_takenMinutes_0 12 rfl)
theorem dX9_takenMinutes_13 : decode cX9_takenMinutes 13 = .ok (.iconst 0, 1) := oq_3 (bq_in kqX9_takenMinutes_0 13 rfl)
theorem dX9_takenMinutes_14 : decode cX9_takenMinutes 14 = .ok (.istore 5, 2) := oq_54 (bq_in kqX9_takenMinutes_0 14 rfl) (bq_in kqX9_takenMinutes_0 15 rfl)
theorem dX9_takenMinutes_16 : decode cX9_takenMinutes 16 = .ok (.iconst 0, 1) := oq_3 (bq_in kqX9_takenMinutes_0 16 rfl)
theorem dX9_takenMinutes_17 : decode cX9_takenMinutes 17 = .ok (.istore 6, 2) := oq_54 (bq_in kqX9_takenMinutes_0 17 rfl) (bq_in kqX9_takenMinutes_0 18 rfl)
theorem dX9_takenMinutes_19 : decode cX9_takenMinutes 19 = .ok (.iload 6, 2) := oq_21 (bq_in kqX9_takenMinutes_0 19 rfl) (bq_in kqX9_takenMinutes_0 20 rfl)
theorem dX9_takenMinutes_21 : decode cX9_takenMinutes 21 = .ok (.sipush 1440, 3) := oq_17 (bq_in kqX9_takenMinutes_0 21 rfl) (bq_in kqX9_takenMinutes_0 22 rfl) (bq_in kqX9_takenMinutes_0 23 rfl) rfl
theorem dX9_takenMinutes_24 : decode cX9_takenMinutes 24 = .ok (.if_icmp .ge 61, 3) := oq_162 (bq_in kqX9_takenMinutes_0 24 rfl) (bq_in kqX9_takenMinutes_0 25 rfl) (bq_in kqX9_takenMinutes_0 26 rfl) rfl
theorem dX9_takenMinutes_27 : decode cX9_takenMinutes 27 = .ok (.iload_n 3, 1) := oq_29 (bq_in kqX9_takenMinutes_0 27 rfl)
theorem dX9_takenMinutes_28 : decode cX9_takenMinutes 28 = .ok (.iload 4, 2) := oq_21 (bq_in kqX9_takenMinutes_0 28 rfl) (bq_in kqX9_takenMinutes_0 29 rfl)
theorem dX9_takenMinutes_30 : decode cX9_takenMinutes 30 = .ok (.if_icmp .ge 55, 3) := oq_162 (bq_in kqX9_takenMinutes_0 30 rfl) (bq_in kqX9_takenMinutes_0 31 rfl) (bq_in kqX9_takenMinutes_0 32 rfl) rfl
theorem kqX9_takenMinutes_1 : ((cX9_takenMinutes.data.toList.drop 32).take 34).map UInt8.toNat = [55, 42, 27, 29, 4, 182, 0, 179, 21, 4, 184, 0, 174, 54, 7, 21, 5, 21, 7, 29, 100, 96, 54, 5, 21, 7, 29, 164, 0, 8, 21, 7, 167, 0] := by decide +kernel
theorem dX9_takenMinutes_33 : decode cX9_takenMinutes 33 = .ok (.aload_n 0, 1) := oq_42 (bq_in kqX9_takenMinutes_1 1 rfl)
theorem dX9_takenMinutes_34 : decode cX9_takenMinutes 34 = .ok (.iload_n 1, 1) := oq_27 (bq_in kqX9_takenMinutes_1 2 rfl)
theorem dX9_takenMinutes_35 : decode cX9_takenMinutes 35 = .ok (.iload_n 3, 1) := oq_29 (bq_in kqX9_takenMinutes_1 3 rfl)
theorem dX9_takenMinutes_36 : decode cX9_takenMinutes 36 = .ok (.iconst 1, 1) := oq_4 (bq_in kqX9_takenMinutes_1 4 rfl)
theorem dX9_takenMinutes_37 : decode cX9_takenMinutes 37 = .ok (.invokevirtual 179, 3) := oq_182 (bq_in kqX9_takenMinutes_1 5 rfl) (bq_in kqX9_takenMinutes_1 6 rfl) (bq_in kqX9_takenMinutes_1 7 rfl) rfl
theorem dX9_takenMinutes_40 : decode cX9_takenMinutes 40 = .ok (.iload 4, 2) := oq_21 (bq_in kqX9_takenMinutes_1 8 rfl) (bq_in kqX9_takenMinutes_1 9 rfl)
theorem dX9_takenMinutes_42 : decode cX9_takenMinutes 42 = .ok (.invokestatic 174, 3) := oq_184 (bq_in kqX9_takenMinutes_1 10 rfl) (bq_in kqX9_takenMinutes_1 11 rfl) (bq_in kqX9_takenMinutes_1 12 rfl) rfl
theorem dX9_takenMinutes_45 : decode cX9_takenMinutes 45 = .ok (.istore 7, 2) := oq_54 (bq_in kqX9_takenMinutes_1 13 rfl) (bq_in kqX9_takenMinutes_1 14 rfl)
theorem dX9_takenMinutes_47 : decode cX9_takenMinutes 47 = .ok (.iload 5, 2) := oq_21 (bq_in kqX9_takenMinutes_1 15 rfl) (bq_in kqX9_takenMinutes_1 16 rfl)
theorem dX9_takenMinutes_49 : decode cX9_takenMinutes 49 = .ok (.iload 7, 2) := oq_21 (bq_in kqX9_takenMinutes_1 17 rfl) (bq_in kqX9_takenMinutes_1 18 rfl)
theorem dX9_takenMinutes_51 : decode cX9_takenMinutes 51 = .ok (.iload_n 3, 1) := oq_29 (bq_in kqX9_takenMinutes_1 19 rfl)
theorem dX9_takenMinutes_52 : decode cX9_takenMinutes 52 = .ok (.isub, 1) := oq_100 (bq_in kqX9_takenMinutes_1 20 rfl)
theorem dX9_takenMinutes_53 : decode cX9_takenMinutes 53 = .ok (.iadd, 1) := oq_96 (bq_in kqX9_takenMinutes_1 21 rfl)
theorem dX9_takenMinutes_54 : decode cX9_takenMinutes 54 = .ok (.istore 5, 2) := oq_54 (bq_in kqX9_takenMinutes_1 22 rfl) (bq_in kqX9_takenMinutes_1 23 rfl)
theorem dX9_takenMinutes_56 : decode cX9_takenMinutes 56 = .ok (.iload 7, 2) := oq_21 (bq_in kqX9_takenMinutes_1 24 rfl) (bq_in kqX9_takenMinutes_1 25 rfl)
theorem dX9_takenMinutes_58 : decode cX9_takenMinutes 58 = .ok (.iload_n 3, 1) := oq_29 (bq_in kqX9_takenMinutes_1 26 rfl)
theorem dX9_takenMinutes_59 : decode cX9_takenMinutes 59 = .ok (.if_icmp .le 8, 3) := oq_164 (bq_in kqX9_takenMinutes_1 27 rfl) (bq_in kqX9_takenMinutes_1 28 rfl) (bq_in kqX9_takenMinutes_1 29 rfl) rfl
theorem dX9_takenMinutes_62 : decode cX9_takenMinutes 62 = .ok (.iload 7, 2) := oq_21 (bq_in kqX9_takenMinutes_1 30 rfl) (bq_in kqX9_takenMinutes_1 31 rfl)
theorem kqX9_takenMinutes_2 : ((cX9_takenMinutes.data.toList.drop 64).take 34).map UInt8.toNat = [167, 0, 14, 42, 27, 29, 182, 1, 14, 21, 4, 184, 0, 174, 62, 132, 6, 1, 167, 255, 193, 21, 5, 172] := by decide +kernel
theorem dX9_takenMinutes_64 : decode cX9_takenMinutes 64 = .ok (.goto 14, 3) := oq_167 (bq_in kqX9_takenMinutes_2 0 rfl) (bq_in kqX9_takenMinutes_2 1 rfl) (bq_in kqX9_takenMinutes_2 2 rfl) rfl
theorem dX9_takenMinutes_67 : decode cX9_takenMinutes 67 = .ok (.aload_n 0, 1) := oq_42 (bq_in kqX9_takenMinutes_2 3 rfl)
theorem dX9_takenMinutes_68 : decode cX9_takenMinutes 68 = .ok (.iload_n 1, 1) := oq_27 (bq_in kqX9_takenMinutes_2 4 rfl)
theorem dX9_takenMinutes_69 : decode cX9_takenMinutes 69 = .ok (.iload_n 3, 1) := oq_29 (bq_in kqX9_takenMinutes_2 5 rfl)
theorem dX9_takenMinutes_70 : decode cX9_takenMinutes 70 = .ok (.invokevirtual 270, 3) := oq_182 (bq_in kqX9_takenMinutes_2 6 rfl) (bq_in kqX9_takenMinutes_2 7 rfl) (bq_in kqX9_takenMinutes_2 8 rfl) rfl
theorem dX9_takenMinutes_73 : decode cX9_takenMinutes 73 = .ok (.iload 4, 2) := oq_21 (bq_in kqX9_takenMinutes_2 9 rfl) (bq_in kqX9_takenMinutes_2 10 rfl)
theorem dX9_takenMinutes_75 : decode cX9_takenMinutes 75 = .ok (.invokestatic 174, 3) := oq_184 (bq_in kqX9_takenMinutes_2 11 rfl) (bq_in kqX9_takenMinutes_2 12 rfl) (bq_in kqX9_takenMinutes_2 13 rfl) rfl
theorem dX9_takenMinutes_78 : decode cX9_takenMinutes 78 = .ok (.istore_n 3, 1) := oq_62 (bq_in kqX9_takenMinutes_2 14 rfl)
theorem dX9_takenMinutes_79 : decode cX9_takenMinutes 79 = .ok (.iinc 6 1, 3) := oq_132 (bq_in kqX9_takenMinutes_2 15 rfl) (bq_in kqX9_takenMinutes_2 16 rfl) (bq_in kqX9_takenMinutes_2 17 rfl) rfl
theorem dX9_takenMinutes_82 : decode cX9_takenMinutes 82 = .ok (.goto (-63), 3) := oq_167 (bq_in kqX9_takenMinutes_2 18 rfl) (bq_in kqX9_takenMinutes_2 19 rfl) (bq_in kqX9_takenMinutes_2 20 rfl) rfl
theorem dX9_takenMinutes_85 : decode cX9_takenMinutes 85 = .ok (.iload 5, 2) := oq_21 (bq_in kqX9_takenMinutes_2 21 rfl) (bq_in kqX9_takenMinutes_2 22 rfl)
theorem dX9_takenMinutes_87 : decode cX9_takenMinutes 87 = .ok (.ireturn, 1) := oq_172 (bq_in kqX9_takenMinutes_2 23 rfl)
