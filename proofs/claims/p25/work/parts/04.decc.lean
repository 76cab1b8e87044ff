theorem dX5_init_0 : decode cX5_init 0 = .ok (.aload_n 0, 1) := by decide +kernel
theorem dX5_init_1 : decode cX5_init 1 = .ok (.invokespecial 3, 3) := by decide +kernel
theorem dX5_init_4 : decode cX5_init 4 = .ok (.aload_n 0, 1) := by decide +kernel
theorem dX5_init_5 : decode cX5_init 5 = .ok (.iconst 0, 1) := by decide +kernel
theorem dX5_init_6 : decode cX5_init 6 = .ok (.putfield 11, 3) := by decide +kernel
theorem dX5_init_9 : decode cX5_init 9 = .ok (.aload_n 0, 1) := by decide +kernel
theorem dX5_init_10 : decode cX5_init 10 = .ok (.iconst 0, 1) := by decide +kernel
theorem dX5_init_11 : decode cX5_init 11 = .ok (.putfield 15, 3) := by decide +kernel
theorem dX5_init_14 : decode cX5_init 14 = .ok (.aload_n 0, 1) := by decide +kernel
theorem dX5_init_15 : decode cX5_init 15 = .ok (.iconst 0, 1) := by decide +kernel
theorem dX5_init_16 : decode cX5_init 16 = .ok (.putfield 18, 3) := by decide +kernel
theorem dX5_init_19 : decode cX5_init 19 = .ok (.aload_n 0, 1) := by decide +kernel
theorem dX5_init_20 : decode cX5_init 20 = .ok (.iconst 0, 1) := by decide +kernel
theorem dX5_init_21 : decode cX5_init 21 = .ok (.putfield 21, 3) := by decide +kernel
theorem dX5_init_24 : decode cX5_init 24 = .ok (.aload_n 0, 1) := by decide +kernel
theorem dX5_init_25 : decode cX5_init 25 = .ok (.iconst 0, 1) := by decide +kernel
theorem dX5_init_26 : decode cX5_init 26 = .ok (.putfield 24, 3) := by decide +kernel
theorem dX5_init_29 : decode cX5_init 29 = .ok (.aload_n 0, 1) := by decide +kernel
theorem dX5_init_30 : decode cX5_init 30 = .ok (.iconst 0, 1) := by decide +kernel
theorem dX5_init_31 : decode cX5_init 31 = .ok (.putfield 27, 3) := by decide +kernel
theorem dX5_init_34 : decode cX5_init 34 = .ok (.aload_n 0, 1) := by decide +kernel
theorem dX5_init_35 : decode cX5_init 35 = .ok (.iconst 0, 1) := by decide +kernel
theorem dX5_init_36 : decode cX5_init 36 = .ok (.putfield 30, 3) := by decide +kernel
theorem dX5_init_39 : decode cX5_init 39 = .ok (.aload_n 0, 1) := by decide +kernel
theorem dX5_init_40 : decode cX5_init 40 = .ok (.iconst 0, 1) := by decide +kernel
theorem dX5_init_41 : decode cX5_init 41 = .ok (.putfield 33, 3) := by decide +kernel
theorem dX5_init_44 : decode cX5_init 44 = .ok (.aload_n 0, 1) := by decide +kernel
theorem dX5_init_45 : decode cX5_init 45 = .ok (.aload_n 1, 1) := by decide +kernel
theorem dX5_init_46 : decode cX5_init 46 = .ok (.putfield 36, 3) := by decide +kernel
theorem dX5_init_49 : decode cX5_init 49 = .ok (.aload_n 0, 1) := by decide +kernel
theorem dX5_init_50 : decode cX5_init 50 = .ok (.iload_n 2, 1) := by decide +kernel
theorem dX5_init_51 : decode cX5_init 51 = .ok (.aload_n 1, 1) := by decide +kernel
theorem dX5_init_52 : decode cX5_init 52 = .ok (.arraylength, 1) := by decide +kernel
theorem dX5_init_53 : decode cX5_init 53 = .ok (.invokestatic 40, 3) := by decide +kernel
theorem dX5_init_56 : decode cX5_init 56 = .ok (.putfield 46, 3) := by decide +kernel
theorem dX5_init_59 : decode cX5_init 59 = .ok (.return_, 1) := by decide +kernel
theorem dX5_read_0 : decode cX5_read 0 = .ok (.aload_n 0, 1) := by decide +kernel
theorem dX5_read_1 : decode cX5_read 1 = .ok (.invokevirtual 49, 3) := by decide +kernel
theorem dX5_read_4 : decode cX5_read 4 = .ok (.aload_n 0, 1) := by decide +kernel
theorem dX5_read_5 : decode cX5_read 5 = .ok (.aload_n 1, 1) := by decide +kernel
theorem dX5_read_6 : decode cX5_read 6 = .ok (.invokevirtual 52, 3) := by decide +kernel
theorem dX5_read_9 : decode cX5_read 9 = .ok (.ifCond .eq 38, 3) := by decide +kernel
theorem dX5_read_12 : decode cX5_read 12 = .ok (.aload_n 0, 1) := by decide +kernel
theorem dX5_read_13 : decode cX5_read 13 = .ok (.invokevirtual 56, 3) := by decide +kernel
theorem dX5_read_16 : decode cX5_read 16 = .ok (.ifCond .eq 31, 3) := by decide +kernel
theorem dX5_read_19 : decode cX5_read 19 = .ok (.aload_n 0, 1) := by decide +kernel
theorem dX5_read_20 : decode cX5_read 20 = .ok (.aload_n 1, 1) := by decide +kernel
theorem dX5_read_21 : decode cX5_read 21 = .ok (.invokevirtual 60, 3) := by decide +kernel
theorem dX5_read_24 : decode cX5_read 24 = .ok (.ifCond .eq 23, 3) := by decide +kernel
theorem dX5_read_27 : decode cX5_read 27 = .ok (.aload_n 0, 1) := by decide +kernel
theorem dX5_read_28 : decode cX5_read 28 = .ok (.getfield 11, 3) := by decide +kernel
theorem dX5_read_31 : decode cX5_read 31 = .ok (.ifCond .ne 10, 3) := by decide +kernel
theorem dX5_read_34 : decode cX5_read 34 = .ok (.aload_n 1, 1) := by decide +kernel
theorem dX5_read_35 : decode cX5_read 35 = .ok (.invokevirtual 63, 3) := by decide +kernel
theorem dX5_read_38 : decode cX5_read 38 = .ok (.goto 9, 3) := by decide +kernel
theorem dX5_read_41 : decode cX5_read 41 = .ok (.aload_n 0, 1) := by decide +kernel
theorem dX5_read_42 : decode cX5_read 42 = .ok (.iconst 1, 1) := by decide +kernel
theorem dX5_read_43 : decode cX5_read 43 = .ok (.invokevirtual 68, 3) := by decide +kernel
theorem dX5_read_46 : decode cX5_read 46 = .ok (.pop, 1) := by decide +kernel
theorem dX5_read_47 : decode cX5_read 47 = .ok (.aload_n 0, 1) := by decide +kernel
theorem dX5_read_48 : decode cX5_read 48 = .ok (.getfield 21, 3) := by decide +kernel
theorem dX5_read_51 : decode cX5_read 51 = .ok (.ireturn, 1) := by decide +kernel
theorem dX5_readPlace_0 : decode cX5_readPlace 0 = .ok (.aload_n 0, 1) := by decide +kernel
theorem dX5_readPlace_1 : decode cX5_readPlace 1 = .ok (.ldc 72, 2) := by decide +kernel
theorem dX5_readPlace_3 : decode cX5_readPlace 3 = .ok (.invokevirtual 74, 3) := by decide +kernel
theorem dX5_readPlace_6 : decode cX5_readPlace 6 = .ok (.ifCond .ne 5, 3) := by decide +kernel
theorem dX5_readPlace_9 : decode cX5_readPlace 9 = .ok (.iconst 0, 1) := by decide +kernel
theorem dX5_readPlace_10 : decode cX5_readPlace 10 = .ok (.ireturn, 1) := by decide +kernel
theorem dX5_readPlace_11 : decode cX5_readPlace 11 = .ok (.aload_n 1, 1) := by decide +kernel
theorem dX5_readPlace_12 : decode cX5_readPlace 12 = .ok (.aload_n 0, 1) := by decide +kernel
theorem dX5_readPlace_13 : decode cX5_readPlace 13 = .ok (.iconst 0, 1) := by decide +kernel
theorem dX5_readPlace_14 : decode cX5_readPlace 14 = .ok (.bipush 7, 2) := by decide +kernel
theorem dX5_readPlace_16 : decode cX5_readPlace 16 = .ok (.invokevirtual 78, 3) := by decide +kernel
theorem dX5_readPlace_19 : decode cX5_readPlace 19 = .ok (.putfield 81, 3) := by decide +kernel
theorem dX5_readPlace_22 : decode cX5_readPlace 22 = .ok (.aload_n 1, 1) := by decide +kernel
theorem dX5_readPlace_23 : decode cX5_readPlace 23 = .ok (.getfield 81, 3) := by decide +kernel
theorem dX5_readPlace_26 : decode cX5_readPlace 26 = .ok (.iconst (-1), 1) := by decide +kernel
theorem dX5_readPlace_27 : decode cX5_readPlace 27 = .ok (.if_icmp .eq 12, 3) := by decide +kernel
theorem dX5_readPlace_30 : decode cX5_readPlace 30 = .ok (.aload_n 0, 1) := by decide +kernel
theorem dX5_readPlace_31 : decode cX5_readPlace 31 = .ok (.ldc 84, 2) := by decide +kernel
theorem dX5_readPlace_33 : decode cX5_readPlace 33 = .ok (.invokevirtual 74, 3) := by decide +kernel
theorem dX5_readPlace_36 : decode cX5_readPlace 36 = .ok (.ifCond .ne 5, 3) := by decide +kernel
theorem dX5_readPlace_39 : decode cX5_readPlace 39 = .ok (.iconst 0, 1) := by decide +kernel
theorem dX5_readPlace_40 : decode cX5_readPlace 40 = .ok (.ireturn, 1) := by decide +kernel
theorem dX5_readPlace_41 : decode cX5_readPlace 41 = .ok (.aload_n 1, 1) := by decide +kernel
theorem dX5_readPlace_42 : decode cX5_readPlace 42 = .ok (.aload_n 0, 1) := by decide +kernel
theorem dX5_readPlace_43 : decode cX5_readPlace 43 = .ok (.iconst 0, 1) := by decide +kernel
theorem dX5_readPlace_44 : decode cX5_readPlace 44 = .ok (.sipush 1439, 3) := by decide +kernel
theorem dX5_readPlace_47 : decode cX5_readPlace 47 = .ok (.invokevirtual 78, 3) := by decide +kernel
theorem dX5_readPlace_50 : decode cX5_readPlace 50 = .ok (.putfield 86, 3) := by decide +kernel
theorem dX5_readPlace_53 : decode cX5_readPlace 53 = .ok (.aload_n 1, 1) := by decide +kernel
theorem dX5_readPlace_54 : decode cX5_readPlace 54 = .ok (.getfield 86, 3) := by decide +kernel
theorem dX5_readPlace_57 : decode cX5_readPlace 57 = .ok (.iconst (-1), 1) := by decide +kernel
theorem dX5_readPlace_58 : decode cX5_readPlace 58 = .ok (.if_icmp .eq 12, 3) := by decide +kernel
theorem dX5_readPlace_61 : decode cX5_readPlace 61 = .ok (.aload_n 0, 1) := by decide +kernel
theorem dX5_readPlace_62 : decode cX5_readPlace 62 = .ok (.ldc 89, 2) := by decide +kernel
theorem dX5_readPlace_64 : decode cX5_readPlace 64 = .ok (.invokevirtual 74, 3) := by decide +kernel
theorem dX5_readPlace_67 : decode cX5_readPlace 67 = .ok (.ifCond .ne 5, 3) := by decide +kernel
theorem dX5_readPlace_70 : decode cX5_readPlace 70 = .ok (.iconst 0, 1) := by decide +kernel
theorem dX5_readPlace_71 : decode cX5_readPlace 71 = .ok (.ireturn, 1) := by decide +kernel
theorem dX5_readPlace_72 : decode cX5_readPlace 72 = .ok (.aload_n 1, 1) := by decide +kernel
theorem dX5_readPlace_73 : decode cX5_readPlace 73 = .ok (.aload_n 0, 1) := by decide +kernel
theorem dX5_readPlace_74 : decode cX5_readPlace 74 = .ok (.iconst 1, 1) := by decide +kernel
theorem dX5_readPlace_75 : decode cX5_readPlace 75 = .ok (.sipush 4320, 3) := by decide +kernel
theorem dX5_readPlace_78 : decode cX5_readPlace 78 = .ok (.invokevirtual 78, 3) := by decide +kernel
theorem dX5_readPlace_81 : decode cX5_readPlace 81 = .ok (.putfield 91, 3) := by decide +kernel
theorem dX5_readPlace_84 : decode cX5_readPlace 84 = .ok (.aload_n 1, 1) := by decide +kernel
theorem dX5_readPlace_85 : decode cX5_readPlace 85 = .ok (.getfield 91, 3) := by decide +kernel
theorem dX5_readPlace_88 : decode cX5_readPlace 88 = .ok (.iconst (-1), 1) := by decide +kernel
theorem dX5_readPlace_89 : decode cX5_readPlace 89 = .ok (.if_icmp .eq 7, 3) := by decide +kernel
theorem dX5_readPlace_92 : decode cX5_readPlace 92 = .ok (.iconst 1, 1) := by decide +kernel
theorem dX5_readPlace_93 : decode cX5_readPlace 93 = .ok (.goto 4, 3) := by decide +kernel
theorem dX5_readPlace_96 : decode cX5_readPlace 96 = .ok (.iconst 0, 1) := by decide +kernel
theorem dX5_readPlace_97 : decode cX5_readPlace 97 = .ok (.ireturn, 1) := by decide +kernel
theorem dX5_readRule_0 : decode cX5_readRule 0 = .ok (.aload_n 0, 1) := by decide +kernel
theorem dX5_readRule_1 : decode cX5_readRule 1 = .ok (.ldc 92, 2) := by decide +kernel
theorem dX5_readRule_3 : decode cX5_readRule 3 = .ok (.invokevirtual 94, 3) := by decide +kernel
theorem dX5_readRule_6 : decode cX5_readRule 6 = .ok (.ifCond .eq 5, 3) := by decide +kernel
theorem dX5_readRule_9 : decode cX5_readRule 9 = .ok (.iconst 1, 1) := by decide +kernel
theorem dX5_readRule_10 : decode cX5_readRule 10 = .ok (.ireturn, 1) := by decide +kernel
theorem dX5_readRule_11 : decode cX5_readRule 11 = .ok (.aload_n 0, 1) := by decide +kernel
theorem dX5_readRule_12 : decode cX5_readRule 12 = .ok (.ldc 97, 2) := by decide +kernel
theorem dX5_readRule_14 : decode cX5_readRule 14 = .ok (.invokevirtual 74, 3) := by decide +kernel
theorem dX5_readRule_17 : decode cX5_readRule 17 = .ok (.ifCond .ne 5, 3) := by decide +kernel
theorem dX5_readRule_20 : decode cX5_readRule 20 = .ok (.iconst 0, 1) := by decide +kernel
theorem dX5_readRule_21 : decode cX5_readRule 21 = .ok (.ireturn, 1) := by decide +kernel
theorem dX5_readRule_22 : decode cX5_readRule 22 = .ok (.aload_n 0, 1) := by decide +kernel
theorem dX5_readRule_23 : decode cX5_readRule 23 = .ok (.aload_n 0, 1) := by decide +kernel
theorem dX5_readRule_24 : decode cX5_readRule 24 = .ok (.iconst 1, 1) := by decide +kernel
theorem dX5_readRule_25 : decode cX5_readRule 25 = .ok (.sipush 999, 3) := by decide +kernel
theorem dX5_readRule_28 : decode cX5_readRule 28 = .ok (.invokevirtual 78, 3) := by decide +kernel
theorem dX5_readRule_31 : decode cX5_readRule 31 = .ok (.putfield 27, 3) := by decide +kernel
theorem dX5_readRule_34 : decode cX5_readRule 34 = .ok (.aload_n 0, 1) := by decide +kernel
theorem dX5_readRule_35 : decode cX5_readRule 35 = .ok (.getfield 27, 3) := by decide +kernel
theorem dX5_readRule_38 : decode cX5_readRule 38 = .ok (.iconst (-1), 1) := by decide +kernel
theorem dX5_readRule_39 : decode cX5_readRule 39 = .ok (.if_icmp .ne 5, 3) := by decide +kernel
theorem dX5_readRule_42 : decode cX5_readRule 42 = .ok (.iconst 0, 1) := by decide +kernel
theorem dX5_readRule_43 : decode cX5_readRule 43 = .ok (.ireturn, 1) := by decide +kernel
theorem dX5_readRule_44 : decode cX5_readRule 44 = .ok (.aload_n 0, 1) := by decide +kernel
theorem dX5_readRule_45 : decode cX5_readRule 45 = .ok (.ldc 98, 2) := by decide +kernel
theorem dX5_readRule_47 : decode cX5_readRule 47 = .ok (.invokevirtual 94, 3) := by decide +kernel
theorem dX5_readRule_50 : decode cX5_readRule 50 = .ok (.ifCond .eq 10, 3) := by decide +kernel
theorem dX5_readRule_53 : decode cX5_readRule 53 = .ok (.aload_n 0, 1) := by decide +kernel
theorem dX5_readRule_54 : decode cX5_readRule 54 = .ok (.iconst 1, 1) := by decide +kernel
theorem dX5_readRule_55 : decode cX5_readRule 55 = .ok (.putfield 24, 3) := by decide +kernel
theorem dX5_readRule_58 : decode cX5_readRule 58 = .ok (.iconst 1, 1) := by decide +kernel
theorem dX5_readRule_59 : decode cX5_readRule 59 = .ok (.ireturn, 1) := by decide +kernel
theorem dX5_readRule_60 : decode cX5_readRule 60 = .ok (.aload_n 0, 1) := by decide +kernel
theorem dX5_readRule_61 : decode cX5_readRule 61 = .ok (.ldc 100, 2) := by decide +kernel
theorem dX5_readRule_63 : decode cX5_readRule 63 = .ok (.invokevirtual 94, 3) := by decide +kernel
theorem dX5_readRule_66 : decode cX5_readRule 66 = .ok (.ifCond .eq 11, 3) := by decide +kernel
theorem dX5_readRule_69 : decode cX5_readRule 69 = .ok (.aload_n 0, 1) := by decide +kernel
theorem dX5_readRule_70 : decode cX5_readRule 70 = .ok (.bipush 7, 2) := by decide +kernel
theorem dX5_readRule_72 : decode cX5_readRule 72 = .ok (.putfield 24, 3) := by decide +kernel
theorem dX5_readRule_75 : decode cX5_readRule 75 = .ok (.iconst 1, 1) := by decide +kernel
theorem dX5_readRule_76 : decode cX5_readRule 76 = .ok (.ireturn, 1) := by decide +kernel
theorem dX5_readRule_77 : decode cX5_readRule 77 = .ok (.aload_n 0, 1) := by decide +kernel
theorem dX5_readRule_78 : decode cX5_readRule 78 = .ok (.ldc 102, 2) := by decide +kernel
theorem dX5_readRule_80 : decode cX5_readRule 80 = .ok (.invokevirtual 94, 3) := by decide +kernel
theorem dX5_readRule_83 : decode cX5_readRule 83 = .ok (.ifCond .eq 13, 3) := by decide +kernel
theorem dX5_readRule_86 : decode cX5_readRule 86 = .ok (.aload_n 0, 1) := by decide +kernel
theorem dX5_readRule_87 : decode cX5_readRule 87 = .ok (.iconst 2, 1) := by decide +kernel
theorem dX5_readRule_88 : decode cX5_readRule 88 = .ok (.putfield 24, 3) := by decide +kernel
theorem dX5_readRule_91 : decode cX5_readRule 91 = .ok (.aload_n 0, 1) := by decide +kernel
theorem dX5_readRule_92 : decode cX5_readRule 92 = .ok (.invokevirtual 104, 3) := by decide +kernel
theorem dX5_readRule_95 : decode cX5_readRule 95 = .ok (.ireturn, 1) := by decide +kernel
theorem dX5_readRule_96 : decode cX5_readRule 96 = .ok (.aload_n 0, 1) := by decide +kernel
theorem dX5_readRule_97 : decode cX5_readRule 97 = .ok (.ldc 107, 2) := by decide +kernel
theorem dX5_readRule_99 : decode cX5_readRule 99 = .ok (.invokevirtual 74, 3) := by decide +kernel
theorem dX5_readRule_102 : decode cX5_readRule 102 = .ok (.ifCond .eq 14, 3) := by decide +kernel
theorem dX5_readRule_105 : decode cX5_readRule 105 = .ok (.aload_n 0, 1) := by decide +kernel
theorem dX5_readRule_106 : decode cX5_readRule 106 = .ok (.invokevirtual 109, 3) := by decide +kernel
theorem dX5_readRule_109 : decode cX5_readRule 109 = .ok (.ifCond .eq 7, 3) := by decide +kernel
theorem dX5_readRule_112 : decode cX5_readRule 112 = .ok (.iconst 1, 1) := by decide +kernel
theorem dX5_readRule_113 : decode cX5_readRule 113 = .ok (.goto 4, 3) := by decide +kernel
theorem dX5_readRule_116 : decode cX5_readRule 116 = .ok (.iconst 0, 1) := by decide +kernel
theorem dX5_readRule_117 : decode cX5_readRule 117 = .ok (.ireturn, 1) := by decide +kernel
theorem dX5_readWeekdays_0 : decode cX5_readWeekdays 0 = .ok (.iconst 0, 1) := by decide +kernel
theorem dX5_readWeekdays_1 : decode cX5_readWeekdays 1 = .ok (.istore_n 1, 1) := by decide +kernel
theorem dX5_readWeekdays_2 : decode cX5_readWeekdays 2 = .ok (.iload_n 1, 1) := by decide +kernel
theorem dX5_readWeekdays_3 : decode cX5_readWeekdays 3 = .ok (.bipush 8, 2) := by decide +kernel
theorem dX5_readWeekdays_5 : decode cX5_readWeekdays 5 = .ok (.if_icmp .ge 53, 3) := by decide +kernel
theorem dX5_readWeekdays_8 : decode cX5_readWeekdays 8 = .ok (.aload_n 0, 1) := by decide +kernel
theorem dX5_readWeekdays_9 : decode cX5_readWeekdays 9 = .ok (.invokevirtual 112, 3) := by decide +kernel
theorem dX5_readWeekdays_12 : decode cX5_readWeekdays 12 = .ok (.iconst (-1), 1) := by decide +kernel
theorem dX5_readWeekdays_13 : decode cX5_readWeekdays 13 = .ok (.if_icmp .eq 45, 3) := by decide +kernel
theorem dX5_readWeekdays_16 : decode cX5_readWeekdays 16 = .ok (.iconst 1, 1) := by decide +kernel
theorem dX5_readWeekdays_17 : decode cX5_readWeekdays 17 = .ok (.aload_n 0, 1) := by decide +kernel
theorem dX5_readWeekdays_18 : decode cX5_readWeekdays 18 = .ok (.invokevirtual 112, 3) := by decide +kernel
theorem dX5_readWeekdays_21 : decode cX5_readWeekdays 21 = .ok (.ishl, 1) := by decide +kernel
theorem dX5_readWeekdays_22 : decode cX5_readWeekdays 22 = .ok (.istore_n 2, 1) := by decide +kernel
theorem dX5_readWeekdays_23 : decode cX5_readWeekdays 23 = .ok (.aload_n 0, 1) := by decide +kernel
theorem dX5_readWeekdays_24 : decode cX5_readWeekdays 24 = .ok (.getfield 30, 3) := by decide +kernel
theorem dX5_readWeekdays_27 : decode cX5_readWeekdays 27 = .ok (.iload_n 2, 1) := by decide +kernel
theorem dX5_readWeekdays_28 : decode cX5_readWeekdays 28 = .ok (.iand, 1) := by decide +kernel
theorem dX5_readWeekdays_29 : decode cX5_readWeekdays 29 = .ok (.ifCond .eq 9, 3) := by decide +kernel
theorem dX5_readWeekdays_32 : decode cX5_readWeekdays 32 = .ok (.aload_n 0, 1) := by decide +kernel
theorem dX5_readWeekdays_33 : decode cX5_readWeekdays 33 = .ok (.iconst 2, 1) := by decide +kernel
theorem dX5_readWeekdays_34 : decode cX5_readWeekdays 34 = .ok (.invokevirtual 68, 3) := by decide +kernel
theorem dX5_readWeekdays_37 : decode cX5_readWeekdays 37 = .ok (.ireturn, 1) := by decide +kernel
theorem dX5_readWeekdays_38 : decode cX5_readWeekdays 38 = .ok (.aload_n 0, 1) := by decide +kernel
theorem dX5_readWeekdays_39 : decode cX5_readWeekdays 39 = .ok (.dup, 1) := by decide +kernel
theorem dX5_readWeekdays_40 : decode cX5_readWeekdays 40 = .ok (.getfield 30, 3) := by decide +kernel
theorem dX5_readWeekdays_43 : decode cX5_readWeekdays 43 = .ok (.iload_n 2, 1) := by decide +kernel
theorem dX5_readWeekdays_44 : decode cX5_readWeekdays 44 = .ok (.ior, 1) := by decide +kernel
theorem dX5_readWeekdays_45 : decode cX5_readWeekdays 45 = .ok (.putfield 30, 3) := by decide +kernel
theorem dX5_readWeekdays_48 : decode cX5_readWeekdays 48 = .ok (.aload_n 0, 1) := by decide +kernel
theorem dX5_readWeekdays_49 : decode cX5_readWeekdays 49 = .ok (.invokevirtual 49, 3) := by decide +kernel
theorem dX5_readWeekdays_52 : decode cX5_readWeekdays 52 = .ok (.iinc 1 1, 3) := by decide +kernel
theorem dX5_readWeekdays_55 : decode cX5_readWeekdays 55 = .ok (.goto (-53), 3) := by decide +kernel
theorem dX5_readWeekdays_58 : decode cX5_readWeekdays 58 = .ok (.aload_n 0, 1) := by decide +kernel
theorem dX5_readWeekdays_59 : decode cX5_readWeekdays 59 = .ok (.getfield 30, 3) := by decide +kernel
theorem dX5_readWeekdays_62 : decode cX5_readWeekdays 62 = .ok (.ifCond .ne 11, 3) := by decide +kernel
theorem dX5_readWeekdays_65 : decode cX5_readWeekdays 65 = .ok (.aload_n 0, 1) := by decide +kernel
theorem dX5_readWeekdays_66 : decode cX5_readWeekdays 66 = .ok (.iconst 1, 1) := by decide +kernel
theorem dX5_readWeekdays_67 : decode cX5_readWeekdays 67 = .ok (.invokevirtual 68, 3) := by decide +kernel
theorem dX5_readWeekdays_70 : decode cX5_readWeekdays 70 = .ok (.ifCond .eq 7, 3) := by decide +kernel
theorem dX5_readWeekdays_73 : decode cX5_readWeekdays 73 = .ok (.iconst 1, 1) := by decide +kernel
theorem dX5_readWeekdays_74 : decode cX5_readWeekdays 74 = .ok (.goto 4, 3) := by decide +kernel
theorem dX5_readWeekdays_77 : decode cX5_readWeekdays 77 = .ok (.iconst 0, 1) := by decide +kernel
theorem dX5_readWeekdays_78 : decode cX5_readWeekdays 78 = .ok (.ireturn, 1) := by decide +kernel
theorem dX5_readMonths_0 : decode cX5_readMonths 0 = .ok (.aload_n 0, 1) := by decide +kernel
theorem dX5_readMonths_1 : decode cX5_readMonths 1 = .ok (.ldc 116, 2) := by decide +kernel
theorem dX5_readMonths_3 : decode cX5_readMonths 3 = .ok (.invokevirtual 94, 3) := by decide +kernel
theorem dX5_readMonths_6 : decode cX5_readMonths 6 = .ok (.ifCond .eq 33, 3) := by decide +kernel
theorem dX5_readMonths_9 : decode cX5_readMonths 9 = .ok (.aload_n 0, 1) := by decide +kernel
theorem dX5_readMonths_10 : decode cX5_readMonths 10 = .ok (.iconst 3, 1) := by decide +kernel
theorem dX5_readMonths_11 : decode cX5_readMonths 11 = .ok (.putfield 24, 3) := by decide +kernel
theorem dX5_readMonths_14 : decode cX5_readMonths 14 = .ok (.aload_n 0, 1) := by decide +kernel
theorem dX5_readMonths_15 : decode cX5_readMonths 15 = .ok (.aload_n 0, 1) := by decide +kernel
theorem dX5_readMonths_16 : decode cX5_readMonths 16 = .ok (.iconst 1, 1) := by decide +kernel
theorem dX5_readMonths_17 : decode cX5_readMonths 17 = .ok (.bipush 31, 2) := by decide +kernel
theorem dX5_readMonths_19 : decode cX5_readMonths 19 = .ok (.invokevirtual 78, 3) := by decide +kernel
theorem dX5_readMonths_22 : decode cX5_readMonths 22 = .ok (.putfield 30, 3) := by decide +kernel
theorem dX5_readMonths_25 : decode cX5_readMonths 25 = .ok (.aload_n 0, 1) := by decide +kernel
theorem dX5_readMonths_26 : decode cX5_readMonths 26 = .ok (.getfield 30, 3) := by decide +kernel
theorem dX5_readMonths_29 : decode cX5_readMonths 29 = .ok (.iconst (-1), 1) := by decide +kernel
theorem dX5_readMonths_30 : decode cX5_readMonths 30 = .ok (.if_icmp .eq 7, 3) := by decide +kernel
theorem dX5_readMonths_33 : decode cX5_readMonths 33 = .ok (.iconst 1, 1) := by decide +kernel
theorem dX5_readMonths_34 : decode cX5_readMonths 34 = .ok (.goto 4, 3) := by decide +kernel
theorem dX5_readMonths_37 : decode cX5_readMonths 37 = .ok (.iconst 0, 1) := by decide +kernel
theorem dX5_readMonths_38 : decode cX5_readMonths 38 = .ok (.ireturn, 1) := by decide +kernel
theorem dX5_readMonths_39 : decode cX5_readMonths 39 = .ok (.aload_n 0, 1) := by decide +kernel
theorem dX5_readMonths_40 : decode cX5_readMonths 40 = .ok (.ldc 118, 2) := by decide +kernel
theorem dX5_readMonths_42 : decode cX5_readMonths 42 = .ok (.invokevirtual 94, 3) := by decide +kernel
theorem dX5_readMonths_45 : decode cX5_readMonths 45 = .ok (.ifCond .eq 33, 3) := by decide +kernel
theorem dX5_readMonths_48 : decode cX5_readMonths 48 = .ok (.aload_n 0, 1) := by decide +kernel
theorem dX5_readMonths_49 : decode cX5_readMonths 49 = .ok (.iconst 4, 1) := by decide +kernel
theorem dX5_readMonths_50 : decode cX5_readMonths 50 = .ok (.putfield 24, 3) := by decide +kernel
theorem dX5_readMonths_53 : decode cX5_readMonths 53 = .ok (.aload_n 0, 1) := by decide +kernel
theorem dX5_readMonths_54 : decode cX5_readMonths 54 = .ok (.aload_n 0, 1) := by decide +kernel
theorem dX5_readMonths_55 : decode cX5_readMonths 55 = .ok (.iconst 1, 1) := by decide +kernel
theorem dX5_readMonths_56 : decode cX5_readMonths 56 = .ok (.bipush 28, 2) := by decide +kernel
theorem dX5_readMonths_58 : decode cX5_readMonths 58 = .ok (.invokevirtual 78, 3) := by decide +kernel
theorem dX5_readMonths_61 : decode cX5_readMonths 61 = .ok (.putfield 30, 3) := by decide +kernel
theorem dX5_readMonths_64 : decode cX5_readMonths 64 = .ok (.aload_n 0, 1) := by decide +kernel
theorem dX5_readMonths_65 : decode cX5_readMonths 65 = .ok (.getfield 30, 3) := by decide +kernel
theorem dX5_readMonths_68 : decode cX5_readMonths 68 = .ok (.iconst (-1), 1) := by decide +kernel
theorem dX5_readMonths_69 : decode cX5_readMonths 69 = .ok (.if_icmp .eq 7, 3) := by decide +kernel
theorem dX5_readMonths_72 : decode cX5_readMonths 72 = .ok (.iconst 1, 1) := by decide +kernel
theorem dX5_readMonths_73 : decode cX5_readMonths 73 = .ok (.goto 4, 3) := by decide +kernel
theorem dX5_readMonths_76 : decode cX5_readMonths 76 = .ok (.iconst 0, 1) := by decide +kernel
theorem dX5_readMonths_77 : decode cX5_readMonths 77 = .ok (.ireturn, 1) := by decide +kernel
theorem dX5_readMonths_78 : decode cX5_readMonths 78 = .ok (.aload_n 0, 1) := by decide +kernel
theorem dX5_readMonths_79 : decode cX5_readMonths 79 = .ok (.ldc 120, 2) := by decide +kernel
theorem dX5_readMonths_81 : decode cX5_readMonths 81 = .ok (.invokevirtual 94, 3) := by decide +kernel
theorem dX5_readMonths_84 : decode cX5_readMonths 84 = .ok (.ifCond .eq 39, 3) := by decide +kernel
theorem dX5_readMonths_87 : decode cX5_readMonths 87 = .ok (.aload_n 0, 1) := by decide +kernel
theorem dX5_readMonths_88 : decode cX5_readMonths 88 = .ok (.iconst 5, 1) := by decide +kernel
theorem dX5_readMonths_89 : decode cX5_readMonths 89 = .ok (.putfield 24, 3) := by decide +kernel
theorem dX5_readMonths_92 : decode cX5_readMonths 92 = .ok (.aload_n 0, 1) := by decide +kernel
theorem dX5_readMonths_93 : decode cX5_readMonths 93 = .ok (.aload_n 0, 1) := by decide +kernel
theorem dX5_readMonths_94 : decode cX5_readMonths 94 = .ok (.iconst 1, 1) := by decide +kernel
theorem dX5_readMonths_95 : decode cX5_readMonths 95 = .ok (.iconst 5, 1) := by decide +kernel
theorem dX5_readMonths_96 : decode cX5_readMonths 96 = .ok (.invokevirtual 78, 3) := by decide +kernel
theorem dX5_readMonths_99 : decode cX5_readMonths 99 = .ok (.putfield 30, 3) := by decide +kernel
theorem dX5_readMonths_102 : decode cX5_readMonths 102 = .ok (.aload_n 0, 1) := by decide +kernel
theorem dX5_readMonths_103 : decode cX5_readMonths 103 = .ok (.getfield 30, 3) := by decide +kernel
theorem dX5_readMonths_106 : decode cX5_readMonths 106 = .ok (.iconst (-1), 1) := by decide +kernel
theorem dX5_readMonths_107 : decode cX5_readMonths 107 = .ok (.if_icmp .eq 14, 3) := by decide +kernel
theorem dX5_readMonths_110 : decode cX5_readMonths 110 = .ok (.aload_n 0, 1) := by decide +kernel
theorem dX5_readMonths_111 : decode cX5_readMonths 111 = .ok (.invokevirtual 122, 3) := by decide +kernel
theorem dX5_readMonths_114 : decode cX5_readMonths 114 = .ok (.ifCond .eq 7, 3) := by decide +kernel
theorem dX5_readMonths_117 : decode cX5_readMonths 117 = .ok (.iconst 1, 1) := by decide +kernel
theorem dX5_readMonths_118 : decode cX5_readMonths 118 = .ok (.goto 4, 3) := by decide +kernel
theorem dX5_readMonths_121 : decode cX5_readMonths 121 = .ok (.iconst 0, 1) := by decide +kernel
theorem dX5_readMonths_122 : decode cX5_readMonths 122 = .ok (.ireturn, 1) := by decide +kernel
theorem dX5_readMonths_123 : decode cX5_readMonths 123 = .ok (.aload_n 0, 1) := by decide +kernel
theorem dX5_readMonths_124 : decode cX5_readMonths 124 = .ok (.bipush 6, 2) := by decide +kernel
theorem dX5_readMonths_126 : decode cX5_readMonths 126 = .ok (.putfield 24, 3) := by decide +kernel
theorem dX5_readMonths_129 : decode cX5_readMonths 129 = .ok (.aload_n 0, 1) := by decide +kernel
theorem dX5_readMonths_130 : decode cX5_readMonths 130 = .ok (.ldc 125, 2) := by decide +kernel
theorem dX5_readMonths_132 : decode cX5_readMonths 132 = .ok (.invokevirtual 74, 3) := by decide +kernel
theorem dX5_readMonths_135 : decode cX5_readMonths 135 = .ok (.ifCond .eq 14, 3) := by decide +kernel
theorem dX5_readMonths_138 : decode cX5_readMonths 138 = .ok (.aload_n 0, 1) := by decide +kernel
theorem dX5_readMonths_139 : decode cX5_readMonths 139 = .ok (.invokevirtual 122, 3) := by decide +kernel
theorem dX5_readMonths_142 : decode cX5_readMonths 142 = .ok (.ifCond .eq 7, 3) := by decide +kernel
theorem dX5_readMonths_145 : decode cX5_readMonths 145 = .ok (.iconst 1, 1) := by decide +kernel
theorem dX5_readMonths_146 : decode cX5_readMonths 146 = .ok (.goto 4, 3) := by decide +kernel
theorem dX5_readMonths_149 : decode cX5_readMonths 149 = .ok (.iconst 0, 1) := by decide +kernel
theorem dX5_readMonths_150 : decode cX5_readMonths 150 = .ok (.ireturn, 1) := by decide +kernel
theorem dX5_readWeekday_0 : decode cX5_readWeekday 0 = .ok (.aload_n 0, 1) := by decide +kernel
theorem dX5_readWeekday_1 : decode cX5_readWeekday 1 = .ok (.aload_n 0, 1) := by decide +kernel
theorem dX5_readWeekday_2 : decode cX5_readWeekday 2 = .ok (.invokevirtual 112, 3) := by decide +kernel
theorem dX5_readWeekday_5 : decode cX5_readWeekday 5 = .ok (.putfield 33, 3) := by decide +kernel
theorem dX5_readWeekday_8 : decode cX5_readWeekday 8 = .ok (.aload_n 0, 1) := by decide +kernel
theorem dX5_readWeekday_9 : decode cX5_readWeekday 9 = .ok (.getfield 33, 3) := by decide +kernel
theorem dX5_readWeekday_12 : decode cX5_readWeekday 12 = .ok (.iconst (-1), 1) := by decide +kernel
theorem dX5_readWeekday_13 : decode cX5_readWeekday 13 = .ok (.if_icmp .ne 9, 3) := by decide +kernel
theorem dX5_readWeekday_16 : decode cX5_readWeekday 16 = .ok (.aload_n 0, 1) := by decide +kernel
theorem dX5_readWeekday_17 : decode cX5_readWeekday 17 = .ok (.iconst 1, 1) := by decide +kernel
theorem dX5_readWeekday_18 : decode cX5_readWeekday 18 = .ok (.invokevirtual 68, 3) := by decide +kernel
theorem dX5_readWeekday_21 : decode cX5_readWeekday 21 = .ok (.ireturn, 1) := by decide +kernel
theorem dX5_readWeekday_22 : decode cX5_readWeekday 22 = .ok (.aload_n 0, 1) := by decide +kernel
theorem dX5_readWeekday_23 : decode cX5_readWeekday 23 = .ok (.invokevirtual 49, 3) := by decide +kernel
theorem dX5_readWeekday_26 : decode cX5_readWeekday 26 = .ok (.iconst 1, 1) := by decide +kernel
theorem dX5_readWeekday_27 : decode cX5_readWeekday 27 = .ok (.ireturn, 1) := by decide +kernel
theorem dX5_readSpan_0 : decode cX5_readSpan 0 = .ok (.aload_n 0, 1) := by decide +kernel
theorem dX5_readSpan_1 : decode cX5_readSpan 1 = .ok (.ldc 127, 2) := by decide +kernel
theorem dX5_readSpan_3 : decode cX5_readSpan 3 = .ok (.invokevirtual 74, 3) := by decide +kernel
theorem dX5_readSpan_6 : decode cX5_readSpan 6 = .ok (.ifCond .ne 5, 3) := by decide +kernel
theorem dX5_readSpan_9 : decode cX5_readSpan 9 = .ok (.iconst 0, 1) := by decide +kernel
theorem dX5_readSpan_10 : decode cX5_readSpan 10 = .ok (.ireturn, 1) := by decide +kernel
theorem dX5_readSpan_11 : decode cX5_readSpan 11 = .ok (.aload_n 0, 1) := by decide +kernel
theorem dX5_readSpan_12 : decode cX5_readSpan 12 = .ok (.invokevirtual 129, 3) := by decide +kernel
theorem dX5_readSpan_15 : decode cX5_readSpan 15 = .ok (.istore_n 2, 1) := by decide +kernel
theorem dX5_readSpan_16 : decode cX5_readSpan 16 = .ok (.iload_n 2, 1) := by decide +kernel
theorem dX5_readSpan_17 : decode cX5_readSpan 17 = .ok (.iconst (-1), 1) := by decide +kernel
theorem dX5_readSpan_18 : decode cX5_readSpan 18 = .ok (.if_icmp .ne 5, 3) := by decide +kernel
theorem dX5_readSpan_21 : decode cX5_readSpan 21 = .ok (.iconst 0, 1) := by decide +kernel
theorem dX5_readSpan_22 : decode cX5_readSpan 22 = .ok (.ireturn, 1) := by decide +kernel
theorem dX5_readSpan_23 : decode cX5_readSpan 23 = .ok (.aload_n 1, 1) := by decide +kernel
theorem dX5_readSpan_24 : decode cX5_readSpan 24 = .ok (.aload_n 0, 1) := by decide +kernel
theorem dX5_readSpan_25 : decode cX5_readSpan 25 = .ok (.iload_n 2, 1) := by decide +kernel
theorem dX5_readSpan_26 : decode cX5_readSpan 26 = .ok (.invokevirtual 132, 3) := by decide +kernel
theorem dX5_readSpan_29 : decode cX5_readSpan 29 = .ok (.invokevirtual 136, 3) := by decide +kernel
theorem dX5_readSpan_32 : decode cX5_readSpan 32 = .ok (.aload_n 0, 1) := by decide +kernel
theorem dX5_readSpan_33 : decode cX5_readSpan 33 = .ok (.ldc 140, 2) := by decide +kernel
theorem dX5_readSpan_35 : decode cX5_readSpan 35 = .ok (.invokevirtual 94, 3) := by decide +kernel
theorem dX5_readSpan_38 : decode cX5_readSpan 38 = .ok (.ifCond .eq 29, 3) := by decide +kernel
theorem dX5_readSpan_41 : decode cX5_readSpan 41 = .ok (.aload_n 1, 1) := by decide +kernel
theorem dX5_readSpan_42 : decode cX5_readSpan 42 = .ok (.aload_n 0, 1) := by decide +kernel
theorem dX5_readSpan_43 : decode cX5_readSpan 43 = .ok (.iconst 1, 1) := by decide +kernel
theorem dX5_readSpan_44 : decode cX5_readSpan 44 = .ok (.sipush 999, 3) := by decide +kernel
theorem dX5_readSpan_47 : decode cX5_readSpan 47 = .ok (.invokevirtual 78, 3) := by decide +kernel
theorem dX5_readSpan_50 : decode cX5_readSpan 50 = .ok (.putfield 142, 3) := by decide +kernel
theorem dX5_readSpan_53 : decode cX5_readSpan 53 = .ok (.aload_n 1, 1) := by decide +kernel
theorem dX5_readSpan_54 : decode cX5_readSpan 54 = .ok (.getfield 142, 3) := by decide +kernel
theorem dX5_readSpan_57 : decode cX5_readSpan 57 = .ok (.iconst (-1), 1) := by decide +kernel
theorem dX5_readSpan_58 : decode cX5_readSpan 58 = .ok (.if_icmp .eq 7, 3) := by decide +kernel
theorem dX5_readSpan_61 : decode cX5_readSpan 61 = .ok (.iconst 1, 1) := by decide +kernel
theorem dX5_readSpan_62 : decode cX5_readSpan 62 = .ok (.goto 4, 3) := by decide +kernel
theorem dX5_readSpan_65 : decode cX5_readSpan 65 = .ok (.iconst 0, 1) := by decide +kernel
theorem dX5_readSpan_66 : decode cX5_readSpan 66 = .ok (.ireturn, 1) := by decide +kernel
theorem dX5_readSpan_67 : decode cX5_readSpan 67 = .ok (.aload_n 0, 1) := by decide +kernel
theorem dX5_readSpan_68 : decode cX5_readSpan 68 = .ok (.ldc 144, 2) := by decide +kernel
theorem dX5_readSpan_70 : decode cX5_readSpan 70 = .ok (.invokevirtual 94, 3) := by decide +kernel
theorem dX5_readSpan_73 : decode cX5_readSpan 73 = .ok (.ifCond .eq 12, 3) := by decide +kernel
theorem dX5_readSpan_76 : decode cX5_readSpan 76 = .ok (.aload_n 0, 1) := by decide +kernel
theorem dX5_readSpan_77 : decode cX5_readSpan 77 = .ok (.aload_n 1, 1) := by decide +kernel
theorem dX5_readSpan_78 : decode cX5_readSpan 78 = .ok (.iload_n 2, 1) := by decide +kernel
theorem dX5_readSpan_79 : decode cX5_readSpan 79 = .ok (.invokevirtual 146, 3) := by decide +kernel
theorem dX5_readSpan_82 : decode cX5_readSpan 82 = .ok (.ifCond .eq 7, 3) := by decide +kernel
theorem dX5_readSpan_85 : decode cX5_readSpan 85 = .ok (.iconst 1, 1) := by decide +kernel
theorem dX5_readSpan_86 : decode cX5_readSpan 86 = .ok (.goto 4, 3) := by decide +kernel
theorem dX5_readSpan_89 : decode cX5_readSpan 89 = .ok (.iconst 0, 1) := by decide +kernel
theorem dX5_readSpan_90 : decode cX5_readSpan 90 = .ok (.ireturn, 1) := by decide +kernel
theorem dX5_readUntil_0 : decode cX5_readUntil 0 = .ok (.aload_n 0, 1) := by decide +kernel
theorem dX5_readUntil_1 : decode cX5_readUntil 1 = .ok (.getfield 15, 3) := by decide +kernel
theorem dX5_readUntil_4 : decode cX5_readUntil 4 = .ok (.istore_n 3, 1) := by decide +kernel
theorem dX5_readUntil_5 : decode cX5_readUntil 5 = .ok (.aload_n 1, 1) := by decide +kernel
theorem dX5_readUntil_6 : decode cX5_readUntil 6 = .ok (.aload_n 0, 1) := by decide +kernel
theorem dX5_readUntil_7 : decode cX5_readUntil 7 = .ok (.invokevirtual 129, 3) := by decide +kernel
theorem dX5_readUntil_10 : decode cX5_readUntil 10 = .ok (.putfield 150, 3) := by decide +kernel
theorem dX5_readUntil_13 : decode cX5_readUntil 13 = .ok (.aload_n 1, 1) := by decide +kernel
theorem dX5_readUntil_14 : decode cX5_readUntil 14 = .ok (.getfield 150, 3) := by decide +kernel
theorem dX5_readUntil_17 : decode cX5_readUntil 17 = .ok (.iconst (-1), 1) := by decide +kernel
theorem dX5_readUntil_18 : decode cX5_readUntil 18 = .ok (.if_icmp .ne 5, 3) := by decide +kernel
theorem dX5_readUntil_21 : decode cX5_readUntil 21 = .ok (.iconst 0, 1) := by decide +kernel
theorem dX5_readUntil_22 : decode cX5_readUntil 22 = .ok (.ireturn, 1) := by decide +kernel
theorem dX5_readUntil_23 : decode cX5_readUntil 23 = .ok (.aload_n 1, 1) := by decide +kernel
theorem dX5_readUntil_24 : decode cX5_readUntil 24 = .ok (.getfield 150, 3) := by decide +kernel
theorem dX5_readUntil_27 : decode cX5_readUntil 27 = .ok (.iload_n 2, 1) := by decide +kernel
theorem dX5_readUntil_28 : decode cX5_readUntil 28 = .ok (.if_icmp .ge 15, 3) := by decide +kernel
theorem dX5_readUntil_31 : decode cX5_readUntil 31 = .ok (.aload_n 0, 1) := by decide +kernel
theorem dX5_readUntil_32 : decode cX5_readUntil 32 = .ok (.bipush 8, 2) := by decide +kernel
theorem dX5_readUntil_34 : decode cX5_readUntil 34 = .ok (.iload_n 3, 1) := by decide +kernel
theorem dX5_readUntil_35 : decode cX5_readUntil 35 = .ok (.imul, 1) := by decide +kernel
theorem dX5_readUntil_36 : decode cX5_readUntil 36 = .ok (.iconst 3, 1) := by decide +kernel
theorem dX5_readUntil_37 : decode cX5_readUntil 37 = .ok (.iadd, 1) := by decide +kernel
theorem dX5_readUntil_38 : decode cX5_readUntil 38 = .ok (.putfield 21, 3) := by decide +kernel
theorem dX5_readUntil_41 : decode cX5_readUntil 41 = .ok (.iconst 0, 1) := by decide +kernel
theorem dX5_readUntil_42 : decode cX5_readUntil 42 = .ok (.ireturn, 1) := by decide +kernel
theorem dX5_readUntil_43 : decode cX5_readUntil 43 = .ok (.iconst 1, 1) := by decide +kernel
theorem dX5_readUntil_44 : decode cX5_readUntil 44 = .ok (.ireturn, 1) := by decide +kernel
theorem dX5_readDate_0 : decode cX5_readDate 0 = .ok (.aload_n 0, 1) := by decide +kernel
theorem dX5_readDate_1 : decode cX5_readDate 1 = .ok (.sipush 2000, 3) := by decide +kernel
theorem dX5_readDate_4 : decode cX5_readDate 4 = .ok (.sipush 2099, 3) := by decide +kernel
theorem dX5_readDate_7 : decode cX5_readDate 7 = .ok (.invokevirtual 78, 3) := by decide +kernel
theorem dX5_readDate_10 : decode cX5_readDate 10 = .ok (.istore_n 1, 1) := by decide +kernel
theorem dX5_readDate_11 : decode cX5_readDate 11 = .ok (.iload_n 1, 1) := by decide +kernel
theorem dX5_readDate_12 : decode cX5_readDate 12 = .ok (.iconst (-1), 1) := by decide +kernel
theorem dX5_readDate_13 : decode cX5_readDate 13 = .ok (.if_icmp .ne 5, 3) := by decide +kernel
theorem dX5_readDate_16 : decode cX5_readDate 16 = .ok (.iconst (-1), 1) := by decide +kernel
theorem dX5_readDate_17 : decode cX5_readDate 17 = .ok (.ireturn, 1) := by decide +kernel
theorem dX5_readDate_18 : decode cX5_readDate 18 = .ok (.aload_n 0, 1) := by decide +kernel
theorem dX5_readDate_19 : decode cX5_readDate 19 = .ok (.iconst 1, 1) := by decide +kernel
theorem dX5_readDate_20 : decode cX5_readDate 20 = .ok (.bipush 12, 2) := by decide +kernel
theorem dX5_readDate_22 : decode cX5_readDate 22 = .ok (.invokevirtual 78, 3) := by decide +kernel
theorem dX5_readDate_25 : decode cX5_readDate 25 = .ok (.istore_n 2, 1) := by decide +kernel
theorem dX5_readDate_26 : decode cX5_readDate 26 = .ok (.iload_n 2, 1) := by decide +kernel
theorem dX5_readDate_27 : decode cX5_readDate 27 = .ok (.iconst (-1), 1) := by decide +kernel
theorem dX5_readDate_28 : decode cX5_readDate 28 = .ok (.if_icmp .ne 5, 3) := by decide +kernel
theorem dX5_readDate_31 : decode cX5_readDate 31 = .ok (.iconst (-1), 1) := by decide +kernel
theorem dX5_readDate_32 : decode cX5_readDate 32 = .ok (.ireturn, 1) := by decide +kernel
theorem dX5_readDate_33 : decode cX5_readDate 33 = .ok (.aload_n 0, 1) := by decide +kernel
theorem dX5_readDate_34 : decode cX5_readDate 34 = .ok (.iconst 1, 1) := by decide +kernel
theorem dX5_readDate_35 : decode cX5_readDate 35 = .ok (.iload_n 1, 1) := by decide +kernel
theorem dX5_readDate_36 : decode cX5_readDate 36 = .ok (.iload_n 2, 1) := by decide +kernel
theorem dX5_readDate_37 : decode cX5_readDate 37 = .ok (.invokestatic 152, 3) := by decide +kernel
theorem dX5_readDate_40 : decode cX5_readDate 40 = .ok (.invokevirtual 78, 3) := by decide +kernel
theorem dX5_readDate_43 : decode cX5_readDate 43 = .ok (.istore_n 3, 1) := by decide +kernel
theorem dX5_readDate_44 : decode cX5_readDate 44 = .ok (.iload_n 3, 1) := by decide +kernel
theorem dX5_readDate_45 : decode cX5_readDate 45 = .ok (.iconst (-1), 1) := by decide +kernel
theorem dX5_readDate_46 : decode cX5_readDate 46 = .ok (.if_icmp .ne 5, 3) := by decide +kernel
theorem dX5_readDate_49 : decode cX5_readDate 49 = .ok (.iconst (-1), 1) := by decide +kernel
theorem dX5_readDate_50 : decode cX5_readDate 50 = .ok (.ireturn, 1) := by decide +kernel
theorem dX5_readDate_51 : decode cX5_readDate 51 = .ok (.iload_n 1, 1) := by decide +kernel
theorem dX5_readDate_52 : decode cX5_readDate 52 = .ok (.iload_n 2, 1) := by decide +kernel
theorem dX5_readDate_53 : decode cX5_readDate 53 = .ok (.invokestatic 157, 3) := by decide +kernel
theorem dX5_readDate_56 : decode cX5_readDate 56 = .ok (.invokestatic 160, 3) := by decide +kernel
theorem dX5_readDate_59 : decode cX5_readDate 59 = .ok (.iload_n 3, 1) := by decide +kernel
theorem dX5_readDate_60 : decode cX5_readDate 60 = .ok (.iadd, 1) := by decide +kernel
theorem dX5_readDate_61 : decode cX5_readDate 61 = .ok (.iconst 1, 1) := by decide +kernel
theorem dX5_readDate_62 : decode cX5_readDate 62 = .ok (.isub, 1) := by decide +kernel
theorem dX5_readDate_63 : decode cX5_readDate 63 = .ok (.ireturn, 1) := by decide +kernel
theorem dX5_makeRule_0 : decode cX5_makeRule 0 = .ok (.aload_n 0, 1) := by decide +kernel
theorem dX5_makeRule_1 : decode cX5_makeRule 1 = .ok (.getfield 24, 3) := by decide +kernel
theorem dX5_makeRule_4 : decode cX5_makeRule 4 = .ok (.tableswitch 67 0 2 #[28, 37, 50], 28) := by decide +kernel
theorem dX5_makeRule_32 : decode cX5_makeRule 32 = .ok (.new 164, 3) := by decide +kernel
theorem dX5_makeRule_35 : decode cX5_makeRule 35 = .ok (.dup, 1) := by decide +kernel
theorem dX5_makeRule_36 : decode cX5_makeRule 36 = .ok (.iload_n 1, 1) := by decide +kernel
theorem dX5_makeRule_37 : decode cX5_makeRule 37 = .ok (.invokespecial 166, 3) := by decide +kernel
theorem dX5_makeRule_40 : decode cX5_makeRule 40 = .ok (.areturn, 1) := by decide +kernel
theorem dX5_makeRule_41 : decode cX5_makeRule 41 = .ok (.new 169, 3) := by decide +kernel
theorem dX5_makeRule_44 : decode cX5_makeRule 44 = .ok (.dup, 1) := by decide +kernel
theorem dX5_makeRule_45 : decode cX5_makeRule 45 = .ok (.aload_n 0, 1) := by decide +kernel
theorem dX5_makeRule_46 : decode cX5_makeRule 46 = .ok (.getfield 27, 3) := by decide +kernel
theorem dX5_makeRule_49 : decode cX5_makeRule 49 = .ok (.iload_n 1, 1) := by decide +kernel
theorem dX5_makeRule_50 : decode cX5_makeRule 50 = .ok (.invokespecial 171, 3) := by decide +kernel
theorem dX5_makeRule_53 : decode cX5_makeRule 53 = .ok (.areturn, 1) := by decide +kernel
theorem dX5_makeRule_54 : decode cX5_makeRule 54 = .ok (.new 174, 3) := by decide +kernel
theorem dX5_makeRule_57 : decode cX5_makeRule 57 = .ok (.dup, 1) := by decide +kernel
theorem dX5_makeRule_58 : decode cX5_makeRule 58 = .ok (.aload_n 0, 1) := by decide +kernel
theorem dX5_makeRule_59 : decode cX5_makeRule 59 = .ok (.getfield 27, 3) := by decide +kernel
theorem dX5_makeRule_62 : decode cX5_makeRule 62 = .ok (.iload_n 1, 1) := by decide +kernel
theorem dX5_makeRule_63 : decode cX5_makeRule 63 = .ok (.aload_n 0, 1) := by decide +kernel
theorem dX5_makeRule_64 : decode cX5_makeRule 64 = .ok (.getfield 30, 3) := by decide +kernel
theorem dX5_makeRule_67 : decode cX5_makeRule 67 = .ok (.invokespecial 176, 3) := by decide +kernel
theorem dX5_makeRule_70 : decode cX5_makeRule 70 = .ok (.areturn, 1) := by decide +kernel
theorem dX5_makeRule_71 : decode cX5_makeRule 71 = .ok (.new 179, 3) := by decide +kernel
theorem dX5_makeRule_74 : decode cX5_makeRule 74 = .ok (.dup, 1) := by decide +kernel
theorem dX5_makeRule_75 : decode cX5_makeRule 75 = .ok (.aload_n 0, 1) := by decide +kernel
theorem dX5_makeRule_76 : decode cX5_makeRule 76 = .ok (.getfield 24, 3) := by decide +kernel
theorem dX5_makeRule_79 : decode cX5_makeRule 79 = .ok (.aload_n 0, 1) := by decide +kernel
theorem dX5_makeRule_80 : decode cX5_makeRule 80 = .ok (.getfield 27, 3) := by decide +kernel
theorem dX5_makeRule_83 : decode cX5_makeRule 83 = .ok (.iload_n 1, 1) := by decide +kernel
theorem dX5_makeRule_84 : decode cX5_makeRule 84 = .ok (.aload_n 0, 1) := by decide +kernel
theorem dX5_makeRule_85 : decode cX5_makeRule 85 = .ok (.getfield 30, 3) := by decide +kernel
theorem dX5_makeRule_88 : decode cX5_makeRule 88 = .ok (.aload_n 0, 1) := by decide +kernel
theorem dX5_makeRule_89 : decode cX5_makeRule 89 = .ok (.getfield 33, 3) := by decide +kernel
theorem dX5_makeRule_92 : decode cX5_makeRule 92 = .ok (.invokespecial 181, 3) := by decide +kernel
theorem dX5_makeRule_95 : decode cX5_makeRule 95 = .ok (.areturn, 1) := by decide +kernel
theorem dX5_refuse_0 : decode cX5_refuse 0 = .ok (.aload_n 0, 1) := by decide +kernel
theorem dX5_refuse_1 : decode cX5_refuse 1 = .ok (.bipush 8, 2) := by decide +kernel
theorem dX5_refuse_3 : decode cX5_refuse 3 = .ok (.aload_n 0, 1) := by decide +kernel
theorem dX5_refuse_4 : decode cX5_refuse 4 = .ok (.getfield 15, 3) := by decide +kernel
theorem dX5_refuse_7 : decode cX5_refuse 7 = .ok (.imul, 1) := by decide +kernel
theorem dX5_refuse_8 : decode cX5_refuse 8 = .ok (.iload_n 1, 1) := by decide +kernel
theorem dX5_refuse_9 : decode cX5_refuse 9 = .ok (.iadd, 1) := by decide +kernel
theorem dX5_refuse_10 : decode cX5_refuse 10 = .ok (.putfield 21, 3) := by decide +kernel
theorem dX5_refuse_13 : decode cX5_refuse 13 = .ok (.iconst 0, 1) := by decide +kernel
theorem dX5_refuse_14 : decode cX5_refuse 14 = .ok (.ireturn, 1) := by decide +kernel
theorem dX5_require_0 : decode cX5_require 0 = .ok (.aload_n 0, 1) := by decide +kernel
theorem dX5_require_1 : decode cX5_require 1 = .ok (.aload_n 1, 1) := by decide +kernel
theorem dX5_require_2 : decode cX5_require 2 = .ok (.invokevirtual 94, 3) := by decide +kernel
theorem dX5_require_5 : decode cX5_require 5 = .ok (.ifCond .ne 11, 3) := by decide +kernel
theorem dX5_require_8 : decode cX5_require 8 = .ok (.aload_n 0, 1) := by decide +kernel
theorem dX5_require_9 : decode cX5_require 9 = .ok (.iconst 1, 1) := by decide +kernel
theorem dX5_require_10 : decode cX5_require 10 = .ok (.invokevirtual 68, 3) := by decide +kernel
theorem dX5_require_13 : decode cX5_require 13 = .ok (.ifCond .eq 7, 3) := by decide +kernel
theorem dX5_require_16 : decode cX5_require 16 = .ok (.iconst 1, 1) := by decide +kernel
theorem dX5_require_17 : decode cX5_require 17 = .ok (.goto 4, 3) := by decide +kernel
theorem dX5_require_20 : decode cX5_require 20 = .ok (.iconst 0, 1) := by decide +kernel
theorem dX5_require_21 : decode cX5_require 21 = .ok (.ireturn, 1) := by decide +kernel
theorem dX5_take_0 : decode cX5_take 0 = .ok (.aload_n 0, 1) := by decide +kernel
theorem dX5_take_1 : decode cX5_take 1 = .ok (.getfield 11, 3) := by decide +kernel
theorem dX5_take_4 : decode cX5_take 4 = .ok (.iconst 1, 1) := by decide +kernel
theorem dX5_take_5 : decode cX5_take 5 = .ok (.if_icmp .ne 28, 3) := by decide +kernel
theorem dX5_take_8 : decode cX5_take 8 = .ok (.aload_n 0, 1) := by decide +kernel
theorem dX5_take_9 : decode cX5_take 9 = .ok (.getfield 18, 3) := by decide +kernel
theorem dX5_take_12 : decode cX5_take 12 = .ok (.aload_n 0, 1) := by decide +kernel
theorem dX5_take_13 : decode cX5_take 13 = .ok (.getfield 15, 3) := by decide +kernel
theorem dX5_take_16 : decode cX5_take 16 = .ok (.isub, 1) := by decide +kernel
theorem dX5_take_17 : decode cX5_take 17 = .ok (.aload_n 1, 1) := by decide +kernel
theorem dX5_take_18 : decode cX5_take 18 = .ok (.invokevirtual 184, 3) := by decide +kernel
theorem dX5_take_21 : decode cX5_take 21 = .ok (.if_icmp .ne 12, 3) := by decide +kernel
theorem dX5_take_24 : decode cX5_take 24 = .ok (.aload_n 0, 1) := by decide +kernel
theorem dX5_take_25 : decode cX5_take 25 = .ok (.aload_n 1, 1) := by decide +kernel
theorem dX5_take_26 : decode cX5_take 26 = .ok (.iconst 0, 1) := by decide +kernel
theorem dX5_take_27 : decode cX5_take 27 = .ok (.invokevirtual 188, 3) := by decide +kernel
theorem dX5_take_30 : decode cX5_take 30 = .ok (.ifCond .ne 5, 3) := by decide +kernel
theorem dX5_take_33 : decode cX5_take 33 = .ok (.iconst 0, 1) := by decide +kernel
theorem dX5_take_34 : decode cX5_take 34 = .ok (.ireturn, 1) := by decide +kernel
theorem dX5_take_35 : decode cX5_take 35 = .ok (.aload_n 0, 1) := by decide +kernel
theorem dX5_take_36 : decode cX5_take 36 = .ok (.invokevirtual 49, 3) := by decide +kernel
theorem dX5_take_39 : decode cX5_take 39 = .ok (.iconst 1, 1) := by decide +kernel
theorem dX5_take_40 : decode cX5_take 40 = .ok (.ireturn, 1) := by decide +kernel
theorem dX5_takeNumber_0 : decode cX5_takeNumber 0 = .ok (.aload_n 0, 1) := by decide +kernel
theorem dX5_takeNumber_1 : decode cX5_takeNumber 1 = .ok (.getfield 11, 3) := by decide +kernel
theorem dX5_takeNumber_4 : decode cX5_takeNumber 4 = .ok (.iconst 2, 1) := by decide +kernel
theorem dX5_takeNumber_5 : decode cX5_takeNumber 5 = .ok (.if_icmp .ne 16, 3) := by decide +kernel
theorem dX5_takeNumber_8 : decode cX5_takeNumber 8 = .ok (.aload_n 0, 1) := by decide +kernel
theorem dX5_takeNumber_9 : decode cX5_takeNumber 9 = .ok (.getfield 18, 3) := by decide +kernel
theorem dX5_takeNumber_12 : decode cX5_takeNumber 12 = .ok (.aload_n 0, 1) := by decide +kernel
theorem dX5_takeNumber_13 : decode cX5_takeNumber 13 = .ok (.getfield 15, 3) := by decide +kernel
theorem dX5_takeNumber_16 : decode cX5_takeNumber 16 = .ok (.isub, 1) := by decide +kernel
theorem dX5_takeNumber_17 : decode cX5_takeNumber 17 = .ok (.iconst 4, 1) := by decide +kernel
theorem dX5_takeNumber_18 : decode cX5_takeNumber 18 = .ok (.if_icmp .le 11, 3) := by decide +kernel
theorem dX5_takeNumber_21 : decode cX5_takeNumber 21 = .ok (.aload_n 0, 1) := by decide +kernel
theorem dX5_takeNumber_22 : decode cX5_takeNumber 22 = .ok (.iconst 1, 1) := by decide +kernel
theorem dX5_takeNumber_23 : decode cX5_takeNumber 23 = .ok (.invokevirtual 68, 3) := by decide +kernel
theorem dX5_takeNumber_26 : decode cX5_takeNumber 26 = .ok (.pop, 1) := by decide +kernel
theorem dX5_takeNumber_27 : decode cX5_takeNumber 27 = .ok (.iconst (-1), 1) := by decide +kernel
theorem dX5_takeNumber_28 : decode cX5_takeNumber 28 = .ok (.ireturn, 1) := by decide +kernel
theorem dX5_takeNumber_29 : decode cX5_takeNumber 29 = .ok (.iconst 0, 1) := by decide +kernel
theorem dX5_takeNumber_30 : decode cX5_takeNumber 30 = .ok (.istore_n 3, 1) := by decide +kernel
theorem dX5_takeNumber_31 : decode cX5_takeNumber 31 = .ok (.aload_n 0, 1) := by decide +kernel
theorem dX5_takeNumber_32 : decode cX5_takeNumber 32 = .ok (.getfield 15, 3) := by decide +kernel
theorem dX5_takeNumber_35 : decode cX5_takeNumber 35 = .ok (.istore 4, 2) := by decide +kernel
theorem dX5_takeNumber_37 : decode cX5_takeNumber 37 = .ok (.iload 4, 2) := by decide +kernel
theorem dX5_takeNumber_39 : decode cX5_takeNumber 39 = .ok (.aload_n 0, 1) := by decide +kernel
theorem dX5_takeNumber_40 : decode cX5_takeNumber 40 = .ok (.getfield 18, 3) := by decide +kernel
theorem dX5_takeNumber_43 : decode cX5_takeNumber 43 = .ok (.if_icmp .ge 25, 3) := by decide +kernel
theorem dX5_takeNumber_46 : decode cX5_takeNumber 46 = .ok (.bipush 10, 2) := by decide +kernel
theorem dX5_takeNumber_48 : decode cX5_takeNumber 48 = .ok (.iload_n 3, 1) := by decide +kernel
theorem dX5_takeNumber_49 : decode cX5_takeNumber 49 = .ok (.imul, 1) := by decide +kernel
theorem dX5_takeNumber_50 : decode cX5_takeNumber 50 = .ok (.aload_n 0, 1) := by decide +kernel
theorem dX5_takeNumber_51 : decode cX5_takeNumber 51 = .ok (.getfield 36, 3) := by decide +kernel
theorem dX5_takeNumber_54 : decode cX5_takeNumber 54 = .ok (.iload 4, 2) := by decide +kernel
theorem dX5_takeNumber_56 : decode cX5_takeNumber 56 = .ok (.caload, 1) := by decide +kernel
theorem dX5_takeNumber_57 : decode cX5_takeNumber 57 = .ok (.iadd, 1) := by decide +kernel
theorem dX5_takeNumber_58 : decode cX5_takeNumber 58 = .ok (.bipush 48, 2) := by decide +kernel
theorem dX5_takeNumber_60 : decode cX5_takeNumber 60 = .ok (.isub, 1) := by decide +kernel
theorem dX5_takeNumber_61 : decode cX5_takeNumber 61 = .ok (.istore_n 3, 1) := by decide +kernel
theorem dX5_takeNumber_62 : decode cX5_takeNumber 62 = .ok (.iinc 4 1, 3) := by decide +kernel
theorem dX5_takeNumber_65 : decode cX5_takeNumber 65 = .ok (.goto (-28), 3) := by decide +kernel
theorem dX5_takeNumber_68 : decode cX5_takeNumber 68 = .ok (.iload_n 3, 1) := by decide +kernel
theorem dX5_takeNumber_69 : decode cX5_takeNumber 69 = .ok (.iload_n 1, 1) := by decide +kernel
theorem dX5_takeNumber_70 : decode cX5_takeNumber 70 = .ok (.if_icmp .lt 8, 3) := by decide +kernel
theorem dX5_takeNumber_73 : decode cX5_takeNumber 73 = .ok (.iload_n 3, 1) := by decide +kernel
theorem dX5_takeNumber_74 : decode cX5_takeNumber 74 = .ok (.iload_n 2, 1) := by decide +kernel
theorem dX5_takeNumber_75 : decode cX5_takeNumber 75 = .ok (.if_icmp .le 11, 3) := by decide +kernel
theorem dX5_takeNumber_78 : decode cX5_takeNumber 78 = .ok (.aload_n 0, 1) := by decide +kernel
theorem dX5_takeNumber_79 : decode cX5_takeNumber 79 = .ok (.iconst 2, 1) := by decide +kernel
theorem dX5_takeNumber_80 : decode cX5_takeNumber 80 = .ok (.invokevirtual 68, 3) := by decide +kernel
theorem dX5_takeNumber_83 : decode cX5_takeNumber 83 = .ok (.pop, 1) := by decide +kernel
theorem dX5_takeNumber_84 : decode cX5_takeNumber 84 = .ok (.iconst (-1), 1) := by decide +kernel
theorem dX5_takeNumber_85 : decode cX5_takeNumber 85 = .ok (.ireturn, 1) := by decide +kernel
theorem dX5_takeNumber_86 : decode cX5_takeNumber 86 = .ok (.aload_n 0, 1) := by decide +kernel
theorem dX5_takeNumber_87 : decode cX5_takeNumber 87 = .ok (.invokevirtual 49, 3) := by decide +kernel
theorem dX5_takeNumber_90 : decode cX5_takeNumber 90 = .ok (.iload_n 3, 1) := by decide +kernel
theorem dX5_takeNumber_91 : decode cX5_takeNumber 91 = .ok (.ireturn, 1) := by decide +kernel
theorem dX5_weekdayHere_0 : decode cX5_weekdayHere 0 = .ok (.aload_n 0, 1) := by decide +kernel
theorem dX5_weekdayHere_1 : decode cX5_weekdayHere 1 = .ok (.getfield 11, 3) := by decide +kernel
theorem dX5_weekdayHere_4 : decode cX5_weekdayHere 4 = .ok (.iconst 1, 1) := by decide +kernel
theorem dX5_weekdayHere_5 : decode cX5_weekdayHere 5 = .ok (.if_icmp .ne 16, 3) := by decide +kernel
theorem dX5_weekdayHere_8 : decode cX5_weekdayHere 8 = .ok (.aload_n 0, 1) := by decide +kernel
theorem dX5_weekdayHere_9 : decode cX5_weekdayHere 9 = .ok (.getfield 18, 3) := by decide +kernel
theorem dX5_weekdayHere_12 : decode cX5_weekdayHere 12 = .ok (.aload_n 0, 1) := by decide +kernel
theorem dX5_weekdayHere_13 : decode cX5_weekdayHere 13 = .ok (.getfield 15, 3) := by decide +kernel
theorem dX5_weekdayHere_16 : decode cX5_weekdayHere 16 = .ok (.isub, 1) := by decide +kernel
theorem dX5_weekdayHere_17 : decode cX5_weekdayHere 17 = .ok (.iconst 3, 1) := by decide +kernel
theorem dX5_weekdayHere_18 : decode cX5_weekdayHere 18 = .ok (.if_icmp .eq 5, 3) := by decide +kernel
theorem dX5_weekdayHere_21 : decode cX5_weekdayHere 21 = .ok (.iconst (-1), 1) := by decide +kernel
theorem dX5_weekdayHere_22 : decode cX5_weekdayHere 22 = .ok (.ireturn, 1) := by decide +kernel
theorem dX5_weekdayHere_23 : decode cX5_weekdayHere 23 = .ok (.iconst 0, 1) := by decide +kernel
theorem dX5_weekdayHere_24 : decode cX5_weekdayHere 24 = .ok (.istore_n 1, 1) := by decide +kernel
theorem dX5_weekdayHere_25 : decode cX5_weekdayHere 25 = .ok (.iload_n 1, 1) := by decide +kernel
theorem dX5_weekdayHere_26 : decode cX5_weekdayHere 26 = .ok (.bipush 7, 2) := by decide +kernel
theorem dX5_weekdayHere_28 : decode cX5_weekdayHere 28 = .ok (.if_icmp .ge 23, 3) := by decide +kernel
theorem dX5_weekdayHere_31 : decode cX5_weekdayHere 31 = .ok (.aload_n 0, 1) := by decide +kernel
theorem dX5_weekdayHere_32 : decode cX5_weekdayHere 32 = .ok (.ldc 192, 2) := by decide +kernel
theorem dX5_weekdayHere_34 : decode cX5_weekdayHere 34 = .ok (.iconst 3, 1) := by decide +kernel
theorem dX5_weekdayHere_35 : decode cX5_weekdayHere 35 = .ok (.iload_n 1, 1) := by decide +kernel
theorem dX5_weekdayHere_36 : decode cX5_weekdayHere 36 = .ok (.imul, 1) := by decide +kernel
theorem dX5_weekdayHere_37 : decode cX5_weekdayHere 37 = .ok (.invokevirtual 188, 3) := by decide +kernel
theorem dX5_weekdayHere_40 : decode cX5_weekdayHere 40 = .ok (.ifCond .eq 5, 3) := by decide +kernel
theorem dX5_weekdayHere_43 : decode cX5_weekdayHere 43 = .ok (.iload_n 1, 1) := by decide +kernel
theorem dX5_weekdayHere_44 : decode cX5_weekdayHere 44 = .ok (.ireturn, 1) := by decide +kernel
theorem dX5_weekdayHere_45 : decode cX5_weekdayHere 45 = .ok (.iinc 1 1, 3) := by decide +kernel
theorem dX5_weekdayHere_48 : decode cX5_weekdayHere 48 = .ok (.goto (-23), 3) := by decide +kernel
theorem dX5_weekdayHere_51 : decode cX5_weekdayHere 51 = .ok (.iconst (-1), 1) := by decide +kernel
theorem dX5_weekdayHere_52 : decode cX5_weekdayHere 52 = .ok (.ireturn, 1) := by decide +kernel
theorem dX5_standsHere_0 : decode cX5_standsHere 0 = .ok (.aload_n 0, 1) := by decide +kernel
theorem dX5_standsHere_1 : decode cX5_standsHere 1 = .ok (.getfield 15, 3) := by decide +kernel
theorem dX5_standsHere_4 : decode cX5_standsHere 4 = .ok (.istore_n 3, 1) := by decide +kernel
theorem dX5_standsHere_5 : decode cX5_standsHere 5 = .ok (.iload_n 3, 1) := by decide +kernel
theorem dX5_standsHere_6 : decode cX5_standsHere 6 = .ok (.aload_n 0, 1) := by decide +kernel
theorem dX5_standsHere_7 : decode cX5_standsHere 7 = .ok (.getfield 18, 3) := by decide +kernel
theorem dX5_standsHere_10 : decode cX5_standsHere 10 = .ok (.if_icmp .ge 45, 3) := by decide +kernel
theorem dX5_standsHere_13 : decode cX5_standsHere 13 = .ok (.iload_n 2, 1) := by decide +kernel
theorem dX5_standsHere_14 : decode cX5_standsHere 14 = .ok (.iload_n 3, 1) := by decide +kernel
theorem dX5_standsHere_15 : decode cX5_standsHere 15 = .ok (.iadd, 1) := by decide +kernel
theorem dX5_standsHere_16 : decode cX5_standsHere 16 = .ok (.aload_n 0, 1) := by decide +kernel
theorem dX5_standsHere_17 : decode cX5_standsHere 17 = .ok (.getfield 15, 3) := by decide +kernel
theorem dX5_standsHere_20 : decode cX5_standsHere 20 = .ok (.isub, 1) := by decide +kernel
theorem dX5_standsHere_21 : decode cX5_standsHere 21 = .ok (.istore 4, 2) := by decide +kernel
theorem dX5_standsHere_23 : decode cX5_standsHere 23 = .ok (.iload 4, 2) := by decide +kernel
theorem dX5_standsHere_25 : decode cX5_standsHere 25 = .ok (.aload_n 1, 1) := by decide +kernel
theorem dX5_standsHere_26 : decode cX5_standsHere 26 = .ok (.invokevirtual 184, 3) := by decide +kernel
theorem dX5_standsHere_29 : decode cX5_standsHere 29 = .ok (.if_icmp .ge 18, 3) := by decide +kernel
theorem dX5_standsHere_32 : decode cX5_standsHere 32 = .ok (.aload_n 0, 1) := by decide +kernel
theorem dX5_standsHere_33 : decode cX5_standsHere 33 = .ok (.getfield 36, 3) := by decide +kernel
theorem dX5_standsHere_36 : decode cX5_standsHere 36 = .ok (.iload_n 3, 1) := by decide +kernel
theorem dX5_standsHere_37 : decode cX5_standsHere 37 = .ok (.caload, 1) := by decide +kernel
theorem dX5_standsHere_38 : decode cX5_standsHere 38 = .ok (.aload_n 1, 1) := by decide +kernel
theorem dX5_standsHere_39 : decode cX5_standsHere 39 = .ok (.iload 4, 2) := by decide +kernel
theorem dX5_standsHere_41 : decode cX5_standsHere 41 = .ok (.invokevirtual 194, 3) := by decide +kernel
theorem dX5_standsHere_44 : decode cX5_standsHere 44 = .ok (.if_icmp .eq 5, 3) := by decide +kernel
theorem dX5_standsHere_47 : decode cX5_standsHere 47 = .ok (.iconst 0, 1) := by decide +kernel
theorem dX5_standsHere_48 : decode cX5_standsHere 48 = .ok (.ireturn, 1) := by decide +kernel
theorem dX5_standsHere_49 : decode cX5_standsHere 49 = .ok (.iinc 3 1, 3) := by decide +kernel
theorem dX5_standsHere_52 : decode cX5_standsHere 52 = .ok (.goto (-47), 3) := by decide +kernel
theorem dX5_standsHere_55 : decode cX5_standsHere 55 = .ok (.iconst 1, 1) := by decide +kernel
theorem dX5_standsHere_56 : decode cX5_standsHere 56 = .ok (.ireturn, 1) := by decide +kernel
theorem dX5_step_0 : decode cX5_step 0 = .ok (.aload_n 0, 1) := by decide +kernel
theorem dX5_step_1 : decode cX5_step 1 = .ok (.aload_n 0, 1) := by decide +kernel
theorem dX5_step_2 : decode cX5_step 2 = .ok (.getfield 18, 3) := by decide +kernel
theorem dX5_step_5 : decode cX5_step 5 = .ok (.putfield 15, 3) := by decide +kernel
theorem dX5_step_8 : decode cX5_step 8 = .ok (.aload_n 0, 1) := by decide +kernel
theorem dX5_step_9 : decode cX5_step 9 = .ok (.getfield 15, 3) := by decide +kernel
theorem dX5_step_12 : decode cX5_step 12 = .ok (.aload_n 0, 1) := by decide +kernel
theorem dX5_step_13 : decode cX5_step 13 = .ok (.getfield 46, 3) := by decide +kernel
theorem dX5_step_16 : decode cX5_step 16 = .ok (.if_icmp .ge 30, 3) := by decide +kernel
theorem dX5_step_19 : decode cX5_step 19 = .ok (.aload_n 0, 1) := by decide +kernel
theorem dX5_step_20 : decode cX5_step 20 = .ok (.getfield 36, 3) := by decide +kernel
theorem dX5_step_23 : decode cX5_step 23 = .ok (.aload_n 0, 1) := by decide +kernel
theorem dX5_step_24 : decode cX5_step 24 = .ok (.getfield 15, 3) := by decide +kernel
theorem dX5_step_27 : decode cX5_step 27 = .ok (.caload, 1) := by decide +kernel
theorem dX5_step_28 : decode cX5_step 28 = .ok (.bipush 32, 2) := by decide +kernel
theorem dX5_step_30 : decode cX5_step 30 = .ok (.if_icmp .ne 16, 3) := by decide +kernel
theorem dX5_step_33 : decode cX5_step 33 = .ok (.aload_n 0, 1) := by decide +kernel
theorem dX5_step_34 : decode cX5_step 34 = .ok (.dup, 1) := by decide +kernel
theorem dX5_step_35 : decode cX5_step 35 = .ok (.getfield 15, 3) := by decide +kernel
theorem dX5_step_38 : decode cX5_step 38 = .ok (.iconst 1, 1) := by decide +kernel
theorem dX5_step_39 : decode cX5_step 39 = .ok (.iadd, 1) := by decide +kernel
theorem dX5_step_40 : decode cX5_step 40 = .ok (.putfield 15, 3) := by decide +kernel
theorem dX5_step_43 : decode cX5_step 43 = .ok (.goto (-35), 3) := by decide +kernel
theorem dX5_step_46 : decode cX5_step 46 = .ok (.aload_n 0, 1) := by decide +kernel
theorem dX5_step_47 : decode cX5_step 47 = .ok (.aload_n 0, 1) := by decide +kernel
theorem dX5_step_48 : decode cX5_step 48 = .ok (.aload_n 0, 1) := by decide +kernel
theorem dX5_step_49 : decode cX5_step 49 = .ok (.getfield 15, 3) := by decide +kernel
theorem dX5_step_52 : decode cX5_step 52 = .ok (.invokevirtual 198, 3) := by decide +kernel
theorem dX5_step_55 : decode cX5_step 55 = .ok (.putfield 11, 3) := by decide +kernel
theorem dX5_step_58 : decode cX5_step 58 = .ok (.aload_n 0, 1) := by decide +kernel
theorem dX5_step_59 : decode cX5_step 59 = .ok (.aload_n 0, 1) := by decide +kernel
theorem dX5_step_60 : decode cX5_step 60 = .ok (.getfield 15, 3) := by decide +kernel
theorem dX5_step_63 : decode cX5_step 63 = .ok (.putfield 18, 3) := by decide +kernel
theorem dX5_step_66 : decode cX5_step 66 = .ok (.aload_n 0, 1) := by decide +kernel
theorem dX5_step_67 : decode cX5_step 67 = .ok (.getfield 18, 3) := by decide +kernel
theorem dX5_step_70 : decode cX5_step 70 = .ok (.aload_n 0, 1) := by decide +kernel
theorem dX5_step_71 : decode cX5_step 71 = .ok (.getfield 46, 3) := by decide +kernel
theorem dX5_step_74 : decode cX5_step 74 = .ok (.if_icmp .ge 39, 3) := by decide +kernel
theorem dX5_step_77 : decode cX5_step 77 = .ok (.aload_n 0, 1) := by decide +kernel
theorem dX5_step_78 : decode cX5_step 78 = .ok (.getfield 11, 3) := by decide +kernel
theorem dX5_step_81 : decode cX5_step 81 = .ok (.iconst 3, 1) := by decide +kernel
theorem dX5_step_82 : decode cX5_step 82 = .ok (.if_icmp .eq 31, 3) := by decide +kernel
theorem dX5_step_85 : decode cX5_step 85 = .ok (.aload_n 0, 1) := by decide +kernel
theorem dX5_step_86 : decode cX5_step 86 = .ok (.aload_n 0, 1) := by decide +kernel
theorem dX5_step_87 : decode cX5_step 87 = .ok (.getfield 18, 3) := by decide +kernel
theorem dX5_step_90 : decode cX5_step 90 = .ok (.invokevirtual 198, 3) := by decide +kernel
theorem dX5_step_93 : decode cX5_step 93 = .ok (.aload_n 0, 1) := by decide +kernel
theorem dX5_step_94 : decode cX5_step 94 = .ok (.getfield 11, 3) := by decide +kernel
theorem dX5_step_97 : decode cX5_step 97 = .ok (.if_icmp .ne 16, 3) := by decide +kernel
theorem dX5_step_100 : decode cX5_step 100 = .ok (.aload_n 0, 1) := by decide +kernel
theorem dX5_step_101 : decode cX5_step 101 = .ok (.dup, 1) := by decide +kernel
theorem dX5_step_102 : decode cX5_step 102 = .ok (.getfield 18, 3) := by decide +kernel
theorem dX5_step_105 : decode cX5_step 105 = .ok (.iconst 1, 1) := by decide +kernel
theorem dX5_step_106 : decode cX5_step 106 = .ok (.iadd, 1) := by decide +kernel
theorem dX5_step_107 : decode cX5_step 107 = .ok (.putfield 18, 3) := by decide +kernel
theorem dX5_step_110 : decode cX5_step 110 = .ok (.goto (-44), 3) := by decide +kernel
theorem dX5_step_113 : decode cX5_step 113 = .ok (.return_, 1) := by decide +kernel
theorem dX5_typeAt_0 : decode cX5_typeAt 0 = .ok (.iload_n 1, 1) := by decide +kernel
theorem dX5_typeAt_1 : decode cX5_typeAt 1 = .ok (.aload_n 0, 1) := by decide +kernel
theorem dX5_typeAt_2 : decode cX5_typeAt 2 = .ok (.getfield 46, 3) := by decide +kernel
theorem dX5_typeAt_5 : decode cX5_typeAt 5 = .ok (.if_icmp .lt 5, 3) := by decide +kernel
theorem dX5_typeAt_8 : decode cX5_typeAt 8 = .ok (.iconst 0, 1) := by decide +kernel
theorem dX5_typeAt_9 : decode cX5_typeAt 9 = .ok (.ireturn, 1) := by decide +kernel
theorem dX5_typeAt_10 : decode cX5_typeAt 10 = .ok (.aload_n 0, 1) := by decide +kernel
theorem dX5_typeAt_11 : decode cX5_typeAt 11 = .ok (.getfield 36, 3) := by decide +kernel
theorem dX5_typeAt_14 : decode cX5_typeAt 14 = .ok (.iload_n 1, 1) := by decide +kernel
theorem dX5_typeAt_15 : decode cX5_typeAt 15 = .ok (.caload, 1) := by decide +kernel
theorem dX5_typeAt_16 : decode cX5_typeAt 16 = .ok (.istore_n 2, 1) := by decide +kernel
theorem dX5_typeAt_17 : decode cX5_typeAt 17 = .ok (.iload_n 2, 1) := by decide +kernel
theorem dX5_typeAt_18 : decode cX5_typeAt 18 = .ok (.bipush 97, 2) := by decide +kernel
theorem dX5_typeAt_20 : decode cX5_typeAt 20 = .ok (.if_icmp .lt 11, 3) := by decide +kernel
theorem dX5_typeAt_23 : decode cX5_typeAt 23 = .ok (.iload_n 2, 1) := by decide +kernel
theorem dX5_typeAt_24 : decode cX5_typeAt 24 = .ok (.bipush 122, 2) := by decide +kernel
theorem dX5_typeAt_26 : decode cX5_typeAt 26 = .ok (.if_icmp .gt 5, 3) := by decide +kernel
theorem dX5_typeAt_29 : decode cX5_typeAt 29 = .ok (.iconst 1, 1) := by decide +kernel
theorem dX5_typeAt_30 : decode cX5_typeAt 30 = .ok (.ireturn, 1) := by decide +kernel
theorem dX5_typeAt_31 : decode cX5_typeAt 31 = .ok (.iload_n 2, 1) := by decide +kernel
theorem dX5_typeAt_32 : decode cX5_typeAt 32 = .ok (.bipush 48, 2) := by decide +kernel
theorem dX5_typeAt_34 : decode cX5_typeAt 34 = .ok (.if_icmp .lt 13, 3) := by decide +kernel
theorem dX5_typeAt_37 : decode cX5_typeAt 37 = .ok (.iload_n 2, 1) := by decide +kernel
theorem dX5_typeAt_38 : decode cX5_typeAt 38 = .ok (.bipush 57, 2) := by decide +kernel
theorem dX5_typeAt_40 : decode cX5_typeAt 40 = .ok (.if_icmp .gt 7, 3) := by decide +kernel
theorem dX5_typeAt_43 : decode cX5_typeAt 43 = .ok (.iconst 2, 1) := by decide +kernel
theorem dX5_typeAt_44 : decode cX5_typeAt 44 = .ok (.goto 4, 3) := by decide +kernel
theorem dX5_typeAt_47 : decode cX5_typeAt 47 = .ok (.iconst 3, 1) := by decide +kernel
theorem dX5_typeAt_48 : decode cX5_typeAt 48 = .ok (.ireturn, 1) := by decide +kernel
