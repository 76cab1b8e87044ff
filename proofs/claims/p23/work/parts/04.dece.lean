theorem kqX10_init_0 : ((cX10_init.data.toList.drop 0).take 34).map UInt8.toNat = [42, 183, 0, 1, 42, 18, 7, 188, 10, 181, 0, 8, 42, 18, 7, 188, 10, 181, 0, 14, 42, 18, 7, 188, 10, 181, 0, 17, 42, 18, 7, 188, 10, 181] := by decide +kernel
theorem dX10_init_0 : decode cX10_init 0 = .ok (.aload_n 0, 1) := oq_42 (bq_in kqX10_init_0 0 rfl)
theorem dX10_init_1 : decode cX10_init 1 = .ok (.invokespecial 1, 3) := oq_183 (bq_in kqX10_init_0 1 rfl) (bq_in kqX10_init_0 2 rfl) (bq_in kqX10_init_0 3 rfl) rfl
theorem dX10_init_4 : decode cX10_init 4 = .ok (.aload_n 0, 1) := oq_42 (bq_in kqX10_init_0 4 rfl)
theorem dX10_init_5 : decode cX10_init 5 = .ok (.ldc 7, 2) := oq_18 (bq_in kqX10_init_0 5 rfl) (bq_in kqX10_init_0 6 rfl)
theorem dX10_init_7 : decode cX10_init 7 = .ok (.newarray .int, 2) := by decide +kernel
theorem dX10_init_9 : decode cX10_init 9 = .ok (.putfield 8, 3) := oq_181 (bq_in kqX10_init_0 9 rfl) (bq_in kqX10_init_0 10 rfl) (bq_in kqX10_init_0 11 rfl) rfl
theorem dX10_init_12 : decode cX10_init 12 = .ok (.aload_n 0, 1) := oq_42 (bq_in kqX10_init_0 12 rfl)
theorem dX10_init_13 : decode cX10_init 13 = .ok (.ldc 7, 2) := oq_18 (bq_in kqX10_init_0 13 rfl) (bq_in kqX10_init_0 14 rfl)
theorem dX10_init_15 : decode cX10_init 15 = .ok (.newarray .int, 2) := by decide +kernel
theorem dX10_init_17 : decode cX10_init 17 = .ok (.putfield 14, 3) := oq_181 (bq_in kqX10_init_0 17 rfl) (bq_in kqX10_init_0 18 rfl) (bq_in kqX10_init_0 19 rfl) rfl
theorem dX10_init_20 : decode cX10_init 20 = .ok (.aload_n 0, 1) := oq_42 (bq_in kqX10_init_0 20 rfl)
theorem dX10_init_21 : decode cX10_init 21 = .ok (.ldc 7, 2) := oq_18 (bq_in kqX10_init_0 21 rfl) (bq_in kqX10_init_0 22 rfl)
theorem dX10_init_23 : decode cX10_init 23 = .ok (.newarray .int, 2) := by decide +kernel
theorem dX10_init_25 : decode cX10_init 25 = .ok (.putfield 17, 3) := oq_181 (bq_in kqX10_init_0 25 rfl) (bq_in kqX10_init_0 26 rfl) (bq_in kqX10_init_0 27 rfl) rfl
theorem dX10_init_28 : decode cX10_init 28 = .ok (.aload_n 0, 1) := oq_42 (bq_in kqX10_init_0 28 rfl)
theorem dX10_init_29 : decode cX10_init 29 = .ok (.ldc 7, 2) := oq_18 (bq_in kqX10_init_0 29 rfl) (bq_in kqX10_init_0 30 rfl)
theorem dX10_init_31 : decode cX10_init 31 = .ok (.newarray .int, 2) := by decide +kernel
theorem kqX10_init_1 : ((cX10_init.data.toList.drop 32).take 34).map UInt8.toNat = [10, 181, 0, 20, 42, 17, 2, 16, 188, 10, 181, 0, 23, 42, 17, 4, 32, 188, 10, 181, 0, 26, 42, 5, 188, 10, 89, 3, 2, 79, 89, 4, 2, 79] := by decide +kernel
theorem dX10_init_33 : decode cX10_init 33 = .ok (.putfield 20, 3) := oq_181 (bq_in kqX10_init_1 1 rfl) (bq_in kqX10_init_1 2 rfl) (bq_in kqX10_init_1 3 rfl) rfl
theorem dX10_init_36 : decode cX10_init 36 = .ok (.aload_n 0, 1) := oq_42 (bq_in kqX10_init_1 4 rfl)
theorem dX10_init_37 : decode cX10_init 37 = .ok (.sipush 528, 3) := oq_17 (bq_in kqX10_init_1 5 rfl) (bq_in kqX10_init_1 6 rfl) (bq_in kqX10_init_1 7 rfl) rfl
theorem dX10_init_40 : decode cX10_init 40 = .ok (.newarray .int, 2) := by decide +kernel
theorem dX10_init_42 : decode cX10_init 42 = .ok (.putfield 23, 3) := oq_181 (bq_in kqX10_init_1 10 rfl) (bq_in kqX10_init_1 11 rfl) (bq_in kqX10_init_1 12 rfl) rfl
theorem dX10_init_45 : decode cX10_init 45 = .ok (.aload_n 0, 1) := oq_42 (bq_in kqX10_init_1 13 rfl)
theorem dX10_init_46 : decode cX10_init 46 = .ok (.sipush 1056, 3) := oq_17 (bq_in kqX10_init_1 14 rfl) (bq_in kqX10_init_1 15 rfl) (bq_in kqX10_init_1 16 rfl) rfl
theorem dX10_init_49 : decode cX10_init 49 = .ok (.newarray .int, 2) := by decide +kernel
theorem dX10_init_51 : decode cX10_init 51 = .ok (.putfield 26, 3) := oq_181 (bq_in kqX10_init_1 19 rfl) (bq_in kqX10_init_1 20 rfl) (bq_in kqX10_init_1 21 rfl) rfl
theorem dX10_init_54 : decode cX10_init 54 = .ok (.aload_n 0, 1) := oq_42 (bq_in kqX10_init_1 22 rfl)
theorem dX10_init_55 : decode cX10_init 55 = .ok (.iconst 2, 1) := oq_5 (bq_in kqX10_init_1 23 rfl)
theorem dX10_init_56 : decode cX10_init 56 = .ok (.newarray .int, 2) := by decide +kernel
theorem dX10_init_58 : decode cX10_init 58 = .ok (.dup, 1) := oq_89 (bq_in kqX10_init_1 26 rfl)
theorem dX10_init_59 : decode cX10_init 59 = .ok (.iconst 0, 1) := oq_3 (bq_in kqX10_init_1 27 rfl)
theorem dX10_init_60 : decode cX10_init 60 = .ok (.iconst (-1), 1) := oq_2 (bq_in kqX10_init_1 28 rfl)
theorem dX10_init_61 : decode cX10_init 61 = .ok (.iastore, 1) := oq_79 (bq_in kqX10_init_1 29 rfl)
theorem dX10_init_62 : decode cX10_init 62 = .ok (.dup, 1) := oq_89 (bq_in kqX10_init_1 30 rfl)
theorem dX10_init_63 : decode cX10_init 63 = .ok (.iconst 1, 1) := oq_4 (bq_in kqX10_init_1 31 rfl)
theorem kqX10_init_2 : ((cX10_init.data.toList.drop 64).take 34).map UInt8.toNat = [2, 79, 181, 0, 29, 42, 17, 0, 168, 188, 10, 181, 0, 32, 42, 18, 35, 188, 10, 181, 0, 36, 42, 18, 35, 188, 10, 181, 0, 39, 42, 5, 188, 10] := by decide +kernel
theorem dX10_init_64 : decode cX10_init 64 = .ok (.iconst (-1), 1) := oq_2 (bq_in kqX10_init_2 0 rfl)
theorem dX10_init_65 : decode cX10_init 65 = .ok (.iastore, 1) := oq_79 (bq_in kqX10_init_2 1 rfl)
theorem dX10_init_66 : decode cX10_init 66 = .ok (.putfield 29, 3) := oq_181 (bq_in kqX10_init_2 2 rfl) (bq_in kqX10_init_2 3 rfl) (bq_in kqX10_init_2 4 rfl) rfl
theorem dX10_init_69 : decode cX10_init 69 = .ok (.aload_n 0, 1) := oq_42 (bq_in kqX10_init_2 5 rfl)
theorem dX10_init_70 : decode cX10_init 70 = .ok (.sipush 168, 3) := oq_17 (bq_in kqX10_init_2 6 rfl) (bq_in kqX10_init_2 7 rfl) (bq_in kqX10_init_2 8 rfl) rfl
theorem dX10_init_73 : decode cX10_init 73 = .ok (.newarray .int, 2) := by decide +kernel
theorem dX10_init_75 : decode cX10_init 75 = .ok (.putfield 32, 3) := oq_181 (bq_in kqX10_init_2 11 rfl) (bq_in kqX10_init_2 12 rfl) (bq_in kqX10_init_2 13 rfl) rfl
theorem dX10_init_78 : decode cX10_init 78 = .ok (.aload_n 0, 1) := oq_42 (bq_in kqX10_init_2 14 rfl)
theorem dX10_init_79 : decode cX10_init 79 = .ok (.ldc 35, 2) := oq_18 (bq_in kqX10_init_2 15 rfl) (bq_in kqX10_init_2 16 rfl)
theorem dX10_init_81 : decode cX10_init 81 = .ok (.newarray .int, 2) := by decide +kernel
theorem dX10_init_83 : decode cX10_init 83 = .ok (.putfield 36, 3) := oq_181 (bq_in kqX10_init_2 19 rfl) (bq_in kqX10_init_2 20 rfl) (bq_in kqX10_init_2 21 rfl) rfl
theorem dX10_init_86 : decode cX10_init 86 = .ok (.aload_n 0, 1) := oq_42 (bq_in kqX10_init_2 22 rfl)
theorem dX10_init_87 : decode cX10_init 87 = .ok (.ldc 35, 2) := oq_18 (bq_in kqX10_init_2 23 rfl) (bq_in kqX10_init_2 24 rfl)
theorem dX10_init_89 : decode cX10_init 89 = .ok (.newarray .int, 2) := by decide +kernel
theorem dX10_init_91 : decode cX10_init 91 = .ok (.putfield 39, 3) := oq_181 (bq_in kqX10_init_2 27 rfl) (bq_in kqX10_init_2 28 rfl) (bq_in kqX10_init_2 29 rfl) rfl
theorem dX10_init_94 : decode cX10_init 94 = .ok (.aload_n 0, 1) := oq_42 (bq_in kqX10_init_2 30 rfl)
theorem dX10_init_95 : decode cX10_init 95 = .ok (.iconst 2, 1) := oq_5 (bq_in kqX10_init_2 31 rfl)
theorem dX10_init_96 : decode cX10_init 96 = .ok (.newarray .int, 2) := by decide +kernel
theorem kqX10_init_3 : ((cX10_init.data.toList.drop 96).take 34).map UInt8.toNat = [188, 10, 181, 0, 42, 42, 16, 44, 188, 10, 181, 0, 45, 42, 17, 12, 228, 188, 10, 181, 0, 48, 42, 18, 51, 188, 4, 181, 0, 52, 3, 60, 17, 7] := by decide +kernel
theorem dX10_init_98 : decode cX10_init 98 = .ok (.putfield 42, 3) := oq_181 (bq_in kqX10_init_3 2 rfl) (bq_in kqX10_init_3 3 rfl) (bq_in kqX10_init_3 4 rfl) rfl
theorem dX10_init_101 : decode cX10_init 101 = .ok (.aload_n 0, 1) := oq_42 (bq_in kqX10_init_3 5 rfl)
theorem dX10_init_102 : decode cX10_init 102 = .ok (.bipush 44, 2) := oq_16 (bq_in kqX10_init_3 6 rfl) (bq_in kqX10_init_3 7 rfl) rfl
theorem dX10_init_104 : decode cX10_init 104 = .ok (.newarray .int, 2) := by decide +kernel
theorem dX10_init_106 : decode cX10_init 106 = .ok (.putfield 45, 3) := oq_181 (bq_in kqX10_init_3 10 rfl) (bq_in kqX10_init_3 11 rfl) (bq_in kqX10_init_3 12 rfl) rfl
theorem dX10_init_109 : decode cX10_init 109 = .ok (.aload_n 0, 1) := oq_42 (bq_in kqX10_init_3 13 rfl)
theorem dX10_init_110 : decode cX10_init 110 = .ok (.sipush 3300, 3) := oq_17 (bq_in kqX10_init_3 14 rfl) (bq_in kqX10_init_3 15 rfl) (bq_in kqX10_init_3 16 rfl) rfl
theorem dX10_init_113 : decode cX10_init 113 = .ok (.newarray .int, 2) := by decide +kernel
theorem dX10_init_115 : decode cX10_init 115 = .ok (.putfield 48, 3) := oq_181 (bq_in kqX10_init_3 19 rfl) (bq_in kqX10_init_3 20 rfl) (bq_in kqX10_init_3 21 rfl) rfl
theorem dX10_init_118 : decode cX10_init 118 = .ok (.aload_n 0, 1) := oq_42 (bq_in kqX10_init_3 22 rfl)
theorem dX10_init_119 : decode cX10_init 119 = .ok (.ldc 51, 2) := oq_18 (bq_in kqX10_init_3 23 rfl) (bq_in kqX10_init_3 24 rfl)
theorem dX10_init_121 : decode cX10_init 121 = .ok (.newarray .boolean, 2) := by decide +kernel
theorem dX10_init_123 : decode cX10_init 123 = .ok (.putfield 52, 3) := oq_181 (bq_in kqX10_init_3 27 rfl) (bq_in kqX10_init_3 28 rfl) (bq_in kqX10_init_3 29 rfl) rfl
theorem dX10_init_126 : decode cX10_init 126 = .ok (.iconst 0, 1) := oq_3 (bq_in kqX10_init_3 30 rfl)
theorem dX10_init_127 : decode cX10_init 127 = .ok (.istore_n 1, 1) := oq_60 (bq_in kqX10_init_3 31 rfl)
theorem kqX10_init_4 : ((cX10_init.data.toList.drop 128).take 34).map UInt8.toNat = [17, 7, 208, 61, 28, 17, 8, 52, 162, 0, 79, 4, 62, 29, 16, 13, 162, 0, 65, 28, 29, 184, 0, 56, 54, 4, 4, 54, 5, 21, 5, 21, 4, 163] := by decide +kernel
theorem dX10_init_128 : decode cX10_init 128 = .ok (.sipush 2000, 3) := oq_17 (bq_in kqX10_init_4 0 rfl) (bq_in kqX10_init_4 1 rfl) (bq_in kqX10_init_4 2 rfl) rfl
theorem dX10_init_131 : decode cX10_init 131 = .ok (.istore_n 2, 1) := oq_61 (bq_in kqX10_init_4 3 rfl)
theorem dX10_init_132 : decode cX10_init 132 = .ok (.iload_n 2, 1) := oq_28 (bq_in kqX10_init_4 4 rfl)
theorem dX10_init_133 : decode cX10_init 133 = .ok (.sipush 2100, 3) := oq_17 (bq_in kqX10_init_4 5 rfl) (bq_in kqX10_init_4 6 rfl) (bq_in kqX10_init_4 7 rfl) rfl
theorem dX10_init_136 : decode cX10_init 136 = .ok (.if_icmp .ge 79, 3) := oq_162 (bq_in kqX10_init_4 8 rfl) (bq_in kqX10_init_4 9 rfl) (bq_in kqX10_init_4 10 rfl) rfl
theorem dX10_init_139 : decode cX10_init 139 = .ok (.iconst 1, 1) := oq_4 (bq_in kqX10_init_4 11 rfl)
theorem dX10_init_140 : decode cX10_init 140 = .ok (.istore_n 3, 1) := oq_62 (bq_in kqX10_init_4 12 rfl)
theorem dX10_init_141 : decode cX10_init 141 = .ok (.iload_n 3, 1) := oq_29 (bq_in kqX10_init_4 13 rfl)
theorem dX10_init_142 : decode cX10_init 142 = .ok (.bipush 13, 2) := oq_16 (bq_in kqX10_init_4 14 rfl) (bq_in kqX10_init_4 15 rfl) rfl
theorem dX10_init_144 : decode cX10_init 144 = .ok (.if_icmp .ge 65, 3) := oq_162 (bq_in kqX10_init_4 16 rfl) (bq_in kqX10_init_4 17 rfl) (bq_in kqX10_init_4 18 rfl) rfl
theorem dX10_init_147 : decode cX10_init 147 = .ok (.iload_n 2, 1) := oq_28 (bq_in kqX10_init_4 19 rfl)
theorem dX10_init_148 : decode cX10_init 148 = .ok (.iload_n 3, 1) := oq_29 (bq_in kqX10_init_4 20 rfl)
theorem dX10_init_149 : decode cX10_init 149 = .ok (.invokestatic 56, 3) := oq_184 (bq_in kqX10_init_4 21 rfl) (bq_in kqX10_init_4 22 rfl) (bq_in kqX10_init_4 23 rfl) rfl
theorem dX10_init_152 : decode cX10_init 152 = .ok (.istore 4, 2) := oq_54 (bq_in kqX10_init_4 24 rfl) (bq_in kqX10_init_4 25 rfl)
theorem dX10_init_154 : decode cX10_init 154 = .ok (.iconst 1, 1) := oq_4 (bq_in kqX10_init_4 26 rfl)
theorem dX10_init_155 : decode cX10_init 155 = .ok (.istore 5, 2) := oq_54 (bq_in kqX10_init_4 27 rfl) (bq_in kqX10_init_4 28 rfl)
theorem dX10_init_157 : decode cX10_init 157 = .ok (.iload 5, 2) := oq_21 (bq_in kqX10_init_4 29 rfl) (bq_in kqX10_init_4 30 rfl)
theorem dX10_init_159 : decode cX10_init 159 = .ok (.iload 4, 2) := oq_21 (bq_in kqX10_init_4 31 rfl) (bq_in kqX10_init_4 32 rfl)
theorem kqX10_init_5 : ((cX10_init.data.toList.drop 160).take 34).map UInt8.toNat = [4, 163, 0, 42, 42, 180, 0, 8, 27, 28, 79, 42, 180, 0, 14, 27, 29, 79, 42, 180, 0, 17, 27, 21, 5, 79, 42, 180, 0, 20, 27, 21, 4, 79] := by decide +kernel
theorem dX10_init_161 : decode cX10_init 161 = .ok (.if_icmp .gt 42, 3) := oq_163 (bq_in kqX10_init_5 1 rfl) (bq_in kqX10_init_5 2 rfl) (bq_in kqX10_init_5 3 rfl) rfl
theorem dX10_init_164 : decode cX10_init 164 = .ok (.aload_n 0, 1) := oq_42 (bq_in kqX10_init_5 4 rfl)
theorem dX10_init_165 : decode cX10_init 165 = .ok (.getfield 8, 3) := oq_180 (bq_in kqX10_init_5 5 rfl) (bq_in kqX10_init_5 6 rfl) (bq_in kqX10_init_5 7 rfl) rfl
theorem dX10_init_168 : decode cX10_init 168 = .ok (.iload_n 1, 1) := oq_27 (bq_in kqX10_init_5 8 rfl)
theorem dX10_init_169 : decode cX10_init 169 = .ok (.iload_n 2, 1) := oq_28 (bq_in kqX10_init_5 9 rfl)
theorem dX10_init_170 : decode cX10_init 170 = .ok (.iastore, 1) := oq_79 (bq_in kqX10_init_5 10 rfl)
theorem dX10_init_171 : decode cX10_init 171 = .ok (.aload_n 0, 1) := oq_42 (bq_in kqX10_init_5 11 rfl)
theorem dX10_init_172 : decode cX10_init 172 = .ok (.getfield 14, 3) := oq_180 (bq_in kqX10_init_5 12 rfl) (bq_in kqX10_init_5 13 rfl) (bq_in kqX10_init_5 14 rfl) rfl
theorem dX10_init_175 : decode cX10_init 175 = .ok (.iload_n 1, 1) := oq_27 (bq_in kqX10_init_5 15 rfl)
theorem dX10_init_176 : decode cX10_init 176 = .ok (.iload_n 3, 1) := oq_29 (bq_in kqX10_init_5 16 rfl)
theorem dX10_init_177 : decode cX10_init 177 = .ok (.iastore, 1) := oq_79 (bq_in kqX10_init_5 17 rfl)
theorem dX10_init_178 : decode cX10_init 178 = .ok (.aload_n 0, 1) := oq_42 (bq_in kqX10_init_5 18 rfl)
theorem dX10_init_179 : decode cX10_init 179 = .ok (.getfield 17, 3) := oq_180 (bq_in kqX10_init_5 19 rfl) (bq_in kqX10_init_5 20 rfl) (bq_in kqX10_init_5 21 rfl) rfl
theorem dX10_init_182 : decode cX10_init 182 = .ok (.iload_n 1, 1) := oq_27 (bq_in kqX10_init_5 22 rfl)
theorem dX10_init_183 : decode cX10_init 183 = .ok (.iload 5, 2) := oq_21 (bq_in kqX10_init_5 23 rfl) (bq_in kqX10_init_5 24 rfl)
theorem dX10_init_185 : decode cX10_init 185 = .ok (.iastore, 1) := oq_79 (bq_in kqX10_init_5 25 rfl)
theorem dX10_init_186 : decode cX10_init 186 = .ok (.aload_n 0, 1) := oq_42 (bq_in kqX10_init_5 26 rfl)
theorem dX10_init_187 : decode cX10_init 187 = .ok (.getfield 20, 3) := oq_180 (bq_in kqX10_init_5 27 rfl) (bq_in kqX10_init_5 28 rfl) (bq_in kqX10_init_5 29 rfl) rfl
theorem dX10_init_190 : decode cX10_init 190 = .ok (.iload_n 1, 1) := oq_27 (bq_in kqX10_init_5 30 rfl)
theorem dX10_init_191 : decode cX10_init 191 = .ok (.iload 4, 2) := oq_21 (bq_in kqX10_init_5 31 rfl) (bq_in kqX10_init_5 32 rfl)
theorem kqX10_init_6 : ((cX10_init.data.toList.drop 192).take 34).map UInt8.toNat = [4, 79, 132, 1, 1, 132, 5, 1, 167, 255, 213, 132, 3, 1, 167, 255, 191, 132, 2, 1, 167, 255, 176, 177] := by decide +kernel
theorem dX10_init_193 : decode cX10_init 193 = .ok (.iastore, 1) := oq_79 (bq_in kqX10_init_6 1 rfl)
theorem dX10_init_194 : decode cX10_init 194 = .ok (.iinc 1 1, 3) := oq_132 (bq_in kqX10_init_6 2 rfl) (bq_in kqX10_init_6 3 rfl) (bq_in kqX10_init_6 4 rfl) rfl
theorem dX10_init_197 : decode cX10_init 197 = .ok (.iinc 5 1, 3) := oq_132 (bq_in kqX10_init_6 5 rfl) (bq_in kqX10_init_6 6 rfl) (bq_in kqX10_init_6 7 rfl) rfl
theorem dX10_init_200 : decode cX10_init 200 = .ok (.goto (-43), 3) := oq_167 (bq_in kqX10_init_6 8 rfl) (bq_in kqX10_init_6 9 rfl) (bq_in kqX10_init_6 10 rfl) rfl
theorem dX10_init_203 : decode cX10_init 203 = .ok (.iinc 3 1, 3) := oq_132 (bq_in kqX10_init_6 11 rfl) (bq_in kqX10_init_6 12 rfl) (bq_in kqX10_init_6 13 rfl) rfl
theorem dX10_init_206 : decode cX10_init 206 = .ok (.goto (-65), 3) := oq_167 (bq_in kqX10_init_6 14 rfl) (bq_in kqX10_init_6 15 rfl) (bq_in kqX10_init_6 16 rfl) rfl
theorem dX10_init_209 : decode cX10_init 209 = .ok (.iinc 2 1, 3) := oq_132 (bq_in kqX10_init_6 17 rfl) (bq_in kqX10_init_6 18 rfl) (bq_in kqX10_init_6 19 rfl) rfl
theorem dX10_init_212 : decode cX10_init 212 = .ok (.goto (-80), 3) := oq_167 (bq_in kqX10_init_6 20 rfl) (bq_in kqX10_init_6 21 rfl) (bq_in kqX10_init_6 22 rfl) rfl
theorem dX10_init_215 : decode cX10_init 215 = .ok (.return_, 1) := oq_177 (bq_in kqX10_init_6 23 rfl)
theorem kqX10_within_0 : ((cX10_within.data.toList.drop 0).take 34).map UInt8.toNat = [26, 27, 161, 0, 12, 26, 28, 163, 0, 7, 4, 167, 0, 4, 3, 172] := by decide +kernel
theorem dX10_within_0 : decode cX10_within 0 = .ok (.iload_n 0, 1) := oq_26 (bq_in kqX10_within_0 0 rfl)
theorem dX10_within_1 : decode cX10_within 1 = .ok (.iload_n 1, 1) := oq_27 (bq_in kqX10_within_0 1 rfl)
theorem dX10_within_2 : decode cX10_within 2 = .ok (.if_icmp .lt 12, 3) := oq_161 (bq_in kqX10_within_0 2 rfl) (bq_in kqX10_within_0 3 rfl) (bq_in kqX10_within_0 4 rfl) rfl
theorem dX10_within_5 : decode cX10_within 5 = .ok (.iload_n 0, 1) := oq_26 (bq_in kqX10_within_0 5 rfl)
theorem dX10_within_6 : decode cX10_within 6 = .ok (.iload_n 2, 1) := oq_28 (bq_in kqX10_within_0 6 rfl)
theorem dX10_within_7 : decode cX10_within 7 = .ok (.if_icmp .gt 7, 3) := oq_163 (bq_in kqX10_within_0 7 rfl) (bq_in kqX10_within_0 8 rfl) (bq_in kqX10_within_0 9 rfl) rfl
theorem dX10_within_10 : decode cX10_within 10 = .ok (.iconst 1, 1) := oq_4 (bq_in kqX10_within_0 10 rfl)
theorem dX10_within_11 : decode cX10_within 11 = .ok (.goto 4, 3) := oq_167 (bq_in kqX10_within_0 11 rfl) (bq_in kqX10_within_0 12 rfl) (bq_in kqX10_within_0 13 rfl) rfl
theorem dX10_within_14 : decode cX10_within 14 = .ok (.iconst 0, 1) := oq_3 (bq_in kqX10_within_0 14 rfl)
theorem dX10_within_15 : decode cX10_within 15 = .ok (.ireturn, 1) := oq_172 (bq_in kqX10_within_0 15 rfl)
theorem kqX10_daysIn_0 : ((cX10_daysIn.data.toList.drop 0).take 34).map UInt8.toNat = [27, 5, 160, 0, 17, 26, 7, 112, 154, 0, 8, 16, 29, 167, 0, 5, 16, 28, 172, 27, 7, 159, 0, 21, 27, 16, 6, 159, 0, 15, 27, 16, 9, 159] := by decide +kernel
theorem dX10_daysIn_0 : decode cX10_daysIn 0 = .ok (.iload_n 1, 1) := oq_27 (bq_in kqX10_daysIn_0 0 rfl)
theorem dX10_daysIn_1 : decode cX10_daysIn 1 = .ok (.iconst 2, 1) := oq_5 (bq_in kqX10_daysIn_0 1 rfl)
theorem dX10_daysIn_2 : decode cX10_daysIn 2 = .ok (.if_icmp .ne 17, 3) := oq_160 (bq_in kqX10_daysIn_0 2 rfl) (bq_in kqX10_daysIn_0 3 rfl) (bq_in kqX10_daysIn_0 4 rfl) rfl
theorem dX10_daysIn_5 : decode cX10_daysIn 5 = .ok (.iload_n 0, 1) := oq_26 (bq_in kqX10_daysIn_0 5 rfl)
theorem dX10_daysIn_6 : decode cX10_daysIn 6 = .ok (.iconst 4, 1) := oq_7 (bq_in kqX10_daysIn_0 6 rfl)
theorem dX10_daysIn_7 : decode cX10_daysIn 7 = .ok (.irem, 1) := oq_112 (bq_in kqX10_daysIn_0 7 rfl)
theorem dX10_daysIn_8 : decode cX10_daysIn 8 = .ok (.ifCond .ne 8, 3) := oq_154 (bq_in kqX10_daysIn_0 8 rfl) (bq_in kqX10_daysIn_0 9 rfl) (bq_in kqX10_daysIn_0 10 rfl) rfl
theorem dX10_daysIn_11 : decode cX10_daysIn 11 = .ok (.bipush 29, 2) := oq_16 (bq_in kqX10_daysIn_0 11 rfl) (bq_in kqX10_daysIn_0 12 rfl) rfl
theorem dX10_daysIn_13 : decode cX10_daysIn 13 = .ok (.goto 5, 3) := oq_167 (bq_in kqX10_daysIn_0 13 rfl) (bq_in kqX10_daysIn_0 14 rfl) (bq_in kqX10_daysIn_0 15 rfl) rfl
theorem dX10_daysIn_16 : decode cX10_daysIn 16 = .ok (.bipush 28, 2) := oq_16 (bq_in kqX10_daysIn_0 16 rfl) (bq_in kqX10_daysIn_0 17 rfl) rfl
theorem dX10_daysIn_18 : decode cX10_daysIn 18 = .ok (.ireturn, 1) := oq_172 (bq_in kqX10_daysIn_0 18 rfl)
theorem dX10_daysIn_19 : decode cX10_daysIn 19 = .ok (.iload_n 1, 1) := oq_27 (bq_in kqX10_daysIn_0 19 rfl)
theorem dX10_daysIn_20 : decode cX10_daysIn 20 = .ok (.iconst 4, 1) := oq_7 (bq_in kqX10_daysIn_0 20 rfl)
theorem dX10_daysIn_21 : decode cX10_daysIn 21 = .ok (.if_icmp .eq 21, 3) := oq_159 (bq_in kqX10_daysIn_0 21 rfl) (bq_in kqX10_daysIn_0 22 rfl) (bq_in kqX10_daysIn_0 23 rfl) rfl
theorem dX10_daysIn_24 : decode cX10_daysIn 24 = .ok (.iload_n 1, 1) := oq_27 (bq_in kqX10_daysIn_0 24 rfl)
theorem dX10_daysIn_25 : decode cX10_daysIn 25 = .ok (.bipush 6, 2) := oq_16 (bq_in kqX10_daysIn_0 25 rfl) (bq_in kqX10_daysIn_0 26 rfl) rfl
theorem dX10_daysIn_27 : decode cX10_daysIn 27 = .ok (.if_icmp .eq 15, 3) := oq_159 (bq_in kqX10_daysIn_0 27 rfl) (bq_in kqX10_daysIn_0 28 rfl) (bq_in kqX10_daysIn_0 29 rfl) rfl
theorem dX10_daysIn_30 : decode cX10_daysIn 30 = .ok (.iload_n 1, 1) := oq_27 (bq_in kqX10_daysIn_0 30 rfl)
theorem dX10_daysIn_31 : decode cX10_daysIn 31 = .ok (.bipush 9, 2) := oq_16 (bq_in kqX10_daysIn_0 31 rfl) (bq_in kqX10_daysIn_0 32 rfl) rfl
theorem kqX10_daysIn_1 : ((cX10_daysIn.data.toList.drop 32).take 34).map UInt8.toNat = [9, 159, 0, 9, 27, 16, 11, 160, 0, 8, 16, 30, 167, 0, 5, 16, 31, 172] := by decide +kernel
theorem dX10_daysIn_33 : decode cX10_daysIn 33 = .ok (.if_icmp .eq 9, 3) := oq_159 (bq_in kqX10_daysIn_1 1 rfl) (bq_in kqX10_daysIn_1 2 rfl) (bq_in kqX10_daysIn_1 3 rfl) rfl
theorem dX10_daysIn_36 : decode cX10_daysIn 36 = .ok (.iload_n 1, 1) := oq_27 (bq_in kqX10_daysIn_1 4 rfl)
theorem dX10_daysIn_37 : decode cX10_daysIn 37 = .ok (.bipush 11, 2) := oq_16 (bq_in kqX10_daysIn_1 5 rfl) (bq_in kqX10_daysIn_1 6 rfl) rfl
theorem dX10_daysIn_39 : decode cX10_daysIn 39 = .ok (.if_icmp .ne 8, 3) := oq_160 (bq_in kqX10_daysIn_1 7 rfl) (bq_in kqX10_daysIn_1 8 rfl) (bq_in kqX10_daysIn_1 9 rfl) rfl
theorem dX10_daysIn_42 : decode cX10_daysIn 42 = .ok (.bipush 30, 2) := oq_16 (bq_in kqX10_daysIn_1 10 rfl) (bq_in kqX10_daysIn_1 11 rfl) rfl
theorem dX10_daysIn_44 : decode cX10_daysIn 44 = .ok (.goto 5, 3) := oq_167 (bq_in kqX10_daysIn_1 12 rfl) (bq_in kqX10_daysIn_1 13 rfl) (bq_in kqX10_daysIn_1 14 rfl) rfl
theorem dX10_daysIn_47 : decode cX10_daysIn 47 = .ok (.bipush 31, 2) := oq_16 (bq_in kqX10_daysIn_1 15 rfl) (bq_in kqX10_daysIn_1 16 rfl) rfl
theorem dX10_daysIn_49 : decode cX10_daysIn 49 = .ok (.ireturn, 1) := oq_172 (bq_in kqX10_daysIn_1 17 rfl)
theorem kqX10_isDay_0 : ((cX10_isDay.data.toList.drop 0).take 34).map UInt8.toNat = [26, 3, 18, 64, 184, 0, 65, 172] := by decide +kernel
theorem dX10_isDay_0 : decode cX10_isDay 0 = .ok (.iload_n 0, 1) := oq_26 (bq_in kqX10_isDay_0 0 rfl)
theorem dX10_isDay_1 : decode cX10_isDay 1 = .ok (.iconst 0, 1) := oq_3 (bq_in kqX10_isDay_0 1 rfl)
theorem dX10_isDay_2 : decode cX10_isDay 2 = .ok (.ldc 64, 2) := oq_18 (bq_in kqX10_isDay_0 2 rfl) (bq_in kqX10_isDay_0 3 rfl)
theorem dX10_isDay_4 : decode cX10_isDay 4 = .ok (.invokestatic 65, 3) := oq_184 (bq_in kqX10_isDay_0 4 rfl) (bq_in kqX10_isDay_0 5 rfl) (bq_in kqX10_isDay_0 6 rfl) rfl
theorem dX10_isDay_7 : decode cX10_isDay 7 = .ok (.ireturn, 1) := oq_172 (bq_in kqX10_isDay_0 7 rfl)
theorem kqX10_isTime_0 : ((cX10_isTime.data.toList.drop 0).take 34).map UInt8.toNat = [26, 3, 18, 69, 184, 0, 65, 172] := by decide +kernel
theorem dX10_isTime_0 : decode cX10_isTime 0 = .ok (.iload_n 0, 1) := oq_26 (bq_in kqX10_isTime_0 0 rfl)
theorem dX10_isTime_1 : decode cX10_isTime 1 = .ok (.iconst 0, 1) := oq_3 (bq_in kqX10_isTime_0 1 rfl)
theorem dX10_isTime_2 : decode cX10_isTime 2 = .ok (.ldc 69, 2) := oq_18 (bq_in kqX10_isTime_0 2 rfl) (bq_in kqX10_isTime_0 3 rfl)
theorem dX10_isTime_4 : decode cX10_isTime 4 = .ok (.invokestatic 65, 3) := oq_184 (bq_in kqX10_isTime_0 4 rfl) (bq_in kqX10_isTime_0 5 rfl) (bq_in kqX10_isTime_0 6 rfl) rfl
theorem dX10_isTime_7 : decode cX10_isTime 7 = .ok (.ireturn, 1) := oq_172 (bq_in kqX10_isTime_0 7 rfl)
theorem kqX10_weekdayOf_0 : ((cX10_weekdayOf.data.toList.drop 0).take 34).map UInt8.toNat = [26, 8, 96, 16, 7, 112, 172] := by decide +kernel
theorem dX10_weekdayOf_0 : decode cX10_weekdayOf 0 = .ok (.iload_n 0, 1) := oq_26 (bq_in kqX10_weekdayOf_0 0 rfl)
theorem dX10_weekdayOf_1 : decode cX10_weekdayOf 1 = .ok (.iconst 5, 1) := oq_8 (bq_in kqX10_weekdayOf_0 1 rfl)
theorem dX10_weekdayOf_2 : decode cX10_weekdayOf 2 = .ok (.iadd, 1) := oq_96 (bq_in kqX10_weekdayOf_0 2 rfl)
theorem dX10_weekdayOf_3 : decode cX10_weekdayOf 3 = .ok (.bipush 7, 2) := oq_16 (bq_in kqX10_weekdayOf_0 3 rfl) (bq_in kqX10_weekdayOf_0 4 rfl) rfl
theorem dX10_weekdayOf_5 : decode cX10_weekdayOf 5 = .ok (.irem, 1) := oq_112 (bq_in kqX10_weekdayOf_0 5 rfl)
theorem dX10_weekdayOf_6 : decode cX10_weekdayOf 6 = .ok (.ireturn, 1) := oq_172 (bq_in kqX10_weekdayOf_0 6 rfl)
theorem kqX10_dayOf_0 : ((cX10_dayOf.data.toList.drop 0).take 34).map UInt8.toNat = [27, 17, 7, 208, 100, 17, 1, 109, 104, 54, 4, 21, 4, 18, 7, 162, 0, 45, 42, 180, 0, 8, 21, 4, 46, 27, 160, 0, 28, 42, 180, 0, 14, 21] := by decide +kernel
theorem dX10_dayOf_0 : decode cX10_dayOf 0 = .ok (.iload_n 1, 1) := oq_27 (bq_in kqX10_dayOf_0 0 rfl)
theorem dX10_dayOf_1 : decode cX10_dayOf 1 = .ok (.sipush 2000, 3) := oq_17 (bq_in kqX10_dayOf_0 1 rfl) (bq_in kqX10_dayOf_0 2 rfl) (bq_in kqX10_dayOf_0 3 rfl) rfl
theorem dX10_dayOf_4 : decode cX10_dayOf 4 = .ok (.isub, 1) := oq_100 (bq_in kqX10_dayOf_0 4 rfl)
theorem dX10_dayOf_5 : decode cX10_dayOf 5 = .ok (.sipush 365, 3) := oq_17 (bq_in kqX10_dayOf_0 5 rfl) (bq_in kqX10_dayOf_0 6 rfl) (bq_in kqX10_dayOf_0 7 rfl) rfl
theorem dX10_dayOf_8 : decode cX10_dayOf 8 = .ok (.imul, 1) := oq_104 (bq_in kqX10_dayOf_0 8 rfl)
theorem dX10_dayOf_9 : decode cX10_dayOf 9 = .ok (.istore 4, 2) := oq_54 (bq_in kqX10_dayOf_0 9 rfl) (bq_in kqX10_dayOf_0 10 rfl)
theorem dX10_dayOf_11 : decode cX10_dayOf 11 = .ok (.iload 4, 2) := oq_21 (bq_in kqX10_dayOf_0 11 rfl) (bq_in kqX10_dayOf_0 12 rfl)
theorem dX10_dayOf_13 : decode cX10_dayOf 13 = .ok (.ldc 7, 2) := oq_18 (bq_in kqX10_dayOf_0 13 rfl) (bq_in kqX10_dayOf_0 14 rfl)
theorem dX10_dayOf_15 : decode cX10_dayOf 15 = .ok (.if_icmp .ge 45, 3) := oq_162 (bq_in kqX10_dayOf_0 15 rfl) (bq_in kqX10_dayOf_0 16 rfl) (bq_in kqX10_dayOf_0 17 rfl) rfl
theorem dX10_dayOf_18 : decode cX10_dayOf 18 = .ok (.aload_n 0, 1) := oq_42 (bq_in kqX10_dayOf_0 18 rfl)
theorem dX10_dayOf_19 : decode cX10_dayOf 19 = .ok (.getfield 8, 3) := oq_180 (bq_in kqX10_dayOf_0 19 rfl) (bq_in kqX10_dayOf_0 20 rfl) (bq_in kqX10_dayOf_0 21 rfl) rfl
theorem dX10_dayOf_22 : decode cX10_dayOf 22 = .ok (.iload 4, 2) := oq_21 (bq_in kqX10_dayOf_0 22 rfl) (bq_in kqX10_dayOf_0 23 rfl)
theorem dX10_dayOf_24 : decode cX10_dayOf 24 = .ok (.iaload, 1) := oq_46 (bq_in kqX10_dayOf_0 24 rfl)
theorem dX10_dayOf_25 : decode cX10_dayOf 25 = .ok (.iload_n 1, 1) := oq_27 (bq_in kqX10_dayOf_0 25 rfl)
theorem dX10_dayOf_26 : decode cX10_dayOf 26 = .ok (.if_icmp .ne 28, 3) := oq_160 (bq_in kqX10_dayOf_0 26 rfl) (bq_in kqX10_dayOf_0 27 rfl) (bq_in kqX10_dayOf_0 28 rfl) rfl
theorem dX10_dayOf_29 : decode cX10_dayOf 29 = .ok (.aload_n 0, 1) := oq_42 (bq_in kqX10_dayOf_0 29 rfl)
theorem dX10_dayOf_30 : decode cX10_dayOf 30 = .ok (.getfield 14, 3) := oq_180 (bq_in kqX10_dayOf_0 30 rfl) (bq_in kqX10_dayOf_0 31 rfl) (bq_in kqX10_dayOf_0 32 rfl) rfl
theorem kqX10_dayOf_1 : ((cX10_dayOf.data.toList.drop 32).take 34).map UInt8.toNat = [14, 21, 4, 46, 28, 160, 0, 17, 42, 180, 0, 17, 21, 4, 46, 29, 160, 0, 6, 21, 4, 172, 132, 4, 1, 167, 255, 210, 2, 172] := by decide +kernel
theorem dX10_dayOf_33 : decode cX10_dayOf 33 = .ok (.iload 4, 2) := oq_21 (bq_in kqX10_dayOf_1 1 rfl) (bq_in kqX10_dayOf_1 2 rfl)
theorem dX10_dayOf_35 : decode cX10_dayOf 35 = .ok (.iaload, 1) := oq_46 (bq_in kqX10_dayOf_1 3 rfl)
theorem dX10_dayOf_36 : decode cX10_dayOf 36 = .ok (.iload_n 2, 1) := oq_28 (bq_in kqX10_dayOf_1 4 rfl)
theorem dX10_dayOf_37 : decode cX10_dayOf 37 = .ok (.if_icmp .ne 17, 3) := oq_160 (bq_in kqX10_dayOf_1 5 rfl) (bq_in kqX10_dayOf_1 6 rfl) (bq_in kqX10_dayOf_1 7 rfl) rfl
theorem dX10_dayOf_40 : decode cX10_dayOf 40 = .ok (.aload_n 0, 1) := oq_42 (bq_in kqX10_dayOf_1 8 rfl)
theorem dX10_dayOf_41 : decode cX10_dayOf 41 = .ok (.getfield 17, 3) := oq_180 (bq_in kqX10_dayOf_1 9 rfl) (bq_in kqX10_dayOf_1 10 rfl) (bq_in kqX10_dayOf_1 11 rfl) rfl
theorem dX10_dayOf_44 : decode cX10_dayOf 44 = .ok (.iload 4, 2) := oq_21 (bq_in kqX10_dayOf_1 12 rfl) (bq_in kqX10_dayOf_1 13 rfl)
theorem dX10_dayOf_46 : decode cX10_dayOf 46 = .ok (.iaload, 1) := oq_46 (bq_in kqX10_dayOf_1 14 rfl)
theorem dX10_dayOf_47 : decode cX10_dayOf 47 = .ok (.iload_n 3, 1) := oq_29 (bq_in kqX10_dayOf_1 15 rfl)
theorem dX10_dayOf_48 : decode cX10_dayOf 48 = .ok (.if_icmp .ne 6, 3) := oq_160 (bq_in kqX10_dayOf_1 16 rfl) (bq_in kqX10_dayOf_1 17 rfl) (bq_in kqX10_dayOf_1 18 rfl) rfl
theorem dX10_dayOf_51 : decode cX10_dayOf 51 = .ok (.iload 4, 2) := oq_21 (bq_in kqX10_dayOf_1 19 rfl) (bq_in kqX10_dayOf_1 20 rfl)
theorem dX10_dayOf_53 : decode cX10_dayOf 53 = .ok (.ireturn, 1) := oq_172 (bq_in kqX10_dayOf_1 21 rfl)
theorem dX10_dayOf_54 : decode cX10_dayOf 54 = .ok (.iinc 4 1, 3) := oq_132 (bq_in kqX10_dayOf_1 22 rfl) (bq_in kqX10_dayOf_1 23 rfl) (bq_in kqX10_dayOf_1 24 rfl) rfl
theorem dX10_dayOf_57 : decode cX10_dayOf 57 = .ok (.goto (-46), 3) := oq_167 (bq_in kqX10_dayOf_1 25 rfl) (bq_in kqX10_dayOf_1 26 rfl) (bq_in kqX10_dayOf_1 27 rfl) rfl
theorem dX10_dayOf_60 : decode cX10_dayOf 60 = .ok (.iconst (-1), 1) := oq_2 (bq_in kqX10_dayOf_1 28 rfl)
theorem dX10_dayOf_61 : decode cX10_dayOf 61 = .ok (.ireturn, 1) := oq_172 (bq_in kqX10_dayOf_1 29 rfl)
theorem kqX10_isBooking_0 : ((cX10_isBooking.data.toList.drop 0).take 34).map UInt8.toNat = [27, 3, 42, 180, 0, 70, 4, 100, 184, 0, 65, 172] := by decide +kernel
theorem dX10_isBooking_0 : decode cX10_isBooking 0 = .ok (.iload_n 1, 1) := oq_27 (bq_in kqX10_isBooking_0 0 rfl)
theorem dX10_isBooking_1 : decode cX10_isBooking 1 = .ok (.iconst 0, 1) := oq_3 (bq_in kqX10_isBooking_0 1 rfl)
theorem dX10_isBooking_2 : decode cX10_isBooking 2 = .ok (.aload_n 0, 1) := oq_42 (bq_in kqX10_isBooking_0 2 rfl)
theorem dX10_isBooking_3 : decode cX10_isBooking 3 = .ok (.getfield 70, 3) := oq_180 (bq_in kqX10_isBooking_0 3 rfl) (bq_in kqX10_isBooking_0 4 rfl) (bq_in kqX10_isBooking_0 5 rfl) rfl
theorem dX10_isBooking_6 : decode cX10_isBooking 6 = .ok (.iconst 1, 1) := oq_4 (bq_in kqX10_isBooking_0 6 rfl)
theorem dX10_isBooking_7 : decode cX10_isBooking 7 = .ok (.isub, 1) := oq_100 (bq_in kqX10_isBooking_0 7 rfl)
theorem dX10_isBooking_8 : decode cX10_isBooking 8 = .ok (.invokestatic 65, 3) := oq_184 (bq_in kqX10_isBooking_0 8 rfl) (bq_in kqX10_isBooking_0 9 rfl) (bq_in kqX10_isBooking_0 10 rfl) rfl
theorem dX10_isBooking_11 : decode cX10_isBooking 11 = .ok (.ireturn, 1) := oq_172 (bq_in kqX10_isBooking_0 11 rfl)
theorem kqX10_get_0 : ((cX10_get.data.toList.drop 0).take 34).map UInt8.toNat = [42, 180, 0, 23, 16, 44, 27, 104, 28, 96, 46, 172] := by decide +kernel
theorem dX10_get_0 : decode cX10_get 0 = .ok (.aload_n 0, 1) := oq_42 (bq_in kqX10_get_0 0 rfl)
theorem dX10_get_1 : decode cX10_get 1 = .ok (.getfield 23, 3) := oq_180 (bq_in kqX10_get_0 1 rfl) (bq_in kqX10_get_0 2 rfl) (bq_in kqX10_get_0 3 rfl) rfl
theorem dX10_get_4 : decode cX10_get 4 = .ok (.bipush 44, 2) := oq_16 (bq_in kqX10_get_0 4 rfl) (bq_in kqX10_get_0 5 rfl) rfl
theorem dX10_get_6 : decode cX10_get 6 = .ok (.iload_n 1, 1) := oq_27 (bq_in kqX10_get_0 6 rfl)
theorem dX10_get_7 : decode cX10_get 7 = .ok (.imul, 1) := oq_104 (bq_in kqX10_get_0 7 rfl)
theorem dX10_get_8 : decode cX10_get 8 = .ok (.iload_n 2, 1) := oq_28 (bq_in kqX10_get_0 8 rfl)
theorem dX10_get_9 : decode cX10_get 9 = .ok (.iadd, 1) := oq_96 (bq_in kqX10_get_0 9 rfl)
theorem dX10_get_10 : decode cX10_get 10 = .ok (.iaload, 1) := oq_46 (bq_in kqX10_get_0 10 rfl)
theorem dX10_get_11 : decode cX10_get 11 = .ok (.ireturn, 1) := oq_172 (bq_in kqX10_get_0 11 rfl)
theorem kqX10_eight_0 : ((cX10_eight.data.toList.drop 0).take 34).map UInt8.toNat = [16, 56, 62, 29, 155, 0, 36, 42, 180, 0, 32, 42, 180, 0, 73, 31, 29, 123, 136, 17, 0, 255, 126, 79, 42, 89, 180, 0, 73, 4, 96, 181, 0, 73] := by decide +kernel
theorem dX10_eight_0 : decode cX10_eight 0 = .ok (.bipush 56, 2) := oq_16 (bq_in kqX10_eight_0 0 rfl) (bq_in kqX10_eight_0 1 rfl) rfl
theorem dX10_eight_2 : decode cX10_eight 2 = .ok (.istore_n 3, 1) := oq_62 (bq_in kqX10_eight_0 2 rfl)
theorem dX10_eight_3 : decode cX10_eight 3 = .ok (.iload_n 3, 1) := oq_29 (bq_in kqX10_eight_0 3 rfl)
theorem dX10_eight_4 : decode cX10_eight 4 = .ok (.ifCond .lt 36, 3) := oq_155 (bq_in kqX10_eight_0 4 rfl) (bq_in kqX10_eight_0 5 rfl) (bq_in kqX10_eight_0 6 rfl) rfl
theorem dX10_eight_7 : decode cX10_eight 7 = .ok (.aload_n 0, 1) := oq_42 (bq_in kqX10_eight_0 7 rfl)
theorem dX10_eight_8 : decode cX10_eight 8 = .ok (.getfield 32, 3) := oq_180 (bq_in kqX10_eight_0 8 rfl) (bq_in kqX10_eight_0 9 rfl) (bq_in kqX10_eight_0 10 rfl) rfl
theorem dX10_eight_11 : decode cX10_eight 11 = .ok (.aload_n 0, 1) := oq_42 (bq_in kqX10_eight_0 11 rfl)
theorem dX10_eight_12 : decode cX10_eight 12 = .ok (.getfield 73, 3) := oq_180 (bq_in kqX10_eight_0 12 rfl) (bq_in kqX10_eight_0 13 rfl) (bq_in kqX10_eight_0 14 rfl) rfl
theorem dX10_eight_15 : decode cX10_eight 15 = .ok (.lload_n 1, 1) := oq_31 (bq_in kqX10_eight_0 15 rfl)
theorem dX10_eight_16 : decode cX10_eight 16 = .ok (.iload_n 3, 1) := oq_29 (bq_in kqX10_eight_0 16 rfl)
theorem dX10_eight_17 : decode cX10_eight 17 = .ok (.lshr, 1) := oq_123 (bq_in kqX10_eight_0 17 rfl)
theorem dX10_eight_18 : decode cX10_eight 18 = .ok (.l2i, 1) := oq_136 (bq_in kqX10_eight_0 18 rfl)
theorem dX10_eight_19 : decode cX10_eight 19 = .ok (.sipush 255, 3) := oq_17 (bq_in kqX10_eight_0 19 rfl) (bq_in kqX10_eight_0 20 rfl) (bq_in kqX10_eight_0 21 rfl) rfl
theorem dX10_eight_22 : decode cX10_eight 22 = .ok (.iand, 1) := oq_126 (bq_in kqX10_eight_0 22 rfl)
theorem dX10_eight_23 : decode cX10_eight 23 = .ok (.iastore, 1) := oq_79 (bq_in kqX10_eight_0 23 rfl)
theorem dX10_eight_24 : decode cX10_eight 24 = .ok (.aload_n 0, 1) := oq_42 (bq_in kqX10_eight_0 24 rfl)
theorem dX10_eight_25 : decode cX10_eight 25 = .ok (.dup, 1) := oq_89 (bq_in kqX10_eight_0 25 rfl)
theorem dX10_eight_26 : decode cX10_eight 26 = .ok (.getfield 73, 3) := oq_180 (bq_in kqX10_eight_0 26 rfl) (bq_in kqX10_eight_0 27 rfl) (bq_in kqX10_eight_0 28 rfl) rfl
theorem dX10_eight_29 : decode cX10_eight 29 = .ok (.iconst 1, 1) := oq_4 (bq_in kqX10_eight_0 29 rfl)
theorem dX10_eight_30 : decode cX10_eight 30 = .ok (.iadd, 1) := oq_96 (bq_in kqX10_eight_0 30 rfl)
theorem dX10_eight_31 : decode cX10_eight 31 = .ok (.putfield 73, 3) := oq_181 (bq_in kqX10_eight_0 31 rfl) (bq_in kqX10_eight_0 32 rfl) (bq_in kqX10_eight_0 33 rfl) rfl
theorem kqX10_eight_1 : ((cX10_eight.data.toList.drop 32).take 34).map UInt8.toNat = [0, 73, 132, 3, 248, 167, 255, 222, 177] := by decide +kernel
theorem dX10_eight_34 : decode cX10_eight 34 = .ok (.iinc 3 (-8), 3) := oq_132 (bq_in kqX10_eight_1 2 rfl) (bq_in kqX10_eight_1 3 rfl) (bq_in kqX10_eight_1 4 rfl) rfl
theorem dX10_eight_37 : decode cX10_eight 37 = .ok (.goto (-34), 3) := oq_167 (bq_in kqX10_eight_1 5 rfl) (bq_in kqX10_eight_1 6 rfl) (bq_in kqX10_eight_1 7 rfl) rfl
theorem dX10_eight_40 : decode cX10_eight 40 = .ok (.return_, 1) := oq_177 (bq_in kqX10_eight_1 8 rfl)
theorem kqX10_feed_0 : ((cX10_feed.data.toList.drop 0).take 34).map UInt8.toNat = [42, 3, 181, 0, 60, 42, 180, 0, 73, 16, 24, 96, 17, 0, 168, 164, 0, 5, 2, 172, 42, 31, 182, 0, 76, 42, 33, 182, 0, 76, 42, 22, 5, 182] := by decide +kernel
theorem dX10_feed_0 : decode cX10_feed 0 = .ok (.aload_n 0, 1) := oq_42 (bq_in kqX10_feed_0 0 rfl)
theorem dX10_feed_1 : decode cX10_feed 1 = .ok (.iconst 0, 1) := oq_3 (bq_in kqX10_feed_0 1 rfl)
theorem dX10_feed_2 : decode cX10_feed 2 = .ok (.putfield 60, 3) := oq_181 (bq_in kqX10_feed_0 2 rfl) (bq_in kqX10_feed_0 3 rfl) (bq_in kqX10_feed_0 4 rfl) rfl
theorem dX10_feed_5 : decode cX10_feed 5 = .ok (.aload_n 0, 1) := oq_42 (bq_in kqX10_feed_0 5 rfl)
theorem dX10_feed_6 : decode cX10_feed 6 = .ok (.getfield 73, 3) := oq_180 (bq_in kqX10_feed_0 6 rfl) (bq_in kqX10_feed_0 7 rfl) (bq_in kqX10_feed_0 8 rfl) rfl
theorem dX10_feed_9 : decode cX10_feed 9 = .ok (.bipush 24, 2) := oq_16 (bq_in kqX10_feed_0 9 rfl) (bq_in kqX10_feed_0 10 rfl) rfl
theorem dX10_feed_11 : decode cX10_feed 11 = .ok (.iadd, 1) := oq_96 (bq_in kqX10_feed_0 11 rfl)
theorem dX10_feed_12 : decode cX10_feed 12 = .ok (.sipush 168, 3) := oq_17 (bq_in kqX10_feed_0 12 rfl) (bq_in kqX10_feed_0 13 rfl) (bq_in kqX10_feed_0 14 rfl) rfl
theorem dX10_feed_15 : decode cX10_feed 15 = .ok (.if_icmp .le 5, 3) := oq_164 (bq_in kqX10_feed_0 15 rfl) (bq_in kqX10_feed_0 16 rfl) (bq_in kqX10_feed_0 17 rfl) rfl
theorem dX10_feed_18 : decode cX10_feed 18 = .ok (.iconst (-1), 1) := oq_2 (bq_in kqX10_feed_0 18 rfl)
theorem dX10_feed_19 : decode cX10_feed 19 = .ok (.ireturn, 1) := oq_172 (bq_in kqX10_feed_0 19 rfl)
theorem dX10_feed_20 : decode cX10_feed 20 = .ok (.aload_n 0, 1) := oq_42 (bq_in kqX10_feed_0 20 rfl)
theorem dX10_feed_21 : decode cX10_feed 21 = .ok (.lload_n 1, 1) := oq_31 (bq_in kqX10_feed_0 21 rfl)
theorem dX10_feed_22 : decode cX10_feed 22 = .ok (.invokevirtual 76, 3) := oq_182 (bq_in kqX10_feed_0 22 rfl) (bq_in kqX10_feed_0 23 rfl) (bq_in kqX10_feed_0 24 rfl) rfl
theorem dX10_feed_25 : decode cX10_feed 25 = .ok (.aload_n 0, 1) := oq_42 (bq_in kqX10_feed_0 25 rfl)
theorem dX10_feed_26 : decode cX10_feed 26 = .ok (.lload_n 3, 1) := oq_33 (bq_in kqX10_feed_0 26 rfl)
theorem dX10_feed_27 : decode cX10_feed 27 = .ok (.invokevirtual 76, 3) := oq_182 (bq_in kqX10_feed_0 27 rfl) (bq_in kqX10_feed_0 28 rfl) (bq_in kqX10_feed_0 29 rfl) rfl
theorem dX10_feed_30 : decode cX10_feed 30 = .ok (.aload_n 0, 1) := oq_42 (bq_in kqX10_feed_0 30 rfl)
theorem dX10_feed_31 : decode cX10_feed 31 = .ok (.lload 5, 2) := oq_22 (bq_in kqX10_feed_0 31 rfl) (bq_in kqX10_feed_0 32 rfl)
theorem kqX10_feed_1 : ((cX10_feed.data.toList.drop 32).take 34).map UInt8.toNat = [5, 182, 0, 76, 42, 180, 0, 73, 172] := by decide +kernel
theorem dX10_feed_33 : decode cX10_feed 33 = .ok (.invokevirtual 76, 3) := oq_182 (bq_in kqX10_feed_1 1 rfl) (bq_in kqX10_feed_1 2 rfl) (bq_in kqX10_feed_1 3 rfl) rfl
theorem dX10_feed_36 : decode cX10_feed 36 = .ok (.aload_n 0, 1) := oq_42 (bq_in kqX10_feed_1 4 rfl)
theorem dX10_feed_37 : decode cX10_feed 37 = .ok (.getfield 73, 3) := oq_180 (bq_in kqX10_feed_1 5 rfl) (bq_in kqX10_feed_1 6 rfl) (bq_in kqX10_feed_1 7 rfl) rfl
theorem dX10_feed_40 : decode cX10_feed 40 = .ok (.ireturn, 1) := oq_172 (bq_in kqX10_feed_1 8 rfl)
theorem kqX10_end_0 : ((cX10_end.data.toList.drop 0).take 34).map UInt8.toNat = [42, 3, 181, 0, 60, 27, 3, 42, 180, 0, 73, 184, 0, 65, 154, 0, 5, 2, 172, 42, 27, 181, 0, 73, 27, 172] := by decide +kernel
theorem dX10_end_0 : decode cX10_end 0 = .ok (.aload_n 0, 1) := oq_42 (bq_in kqX10_end_0 0 rfl)
theorem dX10_end_1 : decode cX10_end 1 = .ok (.iconst 0, 1) := oq_3 (bq_in kqX10_end_0 1 rfl)
theorem dX10_end_2 : decode cX10_end 2 = .ok (.putfield 60, 3) := oq_181 (bq_in kqX10_end_0 2 rfl) (bq_in kqX10_end_0 3 rfl) (bq_in kqX10_end_0 4 rfl) rfl
theorem dX10_end_5 : decode cX10_end 5 = .ok (.iload_n 1, 1) := oq_27 (bq_in kqX10_end_0 5 rfl)
theorem dX10_end_6 : decode cX10_end 6 = .ok (.iconst 0, 1) := oq_3 (bq_in kqX10_end_0 6 rfl)
theorem dX10_end_7 : decode cX10_end 7 = .ok (.aload_n 0, 1) := oq_42 (bq_in kqX10_end_0 7 rfl)
theorem dX10_end_8 : decode cX10_end 8 = .ok (.getfield 73, 3) := oq_180 (bq_in kqX10_end_0 8 rfl) (bq_in kqX10_end_0 9 rfl) (bq_in kqX10_end_0 10 rfl) rfl
theorem dX10_end_11 : decode cX10_end 11 = .ok (.invokestatic 65, 3) := oq_184 (bq_in kqX10_end_0 11 rfl) (bq_in kqX10_end_0 12 rfl) (bq_in kqX10_end_0 13 rfl) rfl
theorem dX10_end_14 : decode cX10_end 14 = .ok (.ifCond .ne 5, 3) := oq_154 (bq_in kqX10_end_0 14 rfl) (bq_in kqX10_end_0 15 rfl) (bq_in kqX10_end_0 16 rfl) rfl
theorem dX10_end_17 : decode cX10_end 17 = .ok (.iconst (-1), 1) := oq_2 (bq_in kqX10_end_0 17 rfl)
theorem dX10_end_18 : decode cX10_end 18 = .ok (.ireturn, 1) := oq_172 (bq_in kqX10_end_0 18 rfl)
theorem dX10_end_19 : decode cX10_end 19 = .ok (.aload_n 0, 1) := oq_42 (bq_in kqX10_end_0 19 rfl)
theorem dX10_end_20 : decode cX10_end 20 = .ok (.iload_n 1, 1) := oq_27 (bq_in kqX10_end_0 20 rfl)
theorem dX10_end_21 : decode cX10_end 21 = .ok (.putfield 73, 3) := oq_181 (bq_in kqX10_end_0 21 rfl) (bq_in kqX10_end_0 22 rfl) (bq_in kqX10_end_0 23 rfl) rfl
theorem dX10_end_24 : decode cX10_end 24 = .ok (.iload_n 1, 1) := oq_27 (bq_in kqX10_end_0 24 rfl)
theorem dX10_end_25 : decode cX10_end 25 = .ok (.ireturn, 1) := oq_172 (bq_in kqX10_end_0 25 rfl)
theorem kqX10_byteAt_0 : ((cX10_byteAt.data.toList.drop 0).take 34).map UInt8.toNat = [27, 42, 180, 0, 80, 162, 0, 12, 42, 180, 0, 32, 27, 46, 167, 0, 4, 2, 172] := by decide +kernel
theorem dX10_byteAt_0 : decode cX10_byteAt 0 = .ok (.iload_n 1, 1) := oq_27 (bq_in kqX10_byteAt_0 0 rfl)
theorem dX10_byteAt_1 : decode cX10_byteAt 1 = .ok (.aload_n 0, 1) := oq_42 (bq_in kqX10_byteAt_0 1 rfl)
theorem dX10_byteAt_2 : decode cX10_byteAt 2 = .ok (.getfield 80, 3) := oq_180 (bq_in kqX10_byteAt_0 2 rfl) (bq_in kqX10_byteAt_0 3 rfl) (bq_in kqX10_byteAt_0 4 rfl) rfl
theorem dX10_byteAt_5 : decode cX10_byteAt 5 = .ok (.if_icmp .ge 12, 3) := oq_162 (bq_in kqX10_byteAt_0 5 rfl) (bq_in kqX10_byteAt_0 6 rfl) (bq_in kqX10_byteAt_0 7 rfl) rfl
theorem dX10_byteAt_8 : decode cX10_byteAt 8 = .ok (.aload_n 0, 1) := oq_42 (bq_in kqX10_byteAt_0 8 rfl)
theorem dX10_byteAt_9 : decode cX10_byteAt 9 = .ok (.getfield 32, 3) := oq_180 (bq_in kqX10_byteAt_0 9 rfl) (bq_in kqX10_byteAt_0 10 rfl) (bq_in kqX10_byteAt_0 11 rfl) rfl
theorem dX10_byteAt_12 : decode cX10_byteAt 12 = .ok (.iload_n 1, 1) := oq_27 (bq_in kqX10_byteAt_0 12 rfl)
theorem dX10_byteAt_13 : decode cX10_byteAt 13 = .ok (.iaload, 1) := oq_46 (bq_in kqX10_byteAt_0 13 rfl)
theorem dX10_byteAt_14 : decode cX10_byteAt 14 = .ok (.goto 4, 3) := oq_167 (bq_in kqX10_byteAt_0 14 rfl) (bq_in kqX10_byteAt_0 15 rfl) (bq_in kqX10_byteAt_0 16 rfl) rfl
theorem dX10_byteAt_17 : decode cX10_byteAt 17 = .ok (.iconst (-1), 1) := oq_2 (bq_in kqX10_byteAt_0 17 rfl)
theorem dX10_byteAt_18 : decode cX10_byteAt 18 = .ok (.ireturn, 1) := oq_172 (bq_in kqX10_byteAt_0 18 rfl)
theorem kqX10_isSmall_0 : ((cX10_isSmall.data.toList.drop 0).take 34).map UInt8.toNat = [26, 16, 97, 161, 0, 13, 26, 16, 122, 163, 0, 7, 4, 167, 0, 4, 3, 172] := by decide +kernel
theorem dX10_isSmall_0 : decode cX10_isSmall 0 = .ok (.iload_n 0, 1) := oq_26 (bq_in kqX10_isSmall_0 0 rfl)
theorem dX10_isSmall_1 : decode cX10_isSmall 1 = .ok (.bipush 97, 2) := oq_16 (bq_in kqX10_isSmall_0 1 rfl) (bq_in kqX10_isSmall_0 2 rfl) rfl
theorem dX10_isSmall_3 : decode cX10_isSmall 3 = .ok (.if_icmp .lt 13, 3) := oq_161 (bq_in kqX10_isSmall_0 3 rfl) (bq_in kqX10_isSmall_0 4 rfl) (bq_in kqX10_isSmall_0 5 rfl) rfl
theorem dX10_isSmall_6 : decode cX10_isSmall 6 = .ok (.iload_n 0, 1) := oq_26 (bq_in kqX10_isSmall_0 6 rfl)
theorem dX10_isSmall_7 : decode cX10_isSmall 7 = .ok (.bipush 122, 2) := oq_16 (bq_in kqX10_isSmall_0 7 rfl) (bq_in kqX10_isSmall_0 8 rfl) rfl
theorem dX10_isSmall_9 : decode cX10_isSmall 9 = .ok (.if_icmp .gt 7, 3) := oq_163 (bq_in kqX10_isSmall_0 9 rfl) (bq_in kqX10_isSmall_0 10 rfl) (bq_in kqX10_isSmall_0 11 rfl) rfl
theorem dX10_isSmall_12 : decode cX10_isSmall 12 = .ok (.iconst 1, 1) := oq_4 (bq_in kqX10_isSmall_0 12 rfl)
theorem dX10_isSmall_13 : decode cX10_isSmall 13 = .ok (.goto 4, 3) := oq_167 (bq_in kqX10_isSmall_0 13 rfl) (bq_in kqX10_isSmall_0 14 rfl) (bq_in kqX10_isSmall_0 15 rfl) rfl
theorem dX10_isSmall_16 : decode cX10_isSmall 16 = .ok (.iconst 0, 1) := oq_3 (bq_in kqX10_isSmall_0 16 rfl)
theorem dX10_isSmall_17 : decode cX10_isSmall 17 = .ok (.ireturn, 1) := oq_172 (bq_in kqX10_isSmall_0 17 rfl)
theorem kqX10_isDigit_0 : ((cX10_isDigit.data.toList.drop 0).take 34).map UInt8.toNat = [26, 16, 48, 161, 0, 13, 26, 16, 57, 163, 0, 7, 4, 167, 0, 4, 3, 172] := by decide +kernel
theorem dX10_isDigit_0 : decode cX10_isDigit 0 = .ok (.iload_n 0, 1) := oq_26 (bq_in kqX10_isDigit_0 0 rfl)
theorem dX10_isDigit_1 : decode cX10_isDigit 1 = .ok (.bipush 48, 2) := oq_16 (bq_in kqX10_isDigit_0 1 rfl) (bq_in kqX10_isDigit_0 2 rfl) rfl
theorem dX10_isDigit_3 : decode cX10_isDigit 3 = .ok (.if_icmp .lt 13, 3) := oq_161 (bq_in kqX10_isDigit_0 3 rfl) (bq_in kqX10_isDigit_0 4 rfl) (bq_in kqX10_isDigit_0 5 rfl) rfl
theorem dX10_isDigit_6 : decode cX10_isDigit 6 = .ok (.iload_n 0, 1) := oq_26 (bq_in kqX10_isDigit_0 6 rfl)
theorem dX10_isDigit_7 : decode cX10_isDigit 7 = .ok (.bipush 57, 2) := oq_16 (bq_in kqX10_isDigit_0 7 rfl) (bq_in kqX10_isDigit_0 8 rfl) rfl
theorem dX10_isDigit_9 : decode cX10_isDigit 9 = .ok (.if_icmp .gt 7, 3) := oq_163 (bq_in kqX10_isDigit_0 9 rfl) (bq_in kqX10_isDigit_0 10 rfl) (bq_in kqX10_isDigit_0 11 rfl) rfl
theorem dX10_isDigit_12 : decode cX10_isDigit 12 = .ok (.iconst 1, 1) := oq_4 (bq_in kqX10_isDigit_0 12 rfl)
theorem dX10_isDigit_13 : decode cX10_isDigit 13 = .ok (.goto 4, 3) := oq_167 (bq_in kqX10_isDigit_0 13 rfl) (bq_in kqX10_isDigit_0 14 rfl) (bq_in kqX10_isDigit_0 15 rfl) rfl
theorem dX10_isDigit_16 : decode cX10_isDigit 16 = .ok (.iconst 0, 1) := oq_3 (bq_in kqX10_isDigit_0 16 rfl)
theorem dX10_isDigit_17 : decode cX10_isDigit 17 = .ok (.ireturn, 1) := oq_172 (bq_in kqX10_isDigit_0 17 rfl)
theorem kqX10_next_0 : ((cX10_next.data.toList.drop 0).take 34).map UInt8.toNat = [42, 180, 0, 83, 158, 0, 4, 177, 42, 180, 0, 86, 60, 42, 27, 182, 0, 89, 16, 32, 160, 0, 9, 132, 1, 1, 167, 255, 243, 42, 27, 181, 0, 93] := by decide +kernel
theorem dX10_next_0 : decode cX10_next 0 = .ok (.aload_n 0, 1) := oq_42 (bq_in kqX10_next_0 0 rfl)
theorem dX10_next_1 : decode cX10_next 1 = .ok (.getfield 83, 3) := oq_180 (bq_in kqX10_next_0 1 rfl) (bq_in kqX10_next_0 2 rfl) (bq_in kqX10_next_0 3 rfl) rfl
theorem dX10_next_4 : decode cX10_next 4 = .ok (.ifCond .le 4, 3) := oq_158 (bq_in kqX10_next_0 4 rfl) (bq_in kqX10_next_0 5 rfl) (bq_in kqX10_next_0 6 rfl) rfl
theorem dX10_next_7 : decode cX10_next 7 = .ok (.return_, 1) := oq_177 (bq_in kqX10_next_0 7 rfl)
theorem dX10_next_8 : decode cX10_next 8 = .ok (.aload_n 0, 1) := oq_42 (bq_in kqX10_next_0 8 rfl)
theorem dX10_next_9 : decode cX10_next 9 = .ok (.getfield 86, 3) := oq_180 (bq_in kqX10_next_0 9 rfl) (bq_in kqX10_next_0 10 rfl) (bq_in kqX10_next_0 11 rfl) rfl
theorem dX10_next_12 : decode cX10_next 12 = .ok (.istore_n 1, 1) := oq_60 (bq_in kqX10_next_0 12 rfl)
theorem dX10_next_13 : decode cX10_next 13 = .ok (.aload_n 0, 1) := oq_42 (bq_in kqX10_next_0 13 rfl)
theorem dX10_next_14 : decode cX10_next 14 = .ok (.iload_n 1, 1) := oq_27 (bq_in kqX10_next_0 14 rfl)
theorem dX10_next_15 : decode cX10_next 15 = .ok (.invokevirtual 89, 3) := oq_182 (bq_in kqX10_next_0 15 rfl) (bq_in kqX10_next_0 16 rfl) (bq_in kqX10_next_0 17 rfl) rfl
theorem dX10_next_18 : decode cX10_next 18 = .ok (.bipush 32, 2) := oq_16 (bq_in kqX10_next_0 18 rfl) (bq_in kqX10_next_0 19 rfl) rfl
theorem dX10_next_20 : decode cX10_next 20 = .ok (.if_icmp .ne 9, 3) := oq_160 (bq_in kqX10_next_0 20 rfl) (bq_in kqX10_next_0 21 rfl) (bq_in kqX10_next_0 22 rfl) rfl
theorem dX10_next_23 : decode cX10_next 23 = .ok (.iinc 1 1, 3) := oq_132 (bq_in kqX10_next_0 23 rfl) (bq_in kqX10_next_0 24 rfl) (bq_in kqX10_next_0 25 rfl) rfl
theorem dX10_next_26 : decode cX10_next 26 = .ok (.goto (-13), 3) := oq_167 (bq_in kqX10_next_0 26 rfl) (bq_in kqX10_next_0 27 rfl) (bq_in kqX10_next_0 28 rfl) rfl
theorem dX10_next_29 : decode cX10_next 29 = .ok (.aload_n 0, 1) := oq_42 (bq_in kqX10_next_0 29 rfl)
theorem dX10_next_30 : decode cX10_next 30 = .ok (.iload_n 1, 1) := oq_27 (bq_in kqX10_next_0 30 rfl)
theorem dX10_next_31 : decode cX10_next 31 = .ok (.putfield 93, 3) := oq_181 (bq_in kqX10_next_0 31 rfl) (bq_in kqX10_next_0 32 rfl) (bq_in kqX10_next_0 33 rfl) rfl
theorem kqX10_next_1 : ((cX10_next.data.toList.drop 32).take 34).map UInt8.toNat = [0, 93, 42, 27, 4, 96, 181, 0, 86, 42, 27, 182, 0, 89, 61, 42, 6, 181, 0, 96, 42, 9, 181, 0, 99, 42, 3, 181, 0, 103, 28, 2, 160, 0] := by decide +kernel
theorem dX10_next_34 : decode cX10_next 34 = .ok (.aload_n 0, 1) := oq_42 (bq_in kqX10_next_1 2 rfl)
theorem dX10_next_35 : decode cX10_next 35 = .ok (.iload_n 1, 1) := oq_27 (bq_in kqX10_next_1 3 rfl)
theorem dX10_next_36 : decode cX10_next 36 = .ok (.iconst 1, 1) := oq_4 (bq_in kqX10_next_1 4 rfl)
theorem dX10_next_37 : decode cX10_next 37 = .ok (.iadd, 1) := oq_96 (bq_in kqX10_next_1 5 rfl)
theorem dX10_next_38 : decode cX10_next 38 = .ok (.putfield 86, 3) := oq_181 (bq_in kqX10_next_1 6 rfl) (bq_in kqX10_next_1 7 rfl) (bq_in kqX10_next_1 8 rfl) rfl
theorem dX10_next_41 : decode cX10_next 41 = .ok (.aload_n 0, 1) := oq_42 (bq_in kqX10_next_1 9 rfl)
theorem dX10_next_42 : decode cX10_next 42 = .ok (.iload_n 1, 1) := oq_27 (bq_in kqX10_next_1 10 rfl)
theorem dX10_next_43 : decode cX10_next 43 = .ok (.invokevirtual 89, 3) := oq_182 (bq_in kqX10_next_1 11 rfl) (bq_in kqX10_next_1 12 rfl) (bq_in kqX10_next_1 13 rfl) rfl
theorem dX10_next_46 : decode cX10_next 46 = .ok (.istore_n 2, 1) := oq_61 (bq_in kqX10_next_1 14 rfl)
theorem dX10_next_47 : decode cX10_next 47 = .ok (.aload_n 0, 1) := oq_42 (bq_in kqX10_next_1 15 rfl)
theorem dX10_next_48 : decode cX10_next 48 = .ok (.iconst 3, 1) := oq_6 (bq_in kqX10_next_1 16 rfl)
theorem dX10_next_49 : decode cX10_next 49 = .ok (.putfield 96, 3) := oq_181 (bq_in kqX10_next_1 17 rfl) (bq_in kqX10_next_1 18 rfl) (bq_in kqX10_next_1 19 rfl) rfl
theorem dX10_next_52 : decode cX10_next 52 = .ok (.aload_n 0, 1) := oq_42 (bq_in kqX10_next_1 20 rfl)
theorem dX10_next_53 : decode cX10_next 53 = .ok (.lconst 0, 1) := oq_9 (bq_in kqX10_next_1 21 rfl)
theorem dX10_next_54 : decode cX10_next 54 = .ok (.putfield 99, 3) := oq_181 (bq_in kqX10_next_1 22 rfl) (bq_in kqX10_next_1 23 rfl) (bq_in kqX10_next_1 24 rfl) rfl
theorem dX10_next_57 : decode cX10_next 57 = .ok (.aload_n 0, 1) := oq_42 (bq_in kqX10_next_1 25 rfl)
theorem dX10_next_58 : decode cX10_next 58 = .ok (.iconst 0, 1) := oq_3 (bq_in kqX10_next_1 26 rfl)
theorem dX10_next_59 : decode cX10_next 59 = .ok (.putfield 103, 3) := oq_181 (bq_in kqX10_next_1 27 rfl) (bq_in kqX10_next_1 28 rfl) (bq_in kqX10_next_1 29 rfl) rfl
theorem dX10_next_62 : decode cX10_next 62 = .ok (.iload_n 2, 1) := oq_28 (bq_in kqX10_next_1 30 rfl)
theorem dX10_next_63 : decode cX10_next 63 = .ok (.iconst (-1), 1) := oq_2 (bq_in kqX10_next_1 31 rfl)
theorem kqX10_next_2 : ((cX10_next.data.toList.drop 64).take 34).map UInt8.toNat = [160, 0, 16, 42, 3, 181, 0, 96, 42, 27, 181, 0, 86, 167, 0, 175, 28, 184, 0, 106, 153, 0, 77, 42, 4, 181, 0, 96, 42, 27, 181, 0, 86, 42] := by decide +kernel
theorem dX10_next_64 : decode cX10_next 64 = .ok (.if_icmp .ne 16, 3) := oq_160 (bq_in kqX10_next_2 0 rfl) (bq_in kqX10_next_2 1 rfl) (bq_in kqX10_next_2 2 rfl) rfl
theorem dX10_next_67 : decode cX10_next 67 = .ok (.aload_n 0, 1) := oq_42 (bq_in kqX10_next_2 3 rfl)
theorem dX10_next_68 : decode cX10_next 68 = .ok (.iconst 0, 1) := oq_3 (bq_in kqX10_next_2 4 rfl)
theorem dX10_next_69 : decode cX10_next 69 = .ok (.putfield 96, 3) := oq_181 (bq_in kqX10_next_2 5 rfl) (bq_in kqX10_next_2 6 rfl) (bq_in kqX10_next_2 7 rfl) rfl
theorem dX10_next_72 : decode cX10_next 72 = .ok (.aload_n 0, 1) := oq_42 (bq_in kqX10_next_2 8 rfl)
theorem dX10_next_73 : decode cX10_next 73 = .ok (.iload_n 1, 1) := oq_27 (bq_in kqX10_next_2 9 rfl)
theorem dX10_next_74 : decode cX10_next 74 = .ok (.putfield 86, 3) := oq_181 (bq_in kqX10_next_2 10 rfl) (bq_in kqX10_next_2 11 rfl) (bq_in kqX10_next_2 12 rfl) rfl
theorem dX10_next_77 : decode cX10_next 77 = .ok (.goto 175, 3) := oq_167 (bq_in kqX10_next_2 13 rfl) (bq_in kqX10_next_2 14 rfl) (bq_in kqX10_next_2 15 rfl) rfl
theorem dX10_next_80 : decode cX10_next 80 = .ok (.iload_n 2, 1) := oq_28 (bq_in kqX10_next_2 16 rfl)
theorem dX10_next_81 : decode cX10_next 81 = .ok (.invokestatic 106, 3) := oq_184 (bq_in kqX10_next_2 17 rfl) (bq_in kqX10_next_2 18 rfl) (bq_in kqX10_next_2 19 rfl) rfl
theorem dX10_next_84 : decode cX10_next 84 = .ok (.ifCond .eq 77, 3) := oq_153 (bq_in kqX10_next_2 20 rfl) (bq_in kqX10_next_2 21 rfl) (bq_in kqX10_next_2 22 rfl) rfl
theorem dX10_next_87 : decode cX10_next 87 = .ok (.aload_n 0, 1) := oq_42 (bq_in kqX10_next_2 23 rfl)
theorem dX10_next_88 : decode cX10_next 88 = .ok (.iconst 1, 1) := oq_4 (bq_in kqX10_next_2 24 rfl)
theorem dX10_next_89 : decode cX10_next 89 = .ok (.putfield 96, 3) := oq_181 (bq_in kqX10_next_2 25 rfl) (bq_in kqX10_next_2 26 rfl) (bq_in kqX10_next_2 27 rfl) rfl
theorem dX10_next_92 : decode cX10_next 92 = .ok (.aload_n 0, 1) := oq_42 (bq_in kqX10_next_2 28 rfl)
theorem dX10_next_93 : decode cX10_next 93 = .ok (.iload_n 1, 1) := oq_27 (bq_in kqX10_next_2 29 rfl)
theorem dX10_next_94 : decode cX10_next 94 = .ok (.putfield 86, 3) := oq_181 (bq_in kqX10_next_2 30 rfl) (bq_in kqX10_next_2 31 rfl) (bq_in kqX10_next_2 32 rfl) rfl
theorem kqX10_next_3 : ((cX10_next.data.toList.drop 96).take 34).map UInt8.toNat = [86, 42, 42, 180, 0, 86, 182, 0, 89, 184, 0, 106, 153, 0, 144, 42, 42, 180, 0, 86, 27, 100, 16, 7, 162, 0, 24, 20, 0, 110, 42, 180, 0, 99] := by decide +kernel
theorem dX10_next_97 : decode cX10_next 97 = .ok (.aload_n 0, 1) := oq_42 (bq_in kqX10_next_3 1 rfl)
theorem dX10_next_98 : decode cX10_next 98 = .ok (.aload_n 0, 1) := oq_42 (bq_in kqX10_next_3 2 rfl)
theorem dX10_next_99 : decode cX10_next 99 = .ok (.getfield 86, 3) := oq_180 (bq_in kqX10_next_3 3 rfl) (bq_in kqX10_next_3 4 rfl) (bq_in kqX10_next_3 5 rfl) rfl
theorem dX10_next_102 : decode cX10_next 102 = .ok (.invokevirtual 89, 3) := oq_182 (bq_in kqX10_next_3 6 rfl) (bq_in kqX10_next_3 7 rfl) (bq_in kqX10_next_3 8 rfl) rfl
theorem dX10_next_105 : decode cX10_next 105 = .ok (.invokestatic 106, 3) := oq_184 (bq_in kqX10_next_3 9 rfl) (bq_in kqX10_next_3 10 rfl) (bq_in kqX10_next_3 11 rfl) rfl
theorem dX10_next_108 : decode cX10_next 108 = .ok (.ifCond .eq 144, 3) := oq_153 (bq_in kqX10_next_3 12 rfl) (bq_in kqX10_next_3 13 rfl) (bq_in kqX10_next_3 14 rfl) rfl
theorem dX10_next_111 : decode cX10_next 111 = .ok (.aload_n 0, 1) := oq_42 (bq_in kqX10_next_3 15 rfl)
theorem dX10_next_112 : decode cX10_next 112 = .ok (.aload_n 0, 1) := oq_42 (bq_in kqX10_next_3 16 rfl)
theorem dX10_next_113 : decode cX10_next 113 = .ok (.getfield 86, 3) := oq_180 (bq_in kqX10_next_3 17 rfl) (bq_in kqX10_next_3 18 rfl) (bq_in kqX10_next_3 19 rfl) rfl
theorem dX10_next_116 : decode cX10_next 116 = .ok (.iload_n 1, 1) := oq_27 (bq_in kqX10_next_3 20 rfl)
theorem dX10_next_117 : decode cX10_next 117 = .ok (.isub, 1) := oq_100 (bq_in kqX10_next_3 21 rfl)
theorem dX10_next_118 : decode cX10_next 118 = .ok (.bipush 7, 2) := oq_16 (bq_in kqX10_next_3 22 rfl) (bq_in kqX10_next_3 23 rfl) rfl
theorem dX10_next_120 : decode cX10_next 120 = .ok (.if_icmp .ge 24, 3) := oq_162 (bq_in kqX10_next_3 24 rfl) (bq_in kqX10_next_3 25 rfl) (bq_in kqX10_next_3 26 rfl) rfl
theorem dX10_next_123 : decode cX10_next 123 = .ok (.ldc2_w 110, 3) := oq_20 (bq_in kqX10_next_3 27 rfl) (bq_in kqX10_next_3 28 rfl) (bq_in kqX10_next_3 29 rfl) rfl
theorem dX10_next_126 : decode cX10_next 126 = .ok (.aload_n 0, 1) := oq_42 (bq_in kqX10_next_3 30 rfl)
theorem dX10_next_127 : decode cX10_next 127 = .ok (.getfield 99, 3) := oq_180 (bq_in kqX10_next_3 31 rfl) (bq_in kqX10_next_3 32 rfl) (bq_in kqX10_next_3 33 rfl) rfl
theorem kqX10_next_4 : ((cX10_next.data.toList.drop 128).take 34).map UInt8.toNat = [0, 99, 105, 42, 42, 180, 0, 86, 182, 0, 89, 133, 97, 167, 0, 4, 9, 181, 0, 99, 42, 89, 180, 0, 86, 4, 96, 181, 0, 86, 167, 255, 195, 28] := by decide +kernel
theorem dX10_next_130 : decode cX10_next 130 = .ok (.lmul, 1) := oq_105 (bq_in kqX10_next_4 2 rfl)
theorem dX10_next_131 : decode cX10_next 131 = .ok (.aload_n 0, 1) := oq_42 (bq_in kqX10_next_4 3 rfl)
theorem dX10_next_132 : decode cX10_next 132 = .ok (.aload_n 0, 1) := oq_42 (bq_in kqX10_next_4 4 rfl)
theorem dX10_next_133 : decode cX10_next 133 = .ok (.getfield 86, 3) := oq_180 (bq_in kqX10_next_4 5 rfl) (bq_in kqX10_next_4 6 rfl) (bq_in kqX10_next_4 7 rfl) rfl
theorem dX10_next_136 : decode cX10_next 136 = .ok (.invokevirtual 89, 3) := oq_182 (bq_in kqX10_next_4 8 rfl) (bq_in kqX10_next_4 9 rfl) (bq_in kqX10_next_4 10 rfl) rfl
theorem dX10_next_139 : decode cX10_next 139 = .ok (.i2l, 1) := oq_133 (bq_in kqX10_next_4 11 rfl)
theorem dX10_next_140 : decode cX10_next 140 = .ok (.ladd, 1) := oq_97 (bq_in kqX10_next_4 12 rfl)
theorem dX10_next_141 : decode cX10_next 141 = .ok (.goto 4, 3) := oq_167 (bq_in kqX10_next_4 13 rfl) (bq_in kqX10_next_4 14 rfl) (bq_in kqX10_next_4 15 rfl) rfl
theorem dX10_next_144 : decode cX10_next 144 = .ok (.lconst 0, 1) := oq_9 (bq_in kqX10_next_4 16 rfl)
theorem dX10_next_145 : decode cX10_next 145 = .ok (.putfield 99, 3) := oq_181 (bq_in kqX10_next_4 17 rfl) (bq_in kqX10_next_4 18 rfl) (bq_in kqX10_next_4 19 rfl) rfl
theorem dX10_next_148 : decode cX10_next 148 = .ok (.aload_n 0, 1) := oq_42 (bq_in kqX10_next_4 20 rfl)
theorem dX10_next_149 : decode cX10_next 149 = .ok (.dup, 1) := oq_89 (bq_in kqX10_next_4 21 rfl)
theorem dX10_next_150 : decode cX10_next 150 = .ok (.getfield 86, 3) := oq_180 (bq_in kqX10_next_4 22 rfl) (bq_in kqX10_next_4 23 rfl) (bq_in kqX10_next_4 24 rfl) rfl
theorem dX10_next_153 : decode cX10_next 153 = .ok (.iconst 1, 1) := oq_4 (bq_in kqX10_next_4 25 rfl)
theorem dX10_next_154 : decode cX10_next 154 = .ok (.iadd, 1) := oq_96 (bq_in kqX10_next_4 26 rfl)
theorem dX10_next_155 : decode cX10_next 155 = .ok (.putfield 86, 3) := oq_181 (bq_in kqX10_next_4 27 rfl) (bq_in kqX10_next_4 28 rfl) (bq_in kqX10_next_4 29 rfl) rfl
theorem dX10_next_158 : decode cX10_next 158 = .ok (.goto (-61), 3) := oq_167 (bq_in kqX10_next_4 30 rfl) (bq_in kqX10_next_4 31 rfl) (bq_in kqX10_next_4 32 rfl) rfl
theorem kqX10_next_5 : ((cX10_next.data.toList.drop 160).take 34).map UInt8.toNat = [195, 28, 184, 0, 112, 153, 0, 87, 42, 27, 181, 0, 86, 42, 42, 180, 0, 86, 182, 0, 89, 184, 0, 112, 153, 0, 49, 42, 180, 0, 86, 27, 100, 7] := by decide +kernel
theorem dX10_next_161 : decode cX10_next 161 = .ok (.iload_n 2, 1) := oq_28 (bq_in kqX10_next_5 1 rfl)
theorem dX10_next_162 : decode cX10_next 162 = .ok (.invokestatic 112, 3) := oq_184 (bq_in kqX10_next_5 2 rfl) (bq_in kqX10_next_5 3 rfl) (bq_in kqX10_next_5 4 rfl) rfl
theorem dX10_next_165 : decode cX10_next 165 = .ok (.ifCond .eq 87, 3) := oq_153 (bq_in kqX10_next_5 5 rfl) (bq_in kqX10_next_5 6 rfl) (bq_in kqX10_next_5 7 rfl) rfl
theorem dX10_next_168 : decode cX10_next 168 = .ok (.aload_n 0, 1) := oq_42 (bq_in kqX10_next_5 8 rfl)
theorem dX10_next_169 : decode cX10_next 169 = .ok (.iload_n 1, 1) := oq_27 (bq_in kqX10_next_5 9 rfl)
theorem dX10_next_170 : decode cX10_next 170 = .ok (.putfield 86, 3) := oq_181 (bq_in kqX10_next_5 10 rfl) (bq_in kqX10_next_5 11 rfl) (bq_in kqX10_next_5 12 rfl) rfl
theorem dX10_next_173 : decode cX10_next 173 = .ok (.aload_n 0, 1) := oq_42 (bq_in kqX10_next_5 13 rfl)
theorem dX10_next_174 : decode cX10_next 174 = .ok (.aload_n 0, 1) := oq_42 (bq_in kqX10_next_5 14 rfl)
theorem dX10_next_175 : decode cX10_next 175 = .ok (.getfield 86, 3) := oq_180 (bq_in kqX10_next_5 15 rfl) (bq_in kqX10_next_5 16 rfl) (bq_in kqX10_next_5 17 rfl) rfl
theorem dX10_next_178 : decode cX10_next 178 = .ok (.invokevirtual 89, 3) := oq_182 (bq_in kqX10_next_5 18 rfl) (bq_in kqX10_next_5 19 rfl) (bq_in kqX10_next_5 20 rfl) rfl
theorem dX10_next_181 : decode cX10_next 181 = .ok (.invokestatic 112, 3) := oq_184 (bq_in kqX10_next_5 21 rfl) (bq_in kqX10_next_5 22 rfl) (bq_in kqX10_next_5 23 rfl) rfl
theorem dX10_next_184 : decode cX10_next 184 = .ok (.ifCond .eq 49, 3) := oq_153 (bq_in kqX10_next_5 24 rfl) (bq_in kqX10_next_5 25 rfl) (bq_in kqX10_next_5 26 rfl) rfl
theorem dX10_next_187 : decode cX10_next 187 = .ok (.aload_n 0, 1) := oq_42 (bq_in kqX10_next_5 27 rfl)
theorem dX10_next_188 : decode cX10_next 188 = .ok (.getfield 86, 3) := oq_180 (bq_in kqX10_next_5 28 rfl) (bq_in kqX10_next_5 29 rfl) (bq_in kqX10_next_5 30 rfl) rfl
theorem dX10_next_191 : decode cX10_next 191 = .ok (.iload_n 1, 1) := oq_27 (bq_in kqX10_next_5 31 rfl)
theorem kqX10_next_6 : ((cX10_next.data.toList.drop 192).take 34).map UInt8.toNat = [100, 7, 162, 0, 26, 42, 16, 10, 42, 180, 0, 103, 104, 42, 42, 180, 0, 86, 182, 0, 89, 96, 16, 48, 100, 181, 0, 103, 42, 89, 180, 0, 86, 4] := by decide +kernel
theorem dX10_next_192 : decode cX10_next 192 = .ok (.isub, 1) := oq_100 (bq_in kqX10_next_6 0 rfl)
theorem dX10_next_193 : decode cX10_next 193 = .ok (.iconst 4, 1) := oq_7 (bq_in kqX10_next_6 1 rfl)
theorem dX10_next_194 : decode cX10_next 194 = .ok (.if_icmp .ge 26, 3) := oq_162 (bq_in kqX10_next_6 2 rfl) (bq_in kqX10_next_6 3 rfl) (bq_in kqX10_next_6 4 rfl) rfl
theorem dX10_next_197 : decode cX10_next 197 = .ok (.aload_n 0, 1) := oq_42 (bq_in kqX10_next_6 5 rfl)
theorem dX10_next_198 : decode cX10_next 198 = .ok (.bipush 10, 2) := oq_16 (bq_in kqX10_next_6 6 rfl) (bq_in kqX10_next_6 7 rfl) rfl
theorem dX10_next_200 : decode cX10_next 200 = .ok (.aload_n 0, 1) := oq_42 (bq_in kqX10_next_6 8 rfl)
theorem dX10_next_201 : decode cX10_next 201 = .ok (.getfield 103, 3) := oq_180 (bq_in kqX10_next_6 9 rfl) (bq_in kqX10_next_6 10 rfl) (bq_in kqX10_next_6 11 rfl) rfl
theorem dX10_next_204 : decode cX10_next 204 = .ok (.imul, 1) := oq_104 (bq_in kqX10_next_6 12 rfl)
theorem dX10_next_205 : decode cX10_next 205 = .ok (.aload_n 0, 1) := oq_42 (bq_in kqX10_next_6 13 rfl)
theorem dX10_next_206 : decode cX10_next 206 = .ok (.aload_n 0, 1) := oq_42 (bq_in kqX10_next_6 14 rfl)
theorem dX10_next_207 : decode cX10_next 207 = .ok (.getfield 86, 3) := oq_180 (bq_in kqX10_next_6 15 rfl) (bq_in kqX10_next_6 16 rfl) (bq_in kqX10_next_6 17 rfl) rfl
theorem dX10_next_210 : decode cX10_next 210 = .ok (.invokevirtual 89, 3) := oq_182 (bq_in kqX10_next_6 18 rfl) (bq_in kqX10_next_6 19 rfl) (bq_in kqX10_next_6 20 rfl) rfl
theorem dX10_next_213 : decode cX10_next 213 = .ok (.iadd, 1) := oq_96 (bq_in kqX10_next_6 21 rfl)
theorem dX10_next_214 : decode cX10_next 214 = .ok (.bipush 48, 2) := oq_16 (bq_in kqX10_next_6 22 rfl) (bq_in kqX10_next_6 23 rfl) rfl
theorem dX10_next_216 : decode cX10_next 216 = .ok (.isub, 1) := oq_100 (bq_in kqX10_next_6 24 rfl)
theorem dX10_next_217 : decode cX10_next 217 = .ok (.putfield 103, 3) := oq_181 (bq_in kqX10_next_6 25 rfl) (bq_in kqX10_next_6 26 rfl) (bq_in kqX10_next_6 27 rfl) rfl
theorem dX10_next_220 : decode cX10_next 220 = .ok (.aload_n 0, 1) := oq_42 (bq_in kqX10_next_6 28 rfl)
theorem dX10_next_221 : decode cX10_next 221 = .ok (.dup, 1) := oq_89 (bq_in kqX10_next_6 29 rfl)
theorem dX10_next_222 : decode cX10_next 222 = .ok (.getfield 86, 3) := oq_180 (bq_in kqX10_next_6 30 rfl) (bq_in kqX10_next_6 31 rfl) (bq_in kqX10_next_6 32 rfl) rfl
theorem kqX10_next_7 : ((cX10_next.data.toList.drop 224).take 34).map UInt8.toNat = [86, 4, 96, 181, 0, 86, 167, 255, 199, 42, 42, 180, 0, 86, 27, 100, 8, 162, 0, 7, 5, 167, 0, 4, 6, 181, 0, 96, 177] := by decide +kernel
theorem dX10_next_225 : decode cX10_next 225 = .ok (.iconst 1, 1) := oq_4 (bq_in kqX10_next_7 1 rfl)
theorem dX10_next_226 : decode cX10_next 226 = .ok (.iadd, 1) := oq_96 (bq_in kqX10_next_7 2 rfl)
theorem dX10_next_227 : decode cX10_next 227 = .ok (.putfield 86, 3) := oq_181 (bq_in kqX10_next_7 3 rfl) (bq_in kqX10_next_7 4 rfl) (bq_in kqX10_next_7 5 rfl) rfl
theorem dX10_next_230 : decode cX10_next 230 = .ok (.goto (-57), 3) := oq_167 (bq_in kqX10_next_7 6 rfl) (bq_in kqX10_next_7 7 rfl) (bq_in kqX10_next_7 8 rfl) rfl
theorem dX10_next_233 : decode cX10_next 233 = .ok (.aload_n 0, 1) := oq_42 (bq_in kqX10_next_7 9 rfl)
theorem dX10_next_234 : decode cX10_next 234 = .ok (.aload_n 0, 1) := oq_42 (bq_in kqX10_next_7 10 rfl)
theorem dX10_next_235 : decode cX10_next 235 = .ok (.getfield 86, 3) := oq_180 (bq_in kqX10_next_7 11 rfl) (bq_in kqX10_next_7 12 rfl) (bq_in kqX10_next_7 13 rfl) rfl
theorem dX10_next_238 : decode cX10_next 238 = .ok (.iload_n 1, 1) := oq_27 (bq_in kqX10_next_7 14 rfl)
theorem dX10_next_239 : decode cX10_next 239 = .ok (.isub, 1) := oq_100 (bq_in kqX10_next_7 15 rfl)
theorem dX10_next_240 : decode cX10_next 240 = .ok (.iconst 5, 1) := oq_8 (bq_in kqX10_next_7 16 rfl)
theorem dX10_next_241 : decode cX10_next 241 = .ok (.if_icmp .ge 7, 3) := oq_162 (bq_in kqX10_next_7 17 rfl) (bq_in kqX10_next_7 18 rfl) (bq_in kqX10_next_7 19 rfl) rfl
theorem dX10_next_244 : decode cX10_next 244 = .ok (.iconst 2, 1) := oq_5 (bq_in kqX10_next_7 20 rfl)
theorem dX10_next_245 : decode cX10_next 245 = .ok (.goto 4, 3) := oq_167 (bq_in kqX10_next_7 21 rfl) (bq_in kqX10_next_7 22 rfl) (bq_in kqX10_next_7 23 rfl) rfl
theorem dX10_next_248 : decode cX10_next 248 = .ok (.iconst 3, 1) := oq_6 (bq_in kqX10_next_7 24 rfl)
theorem dX10_next_249 : decode cX10_next 249 = .ok (.putfield 96, 3) := oq_181 (bq_in kqX10_next_7 25 rfl) (bq_in kqX10_next_7 26 rfl) (bq_in kqX10_next_7 27 rfl) rfl
theorem dX10_next_252 : decode cX10_next 252 = .ok (.return_, 1) := oq_177 (bq_in kqX10_next_7 28 rfl)
theorem kqX10_wrong_0 : ((cX10_wrong.data.toList.drop 0).take 34).map UInt8.toNat = [42, 180, 0, 83, 154, 0, 16, 42, 16, 8, 42, 180, 0, 93, 104, 27, 96, 181, 0, 83, 177] := by decide +kernel
theorem dX10_wrong_0 : decode cX10_wrong 0 = .ok (.aload_n 0, 1) := oq_42 (bq_in kqX10_wrong_0 0 rfl)
theorem dX10_wrong_1 : decode cX10_wrong 1 = .ok (.getfield 83, 3) := oq_180 (bq_in kqX10_wrong_0 1 rfl) (bq_in kqX10_wrong_0 2 rfl) (bq_in kqX10_wrong_0 3 rfl) rfl
theorem dX10_wrong_4 : decode cX10_wrong 4 = .ok (.ifCond .ne 16, 3) := oq_154 (bq_in kqX10_wrong_0 4 rfl) (bq_in kqX10_wrong_0 5 rfl) (bq_in kqX10_wrong_0 6 rfl) rfl
theorem dX10_wrong_7 : decode cX10_wrong 7 = .ok (.aload_n 0, 1) := oq_42 (bq_in kqX10_wrong_0 7 rfl)
theorem dX10_wrong_8 : decode cX10_wrong 8 = .ok (.bipush 8, 2) := oq_16 (bq_in kqX10_wrong_0 8 rfl) (bq_in kqX10_wrong_0 9 rfl) rfl
theorem dX10_wrong_10 : decode cX10_wrong 10 = .ok (.aload_n 0, 1) := oq_42 (bq_in kqX10_wrong_0 10 rfl)
theorem dX10_wrong_11 : decode cX10_wrong 11 = .ok (.getfield 93, 3) := oq_180 (bq_in kqX10_wrong_0 11 rfl) (bq_in kqX10_wrong_0 12 rfl) (bq_in kqX10_wrong_0 13 rfl) rfl
theorem dX10_wrong_14 : decode cX10_wrong 14 = .ok (.imul, 1) := oq_104 (bq_in kqX10_wrong_0 14 rfl)
theorem dX10_wrong_15 : decode cX10_wrong 15 = .ok (.iload_n 1, 1) := oq_27 (bq_in kqX10_wrong_0 15 rfl)
theorem dX10_wrong_16 : decode cX10_wrong 16 = .ok (.iadd, 1) := oq_96 (bq_in kqX10_wrong_0 16 rfl)
theorem dX10_wrong_17 : decode cX10_wrong 17 = .ok (.putfield 83, 3) := oq_181 (bq_in kqX10_wrong_0 17 rfl) (bq_in kqX10_wrong_0 18 rfl) (bq_in kqX10_wrong_0 19 rfl) rfl
theorem dX10_wrong_20 : decode cX10_wrong 20 = .ok (.return_, 1) := oq_177 (bq_in kqX10_wrong_0 20 rfl)
theorem kqX10_packed_0 : ((cX10_packed.data.toList.drop 0).take 34).map UInt8.toNat = [9, 64, 3, 62, 29, 42, 182, 0, 115, 162, 0, 22, 20, 0, 110, 31, 105, 42, 29, 182, 0, 121, 133, 97, 64, 132, 3, 1, 167, 255, 232, 31, 173] := by decide +kernel
theorem dX10_packed_0 : decode cX10_packed 0 = .ok (.lconst 0, 1) := oq_9 (bq_in kqX10_packed_0 0 rfl)
theorem dX10_packed_1 : decode cX10_packed 1 = .ok (.lstore_n 1, 1) := oq_64 (bq_in kqX10_packed_0 1 rfl)
theorem dX10_packed_2 : decode cX10_packed 2 = .ok (.iconst 0, 1) := oq_3 (bq_in kqX10_packed_0 2 rfl)
theorem dX10_packed_3 : decode cX10_packed 3 = .ok (.istore_n 3, 1) := oq_62 (bq_in kqX10_packed_0 3 rfl)
theorem dX10_packed_4 : decode cX10_packed 4 = .ok (.iload_n 3, 1) := oq_29 (bq_in kqX10_packed_0 4 rfl)
theorem dX10_packed_5 : decode cX10_packed 5 = .ok (.aload_n 0, 1) := oq_42 (bq_in kqX10_packed_0 5 rfl)
theorem dX10_packed_6 : decode cX10_packed 6 = .ok (.invokevirtual 115, 3) := oq_182 (bq_in kqX10_packed_0 6 rfl) (bq_in kqX10_packed_0 7 rfl) (bq_in kqX10_packed_0 8 rfl) rfl
theorem dX10_packed_9 : decode cX10_packed 9 = .ok (.if_icmp .ge 22, 3) := oq_162 (bq_in kqX10_packed_0 9 rfl) (bq_in kqX10_packed_0 10 rfl) (bq_in kqX10_packed_0 11 rfl) rfl
theorem dX10_packed_12 : decode cX10_packed 12 = .ok (.ldc2_w 110, 3) := oq_20 (bq_in kqX10_packed_0 12 rfl) (bq_in kqX10_packed_0 13 rfl) (bq_in kqX10_packed_0 14 rfl) rfl
theorem dX10_packed_15 : decode cX10_packed 15 = .ok (.lload_n 1, 1) := oq_31 (bq_in kqX10_packed_0 15 rfl)
theorem dX10_packed_16 : decode cX10_packed 16 = .ok (.lmul, 1) := oq_105 (bq_in kqX10_packed_0 16 rfl)
theorem dX10_packed_17 : decode cX10_packed 17 = .ok (.aload_n 0, 1) := oq_42 (bq_in kqX10_packed_0 17 rfl)
theorem dX10_packed_18 : decode cX10_packed 18 = .ok (.iload_n 3, 1) := oq_29 (bq_in kqX10_packed_0 18 rfl)
theorem dX10_packed_19 : decode cX10_packed 19 = .ok (.invokevirtual 121, 3) := oq_182 (bq_in kqX10_packed_0 19 rfl) (bq_in kqX10_packed_0 20 rfl) (bq_in kqX10_packed_0 21 rfl) rfl
theorem dX10_packed_22 : decode cX10_packed 22 = .ok (.i2l, 1) := oq_133 (bq_in kqX10_packed_0 22 rfl)
theorem dX10_packed_23 : decode cX10_packed 23 = .ok (.ladd, 1) := oq_97 (bq_in kqX10_packed_0 23 rfl)
theorem dX10_packed_24 : decode cX10_packed 24 = .ok (.lstore_n 1, 1) := oq_64 (bq_in kqX10_packed_0 24 rfl)
theorem dX10_packed_25 : decode cX10_packed 25 = .ok (.iinc 3 1, 3) := oq_132 (bq_in kqX10_packed_0 25 rfl) (bq_in kqX10_packed_0 26 rfl) (bq_in kqX10_packed_0 27 rfl) rfl
theorem dX10_packed_28 : decode cX10_packed 28 = .ok (.goto (-24), 3) := oq_167 (bq_in kqX10_packed_0 28 rfl) (bq_in kqX10_packed_0 29 rfl) (bq_in kqX10_packed_0 30 rfl) rfl
theorem dX10_packed_31 : decode cX10_packed 31 = .ok (.lload_n 1, 1) := oq_31 (bq_in kqX10_packed_0 31 rfl)
theorem kqX10_packed_1 : ((cX10_packed.data.toList.drop 32).take 34).map UInt8.toNat = [173] := by decide +kernel
theorem dX10_packed_32 : decode cX10_packed 32 = .ok (.lreturn, 1) := oq_173 (bq_in kqX10_packed_1 0 rfl)
theorem kqX10_isWord_0 : ((cX10_isWord.data.toList.drop 0).take 34).map UInt8.toNat = [42, 180, 0, 83, 154, 0, 27, 42, 180, 0, 96, 4, 160, 0, 19, 42, 180, 0, 99, 43, 184, 0, 125, 148, 154, 0, 7, 4, 167, 0, 4, 3, 172] := by decide +kernel
theorem dX10_isWord_0 : decode cX10_isWord 0 = .ok (.aload_n 0, 1) := oq_42 (bq_in kqX10_isWord_0 0 rfl)
theorem dX10_isWord_1 : decode cX10_isWord 1 = .ok (.getfield 83, 3) := oq_180 (bq_in kqX10_isWord_0 1 rfl) (bq_in kqX10_isWord_0 2 rfl) (bq_in kqX10_isWord_0 3 rfl) rfl
theorem dX10_isWord_4 : decode cX10_isWord 4 = .ok (.ifCond .ne 27, 3) := oq_154 (bq_in kqX10_isWord_0 4 rfl) (bq_in kqX10_isWord_0 5 rfl) (bq_in kqX10_isWord_0 6 rfl) rfl
theorem dX10_isWord_7 : decode cX10_isWord 7 = .ok (.aload_n 0, 1) := oq_42 (bq_in kqX10_isWord_0 7 rfl)
theorem dX10_isWord_8 : decode cX10_isWord 8 = .ok (.getfield 96, 3) := oq_180 (bq_in kqX10_isWord_0 8 rfl) (bq_in kqX10_isWord_0 9 rfl) (bq_in kqX10_isWord_0 10 rfl) rfl
theorem dX10_isWord_11 : decode cX10_isWord 11 = .ok (.iconst 1, 1) := oq_4 (bq_in kqX10_isWord_0 11 rfl)
theorem dX10_isWord_12 : decode cX10_isWord 12 = .ok (.if_icmp .ne 19, 3) := oq_160 (bq_in kqX10_isWord_0 12 rfl) (bq_in kqX10_isWord_0 13 rfl) (bq_in kqX10_isWord_0 14 rfl) rfl
theorem dX10_isWord_15 : decode cX10_isWord 15 = .ok (.aload_n 0, 1) := oq_42 (bq_in kqX10_isWord_0 15 rfl)
theorem dX10_isWord_16 : decode cX10_isWord 16 = .ok (.getfield 99, 3) := oq_180 (bq_in kqX10_isWord_0 16 rfl) (bq_in kqX10_isWord_0 17 rfl) (bq_in kqX10_isWord_0 18 rfl) rfl
theorem dX10_isWord_19 : decode cX10_isWord 19 = .ok (.aload_n 1, 1) := oq_43 (bq_in kqX10_isWord_0 19 rfl)
theorem dX10_isWord_20 : decode cX10_isWord 20 = .ok (.invokestatic 125, 3) := oq_184 (bq_in kqX10_isWord_0 20 rfl) (bq_in kqX10_isWord_0 21 rfl) (bq_in kqX10_isWord_0 22 rfl) rfl
theorem dX10_isWord_23 : decode cX10_isWord 23 = .ok (.lcmp, 1) := oq_148 (bq_in kqX10_isWord_0 23 rfl)
theorem dX10_isWord_24 : decode cX10_isWord 24 = .ok (.ifCond .ne 7, 3) := oq_154 (bq_in kqX10_isWord_0 24 rfl) (bq_in kqX10_isWord_0 25 rfl) (bq_in kqX10_isWord_0 26 rfl) rfl
theorem dX10_isWord_27 : decode cX10_isWord 27 = .ok (.iconst 1, 1) := oq_4 (bq_in kqX10_isWord_0 27 rfl)
theorem dX10_isWord_28 : decode cX10_isWord 28 = .ok (.goto 4, 3) := oq_167 (bq_in kqX10_isWord_0 28 rfl) (bq_in kqX10_isWord_0 29 rfl) (bq_in kqX10_isWord_0 30 rfl) rfl
theorem dX10_isWord_31 : decode cX10_isWord 31 = .ok (.iconst 0, 1) := oq_3 (bq_in kqX10_isWord_0 31 rfl)
theorem kqX10_isWord_1 : ((cX10_isWord.data.toList.drop 32).take 34).map UInt8.toNat = [172] := by decide +kernel
theorem dX10_isWord_32 : decode cX10_isWord 32 = .ok (.ireturn, 1) := oq_172 (bq_in kqX10_isWord_1 0 rfl)
theorem kqX10_must_0 : ((cX10_must.data.toList.drop 0).take 34).map UInt8.toNat = [42, 180, 0, 83, 154, 0, 16, 42, 43, 182, 0, 129, 154, 0, 8, 42, 4, 182, 0, 133, 42, 182, 0, 137, 177] := by decide +kernel
theorem dX10_must_0 : decode cX10_must 0 = .ok (.aload_n 0, 1) := oq_42 (bq_in kqX10_must_0 0 rfl)
theorem dX10_must_1 : decode cX10_must 1 = .ok (.getfield 83, 3) := oq_180 (bq_in kqX10_must_0 1 rfl) (bq_in kqX10_must_0 2 rfl) (bq_in kqX10_must_0 3 rfl) rfl
theorem dX10_must_4 : decode cX10_must 4 = .ok (.ifCond .ne 16, 3) := oq_154 (bq_in kqX10_must_0 4 rfl) (bq_in kqX10_must_0 5 rfl) (bq_in kqX10_must_0 6 rfl) rfl
theorem dX10_must_7 : decode cX10_must 7 = .ok (.aload_n 0, 1) := oq_42 (bq_in kqX10_must_0 7 rfl)
theorem dX10_must_8 : decode cX10_must 8 = .ok (.aload_n 1, 1) := oq_43 (bq_in kqX10_must_0 8 rfl)
theorem dX10_must_9 : decode cX10_must 9 = .ok (.invokevirtual 129, 3) := oq_182 (bq_in kqX10_must_0 9 rfl) (bq_in kqX10_must_0 10 rfl) (bq_in kqX10_must_0 11 rfl) rfl
theorem dX10_must_12 : decode cX10_must 12 = .ok (.ifCond .ne 8, 3) := oq_154 (bq_in kqX10_must_0 12 rfl) (bq_in kqX10_must_0 13 rfl) (bq_in kqX10_must_0 14 rfl) rfl
theorem dX10_must_15 : decode cX10_must 15 = .ok (.aload_n 0, 1) := oq_42 (bq_in kqX10_must_0 15 rfl)
theorem dX10_must_16 : decode cX10_must 16 = .ok (.iconst 1, 1) := oq_4 (bq_in kqX10_must_0 16 rfl)
theorem dX10_must_17 : decode cX10_must 17 = .ok (.invokevirtual 133, 3) := oq_182 (bq_in kqX10_must_0 17 rfl) (bq_in kqX10_must_0 18 rfl) (bq_in kqX10_must_0 19 rfl) rfl
theorem dX10_must_20 : decode cX10_must 20 = .ok (.aload_n 0, 1) := oq_42 (bq_in kqX10_must_0 20 rfl)
theorem dX10_must_21 : decode cX10_must 21 = .ok (.invokevirtual 137, 3) := oq_182 (bq_in kqX10_must_0 21 rfl) (bq_in kqX10_must_0 22 rfl) (bq_in kqX10_must_0 23 rfl) rfl
theorem dX10_must_24 : decode cX10_must 24 = .ok (.return_, 1) := oq_177 (bq_in kqX10_must_0 24 rfl)
theorem kqX10_numberTold_0 : ((cX10_numberTold.data.toList.drop 0).take 34).map UInt8.toNat = [42, 180, 0, 83, 154, 0, 16, 42, 180, 0, 96, 5, 159, 0, 8, 42, 4, 182, 0, 133, 42, 180, 0, 83, 154, 0, 20, 42, 180, 0, 103, 27, 28, 184] := by decide +kernel
theorem dX10_numberTold_0 : decode cX10_numberTold 0 = .ok (.aload_n 0, 1) := oq_42 (bq_in kqX10_numberTold_0 0 rfl)
theorem dX10_numberTold_1 : decode cX10_numberTold 1 = .ok (.getfield 83, 3) := oq_180 (bq_in kqX10_numberTold_0 1 rfl) (bq_in kqX10_numberTold_0 2 rfl) (bq_in kqX10_numberTold_0 3 rfl) rfl
theorem dX10_numberTold_4 : decode cX10_numberTold 4 = .ok (.ifCond .ne 16, 3) := oq_154 (bq_in kqX10_numberTold_0 4 rfl) (bq_in kqX10_numberTold_0 5 rfl) (bq_in kqX10_numberTold_0 6 rfl) rfl
theorem dX10_numberTold_7 : decode cX10_numberTold 7 = .ok (.aload_n 0, 1) := oq_42 (bq_in kqX10_numberTold_0 7 rfl)
theorem dX10_numberTold_8 : decode cX10_numberTold 8 = .ok (.getfield 96, 3) := oq_180 (bq_in kqX10_numberTold_0 8 rfl) (bq_in kqX10_numberTold_0 9 rfl) (bq_in kqX10_numberTold_0 10 rfl) rfl
theorem dX10_numberTold_11 : decode cX10_numberTold 11 = .ok (.iconst 2, 1) := oq_5 (bq_in kqX10_numberTold_0 11 rfl)
theorem dX10_numberTold_12 : decode cX10_numberTold 12 = .ok (.if_icmp .eq 8, 3) := oq_159 (bq_in kqX10_numberTold_0 12 rfl) (bq_in kqX10_numberTold_0 13 rfl) (bq_in kqX10_numberTold_0 14 rfl) rfl
theorem dX10_numberTold_15 : decode cX10_numberTold 15 = .ok (.aload_n 0, 1) := oq_42 (bq_in kqX10_numberTold_0 15 rfl)
theorem dX10_numberTold_16 : decode cX10_numberTold 16 = .ok (.iconst 1, 1) := oq_4 (bq_in kqX10_numberTold_0 16 rfl)
theorem dX10_numberTold_17 : decode cX10_numberTold 17 = .ok (.invokevirtual 133, 3) := oq_182 (bq_in kqX10_numberTold_0 17 rfl) (bq_in kqX10_numberTold_0 18 rfl) (bq_in kqX10_numberTold_0 19 rfl) rfl
theorem dX10_numberTold_20 : decode cX10_numberTold 20 = .ok (.aload_n 0, 1) := oq_42 (bq_in kqX10_numberTold_0 20 rfl)
theorem dX10_numberTold_21 : decode cX10_numberTold 21 = .ok (.getfield 83, 3) := oq_180 (bq_in kqX10_numberTold_0 21 rfl) (bq_in kqX10_numberTold_0 22 rfl) (bq_in kqX10_numberTold_0 23 rfl) rfl
theorem dX10_numberTold_24 : decode cX10_numberTold 24 = .ok (.ifCond .ne 20, 3) := oq_154 (bq_in kqX10_numberTold_0 24 rfl) (bq_in kqX10_numberTold_0 25 rfl) (bq_in kqX10_numberTold_0 26 rfl) rfl
theorem dX10_numberTold_27 : decode cX10_numberTold 27 = .ok (.aload_n 0, 1) := oq_42 (bq_in kqX10_numberTold_0 27 rfl)
theorem dX10_numberTold_28 : decode cX10_numberTold 28 = .ok (.getfield 103, 3) := oq_180 (bq_in kqX10_numberTold_0 28 rfl) (bq_in kqX10_numberTold_0 29 rfl) (bq_in kqX10_numberTold_0 30 rfl) rfl
theorem dX10_numberTold_31 : decode cX10_numberTold 31 = .ok (.iload_n 1, 1) := oq_27 (bq_in kqX10_numberTold_0 31 rfl)
theorem kqX10_numberTold_1 : ((cX10_numberTold.data.toList.drop 32).take 34).map UInt8.toNat = [28, 184, 0, 65, 154, 0, 8, 42, 5, 182, 0, 133, 42, 180, 0, 103, 62, 42, 182, 0, 137, 29, 172] := by decide +kernel
theorem dX10_numberTold_32 : decode cX10_numberTold 32 = .ok (.iload_n 2, 1) := oq_28 (bq_in kqX10_numberTold_1 0 rfl)
theorem dX10_numberTold_33 : decode cX10_numberTold 33 = .ok (.invokestatic 65, 3) := oq_184 (bq_in kqX10_numberTold_1 1 rfl) (bq_in kqX10_numberTold_1 2 rfl) (bq_in kqX10_numberTold_1 3 rfl) rfl
theorem dX10_numberTold_36 : decode cX10_numberTold 36 = .ok (.ifCond .ne 8, 3) := oq_154 (bq_in kqX10_numberTold_1 4 rfl) (bq_in kqX10_numberTold_1 5 rfl) (bq_in kqX10_numberTold_1 6 rfl) rfl
theorem dX10_numberTold_39 : decode cX10_numberTold 39 = .ok (.aload_n 0, 1) := oq_42 (bq_in kqX10_numberTold_1 7 rfl)
theorem dX10_numberTold_40 : decode cX10_numberTold 40 = .ok (.iconst 2, 1) := oq_5 (bq_in kqX10_numberTold_1 8 rfl)
theorem dX10_numberTold_41 : decode cX10_numberTold 41 = .ok (.invokevirtual 133, 3) := oq_182 (bq_in kqX10_numberTold_1 9 rfl) (bq_in kqX10_numberTold_1 10 rfl) (bq_in kqX10_numberTold_1 11 rfl) rfl
theorem dX10_numberTold_44 : decode cX10_numberTold 44 = .ok (.aload_n 0, 1) := oq_42 (bq_in kqX10_numberTold_1 12 rfl)
theorem dX10_numberTold_45 : decode cX10_numberTold 45 = .ok (.getfield 103, 3) := oq_180 (bq_in kqX10_numberTold_1 13 rfl) (bq_in kqX10_numberTold_1 14 rfl) (bq_in kqX10_numberTold_1 15 rfl) rfl
theorem dX10_numberTold_48 : decode cX10_numberTold 48 = .ok (.istore_n 3, 1) := oq_62 (bq_in kqX10_numberTold_1 16 rfl)
theorem dX10_numberTold_49 : decode cX10_numberTold 49 = .ok (.aload_n 0, 1) := oq_42 (bq_in kqX10_numberTold_1 17 rfl)
theorem dX10_numberTold_50 : decode cX10_numberTold 50 = .ok (.invokevirtual 137, 3) := oq_182 (bq_in kqX10_numberTold_1 18 rfl) (bq_in kqX10_numberTold_1 19 rfl) (bq_in kqX10_numberTold_1 20 rfl) rfl
theorem dX10_numberTold_53 : decode cX10_numberTold 53 = .ok (.iload_n 3, 1) := oq_29 (bq_in kqX10_numberTold_1 21 rfl)
theorem dX10_numberTold_54 : decode cX10_numberTold 54 = .ok (.ireturn, 1) := oq_172 (bq_in kqX10_numberTold_1 22 rfl)
theorem kqX10_weekdayHere_0 : ((cX10_weekdayHere.data.toList.drop 0).take 34).map UInt8.toNat = [42, 18, 140, 182, 0, 129, 153, 0, 5, 3, 172, 42, 18, 142, 182, 0, 129, 153, 0, 5, 4, 172, 42, 18, 144, 182, 0, 129, 153, 0, 5, 5, 172, 42] := by decide +kernel
theorem dX10_weekdayHere_0 : decode cX10_weekdayHere 0 = .ok (.aload_n 0, 1) := oq_42 (bq_in kqX10_weekdayHere_0 0 rfl)
theorem dX10_weekdayHere_1 : decode cX10_weekdayHere 1 = .ok (.ldc 140, 2) := oq_18 (bq_in kqX10_weekdayHere_0 1 rfl) (bq_in kqX10_weekdayHere_0 2 rfl)
theorem dX10_weekdayHere_3 : decode cX10_weekdayHere 3 = .ok (.invokevirtual 129, 3) := oq_182 (bq_in kqX10_weekdayHere_0 3 rfl) (bq_in kqX10_weekdayHere_0 4 rfl) (bq_in kqX10_weekdayHere_0 5 rfl) rfl
theorem dX10_weekdayHere_6 : decode cX10_weekdayHere 6 = .ok (.ifCond .eq 5, 3) := oq_153 (bq_in kqX10_weekdayHere_0 6 rfl) (bq_in kqX10_weekdayHere_0 7 rfl) (bq_in kqX10_weekdayHere_0 8 rfl) rfl
theorem dX10_weekdayHere_9 : decode cX10_weekdayHere 9 = .ok (.iconst 0, 1) := oq_3 (bq_in kqX10_weekdayHere_0 9 rfl)
theorem dX10_weekdayHere_10 : decode cX10_weekdayHere 10 = .ok (.ireturn, 1) := oq_172 (bq_in kqX10_weekdayHere_0 10 rfl)
theorem dX10_weekdayHere_11 : decode cX10_weekdayHere 11 = .ok (.aload_n 0, 1) := oq_42 (bq_in kqX10_weekdayHere_0 11 rfl)
theorem dX10_weekdayHere_12 : decode cX10_weekdayHere 12 = .ok (.ldc 142, 2) := oq_18 (bq_in kqX10_weekdayHere_0 12 rfl) (bq_in kqX10_weekdayHere_0 13 rfl)
theorem dX10_weekdayHere_14 : decode cX10_weekdayHere 14 = .ok (.invokevirtual 129, 3) := oq_182 (bq_in kqX10_weekdayHere_0 14 rfl) (bq_in kqX10_weekdayHere_0 15 rfl) (bq_in kqX10_weekdayHere_0 16 rfl) rfl
theorem dX10_weekdayHere_17 : decode cX10_weekdayHere 17 = .ok (.ifCond .eq 5, 3) := oq_153 (bq_in kqX10_weekdayHere_0 17 rfl) (bq_in kqX10_weekdayHere_0 18 rfl) (bq_in kqX10_weekdayHere_0 19 rfl) rfl
theorem dX10_weekdayHere_20 : decode cX10_weekdayHere 20 = .ok (.iconst 1, 1) := oq_4 (bq_in kqX10_weekdayHere_0 20 rfl)
theorem dX10_weekdayHere_21 : decode cX10_weekdayHere 21 = .ok (.ireturn, 1) := oq_172 (bq_in kqX10_weekdayHere_0 21 rfl)
theorem dX10_weekdayHere_22 : decode cX10_weekdayHere 22 = .ok (.aload_n 0, 1) := oq_42 (bq_in kqX10_weekdayHere_0 22 rfl)
theorem dX10_weekdayHere_23 : decode cX10_weekdayHere 23 = .ok (.ldc 144, 2) := oq_18 (bq_in kqX10_weekdayHere_0 23 rfl) (bq_in kqX10_weekdayHere_0 24 rfl)
theorem dX10_weekdayHere_25 : decode cX10_weekdayHere 25 = .ok (.invokevirtual 129, 3) := oq_182 (bq_in kqX10_weekdayHere_0 25 rfl) (bq_in kqX10_weekdayHere_0 26 rfl) (bq_in kqX10_weekdayHere_0 27 rfl) rfl
theorem dX10_weekdayHere_28 : decode cX10_weekdayHere 28 = .ok (.ifCond .eq 5, 3) := oq_153 (bq_in kqX10_weekdayHere_0 28 rfl) (bq_in kqX10_weekdayHere_0 29 rfl) (bq_in kqX10_weekdayHere_0 30 rfl) rfl
theorem dX10_weekdayHere_31 : decode cX10_weekdayHere 31 = .ok (.iconst 2, 1) := oq_5 (bq_in kqX10_weekdayHere_0 31 rfl)
theorem kqX10_weekdayHere_1 : ((cX10_weekdayHere.data.toList.drop 32).take 34).map UInt8.toNat = [172, 42, 18, 146, 182, 0, 129, 153, 0, 5, 6, 172, 42, 18, 148, 182, 0, 129, 153, 0, 5, 7, 172, 42, 18, 150, 182, 0, 129, 153, 0, 5, 8, 172] := by decide +kernel
theorem dX10_weekdayHere_32 : decode cX10_weekdayHere 32 = .ok (.ireturn, 1) := oq_172 (bq_in kqX10_weekdayHere_1 0 rfl)
theorem dX10_weekdayHere_33 : decode cX10_weekdayHere 33 = .ok (.aload_n 0, 1) := oq_42 (bq_in kqX10_weekdayHere_1 1 rfl)
theorem dX10_weekdayHere_34 : decode cX10_weekdayHere 34 = .ok (.ldc 146, 2) := oq_18 (bq_in kqX10_weekdayHere_1 2 rfl) (bq_in kqX10_weekdayHere_1 3 rfl)
theorem dX10_weekdayHere_36 : decode cX10_weekdayHere 36 = .ok (.invokevirtual 129, 3) := oq_182 (bq_in kqX10_weekdayHere_1 4 rfl) (bq_in kqX10_weekdayHere_1 5 rfl) (bq_in kqX10_weekdayHere_1 6 rfl) rfl
theorem dX10_weekdayHere_39 : decode cX10_weekdayHere 39 = .ok (.ifCond .eq 5, 3) := oq_153 (bq_in kqX10_weekdayHere_1 7 rfl) (bq_in kqX10_weekdayHere_1 8 rfl) (bq_in kqX10_weekdayHere_1 9 rfl) rfl
theorem dX10_weekdayHere_42 : decode cX10_weekdayHere 42 = .ok (.iconst 3, 1) := oq_6 (bq_in kqX10_weekdayHere_1 10 rfl)
theorem dX10_weekdayHere_43 : decode cX10_weekdayHere 43 = .ok (.ireturn, 1) := oq_172 (bq_in kqX10_weekdayHere_1 11 rfl)
theorem dX10_weekdayHere_44 : decode cX10_weekdayHere 44 = .ok (.aload_n 0, 1) := oq_42 (bq_in kqX10_weekdayHere_1 12 rfl)
theorem dX10_weekdayHere_45 : decode cX10_weekdayHere 45 = .ok (.ldc 148, 2) := oq_18 (bq_in kqX10_weekdayHere_1 13 rfl) (bq_in kqX10_weekdayHere_1 14 rfl)
theorem dX10_weekdayHere_47 : decode cX10_weekdayHere 47 = .ok (.invokevirtual 129, 3) := oq_182 (bq_in kqX10_weekdayHere_1 15 rfl) (bq_in kqX10_weekdayHere_1 16 rfl) (bq_in kqX10_weekdayHere_1 17 rfl) rfl
theorem dX10_weekdayHere_50 : decode cX10_weekdayHere 50 = .ok (.ifCond .eq 5, 3) := oq_153 (bq_in kqX10_weekdayHere_1 18 rfl) (bq_in kqX10_weekdayHere_1 19 rfl) (bq_in kqX10_weekdayHere_1 20 rfl) rfl
theorem dX10_weekdayHere_53 : decode cX10_weekdayHere 53 = .ok (.iconst 4, 1) := oq_7 (bq_in kqX10_weekdayHere_1 21 rfl)
theorem dX10_weekdayHere_54 : decode cX10_weekdayHere 54 = .ok (.ireturn, 1) := oq_172 (bq_in kqX10_weekdayHere_1 22 rfl)
theorem dX10_weekdayHere_55 : decode cX10_weekdayHere 55 = .ok (.aload_n 0, 1) := oq_42 (bq_in kqX10_weekdayHere_1 23 rfl)
theorem dX10_weekdayHere_56 : decode cX10_weekdayHere 56 = .ok (.ldc 150, 2) := oq_18 (bq_in kqX10_weekdayHere_1 24 rfl) (bq_in kqX10_weekdayHere_1 25 rfl)
theorem dX10_weekdayHere_58 : decode cX10_weekdayHere 58 = .ok (.invokevirtual 129, 3) := oq_182 (bq_in kqX10_weekdayHere_1 26 rfl) (bq_in kqX10_weekdayHere_1 27 rfl) (bq_in kqX10_weekdayHere_1 28 rfl) rfl
theorem dX10_weekdayHere_61 : decode cX10_weekdayHere 61 = .ok (.ifCond .eq 5, 3) := oq_153 (bq_in kqX10_weekdayHere_1 29 rfl) (bq_in kqX10_weekdayHere_1 30 rfl) (bq_in kqX10_weekdayHere_1 31 rfl) rfl
theorem kqX10_weekdayHere_2 : ((cX10_weekdayHere.data.toList.drop 64).take 34).map UInt8.toNat = [8, 172, 42, 18, 152, 182, 0, 129, 153, 0, 8, 16, 6, 167, 0, 4, 2, 172] := by decide +kernel
theorem dX10_weekdayHere_64 : decode cX10_weekdayHere 64 = .ok (.iconst 5, 1) := oq_8 (bq_in kqX10_weekdayHere_2 0 rfl)
theorem dX10_weekdayHere_65 : decode cX10_weekdayHere 65 = .ok (.ireturn, 1) := oq_172 (bq_in kqX10_weekdayHere_2 1 rfl)
theorem dX10_weekdayHere_66 : decode cX10_weekdayHere 66 = .ok (.aload_n 0, 1) := oq_42 (bq_in kqX10_weekdayHere_2 2 rfl)
theorem dX10_weekdayHere_67 : decode cX10_weekdayHere 67 = .ok (.ldc 152, 2) := oq_18 (bq_in kqX10_weekdayHere_2 3 rfl) (bq_in kqX10_weekdayHere_2 4 rfl)
theorem dX10_weekdayHere_69 : decode cX10_weekdayHere 69 = .ok (.invokevirtual 129, 3) := oq_182 (bq_in kqX10_weekdayHere_2 5 rfl) (bq_in kqX10_weekdayHere_2 6 rfl) (bq_in kqX10_weekdayHere_2 7 rfl) rfl
theorem dX10_weekdayHere_72 : decode cX10_weekdayHere 72 = .ok (.ifCond .eq 8, 3) := oq_153 (bq_in kqX10_weekdayHere_2 8 rfl) (bq_in kqX10_weekdayHere_2 9 rfl) (bq_in kqX10_weekdayHere_2 10 rfl) rfl
theorem dX10_weekdayHere_75 : decode cX10_weekdayHere 75 = .ok (.bipush 6, 2) := oq_16 (bq_in kqX10_weekdayHere_2 11 rfl) (bq_in kqX10_weekdayHere_2 12 rfl) rfl
theorem dX10_weekdayHere_77 : decode cX10_weekdayHere 77 = .ok (.goto 4, 3) := oq_167 (bq_in kqX10_weekdayHere_2 13 rfl) (bq_in kqX10_weekdayHere_2 14 rfl) (bq_in kqX10_weekdayHere_2 15 rfl) rfl
theorem dX10_weekdayHere_80 : decode cX10_weekdayHere 80 = .ok (.iconst (-1), 1) := oq_2 (bq_in kqX10_weekdayHere_2 16 rfl)
theorem dX10_weekdayHere_81 : decode cX10_weekdayHere 81 = .ok (.ireturn, 1) := oq_172 (bq_in kqX10_weekdayHere_2 17 rfl)
theorem kqX10_weekdayTold_0 : ((cX10_weekdayTold.data.toList.drop 0).take 34).map UInt8.toNat = [42, 182, 0, 154, 60, 27, 156, 0, 8, 42, 4, 182, 0, 133, 42, 182, 0, 137, 27, 156, 0, 7, 3, 167, 0, 4, 27, 172] := by decide +kernel
theorem dX10_weekdayTold_0 : decode cX10_weekdayTold 0 = .ok (.aload_n 0, 1) := oq_42 (bq_in kqX10_weekdayTold_0 0 rfl)
theorem dX10_weekdayTold_1 : decode cX10_weekdayTold 1 = .ok (.invokevirtual 154, 3) := oq_182 (bq_in kqX10_weekdayTold_0 1 rfl) (bq_in kqX10_weekdayTold_0 2 rfl) (bq_in kqX10_weekdayTold_0 3 rfl) rfl
theorem dX10_weekdayTold_4 : decode cX10_weekdayTold 4 = .ok (.istore_n 1, 1) := oq_60 (bq_in kqX10_weekdayTold_0 4 rfl)
theorem dX10_weekdayTold_5 : decode cX10_weekdayTold 5 = .ok (.iload_n 1, 1) := oq_27 (bq_in kqX10_weekdayTold_0 5 rfl)
theorem dX10_weekdayTold_6 : decode cX10_weekdayTold 6 = .ok (.ifCond .ge 8, 3) := oq_156 (bq_in kqX10_weekdayTold_0 6 rfl) (bq_in kqX10_weekdayTold_0 7 rfl) (bq_in kqX10_weekdayTold_0 8 rfl) rfl
theorem dX10_weekdayTold_9 : decode cX10_weekdayTold 9 = .ok (.aload_n 0, 1) := oq_42 (bq_in kqX10_weekdayTold_0 9 rfl)
theorem dX10_weekdayTold_10 : decode cX10_weekdayTold 10 = .ok (.iconst 1, 1) := oq_4 (bq_in kqX10_weekdayTold_0 10 rfl)
theorem dX10_weekdayTold_11 : decode cX10_weekdayTold 11 = .ok (.invokevirtual 133, 3) := oq_182 (bq_in kqX10_weekdayTold_0 11 rfl) (bq_in kqX10_weekdayTold_0 12 rfl) (bq_in kqX10_weekdayTold_0 13 rfl) rfl
theorem dX10_weekdayTold_14 : decode cX10_weekdayTold 14 = .ok (.aload_n 0, 1) := oq_42 (bq_in kqX10_weekdayTold_0 14 rfl)
theorem dX10_weekdayTold_15 : decode cX10_weekdayTold 15 = .ok (.invokevirtual 137, 3) := oq_182 (bq_in kqX10_weekdayTold_0 15 rfl) (bq_in kqX10_weekdayTold_0 16 rfl) (bq_in kqX10_weekdayTold_0 17 rfl) rfl
theorem dX10_weekdayTold_18 : decode cX10_weekdayTold 18 = .ok (.iload_n 1, 1) := oq_27 (bq_in kqX10_weekdayTold_0 18 rfl)
theorem dX10_weekdayTold_19 : decode cX10_weekdayTold 19 = .ok (.ifCond .ge 7, 3) := oq_156 (bq_in kqX10_weekdayTold_0 19 rfl) (bq_in kqX10_weekdayTold_0 20 rfl) (bq_in kqX10_weekdayTold_0 21 rfl) rfl
theorem dX10_weekdayTold_22 : decode cX10_weekdayTold 22 = .ok (.iconst 0, 1) := oq_3 (bq_in kqX10_weekdayTold_0 22 rfl)
theorem dX10_weekdayTold_23 : decode cX10_weekdayTold 23 = .ok (.goto 4, 3) := oq_167 (bq_in kqX10_weekdayTold_0 23 rfl) (bq_in kqX10_weekdayTold_0 24 rfl) (bq_in kqX10_weekdayTold_0 25 rfl) rfl
theorem dX10_weekdayTold_26 : decode cX10_weekdayTold 26 = .ok (.iload_n 1, 1) := oq_27 (bq_in kqX10_weekdayTold_0 26 rfl)
theorem dX10_weekdayTold_27 : decode cX10_weekdayTold 27 = .ok (.ireturn, 1) := oq_172 (bq_in kqX10_weekdayTold_0 27 rfl)
theorem kqX10_dateTold_0 : ((cX10_dateTold.data.toList.drop 0).take 34).map UInt8.toNat = [42, 42, 180, 0, 93, 181, 0, 157, 42, 17, 7, 208, 17, 8, 51, 182, 0, 160, 60, 42, 4, 16, 12, 182, 0, 160, 61, 42, 4, 42, 180, 0, 83, 158] := by decide +kernel
theorem dX10_dateTold_0 : decode cX10_dateTold 0 = .ok (.aload_n 0, 1) := oq_42 (bq_in kqX10_dateTold_0 0 rfl)
theorem dX10_dateTold_1 : decode cX10_dateTold 1 = .ok (.aload_n 0, 1) := oq_42 (bq_in kqX10_dateTold_0 1 rfl)
theorem dX10_dateTold_2 : decode cX10_dateTold 2 = .ok (.getfield 93, 3) := oq_180 (bq_in kqX10_dateTold_0 2 rfl) (bq_in kqX10_dateTold_0 3 rfl) (bq_in kqX10_dateTold_0 4 rfl) rfl
theorem dX10_dateTold_5 : decode cX10_dateTold 5 = .ok (.putfield 157, 3) := oq_181 (bq_in kqX10_dateTold_0 5 rfl) (bq_in kqX10_dateTold_0 6 rfl) (bq_in kqX10_dateTold_0 7 rfl) rfl
theorem dX10_dateTold_8 : decode cX10_dateTold 8 = .ok (.aload_n 0, 1) := oq_42 (bq_in kqX10_dateTold_0 8 rfl)
theorem dX10_dateTold_9 : decode cX10_dateTold 9 = .ok (.sipush 2000, 3) := oq_17 (bq_in kqX10_dateTold_0 9 rfl) (bq_in kqX10_dateTold_0 10 rfl) (bq_in kqX10_dateTold_0 11 rfl) rfl
theorem dX10_dateTold_12 : decode cX10_dateTold 12 = .ok (.sipush 2099, 3) := oq_17 (bq_in kqX10_dateTold_0 12 rfl) (bq_in kqX10_dateTold_0 13 rfl) (bq_in kqX10_dateTold_0 14 rfl) rfl
theorem dX10_dateTold_15 : decode cX10_dateTold 15 = .ok (.invokevirtual 160, 3) := oq_182 (bq_in kqX10_dateTold_0 15 rfl) (bq_in kqX10_dateTold_0 16 rfl) (bq_in kqX10_dateTold_0 17 rfl) rfl
theorem dX10_dateTold_18 : decode cX10_dateTold 18 = .ok (.istore_n 1, 1) := oq_60 (bq_in kqX10_dateTold_0 18 rfl)
theorem dX10_dateTold_19 : decode cX10_dateTold 19 = .ok (.aload_n 0, 1) := oq_42 (bq_in kqX10_dateTold_0 19 rfl)
theorem dX10_dateTold_20 : decode cX10_dateTold 20 = .ok (.iconst 1, 1) := oq_4 (bq_in kqX10_dateTold_0 20 rfl)
theorem dX10_dateTold_21 : decode cX10_dateTold 21 = .ok (.bipush 12, 2) := oq_16 (bq_in kqX10_dateTold_0 21 rfl) (bq_in kqX10_dateTold_0 22 rfl) rfl
theorem dX10_dateTold_23 : decode cX10_dateTold 23 = .ok (.invokevirtual 160, 3) := oq_182 (bq_in kqX10_dateTold_0 23 rfl) (bq_in kqX10_dateTold_0 24 rfl) (bq_in kqX10_dateTold_0 25 rfl) rfl
theorem dX10_dateTold_26 : decode cX10_dateTold 26 = .ok (.istore_n 2, 1) := oq_61 (bq_in kqX10_dateTold_0 26 rfl)
theorem dX10_dateTold_27 : decode cX10_dateTold 27 = .ok (.aload_n 0, 1) := oq_42 (bq_in kqX10_dateTold_0 27 rfl)
theorem dX10_dateTold_28 : decode cX10_dateTold 28 = .ok (.iconst 1, 1) := oq_4 (bq_in kqX10_dateTold_0 28 rfl)
theorem dX10_dateTold_29 : decode cX10_dateTold 29 = .ok (.aload_n 0, 1) := oq_42 (bq_in kqX10_dateTold_0 29 rfl)
theorem dX10_dateTold_30 : decode cX10_dateTold 30 = .ok (.getfield 83, 3) := oq_180 (bq_in kqX10_dateTold_0 30 rfl) (bq_in kqX10_dateTold_0 31 rfl) (bq_in kqX10_dateTold_0 32 rfl) rfl
theorem kqX10_dateTold_1 : ((cX10_dateTold.data.toList.drop 32).take 34).map UInt8.toNat = [83, 158, 0, 8, 16, 31, 167, 0, 8, 27, 28, 184, 0, 56, 182, 0, 160, 62, 42, 180, 0, 83, 158, 0, 7, 3, 167, 0, 10, 42, 27, 28, 29, 182] := by decide +kernel
theorem dX10_dateTold_33 : decode cX10_dateTold 33 = .ok (.ifCond .le 8, 3) := oq_158 (bq_in kqX10_dateTold_1 1 rfl) (bq_in kqX10_dateTold_1 2 rfl) (bq_in kqX10_dateTold_1 3 rfl) rfl
theorem dX10_dateTold_36 : decode cX10_dateTold 36 = .ok (.bipush 31, 2) := oq_16 (bq_in kqX10_dateTold_1 4 rfl) (bq_in kqX10_dateTold_1 5 rfl) rfl
theorem dX10_dateTold_38 : decode cX10_dateTold 38 = .ok (.goto 8, 3) := oq_167 (bq_in kqX10_dateTold_1 6 rfl) (bq_in kqX10_dateTold_1 7 rfl) (bq_in kqX10_dateTold_1 8 rfl) rfl
theorem dX10_dateTold_41 : decode cX10_dateTold 41 = .ok (.iload_n 1, 1) := oq_27 (bq_in kqX10_dateTold_1 9 rfl)
theorem dX10_dateTold_42 : decode cX10_dateTold 42 = .ok (.iload_n 2, 1) := oq_28 (bq_in kqX10_dateTold_1 10 rfl)
theorem dX10_dateTold_43 : decode cX10_dateTold 43 = .ok (.invokestatic 56, 3) := oq_184 (bq_in kqX10_dateTold_1 11 rfl) (bq_in kqX10_dateTold_1 12 rfl) (bq_in kqX10_dateTold_1 13 rfl) rfl
theorem dX10_dateTold_46 : decode cX10_dateTold 46 = .ok (.invokevirtual 160, 3) := oq_182 (bq_in kqX10_dateTold_1 14 rfl) (bq_in kqX10_dateTold_1 15 rfl) (bq_in kqX10_dateTold_1 16 rfl) rfl
theorem dX10_dateTold_49 : decode cX10_dateTold 49 = .ok (.istore_n 3, 1) := oq_62 (bq_in kqX10_dateTold_1 17 rfl)
theorem dX10_dateTold_50 : decode cX10_dateTold 50 = .ok (.aload_n 0, 1) := oq_42 (bq_in kqX10_dateTold_1 18 rfl)
theorem dX10_dateTold_51 : decode cX10_dateTold 51 = .ok (.getfield 83, 3) := oq_180 (bq_in kqX10_dateTold_1 19 rfl) (bq_in kqX10_dateTold_1 20 rfl) (bq_in kqX10_dateTold_1 21 rfl) rfl
theorem dX10_dateTold_54 : decode cX10_dateTold 54 = .ok (.ifCond .le 7, 3) := oq_158 (bq_in kqX10_dateTold_1 22 rfl) (bq_in kqX10_dateTold_1 23 rfl) (bq_in kqX10_dateTold_1 24 rfl) rfl
theorem dX10_dateTold_57 : decode cX10_dateTold 57 = .ok (.iconst 0, 1) := oq_3 (bq_in kqX10_dateTold_1 25 rfl)
theorem dX10_dateTold_58 : decode cX10_dateTold 58 = .ok (.goto 10, 3) := oq_167 (bq_in kqX10_dateTold_1 26 rfl) (bq_in kqX10_dateTold_1 27 rfl) (bq_in kqX10_dateTold_1 28 rfl) rfl
theorem dX10_dateTold_61 : decode cX10_dateTold 61 = .ok (.aload_n 0, 1) := oq_42 (bq_in kqX10_dateTold_1 29 rfl)
theorem dX10_dateTold_62 : decode cX10_dateTold 62 = .ok (.iload_n 1, 1) := oq_27 (bq_in kqX10_dateTold_1 30 rfl)
theorem dX10_dateTold_63 : decode cX10_dateTold 63 = .ok (.iload_n 2, 1) := oq_28 (bq_in kqX10_dateTold_1 31 rfl)
theorem kqX10_dateTold_2 : ((cX10_dateTold.data.toList.drop 64).take 34).map UInt8.toNat = [29, 182, 0, 163, 172] := by decide +kernel
theorem dX10_dateTold_64 : decode cX10_dateTold 64 = .ok (.iload_n 3, 1) := oq_29 (bq_in kqX10_dateTold_2 0 rfl)
theorem dX10_dateTold_65 : decode cX10_dateTold 65 = .ok (.invokevirtual 163, 3) := oq_182 (bq_in kqX10_dateTold_2 1 rfl) (bq_in kqX10_dateTold_2 2 rfl) (bq_in kqX10_dateTold_2 3 rfl) rfl
theorem dX10_dateTold_68 : decode cX10_dateTold 68 = .ok (.ireturn, 1) := oq_172 (bq_in kqX10_dateTold_2 4 rfl)
theorem kqX10_ruleTold_0 : ((cX10_ruleTold.data.toList.drop 0).take 34).map UInt8.toNat = [42, 180, 0, 45, 16, 6, 3, 79, 42, 180, 0, 45, 16, 7, 2, 79, 42, 18, 167, 182, 0, 129, 153, 0, 22, 42, 182, 0, 137, 42, 180, 0, 45, 6] := by decide +kernel
theorem dX10_ruleTold_0 : decode cX10_ruleTold 0 = .ok (.aload_n 0, 1) := oq_42 (bq_in kqX10_ruleTold_0 0 rfl)
theorem dX10_ruleTold_1 : decode cX10_ruleTold 1 = .ok (.getfield 45, 3) := oq_180 (bq_in kqX10_ruleTold_0 1 rfl) (bq_in kqX10_ruleTold_0 2 rfl) (bq_in kqX10_ruleTold_0 3 rfl) rfl
theorem dX10_ruleTold_4 : decode cX10_ruleTold 4 = .ok (.bipush 6, 2) := oq_16 (bq_in kqX10_ruleTold_0 4 rfl) (bq_in kqX10_ruleTold_0 5 rfl) rfl
theorem dX10_ruleTold_6 : decode cX10_ruleTold 6 = .ok (.iconst 0, 1) := oq_3 (bq_in kqX10_ruleTold_0 6 rfl)
theorem dX10_ruleTold_7 : decode cX10_ruleTold 7 = .ok (.iastore, 1) := oq_79 (bq_in kqX10_ruleTold_0 7 rfl)
theorem dX10_ruleTold_8 : decode cX10_ruleTold 8 = .ok (.aload_n 0, 1) := oq_42 (bq_in kqX10_ruleTold_0 8 rfl)
theorem dX10_ruleTold_9 : decode cX10_ruleTold 9 = .ok (.getfield 45, 3) := oq_180 (bq_in kqX10_ruleTold_0 9 rfl) (bq_in kqX10_ruleTold_0 10 rfl) (bq_in kqX10_ruleTold_0 11 rfl) rfl
theorem dX10_ruleTold_12 : decode cX10_ruleTold 12 = .ok (.bipush 7, 2) := oq_16 (bq_in kqX10_ruleTold_0 12 rfl) (bq_in kqX10_ruleTold_0 13 rfl) rfl
theorem dX10_ruleTold_14 : decode cX10_ruleTold 14 = .ok (.iconst (-1), 1) := oq_2 (bq_in kqX10_ruleTold_0 14 rfl)
theorem dX10_ruleTold_15 : decode cX10_ruleTold 15 = .ok (.iastore, 1) := oq_79 (bq_in kqX10_ruleTold_0 15 rfl)
theorem dX10_ruleTold_16 : decode cX10_ruleTold 16 = .ok (.aload_n 0, 1) := oq_42 (bq_in kqX10_ruleTold_0 16 rfl)
theorem dX10_ruleTold_17 : decode cX10_ruleTold 17 = .ok (.ldc 167, 2) := oq_18 (bq_in kqX10_ruleTold_0 17 rfl) (bq_in kqX10_ruleTold_0 18 rfl)
theorem dX10_ruleTold_19 : decode cX10_ruleTold 19 = .ok (.invokevirtual 129, 3) := oq_182 (bq_in kqX10_ruleTold_0 19 rfl) (bq_in kqX10_ruleTold_0 20 rfl) (bq_in kqX10_ruleTold_0 21 rfl) rfl
theorem dX10_ruleTold_22 : decode cX10_ruleTold 22 = .ok (.ifCond .eq 22, 3) := oq_153 (bq_in kqX10_ruleTold_0 22 rfl) (bq_in kqX10_ruleTold_0 23 rfl) (bq_in kqX10_ruleTold_0 24 rfl) rfl
theorem dX10_ruleTold_25 : decode cX10_ruleTold 25 = .ok (.aload_n 0, 1) := oq_42 (bq_in kqX10_ruleTold_0 25 rfl)
theorem dX10_ruleTold_26 : decode cX10_ruleTold 26 = .ok (.invokevirtual 137, 3) := oq_182 (bq_in kqX10_ruleTold_0 26 rfl) (bq_in kqX10_ruleTold_0 27 rfl) (bq_in kqX10_ruleTold_0 28 rfl) rfl
theorem dX10_ruleTold_29 : decode cX10_ruleTold 29 = .ok (.aload_n 0, 1) := oq_42 (bq_in kqX10_ruleTold_0 29 rfl)
theorem dX10_ruleTold_30 : decode cX10_ruleTold 30 = .ok (.getfield 45, 3) := oq_180 (bq_in kqX10_ruleTold_0 30 rfl) (bq_in kqX10_ruleTold_0 31 rfl) (bq_in kqX10_ruleTold_0 32 rfl) rfl
theorem kqX10_ruleTold_1 : ((cX10_ruleTold.data.toList.drop 32).take 34).map UInt8.toNat = [45, 6, 3, 79, 42, 180, 0, 45, 7, 3, 79, 177, 42, 18, 169, 182, 0, 171, 42, 180, 0, 45, 7, 42, 4, 17, 3, 231, 182, 0, 160, 79, 42, 18] := by decide +kernel
theorem dX10_ruleTold_33 : decode cX10_ruleTold 33 = .ok (.iconst 3, 1) := oq_6 (bq_in kqX10_ruleTold_1 1 rfl)
theorem dX10_ruleTold_34 : decode cX10_ruleTold 34 = .ok (.iconst 0, 1) := oq_3 (bq_in kqX10_ruleTold_1 2 rfl)
theorem dX10_ruleTold_35 : decode cX10_ruleTold 35 = .ok (.iastore, 1) := oq_79 (bq_in kqX10_ruleTold_1 3 rfl)
theorem dX10_ruleTold_36 : decode cX10_ruleTold 36 = .ok (.aload_n 0, 1) := oq_42 (bq_in kqX10_ruleTold_1 4 rfl)
theorem dX10_ruleTold_37 : decode cX10_ruleTold 37 = .ok (.getfield 45, 3) := oq_180 (bq_in kqX10_ruleTold_1 5 rfl) (bq_in kqX10_ruleTold_1 6 rfl) (bq_in kqX10_ruleTold_1 7 rfl) rfl
theorem dX10_ruleTold_40 : decode cX10_ruleTold 40 = .ok (.iconst 4, 1) := oq_7 (bq_in kqX10_ruleTold_1 8 rfl)
theorem dX10_ruleTold_41 : decode cX10_ruleTold 41 = .ok (.iconst 0, 1) := oq_3 (bq_in kqX10_ruleTold_1 9 rfl)
theorem dX10_ruleTold_42 : decode cX10_ruleTold 42 = .ok (.iastore, 1) := oq_79 (bq_in kqX10_ruleTold_1 10 rfl)
theorem dX10_ruleTold_43 : decode cX10_ruleTold 43 = .ok (.return_, 1) := oq_177 (bq_in kqX10_ruleTold_1 11 rfl)
theorem dX10_ruleTold_44 : decode cX10_ruleTold 44 = .ok (.aload_n 0, 1) := oq_42 (bq_in kqX10_ruleTold_1 12 rfl)
theorem dX10_ruleTold_45 : decode cX10_ruleTold 45 = .ok (.ldc 169, 2) := oq_18 (bq_in kqX10_ruleTold_1 13 rfl) (bq_in kqX10_ruleTold_1 14 rfl)
theorem dX10_ruleTold_47 : decode cX10_ruleTold 47 = .ok (.invokevirtual 171, 3) := oq_182 (bq_in kqX10_ruleTold_1 15 rfl) (bq_in kqX10_ruleTold_1 16 rfl) (bq_in kqX10_ruleTold_1 17 rfl) rfl
theorem dX10_ruleTold_50 : decode cX10_ruleTold 50 = .ok (.aload_n 0, 1) := oq_42 (bq_in kqX10_ruleTold_1 18 rfl)
theorem dX10_ruleTold_51 : decode cX10_ruleTold 51 = .ok (.getfield 45, 3) := oq_180 (bq_in kqX10_ruleTold_1 19 rfl) (bq_in kqX10_ruleTold_1 20 rfl) (bq_in kqX10_ruleTold_1 21 rfl) rfl
theorem dX10_ruleTold_54 : decode cX10_ruleTold 54 = .ok (.iconst 4, 1) := oq_7 (bq_in kqX10_ruleTold_1 22 rfl)
theorem dX10_ruleTold_55 : decode cX10_ruleTold 55 = .ok (.aload_n 0, 1) := oq_42 (bq_in kqX10_ruleTold_1 23 rfl)
theorem dX10_ruleTold_56 : decode cX10_ruleTold 56 = .ok (.iconst 1, 1) := oq_4 (bq_in kqX10_ruleTold_1 24 rfl)
theorem dX10_ruleTold_57 : decode cX10_ruleTold 57 = .ok (.sipush 999, 3) := oq_17 (bq_in kqX10_ruleTold_1 25 rfl) (bq_in kqX10_ruleTold_1 26 rfl) (bq_in kqX10_ruleTold_1 27 rfl) rfl
theorem dX10_ruleTold_60 : decode cX10_ruleTold 60 = .ok (.invokevirtual 160, 3) := oq_182 (bq_in kqX10_ruleTold_1 28 rfl) (bq_in kqX10_ruleTold_1 29 rfl) (bq_in kqX10_ruleTold_1 30 rfl) rfl
theorem dX10_ruleTold_63 : decode cX10_ruleTold 63 = .ok (.iastore, 1) := oq_79 (bq_in kqX10_ruleTold_1 31 rfl)
theorem kqX10_ruleTold_2 : ((cX10_ruleTold.data.toList.drop 64).take 34).map UInt8.toNat = [42, 18, 175, 182, 0, 129, 153, 0, 17, 42, 182, 0, 137, 42, 180, 0, 45, 6, 4, 79, 167, 0, 72, 42, 18, 177, 182, 0, 129, 153, 0, 14, 42, 182] := by decide +kernel
theorem dX10_ruleTold_64 : decode cX10_ruleTold 64 = .ok (.aload_n 0, 1) := oq_42 (bq_in kqX10_ruleTold_2 0 rfl)
theorem dX10_ruleTold_65 : decode cX10_ruleTold 65 = .ok (.ldc 175, 2) := oq_18 (bq_in kqX10_ruleTold_2 1 rfl) (bq_in kqX10_ruleTold_2 2 rfl)
theorem dX10_ruleTold_67 : decode cX10_ruleTold 67 = .ok (.invokevirtual 129, 3) := oq_182 (bq_in kqX10_ruleTold_2 3 rfl) (bq_in kqX10_ruleTold_2 4 rfl) (bq_in kqX10_ruleTold_2 5 rfl) rfl
theorem dX10_ruleTold_70 : decode cX10_ruleTold 70 = .ok (.ifCond .eq 17, 3) := oq_153 (bq_in kqX10_ruleTold_2 6 rfl) (bq_in kqX10_ruleTold_2 7 rfl) (bq_in kqX10_ruleTold_2 8 rfl) rfl
theorem dX10_ruleTold_73 : decode cX10_ruleTold 73 = .ok (.aload_n 0, 1) := oq_42 (bq_in kqX10_ruleTold_2 9 rfl)
theorem dX10_ruleTold_74 : decode cX10_ruleTold 74 = .ok (.invokevirtual 137, 3) := oq_182 (bq_in kqX10_ruleTold_2 10 rfl) (bq_in kqX10_ruleTold_2 11 rfl) (bq_in kqX10_ruleTold_2 12 rfl) rfl
theorem dX10_ruleTold_77 : decode cX10_ruleTold 77 = .ok (.aload_n 0, 1) := oq_42 (bq_in kqX10_ruleTold_2 13 rfl)
theorem dX10_ruleTold_78 : decode cX10_ruleTold 78 = .ok (.getfield 45, 3) := oq_180 (bq_in kqX10_ruleTold_2 14 rfl) (bq_in kqX10_ruleTold_2 15 rfl) (bq_in kqX10_ruleTold_2 16 rfl) rfl
theorem dX10_ruleTold_81 : decode cX10_ruleTold 81 = .ok (.iconst 3, 1) := oq_6 (bq_in kqX10_ruleTold_2 17 rfl)
theorem dX10_ruleTold_82 : decode cX10_ruleTold 82 = .ok (.iconst 1, 1) := oq_4 (bq_in kqX10_ruleTold_2 18 rfl)
theorem dX10_ruleTold_83 : decode cX10_ruleTold 83 = .ok (.iastore, 1) := oq_79 (bq_in kqX10_ruleTold_2 19 rfl)
theorem dX10_ruleTold_84 : decode cX10_ruleTold 84 = .ok (.goto 72, 3) := oq_167 (bq_in kqX10_ruleTold_2 20 rfl) (bq_in kqX10_ruleTold_2 21 rfl) (bq_in kqX10_ruleTold_2 22 rfl) rfl
theorem dX10_ruleTold_87 : decode cX10_ruleTold 87 = .ok (.aload_n 0, 1) := oq_42 (bq_in kqX10_ruleTold_2 23 rfl)
theorem dX10_ruleTold_88 : decode cX10_ruleTold 88 = .ok (.ldc 177, 2) := oq_18 (bq_in kqX10_ruleTold_2 24 rfl) (bq_in kqX10_ruleTold_2 25 rfl)
theorem dX10_ruleTold_90 : decode cX10_ruleTold 90 = .ok (.invokevirtual 129, 3) := oq_182 (bq_in kqX10_ruleTold_2 26 rfl) (bq_in kqX10_ruleTold_2 27 rfl) (bq_in kqX10_ruleTold_2 28 rfl) rfl
theorem dX10_ruleTold_93 : decode cX10_ruleTold 93 = .ok (.ifCond .eq 14, 3) := oq_153 (bq_in kqX10_ruleTold_2 29 rfl) (bq_in kqX10_ruleTold_2 30 rfl) (bq_in kqX10_ruleTold_2 31 rfl) rfl
theorem kqX10_ruleTold_3 : ((cX10_ruleTold.data.toList.drop 96).take 34).map UInt8.toNat = [42, 182, 0, 137, 42, 182, 0, 179, 167, 0, 52, 42, 18, 182, 182, 0, 129, 153, 0, 14, 42, 182, 0, 137, 42, 182, 0, 184, 167, 0, 32, 42, 18, 187] := by decide +kernel
theorem dX10_ruleTold_96 : decode cX10_ruleTold 96 = .ok (.aload_n 0, 1) := oq_42 (bq_in kqX10_ruleTold_3 0 rfl)
theorem dX10_ruleTold_97 : decode cX10_ruleTold 97 = .ok (.invokevirtual 137, 3) := oq_182 (bq_in kqX10_ruleTold_3 1 rfl) (bq_in kqX10_ruleTold_3 2 rfl) (bq_in kqX10_ruleTold_3 3 rfl) rfl
theorem dX10_ruleTold_100 : decode cX10_ruleTold 100 = .ok (.aload_n 0, 1) := oq_42 (bq_in kqX10_ruleTold_3 4 rfl)
theorem dX10_ruleTold_101 : decode cX10_ruleTold 101 = .ok (.invokevirtual 179, 3) := oq_182 (bq_in kqX10_ruleTold_3 5 rfl) (bq_in kqX10_ruleTold_3 6 rfl) (bq_in kqX10_ruleTold_3 7 rfl) rfl
theorem dX10_ruleTold_104 : decode cX10_ruleTold 104 = .ok (.goto 52, 3) := oq_167 (bq_in kqX10_ruleTold_3 8 rfl) (bq_in kqX10_ruleTold_3 9 rfl) (bq_in kqX10_ruleTold_3 10 rfl) rfl
theorem dX10_ruleTold_107 : decode cX10_ruleTold 107 = .ok (.aload_n 0, 1) := oq_42 (bq_in kqX10_ruleTold_3 11 rfl)
theorem dX10_ruleTold_108 : decode cX10_ruleTold 108 = .ok (.ldc 182, 2) := oq_18 (bq_in kqX10_ruleTold_3 12 rfl) (bq_in kqX10_ruleTold_3 13 rfl)
theorem dX10_ruleTold_110 : decode cX10_ruleTold 110 = .ok (.invokevirtual 129, 3) := oq_182 (bq_in kqX10_ruleTold_3 14 rfl) (bq_in kqX10_ruleTold_3 15 rfl) (bq_in kqX10_ruleTold_3 16 rfl) rfl
theorem dX10_ruleTold_113 : decode cX10_ruleTold 113 = .ok (.ifCond .eq 14, 3) := oq_153 (bq_in kqX10_ruleTold_3 17 rfl) (bq_in kqX10_ruleTold_3 18 rfl) (bq_in kqX10_ruleTold_3 19 rfl) rfl
theorem dX10_ruleTold_116 : decode cX10_ruleTold 116 = .ok (.aload_n 0, 1) := oq_42 (bq_in kqX10_ruleTold_3 20 rfl)
theorem dX10_ruleTold_117 : decode cX10_ruleTold 117 = .ok (.invokevirtual 137, 3) := oq_182 (bq_in kqX10_ruleTold_3 21 rfl) (bq_in kqX10_ruleTold_3 22 rfl) (bq_in kqX10_ruleTold_3 23 rfl) rfl
theorem dX10_ruleTold_120 : decode cX10_ruleTold 120 = .ok (.aload_n 0, 1) := oq_42 (bq_in kqX10_ruleTold_3 24 rfl)
theorem dX10_ruleTold_121 : decode cX10_ruleTold 121 = .ok (.invokevirtual 184, 3) := oq_182 (bq_in kqX10_ruleTold_3 25 rfl) (bq_in kqX10_ruleTold_3 26 rfl) (bq_in kqX10_ruleTold_3 27 rfl) rfl
theorem dX10_ruleTold_124 : decode cX10_ruleTold 124 = .ok (.goto 32, 3) := oq_167 (bq_in kqX10_ruleTold_3 28 rfl) (bq_in kqX10_ruleTold_3 29 rfl) (bq_in kqX10_ruleTold_3 30 rfl) rfl
theorem dX10_ruleTold_127 : decode cX10_ruleTold 127 = .ok (.aload_n 0, 1) := oq_42 (bq_in kqX10_ruleTold_3 31 rfl)
theorem kqX10_ruleTold_4 : ((cX10_ruleTold.data.toList.drop 128).take 34).map UInt8.toNat = [18, 187, 182, 0, 129, 153, 0, 18, 42, 182, 0, 137, 42, 180, 0, 45, 6, 16, 7, 79, 167, 0, 8, 42, 4, 182, 0, 133, 177] := by decide +kernel
theorem dX10_ruleTold_128 : decode cX10_ruleTold 128 = .ok (.ldc 187, 2) := oq_18 (bq_in kqX10_ruleTold_4 0 rfl) (bq_in kqX10_ruleTold_4 1 rfl)
theorem dX10_ruleTold_130 : decode cX10_ruleTold 130 = .ok (.invokevirtual 129, 3) := oq_182 (bq_in kqX10_ruleTold_4 2 rfl) (bq_in kqX10_ruleTold_4 3 rfl) (bq_in kqX10_ruleTold_4 4 rfl) rfl
theorem dX10_ruleTold_133 : decode cX10_ruleTold 133 = .ok (.ifCond .eq 18, 3) := oq_153 (bq_in kqX10_ruleTold_4 5 rfl) (bq_in kqX10_ruleTold_4 6 rfl) (bq_in kqX10_ruleTold_4 7 rfl) rfl
theorem dX10_ruleTold_136 : decode cX10_ruleTold 136 = .ok (.aload_n 0, 1) := oq_42 (bq_in kqX10_ruleTold_4 8 rfl)
theorem dX10_ruleTold_137 : decode cX10_ruleTold 137 = .ok (.invokevirtual 137, 3) := oq_182 (bq_in kqX10_ruleTold_4 9 rfl) (bq_in kqX10_ruleTold_4 10 rfl) (bq_in kqX10_ruleTold_4 11 rfl) rfl
theorem dX10_ruleTold_140 : decode cX10_ruleTold 140 = .ok (.aload_n 0, 1) := oq_42 (bq_in kqX10_ruleTold_4 12 rfl)
theorem dX10_ruleTold_141 : decode cX10_ruleTold 141 = .ok (.getfield 45, 3) := oq_180 (bq_in kqX10_ruleTold_4 13 rfl) (bq_in kqX10_ruleTold_4 14 rfl) (bq_in kqX10_ruleTold_4 15 rfl) rfl
theorem dX10_ruleTold_144 : decode cX10_ruleTold 144 = .ok (.iconst 3, 1) := oq_6 (bq_in kqX10_ruleTold_4 16 rfl)
theorem dX10_ruleTold_145 : decode cX10_ruleTold 145 = .ok (.bipush 7, 2) := oq_16 (bq_in kqX10_ruleTold_4 17 rfl) (bq_in kqX10_ruleTold_4 18 rfl) rfl
theorem dX10_ruleTold_147 : decode cX10_ruleTold 147 = .ok (.iastore, 1) := oq_79 (bq_in kqX10_ruleTold_4 19 rfl)
theorem dX10_ruleTold_148 : decode cX10_ruleTold 148 = .ok (.goto 8, 3) := oq_167 (bq_in kqX10_ruleTold_4 20 rfl) (bq_in kqX10_ruleTold_4 21 rfl) (bq_in kqX10_ruleTold_4 22 rfl) rfl
theorem dX10_ruleTold_151 : decode cX10_ruleTold 151 = .ok (.aload_n 0, 1) := oq_42 (bq_in kqX10_ruleTold_4 23 rfl)
theorem dX10_ruleTold_152 : decode cX10_ruleTold 152 = .ok (.iconst 1, 1) := oq_4 (bq_in kqX10_ruleTold_4 24 rfl)
theorem dX10_ruleTold_153 : decode cX10_ruleTold 153 = .ok (.invokevirtual 133, 3) := oq_182 (bq_in kqX10_ruleTold_4 25 rfl) (bq_in kqX10_ruleTold_4 26 rfl) (bq_in kqX10_ruleTold_4 27 rfl) rfl
theorem dX10_ruleTold_156 : decode cX10_ruleTold 156 = .ok (.return_, 1) := oq_177 (bq_in kqX10_ruleTold_4 28 rfl)
theorem kqX10_weeksTold_0 : ((cX10_weeksTold.data.toList.drop 0).take 34).map UInt8.toNat = [42, 180, 0, 45, 6, 5, 79, 3, 60, 42, 182, 0, 154, 156, 0, 8, 42, 4, 182, 0, 133, 42, 182, 0, 154, 155, 0, 35, 42, 182, 0, 154, 61, 27] := by decide +kernel
theorem dX10_weeksTold_0 : decode cX10_weeksTold 0 = .ok (.aload_n 0, 1) := oq_42 (bq_in kqX10_weeksTold_0 0 rfl)
theorem dX10_weeksTold_1 : decode cX10_weeksTold 1 = .ok (.getfield 45, 3) := oq_180 (bq_in kqX10_weeksTold_0 1 rfl) (bq_in kqX10_weeksTold_0 2 rfl) (bq_in kqX10_weeksTold_0 3 rfl) rfl
theorem dX10_weeksTold_4 : decode cX10_weeksTold 4 = .ok (.iconst 3, 1) := oq_6 (bq_in kqX10_weeksTold_0 4 rfl)
theorem dX10_weeksTold_5 : decode cX10_weeksTold 5 = .ok (.iconst 2, 1) := oq_5 (bq_in kqX10_weeksTold_0 5 rfl)
theorem dX10_weeksTold_6 : decode cX10_weeksTold 6 = .ok (.iastore, 1) := oq_79 (bq_in kqX10_weeksTold_0 6 rfl)
theorem dX10_weeksTold_7 : decode cX10_weeksTold 7 = .ok (.iconst 0, 1) := oq_3 (bq_in kqX10_weeksTold_0 7 rfl)
theorem dX10_weeksTold_8 : decode cX10_weeksTold 8 = .ok (.istore_n 1, 1) := oq_60 (bq_in kqX10_weeksTold_0 8 rfl)
theorem dX10_weeksTold_9 : decode cX10_weeksTold 9 = .ok (.aload_n 0, 1) := oq_42 (bq_in kqX10_weeksTold_0 9 rfl)
theorem dX10_weeksTold_10 : decode cX10_weeksTold 10 = .ok (.invokevirtual 154, 3) := oq_182 (bq_in kqX10_weeksTold_0 10 rfl) (bq_in kqX10_weeksTold_0 11 rfl) (bq_in kqX10_weeksTold_0 12 rfl) rfl
theorem dX10_weeksTold_13 : decode cX10_weeksTold 13 = .ok (.ifCond .ge 8, 3) := oq_156 (bq_in kqX10_weeksTold_0 13 rfl) (bq_in kqX10_weeksTold_0 14 rfl) (bq_in kqX10_weeksTold_0 15 rfl) rfl
theorem dX10_weeksTold_16 : decode cX10_weeksTold 16 = .ok (.aload_n 0, 1) := oq_42 (bq_in kqX10_weeksTold_0 16 rfl)
theorem dX10_weeksTold_17 : decode cX10_weeksTold 17 = .ok (.iconst 1, 1) := oq_4 (bq_in kqX10_weeksTold_0 17 rfl)
theorem dX10_weeksTold_18 : decode cX10_weeksTold 18 = .ok (.invokevirtual 133, 3) := oq_182 (bq_in kqX10_weeksTold_0 18 rfl) (bq_in kqX10_weeksTold_0 19 rfl) (bq_in kqX10_weeksTold_0 20 rfl) rfl
theorem dX10_weeksTold_21 : decode cX10_weeksTold 21 = .ok (.aload_n 0, 1) := oq_42 (bq_in kqX10_weeksTold_0 21 rfl)
theorem dX10_weeksTold_22 : decode cX10_weeksTold 22 = .ok (.invokevirtual 154, 3) := oq_182 (bq_in kqX10_weeksTold_0 22 rfl) (bq_in kqX10_weeksTold_0 23 rfl) (bq_in kqX10_weeksTold_0 24 rfl) rfl
theorem dX10_weeksTold_25 : decode cX10_weeksTold 25 = .ok (.ifCond .lt 35, 3) := oq_155 (bq_in kqX10_weeksTold_0 25 rfl) (bq_in kqX10_weeksTold_0 26 rfl) (bq_in kqX10_weeksTold_0 27 rfl) rfl
theorem dX10_weeksTold_28 : decode cX10_weeksTold 28 = .ok (.aload_n 0, 1) := oq_42 (bq_in kqX10_weeksTold_0 28 rfl)
theorem dX10_weeksTold_29 : decode cX10_weeksTold 29 = .ok (.invokevirtual 154, 3) := oq_182 (bq_in kqX10_weeksTold_0 29 rfl) (bq_in kqX10_weeksTold_0 30 rfl) (bq_in kqX10_weeksTold_0 31 rfl) rfl
theorem kqX10_weeksTold_1 : ((cX10_weeksTold.data.toList.drop 32).take 34).map UInt8.toNat = [61, 27, 28, 122, 4, 126, 4, 160, 0, 8, 42, 5, 182, 0, 133, 27, 4, 28, 120, 128, 60, 42, 182, 0, 137, 167, 255, 220, 42, 180, 0, 45, 16, 6] := by decide +kernel
theorem dX10_weeksTold_32 : decode cX10_weeksTold 32 = .ok (.istore_n 2, 1) := oq_61 (bq_in kqX10_weeksTold_1 0 rfl)
theorem dX10_weeksTold_33 : decode cX10_weeksTold 33 = .ok (.iload_n 1, 1) := oq_27 (bq_in kqX10_weeksTold_1 1 rfl)
theorem dX10_weeksTold_34 : decode cX10_weeksTold 34 = .ok (.iload_n 2, 1) := oq_28 (bq_in kqX10_weeksTold_1 2 rfl)
theorem dX10_weeksTold_35 : decode cX10_weeksTold 35 = .ok (.ishr, 1) := oq_122 (bq_in kqX10_weeksTold_1 3 rfl)
theorem dX10_weeksTold_36 : decode cX10_weeksTold 36 = .ok (.iconst 1, 1) := oq_4 (bq_in kqX10_weeksTold_1 4 rfl)
theorem dX10_weeksTold_37 : decode cX10_weeksTold 37 = .ok (.iand, 1) := oq_126 (bq_in kqX10_weeksTold_1 5 rfl)
theorem dX10_weeksTold_38 : decode cX10_weeksTold 38 = .ok (.iconst 1, 1) := oq_4 (bq_in kqX10_weeksTold_1 6 rfl)
theorem dX10_weeksTold_39 : decode cX10_weeksTold 39 = .ok (.if_icmp .ne 8, 3) := oq_160 (bq_in kqX10_weeksTold_1 7 rfl) (bq_in kqX10_weeksTold_1 8 rfl) (bq_in kqX10_weeksTold_1 9 rfl) rfl
theorem dX10_weeksTold_42 : decode cX10_weeksTold 42 = .ok (.aload_n 0, 1) := oq_42 (bq_in kqX10_weeksTold_1 10 rfl)
theorem dX10_weeksTold_43 : decode cX10_weeksTold 43 = .ok (.iconst 2, 1) := oq_5 (bq_in kqX10_weeksTold_1 11 rfl)
theorem dX10_weeksTold_44 : decode cX10_weeksTold 44 = .ok (.invokevirtual 133, 3) := oq_182 (bq_in kqX10_weeksTold_1 12 rfl) (bq_in kqX10_weeksTold_1 13 rfl) (bq_in kqX10_weeksTold_1 14 rfl) rfl
theorem dX10_weeksTold_47 : decode cX10_weeksTold 47 = .ok (.iload_n 1, 1) := oq_27 (bq_in kqX10_weeksTold_1 15 rfl)
theorem dX10_weeksTold_48 : decode cX10_weeksTold 48 = .ok (.iconst 1, 1) := oq_4 (bq_in kqX10_weeksTold_1 16 rfl)
theorem dX10_weeksTold_49 : decode cX10_weeksTold 49 = .ok (.iload_n 2, 1) := oq_28 (bq_in kqX10_weeksTold_1 17 rfl)
theorem dX10_weeksTold_50 : decode cX10_weeksTold 50 = .ok (.ishl, 1) := oq_120 (bq_in kqX10_weeksTold_1 18 rfl)
theorem dX10_weeksTold_51 : decode cX10_weeksTold 51 = .ok (.ior, 1) := oq_128 (bq_in kqX10_weeksTold_1 19 rfl)
theorem dX10_weeksTold_52 : decode cX10_weeksTold 52 = .ok (.istore_n 1, 1) := oq_60 (bq_in kqX10_weeksTold_1 20 rfl)
theorem dX10_weeksTold_53 : decode cX10_weeksTold 53 = .ok (.aload_n 0, 1) := oq_42 (bq_in kqX10_weeksTold_1 21 rfl)
theorem dX10_weeksTold_54 : decode cX10_weeksTold 54 = .ok (.invokevirtual 137, 3) := oq_182 (bq_in kqX10_weeksTold_1 22 rfl) (bq_in kqX10_weeksTold_1 23 rfl) (bq_in kqX10_weeksTold_1 24 rfl) rfl
theorem dX10_weeksTold_57 : decode cX10_weeksTold 57 = .ok (.goto (-36), 3) := oq_167 (bq_in kqX10_weeksTold_1 25 rfl) (bq_in kqX10_weeksTold_1 26 rfl) (bq_in kqX10_weeksTold_1 27 rfl) rfl
theorem dX10_weeksTold_60 : decode cX10_weeksTold 60 = .ok (.aload_n 0, 1) := oq_42 (bq_in kqX10_weeksTold_1 28 rfl)
theorem dX10_weeksTold_61 : decode cX10_weeksTold 61 = .ok (.getfield 45, 3) := oq_180 (bq_in kqX10_weeksTold_1 29 rfl) (bq_in kqX10_weeksTold_1 30 rfl) (bq_in kqX10_weeksTold_1 31 rfl) rfl
theorem kqX10_weeksTold_2 : ((cX10_weeksTold.data.toList.drop 64).take 34).map UInt8.toNat = [16, 6, 27, 79, 177] := by decide +kernel
theorem dX10_weeksTold_64 : decode cX10_weeksTold 64 = .ok (.bipush 6, 2) := oq_16 (bq_in kqX10_weeksTold_2 0 rfl) (bq_in kqX10_weeksTold_2 1 rfl) rfl
theorem dX10_weeksTold_66 : decode cX10_weeksTold 66 = .ok (.iload_n 1, 1) := oq_27 (bq_in kqX10_weeksTold_2 2 rfl)
theorem dX10_weeksTold_67 : decode cX10_weeksTold 67 = .ok (.iastore, 1) := oq_79 (bq_in kqX10_weeksTold_2 3 rfl)
theorem dX10_weeksTold_68 : decode cX10_weeksTold 68 = .ok (.return_, 1) := oq_177 (bq_in kqX10_weeksTold_2 4 rfl)
theorem kqX10_monthsTold_0 : ((cX10_monthsTold.data.toList.drop 0).take 34).map UInt8.toNat = [42, 18, 189, 182, 0, 129, 153, 0, 31, 42, 182, 0, 137, 42, 180, 0, 45, 6, 6, 79, 42, 180, 0, 45, 16, 6, 42, 4, 16, 31, 182, 0, 160, 79] := by decide +kernel
theorem dX10_monthsTold_0 : decode cX10_monthsTold 0 = .ok (.aload_n 0, 1) := oq_42 (bq_in kqX10_monthsTold_0 0 rfl)
theorem dX10_monthsTold_1 : decode cX10_monthsTold 1 = .ok (.ldc 189, 2) := oq_18 (bq_in kqX10_monthsTold_0 1 rfl) (bq_in kqX10_monthsTold_0 2 rfl)
theorem dX10_monthsTold_3 : decode cX10_monthsTold 3 = .ok (.invokevirtual 129, 3) := oq_182 (bq_in kqX10_monthsTold_0 3 rfl) (bq_in kqX10_monthsTold_0 4 rfl) (bq_in kqX10_monthsTold_0 5 rfl) rfl
theorem dX10_monthsTold_6 : decode cX10_monthsTold 6 = .ok (.ifCond .eq 31, 3) := oq_153 (bq_in kqX10_monthsTold_0 6 rfl) (bq_in kqX10_monthsTold_0 7 rfl) (bq_in kqX10_monthsTold_0 8 rfl) rfl
theorem dX10_monthsTold_9 : decode cX10_monthsTold 9 = .ok (.aload_n 0, 1) := oq_42 (bq_in kqX10_monthsTold_0 9 rfl)
theorem dX10_monthsTold_10 : decode cX10_monthsTold 10 = .ok (.invokevirtual 137, 3) := oq_182 (bq_in kqX10_monthsTold_0 10 rfl) (bq_in kqX10_monthsTold_0 11 rfl) (bq_in kqX10_monthsTold_0 12 rfl) rfl
theorem dX10_monthsTold_13 : decode cX10_monthsTold 13 = .ok (.aload_n 0, 1) := oq_42 (bq_in kqX10_monthsTold_0 13 rfl)
theorem dX10_monthsTold_14 : decode cX10_monthsTold 14 = .ok (.getfield 45, 3) := oq_180 (bq_in kqX10_monthsTold_0 14 rfl) (bq_in kqX10_monthsTold_0 15 rfl) (bq_in kqX10_monthsTold_0 16 rfl) rfl
theorem dX10_monthsTold_17 : decode cX10_monthsTold 17 = .ok (.iconst 3, 1) := oq_6 (bq_in kqX10_monthsTold_0 17 rfl)
theorem dX10_monthsTold_18 : decode cX10_monthsTold 18 = .ok (.iconst 3, 1) := oq_6 (bq_in kqX10_monthsTold_0 18 rfl)
theorem dX10_monthsTold_19 : decode cX10_monthsTold 19 = .ok (.iastore, 1) := oq_79 (bq_in kqX10_monthsTold_0 19 rfl)
theorem dX10_monthsTold_20 : decode cX10_monthsTold 20 = .ok (.aload_n 0, 1) := oq_42 (bq_in kqX10_monthsTold_0 20 rfl)
theorem dX10_monthsTold_21 : decode cX10_monthsTold 21 = .ok (.getfield 45, 3) := oq_180 (bq_in kqX10_monthsTold_0 21 rfl) (bq_in kqX10_monthsTold_0 22 rfl) (bq_in kqX10_monthsTold_0 23 rfl) rfl
theorem dX10_monthsTold_24 : decode cX10_monthsTold 24 = .ok (.bipush 6, 2) := oq_16 (bq_in kqX10_monthsTold_0 24 rfl) (bq_in kqX10_monthsTold_0 25 rfl) rfl
theorem dX10_monthsTold_26 : decode cX10_monthsTold 26 = .ok (.aload_n 0, 1) := oq_42 (bq_in kqX10_monthsTold_0 26 rfl)
theorem dX10_monthsTold_27 : decode cX10_monthsTold 27 = .ok (.iconst 1, 1) := oq_4 (bq_in kqX10_monthsTold_0 27 rfl)
theorem dX10_monthsTold_28 : decode cX10_monthsTold 28 = .ok (.bipush 31, 2) := oq_16 (bq_in kqX10_monthsTold_0 28 rfl) (bq_in kqX10_monthsTold_0 29 rfl) rfl
theorem dX10_monthsTold_30 : decode cX10_monthsTold 30 = .ok (.invokevirtual 160, 3) := oq_182 (bq_in kqX10_monthsTold_0 30 rfl) (bq_in kqX10_monthsTold_0 31 rfl) (bq_in kqX10_monthsTold_0 32 rfl) rfl
theorem kqX10_monthsTold_1 : ((cX10_monthsTold.data.toList.drop 32).take 34).map UInt8.toNat = [160, 79, 167, 0, 127, 42, 18, 191, 182, 0, 129, 153, 0, 31, 42, 182, 0, 137, 42, 180, 0, 45, 6, 7, 79, 42, 180, 0, 45, 16, 6, 42, 4, 16] := by decide +kernel
theorem dX10_monthsTold_33 : decode cX10_monthsTold 33 = .ok (.iastore, 1) := oq_79 (bq_in kqX10_monthsTold_1 1 rfl)
theorem dX10_monthsTold_34 : decode cX10_monthsTold 34 = .ok (.goto 127, 3) := oq_167 (bq_in kqX10_monthsTold_1 2 rfl) (bq_in kqX10_monthsTold_1 3 rfl) (bq_in kqX10_monthsTold_1 4 rfl) rfl
theorem dX10_monthsTold_37 : decode cX10_monthsTold 37 = .ok (.aload_n 0, 1) := oq_42 (bq_in kqX10_monthsTold_1 5 rfl)
theorem dX10_monthsTold_38 : decode cX10_monthsTold 38 = .ok (.ldc 191, 2) := oq_18 (bq_in kqX10_monthsTold_1 6 rfl) (bq_in kqX10_monthsTold_1 7 rfl)
theorem dX10_monthsTold_40 : decode cX10_monthsTold 40 = .ok (.invokevirtual 129, 3) := oq_182 (bq_in kqX10_monthsTold_1 8 rfl) (bq_in kqX10_monthsTold_1 9 rfl) (bq_in kqX10_monthsTold_1 10 rfl) rfl
theorem dX10_monthsTold_43 : decode cX10_monthsTold 43 = .ok (.ifCond .eq 31, 3) := oq_153 (bq_in kqX10_monthsTold_1 11 rfl) (bq_in kqX10_monthsTold_1 12 rfl) (bq_in kqX10_monthsTold_1 13 rfl) rfl
theorem dX10_monthsTold_46 : decode cX10_monthsTold 46 = .ok (.aload_n 0, 1) := oq_42 (bq_in kqX10_monthsTold_1 14 rfl)
theorem dX10_monthsTold_47 : decode cX10_monthsTold 47 = .ok (.invokevirtual 137, 3) := oq_182 (bq_in kqX10_monthsTold_1 15 rfl) (bq_in kqX10_monthsTold_1 16 rfl) (bq_in kqX10_monthsTold_1 17 rfl) rfl
theorem dX10_monthsTold_50 : decode cX10_monthsTold 50 = .ok (.aload_n 0, 1) := oq_42 (bq_in kqX10_monthsTold_1 18 rfl)
theorem dX10_monthsTold_51 : decode cX10_monthsTold 51 = .ok (.getfield 45, 3) := oq_180 (bq_in kqX10_monthsTold_1 19 rfl) (bq_in kqX10_monthsTold_1 20 rfl) (bq_in kqX10_monthsTold_1 21 rfl) rfl
theorem dX10_monthsTold_54 : decode cX10_monthsTold 54 = .ok (.iconst 3, 1) := oq_6 (bq_in kqX10_monthsTold_1 22 rfl)
theorem dX10_monthsTold_55 : decode cX10_monthsTold 55 = .ok (.iconst 4, 1) := oq_7 (bq_in kqX10_monthsTold_1 23 rfl)
theorem dX10_monthsTold_56 : decode cX10_monthsTold 56 = .ok (.iastore, 1) := oq_79 (bq_in kqX10_monthsTold_1 24 rfl)
theorem dX10_monthsTold_57 : decode cX10_monthsTold 57 = .ok (.aload_n 0, 1) := oq_42 (bq_in kqX10_monthsTold_1 25 rfl)
theorem dX10_monthsTold_58 : decode cX10_monthsTold 58 = .ok (.getfield 45, 3) := oq_180 (bq_in kqX10_monthsTold_1 26 rfl) (bq_in kqX10_monthsTold_1 27 rfl) (bq_in kqX10_monthsTold_1 28 rfl) rfl
theorem dX10_monthsTold_61 : decode cX10_monthsTold 61 = .ok (.bipush 6, 2) := oq_16 (bq_in kqX10_monthsTold_1 29 rfl) (bq_in kqX10_monthsTold_1 30 rfl) rfl
theorem dX10_monthsTold_63 : decode cX10_monthsTold 63 = .ok (.aload_n 0, 1) := oq_42 (bq_in kqX10_monthsTold_1 31 rfl)
theorem kqX10_monthsTold_2 : ((cX10_monthsTold.data.toList.drop 64).take 34).map UInt8.toNat = [4, 16, 28, 182, 0, 160, 79, 167, 0, 90, 42, 18, 193, 182, 0, 129, 153, 0, 41, 42, 182, 0, 137, 42, 180, 0, 45, 6, 8, 79, 42, 180, 0, 45] := by decide +kernel
theorem dX10_monthsTold_64 : decode cX10_monthsTold 64 = .ok (.iconst 1, 1) := oq_4 (bq_in kqX10_monthsTold_2 0 rfl)
theorem dX10_monthsTold_65 : decode cX10_monthsTold 65 = .ok (.bipush 28, 2) := oq_16 (bq_in kqX10_monthsTold_2 1 rfl) (bq_in kqX10_monthsTold_2 2 rfl) rfl
theorem dX10_monthsTold_67 : decode cX10_monthsTold 67 = .ok (.invokevirtual 160, 3) := oq_182 (bq_in kqX10_monthsTold_2 3 rfl) (bq_in kqX10_monthsTold_2 4 rfl) (bq_in kqX10_monthsTold_2 5 rfl) rfl
theorem dX10_monthsTold_70 : decode cX10_monthsTold 70 = .ok (.iastore, 1) := oq_79 (bq_in kqX10_monthsTold_2 6 rfl)
theorem dX10_monthsTold_71 : decode cX10_monthsTold 71 = .ok (.goto 90, 3) := oq_167 (bq_in kqX10_monthsTold_2 7 rfl) (bq_in kqX10_monthsTold_2 8 rfl) (bq_in kqX10_monthsTold_2 9 rfl) rfl
theorem dX10_monthsTold_74 : decode cX10_monthsTold 74 = .ok (.aload_n 0, 1) := oq_42 (bq_in kqX10_monthsTold_2 10 rfl)
theorem dX10_monthsTold_75 : decode cX10_monthsTold 75 = .ok (.ldc 193, 2) := oq_18 (bq_in kqX10_monthsTold_2 11 rfl) (bq_in kqX10_monthsTold_2 12 rfl)
theorem dX10_monthsTold_77 : decode cX10_monthsTold 77 = .ok (.invokevirtual 129, 3) := oq_182 (bq_in kqX10_monthsTold_2 13 rfl) (bq_in kqX10_monthsTold_2 14 rfl) (bq_in kqX10_monthsTold_2 15 rfl) rfl
theorem dX10_monthsTold_80 : decode cX10_monthsTold 80 = .ok (.ifCond .eq 41, 3) := oq_153 (bq_in kqX10_monthsTold_2 16 rfl) (bq_in kqX10_monthsTold_2 17 rfl) (bq_in kqX10_monthsTold_2 18 rfl) rfl
theorem dX10_monthsTold_83 : decode cX10_monthsTold 83 = .ok (.aload_n 0, 1) := oq_42 (bq_in kqX10_monthsTold_2 19 rfl)
theorem dX10_monthsTold_84 : decode cX10_monthsTold 84 = .ok (.invokevirtual 137, 3) := oq_182 (bq_in kqX10_monthsTold_2 20 rfl) (bq_in kqX10_monthsTold_2 21 rfl) (bq_in kqX10_monthsTold_2 22 rfl) rfl
theorem dX10_monthsTold_87 : decode cX10_monthsTold 87 = .ok (.aload_n 0, 1) := oq_42 (bq_in kqX10_monthsTold_2 23 rfl)
theorem dX10_monthsTold_88 : decode cX10_monthsTold 88 = .ok (.getfield 45, 3) := oq_180 (bq_in kqX10_monthsTold_2 24 rfl) (bq_in kqX10_monthsTold_2 25 rfl) (bq_in kqX10_monthsTold_2 26 rfl) rfl
theorem dX10_monthsTold_91 : decode cX10_monthsTold 91 = .ok (.iconst 3, 1) := oq_6 (bq_in kqX10_monthsTold_2 27 rfl)
theorem dX10_monthsTold_92 : decode cX10_monthsTold 92 = .ok (.iconst 5, 1) := oq_8 (bq_in kqX10_monthsTold_2 28 rfl)
theorem dX10_monthsTold_93 : decode cX10_monthsTold 93 = .ok (.iastore, 1) := oq_79 (bq_in kqX10_monthsTold_2 29 rfl)
theorem dX10_monthsTold_94 : decode cX10_monthsTold 94 = .ok (.aload_n 0, 1) := oq_42 (bq_in kqX10_monthsTold_2 30 rfl)
theorem dX10_monthsTold_95 : decode cX10_monthsTold 95 = .ok (.getfield 45, 3) := oq_180 (bq_in kqX10_monthsTold_2 31 rfl) (bq_in kqX10_monthsTold_2 32 rfl) (bq_in kqX10_monthsTold_2 33 rfl) rfl
theorem kqX10_monthsTold_3 : ((cX10_monthsTold.data.toList.drop 96).take 34).map UInt8.toNat = [0, 45, 16, 6, 42, 4, 8, 182, 0, 160, 79, 42, 180, 0, 45, 16, 7, 42, 182, 0, 195, 79, 167, 0, 43, 42, 18, 198, 182, 0, 129, 153, 0, 29] := by decide +kernel
theorem dX10_monthsTold_98 : decode cX10_monthsTold 98 = .ok (.bipush 6, 2) := oq_16 (bq_in kqX10_monthsTold_3 2 rfl) (bq_in kqX10_monthsTold_3 3 rfl) rfl
theorem dX10_monthsTold_100 : decode cX10_monthsTold 100 = .ok (.aload_n 0, 1) := oq_42 (bq_in kqX10_monthsTold_3 4 rfl)
theorem dX10_monthsTold_101 : decode cX10_monthsTold 101 = .ok (.iconst 1, 1) := oq_4 (bq_in kqX10_monthsTold_3 5 rfl)
theorem dX10_monthsTold_102 : decode cX10_monthsTold 102 = .ok (.iconst 5, 1) := oq_8 (bq_in kqX10_monthsTold_3 6 rfl)
theorem dX10_monthsTold_103 : decode cX10_monthsTold 103 = .ok (.invokevirtual 160, 3) := oq_182 (bq_in kqX10_monthsTold_3 7 rfl) (bq_in kqX10_monthsTold_3 8 rfl) (bq_in kqX10_monthsTold_3 9 rfl) rfl
theorem dX10_monthsTold_106 : decode cX10_monthsTold 106 = .ok (.iastore, 1) := oq_79 (bq_in kqX10_monthsTold_3 10 rfl)
theorem dX10_monthsTold_107 : decode cX10_monthsTold 107 = .ok (.aload_n 0, 1) := oq_42 (bq_in kqX10_monthsTold_3 11 rfl)
theorem dX10_monthsTold_108 : decode cX10_monthsTold 108 = .ok (.getfield 45, 3) := oq_180 (bq_in kqX10_monthsTold_3 12 rfl) (bq_in kqX10_monthsTold_3 13 rfl) (bq_in kqX10_monthsTold_3 14 rfl) rfl
theorem dX10_monthsTold_111 : decode cX10_monthsTold 111 = .ok (.bipush 7, 2) := oq_16 (bq_in kqX10_monthsTold_3 15 rfl) (bq_in kqX10_monthsTold_3 16 rfl) rfl
theorem dX10_monthsTold_113 : decode cX10_monthsTold 113 = .ok (.aload_n 0, 1) := oq_42 (bq_in kqX10_monthsTold_3 17 rfl)
theorem dX10_monthsTold_114 : decode cX10_monthsTold 114 = .ok (.invokevirtual 195, 3) := oq_182 (bq_in kqX10_monthsTold_3 18 rfl) (bq_in kqX10_monthsTold_3 19 rfl) (bq_in kqX10_monthsTold_3 20 rfl) rfl
theorem dX10_monthsTold_117 : decode cX10_monthsTold 117 = .ok (.iastore, 1) := oq_79 (bq_in kqX10_monthsTold_3 21 rfl)
theorem dX10_monthsTold_118 : decode cX10_monthsTold 118 = .ok (.goto 43, 3) := oq_167 (bq_in kqX10_monthsTold_3 22 rfl) (bq_in kqX10_monthsTold_3 23 rfl) (bq_in kqX10_monthsTold_3 24 rfl) rfl
theorem dX10_monthsTold_121 : decode cX10_monthsTold 121 = .ok (.aload_n 0, 1) := oq_42 (bq_in kqX10_monthsTold_3 25 rfl)
theorem dX10_monthsTold_122 : decode cX10_monthsTold 122 = .ok (.ldc 198, 2) := oq_18 (bq_in kqX10_monthsTold_3 26 rfl) (bq_in kqX10_monthsTold_3 27 rfl)
theorem dX10_monthsTold_124 : decode cX10_monthsTold 124 = .ok (.invokevirtual 129, 3) := oq_182 (bq_in kqX10_monthsTold_3 28 rfl) (bq_in kqX10_monthsTold_3 29 rfl) (bq_in kqX10_monthsTold_3 30 rfl) rfl
theorem dX10_monthsTold_127 : decode cX10_monthsTold 127 = .ok (.ifCond .eq 29, 3) := oq_153 (bq_in kqX10_monthsTold_3 31 rfl) (bq_in kqX10_monthsTold_3 32 rfl) (bq_in kqX10_monthsTold_3 33 rfl) rfl
theorem kqX10_monthsTold_4 : ((cX10_monthsTold.data.toList.drop 128).take 34).map UInt8.toNat = [0, 29, 42, 182, 0, 137, 42, 180, 0, 45, 6, 16, 6, 79, 42, 180, 0, 45, 16, 6, 42, 182, 0, 195, 79, 167, 0, 8, 42, 4, 182, 0, 133, 177] := by decide +kernel
theorem dX10_monthsTold_130 : decode cX10_monthsTold 130 = .ok (.aload_n 0, 1) := oq_42 (bq_in kqX10_monthsTold_4 2 rfl)
theorem dX10_monthsTold_131 : decode cX10_monthsTold 131 = .ok (.invokevirtual 137, 3) := oq_182 (bq_in kqX10_monthsTold_4 3 rfl) (bq_in kqX10_monthsTold_4 4 rfl) (bq_in kqX10_monthsTold_4 5 rfl) rfl
theorem dX10_monthsTold_134 : decode cX10_monthsTold 134 = .ok (.aload_n 0, 1) := oq_42 (bq_in kqX10_monthsTold_4 6 rfl)
theorem dX10_monthsTold_135 : decode cX10_monthsTold 135 = .ok (.getfield 45, 3) := oq_180 (bq_in kqX10_monthsTold_4 7 rfl) (bq_in kqX10_monthsTold_4 8 rfl) (bq_in kqX10_monthsTold_4 9 rfl) rfl
theorem dX10_monthsTold_138 : decode cX10_monthsTold 138 = .ok (.iconst 3, 1) := oq_6 (bq_in kqX10_monthsTold_4 10 rfl)
theorem dX10_monthsTold_139 : decode cX10_monthsTold 139 = .ok (.bipush 6, 2) := oq_16 (bq_in kqX10_monthsTold_4 11 rfl) (bq_in kqX10_monthsTold_4 12 rfl) rfl
theorem dX10_monthsTold_141 : decode cX10_monthsTold 141 = .ok (.iastore, 1) := oq_79 (bq_in kqX10_monthsTold_4 13 rfl)
theorem dX10_monthsTold_142 : decode cX10_monthsTold 142 = .ok (.aload_n 0, 1) := oq_42 (bq_in kqX10_monthsTold_4 14 rfl)
theorem dX10_monthsTold_143 : decode cX10_monthsTold 143 = .ok (.getfield 45, 3) := oq_180 (bq_in kqX10_monthsTold_4 15 rfl) (bq_in kqX10_monthsTold_4 16 rfl) (bq_in kqX10_monthsTold_4 17 rfl) rfl
theorem dX10_monthsTold_146 : decode cX10_monthsTold 146 = .ok (.bipush 6, 2) := oq_16 (bq_in kqX10_monthsTold_4 18 rfl) (bq_in kqX10_monthsTold_4 19 rfl) rfl
theorem dX10_monthsTold_148 : decode cX10_monthsTold 148 = .ok (.aload_n 0, 1) := oq_42 (bq_in kqX10_monthsTold_4 20 rfl)
theorem dX10_monthsTold_149 : decode cX10_monthsTold 149 = .ok (.invokevirtual 195, 3) := oq_182 (bq_in kqX10_monthsTold_4 21 rfl) (bq_in kqX10_monthsTold_4 22 rfl) (bq_in kqX10_monthsTold_4 23 rfl) rfl
theorem dX10_monthsTold_152 : decode cX10_monthsTold 152 = .ok (.iastore, 1) := oq_79 (bq_in kqX10_monthsTold_4 24 rfl)
theorem dX10_monthsTold_153 : decode cX10_monthsTold 153 = .ok (.goto 8, 3) := oq_167 (bq_in kqX10_monthsTold_4 25 rfl) (bq_in kqX10_monthsTold_4 26 rfl) (bq_in kqX10_monthsTold_4 27 rfl) rfl
theorem dX10_monthsTold_156 : decode cX10_monthsTold 156 = .ok (.aload_n 0, 1) := oq_42 (bq_in kqX10_monthsTold_4 28 rfl)
theorem dX10_monthsTold_157 : decode cX10_monthsTold 157 = .ok (.iconst 1, 1) := oq_4 (bq_in kqX10_monthsTold_4 29 rfl)
theorem dX10_monthsTold_158 : decode cX10_monthsTold 158 = .ok (.invokevirtual 133, 3) := oq_182 (bq_in kqX10_monthsTold_4 30 rfl) (bq_in kqX10_monthsTold_4 31 rfl) (bq_in kqX10_monthsTold_4 32 rfl) rfl
theorem kqX10_monthsTold_5 : ((cX10_monthsTold.data.toList.drop 160).take 34).map UInt8.toNat = [133, 177] := by decide +kernel
theorem dX10_monthsTold_161 : decode cX10_monthsTold 161 = .ok (.return_, 1) := oq_177 (bq_in kqX10_monthsTold_5 1 rfl)
theorem kqX10_endTold_0 : ((cX10_endTold.data.toList.drop 0).take 34).map UInt8.toNat = [42, 180, 0, 45, 16, 8, 2, 79, 42, 180, 0, 45, 16, 9, 2, 79, 42, 18, 200, 182, 0, 129, 153, 0, 57, 42, 182, 0, 137, 42, 180, 0, 45, 16] := by decide +kernel
theorem dX10_endTold_0 : decode cX10_endTold 0 = .ok (.aload_n 0, 1) := oq_42 (bq_in kqX10_endTold_0 0 rfl)
theorem dX10_endTold_1 : decode cX10_endTold 1 = .ok (.getfield 45, 3) := oq_180 (bq_in kqX10_endTold_0 1 rfl) (bq_in kqX10_endTold_0 2 rfl) (bq_in kqX10_endTold_0 3 rfl) rfl
theorem dX10_endTold_4 : decode cX10_endTold 4 = .ok (.bipush 8, 2) := oq_16 (bq_in kqX10_endTold_0 4 rfl) (bq_in kqX10_endTold_0 5 rfl) rfl
theorem dX10_endTold_6 : decode cX10_endTold 6 = .ok (.iconst (-1), 1) := oq_2 (bq_in kqX10_endTold_0 6 rfl)
theorem dX10_endTold_7 : decode cX10_endTold 7 = .ok (.iastore, 1) := oq_79 (bq_in kqX10_endTold_0 7 rfl)
theorem dX10_endTold_8 : decode cX10_endTold 8 = .ok (.aload_n 0, 1) := oq_42 (bq_in kqX10_endTold_0 8 rfl)
theorem dX10_endTold_9 : decode cX10_endTold 9 = .ok (.getfield 45, 3) := oq_180 (bq_in kqX10_endTold_0 9 rfl) (bq_in kqX10_endTold_0 10 rfl) (bq_in kqX10_endTold_0 11 rfl) rfl
theorem dX10_endTold_12 : decode cX10_endTold 12 = .ok (.bipush 9, 2) := oq_16 (bq_in kqX10_endTold_0 12 rfl) (bq_in kqX10_endTold_0 13 rfl) rfl
theorem dX10_endTold_14 : decode cX10_endTold 14 = .ok (.iconst (-1), 1) := oq_2 (bq_in kqX10_endTold_0 14 rfl)
theorem dX10_endTold_15 : decode cX10_endTold 15 = .ok (.iastore, 1) := oq_79 (bq_in kqX10_endTold_0 15 rfl)
theorem dX10_endTold_16 : decode cX10_endTold 16 = .ok (.aload_n 0, 1) := oq_42 (bq_in kqX10_endTold_0 16 rfl)
theorem dX10_endTold_17 : decode cX10_endTold 17 = .ok (.ldc 200, 2) := oq_18 (bq_in kqX10_endTold_0 17 rfl) (bq_in kqX10_endTold_0 18 rfl)
theorem dX10_endTold_19 : decode cX10_endTold 19 = .ok (.invokevirtual 129, 3) := oq_182 (bq_in kqX10_endTold_0 19 rfl) (bq_in kqX10_endTold_0 20 rfl) (bq_in kqX10_endTold_0 21 rfl) rfl
theorem dX10_endTold_22 : decode cX10_endTold 22 = .ok (.ifCond .eq 57, 3) := oq_153 (bq_in kqX10_endTold_0 22 rfl) (bq_in kqX10_endTold_0 23 rfl) (bq_in kqX10_endTold_0 24 rfl) rfl
theorem dX10_endTold_25 : decode cX10_endTold 25 = .ok (.aload_n 0, 1) := oq_42 (bq_in kqX10_endTold_0 25 rfl)
theorem dX10_endTold_26 : decode cX10_endTold 26 = .ok (.invokevirtual 137, 3) := oq_182 (bq_in kqX10_endTold_0 26 rfl) (bq_in kqX10_endTold_0 27 rfl) (bq_in kqX10_endTold_0 28 rfl) rfl
theorem dX10_endTold_29 : decode cX10_endTold 29 = .ok (.aload_n 0, 1) := oq_42 (bq_in kqX10_endTold_0 29 rfl)
theorem dX10_endTold_30 : decode cX10_endTold 30 = .ok (.getfield 45, 3) := oq_180 (bq_in kqX10_endTold_0 30 rfl) (bq_in kqX10_endTold_0 31 rfl) (bq_in kqX10_endTold_0 32 rfl) rfl
theorem kqX10_endTold_1 : ((cX10_endTold.data.toList.drop 32).take 34).map UInt8.toNat = [45, 16, 8, 42, 182, 0, 202, 79, 42, 180, 0, 83, 154, 0, 63, 42, 180, 0, 45, 16, 8, 46, 42, 180, 0, 45, 8, 46, 162, 0, 47, 42, 16, 8] := by decide +kernel
theorem dX10_endTold_33 : decode cX10_endTold 33 = .ok (.bipush 8, 2) := oq_16 (bq_in kqX10_endTold_1 1 rfl) (bq_in kqX10_endTold_1 2 rfl) rfl
theorem dX10_endTold_35 : decode cX10_endTold 35 = .ok (.aload_n 0, 1) := oq_42 (bq_in kqX10_endTold_1 3 rfl)
theorem dX10_endTold_36 : decode cX10_endTold 36 = .ok (.invokevirtual 202, 3) := oq_182 (bq_in kqX10_endTold_1 4 rfl) (bq_in kqX10_endTold_1 5 rfl) (bq_in kqX10_endTold_1 6 rfl) rfl
theorem dX10_endTold_39 : decode cX10_endTold 39 = .ok (.iastore, 1) := oq_79 (bq_in kqX10_endTold_1 7 rfl)
theorem dX10_endTold_40 : decode cX10_endTold 40 = .ok (.aload_n 0, 1) := oq_42 (bq_in kqX10_endTold_1 8 rfl)
theorem dX10_endTold_41 : decode cX10_endTold 41 = .ok (.getfield 83, 3) := oq_180 (bq_in kqX10_endTold_1 9 rfl) (bq_in kqX10_endTold_1 10 rfl) (bq_in kqX10_endTold_1 11 rfl) rfl
theorem dX10_endTold_44 : decode cX10_endTold 44 = .ok (.ifCond .ne 63, 3) := oq_154 (bq_in kqX10_endTold_1 12 rfl) (bq_in kqX10_endTold_1 13 rfl) (bq_in kqX10_endTold_1 14 rfl) rfl
theorem dX10_endTold_47 : decode cX10_endTold 47 = .ok (.aload_n 0, 1) := oq_42 (bq_in kqX10_endTold_1 15 rfl)
theorem dX10_endTold_48 : decode cX10_endTold 48 = .ok (.getfield 45, 3) := oq_180 (bq_in kqX10_endTold_1 16 rfl) (bq_in kqX10_endTold_1 17 rfl) (bq_in kqX10_endTold_1 18 rfl) rfl
theorem dX10_endTold_51 : decode cX10_endTold 51 = .ok (.bipush 8, 2) := oq_16 (bq_in kqX10_endTold_1 19 rfl) (bq_in kqX10_endTold_1 20 rfl) rfl
theorem dX10_endTold_53 : decode cX10_endTold 53 = .ok (.iaload, 1) := oq_46 (bq_in kqX10_endTold_1 21 rfl)
theorem dX10_endTold_54 : decode cX10_endTold 54 = .ok (.aload_n 0, 1) := oq_42 (bq_in kqX10_endTold_1 22 rfl)
theorem dX10_endTold_55 : decode cX10_endTold 55 = .ok (.getfield 45, 3) := oq_180 (bq_in kqX10_endTold_1 23 rfl) (bq_in kqX10_endTold_1 24 rfl) (bq_in kqX10_endTold_1 25 rfl) rfl
theorem dX10_endTold_58 : decode cX10_endTold 58 = .ok (.iconst 5, 1) := oq_8 (bq_in kqX10_endTold_1 26 rfl)
theorem dX10_endTold_59 : decode cX10_endTold 59 = .ok (.iaload, 1) := oq_46 (bq_in kqX10_endTold_1 27 rfl)
theorem dX10_endTold_60 : decode cX10_endTold 60 = .ok (.if_icmp .ge 47, 3) := oq_162 (bq_in kqX10_endTold_1 28 rfl) (bq_in kqX10_endTold_1 29 rfl) (bq_in kqX10_endTold_1 30 rfl) rfl
theorem dX10_endTold_63 : decode cX10_endTold 63 = .ok (.aload_n 0, 1) := oq_42 (bq_in kqX10_endTold_1 31 rfl)
theorem kqX10_endTold_2 : ((cX10_endTold.data.toList.drop 64).take 34).map UInt8.toNat = [16, 8, 42, 180, 0, 157, 104, 6, 96, 181, 0, 83, 167, 0, 31, 42, 18, 205, 182, 0, 129, 153, 0, 22, 42, 182, 0, 137, 42, 180, 0, 45, 16, 9] := by decide +kernel
theorem dX10_endTold_64 : decode cX10_endTold 64 = .ok (.bipush 8, 2) := oq_16 (bq_in kqX10_endTold_2 0 rfl) (bq_in kqX10_endTold_2 1 rfl) rfl
theorem dX10_endTold_66 : decode cX10_endTold 66 = .ok (.aload_n 0, 1) := oq_42 (bq_in kqX10_endTold_2 2 rfl)
theorem dX10_endTold_67 : decode cX10_endTold 67 = .ok (.getfield 157, 3) := oq_180 (bq_in kqX10_endTold_2 3 rfl) (bq_in kqX10_endTold_2 4 rfl) (bq_in kqX10_endTold_2 5 rfl) rfl
theorem dX10_endTold_70 : decode cX10_endTold 70 = .ok (.imul, 1) := oq_104 (bq_in kqX10_endTold_2 6 rfl)
theorem dX10_endTold_71 : decode cX10_endTold 71 = .ok (.iconst 3, 1) := oq_6 (bq_in kqX10_endTold_2 7 rfl)
theorem dX10_endTold_72 : decode cX10_endTold 72 = .ok (.iadd, 1) := oq_96 (bq_in kqX10_endTold_2 8 rfl)
theorem dX10_endTold_73 : decode cX10_endTold 73 = .ok (.putfield 83, 3) := oq_181 (bq_in kqX10_endTold_2 9 rfl) (bq_in kqX10_endTold_2 10 rfl) (bq_in kqX10_endTold_2 11 rfl) rfl
theorem dX10_endTold_76 : decode cX10_endTold 76 = .ok (.goto 31, 3) := oq_167 (bq_in kqX10_endTold_2 12 rfl) (bq_in kqX10_endTold_2 13 rfl) (bq_in kqX10_endTold_2 14 rfl) rfl
theorem dX10_endTold_79 : decode cX10_endTold 79 = .ok (.aload_n 0, 1) := oq_42 (bq_in kqX10_endTold_2 15 rfl)
theorem dX10_endTold_80 : decode cX10_endTold 80 = .ok (.ldc 205, 2) := oq_18 (bq_in kqX10_endTold_2 16 rfl) (bq_in kqX10_endTold_2 17 rfl)
theorem dX10_endTold_82 : decode cX10_endTold 82 = .ok (.invokevirtual 129, 3) := oq_182 (bq_in kqX10_endTold_2 18 rfl) (bq_in kqX10_endTold_2 19 rfl) (bq_in kqX10_endTold_2 20 rfl) rfl
theorem dX10_endTold_85 : decode cX10_endTold 85 = .ok (.ifCond .eq 22, 3) := oq_153 (bq_in kqX10_endTold_2 21 rfl) (bq_in kqX10_endTold_2 22 rfl) (bq_in kqX10_endTold_2 23 rfl) rfl
theorem dX10_endTold_88 : decode cX10_endTold 88 = .ok (.aload_n 0, 1) := oq_42 (bq_in kqX10_endTold_2 24 rfl)
theorem dX10_endTold_89 : decode cX10_endTold 89 = .ok (.invokevirtual 137, 3) := oq_182 (bq_in kqX10_endTold_2 25 rfl) (bq_in kqX10_endTold_2 26 rfl) (bq_in kqX10_endTold_2 27 rfl) rfl
theorem dX10_endTold_92 : decode cX10_endTold 92 = .ok (.aload_n 0, 1) := oq_42 (bq_in kqX10_endTold_2 28 rfl)
theorem dX10_endTold_93 : decode cX10_endTold 93 = .ok (.getfield 45, 3) := oq_180 (bq_in kqX10_endTold_2 29 rfl) (bq_in kqX10_endTold_2 30 rfl) (bq_in kqX10_endTold_2 31 rfl) rfl
theorem kqX10_endTold_3 : ((cX10_endTold.data.toList.drop 96).take 34).map UInt8.toNat = [16, 9, 42, 4, 17, 3, 231, 182, 0, 160, 79, 42, 180, 0, 83, 154, 0, 15, 42, 180, 0, 96, 153, 0, 8, 42, 4, 182, 0, 133, 177] := by decide +kernel
theorem dX10_endTold_96 : decode cX10_endTold 96 = .ok (.bipush 9, 2) := oq_16 (bq_in kqX10_endTold_3 0 rfl) (bq_in kqX10_endTold_3 1 rfl) rfl
theorem dX10_endTold_98 : decode cX10_endTold 98 = .ok (.aload_n 0, 1) := oq_42 (bq_in kqX10_endTold_3 2 rfl)
theorem dX10_endTold_99 : decode cX10_endTold 99 = .ok (.iconst 1, 1) := oq_4 (bq_in kqX10_endTold_3 3 rfl)
theorem dX10_endTold_100 : decode cX10_endTold 100 = .ok (.sipush 999, 3) := oq_17 (bq_in kqX10_endTold_3 4 rfl) (bq_in kqX10_endTold_3 5 rfl) (bq_in kqX10_endTold_3 6 rfl) rfl
theorem dX10_endTold_103 : decode cX10_endTold 103 = .ok (.invokevirtual 160, 3) := oq_182 (bq_in kqX10_endTold_3 7 rfl) (bq_in kqX10_endTold_3 8 rfl) (bq_in kqX10_endTold_3 9 rfl) rfl
theorem dX10_endTold_106 : decode cX10_endTold 106 = .ok (.iastore, 1) := oq_79 (bq_in kqX10_endTold_3 10 rfl)
theorem dX10_endTold_107 : decode cX10_endTold 107 = .ok (.aload_n 0, 1) := oq_42 (bq_in kqX10_endTold_3 11 rfl)
theorem dX10_endTold_108 : decode cX10_endTold 108 = .ok (.getfield 83, 3) := oq_180 (bq_in kqX10_endTold_3 12 rfl) (bq_in kqX10_endTold_3 13 rfl) (bq_in kqX10_endTold_3 14 rfl) rfl
theorem dX10_endTold_111 : decode cX10_endTold 111 = .ok (.ifCond .ne 15, 3) := oq_154 (bq_in kqX10_endTold_3 15 rfl) (bq_in kqX10_endTold_3 16 rfl) (bq_in kqX10_endTold_3 17 rfl) rfl
theorem dX10_endTold_114 : decode cX10_endTold 114 = .ok (.aload_n 0, 1) := oq_42 (bq_in kqX10_endTold_3 18 rfl)
theorem dX10_endTold_115 : decode cX10_endTold 115 = .ok (.getfield 96, 3) := oq_180 (bq_in kqX10_endTold_3 19 rfl) (bq_in kqX10_endTold_3 20 rfl) (bq_in kqX10_endTold_3 21 rfl) rfl
theorem dX10_endTold_118 : decode cX10_endTold 118 = .ok (.ifCond .eq 8, 3) := oq_153 (bq_in kqX10_endTold_3 22 rfl) (bq_in kqX10_endTold_3 23 rfl) (bq_in kqX10_endTold_3 24 rfl) rfl
theorem dX10_endTold_121 : decode cX10_endTold 121 = .ok (.aload_n 0, 1) := oq_42 (bq_in kqX10_endTold_3 25 rfl)
theorem dX10_endTold_122 : decode cX10_endTold 122 = .ok (.iconst 1, 1) := oq_4 (bq_in kqX10_endTold_3 26 rfl)
theorem dX10_endTold_123 : decode cX10_endTold 123 = .ok (.invokevirtual 133, 3) := oq_182 (bq_in kqX10_endTold_3 27 rfl) (bq_in kqX10_endTold_3 28 rfl) (bq_in kqX10_endTold_3 29 rfl) rfl
theorem dX10_endTold_126 : decode cX10_endTold 126 = .ok (.return_, 1) := oq_177 (bq_in kqX10_endTold_3 30 rfl)
theorem kqX10_book_0 : ((cX10_book.data.toList.drop 0).take 34).map UInt8.toNat = [42, 3, 181, 0, 60, 42, 42, 180, 0, 73, 181, 0, 80, 42, 3, 181, 0, 73, 42, 180, 0, 80, 17, 0, 160, 163, 0, 12, 42, 180, 0, 70, 16, 12] := by decide +kernel
theorem dX10_book_0 : decode cX10_book 0 = .ok (.aload_n 0, 1) := oq_42 (bq_in kqX10_book_0 0 rfl)
theorem dX10_book_1 : decode cX10_book 1 = .ok (.iconst 0, 1) := oq_3 (bq_in kqX10_book_0 1 rfl)
theorem dX10_book_2 : decode cX10_book 2 = .ok (.putfield 60, 3) := oq_181 (bq_in kqX10_book_0 2 rfl) (bq_in kqX10_book_0 3 rfl) (bq_in kqX10_book_0 4 rfl) rfl
theorem dX10_book_5 : decode cX10_book 5 = .ok (.aload_n 0, 1) := oq_42 (bq_in kqX10_book_0 5 rfl)
theorem dX10_book_6 : decode cX10_book 6 = .ok (.aload_n 0, 1) := oq_42 (bq_in kqX10_book_0 6 rfl)
theorem dX10_book_7 : decode cX10_book 7 = .ok (.getfield 73, 3) := oq_180 (bq_in kqX10_book_0 7 rfl) (bq_in kqX10_book_0 8 rfl) (bq_in kqX10_book_0 9 rfl) rfl
theorem dX10_book_10 : decode cX10_book 10 = .ok (.putfield 80, 3) := oq_181 (bq_in kqX10_book_0 10 rfl) (bq_in kqX10_book_0 11 rfl) (bq_in kqX10_book_0 12 rfl) rfl
theorem dX10_book_13 : decode cX10_book 13 = .ok (.aload_n 0, 1) := oq_42 (bq_in kqX10_book_0 13 rfl)
theorem dX10_book_14 : decode cX10_book 14 = .ok (.iconst 0, 1) := oq_3 (bq_in kqX10_book_0 14 rfl)
theorem dX10_book_15 : decode cX10_book 15 = .ok (.putfield 73, 3) := oq_181 (bq_in kqX10_book_0 15 rfl) (bq_in kqX10_book_0 16 rfl) (bq_in kqX10_book_0 17 rfl) rfl
theorem dX10_book_18 : decode cX10_book 18 = .ok (.aload_n 0, 1) := oq_42 (bq_in kqX10_book_0 18 rfl)
theorem dX10_book_19 : decode cX10_book 19 = .ok (.getfield 80, 3) := oq_180 (bq_in kqX10_book_0 19 rfl) (bq_in kqX10_book_0 20 rfl) (bq_in kqX10_book_0 21 rfl) rfl
theorem dX10_book_22 : decode cX10_book 22 = .ok (.sipush 160, 3) := oq_17 (bq_in kqX10_book_0 22 rfl) (bq_in kqX10_book_0 23 rfl) (bq_in kqX10_book_0 24 rfl) rfl
theorem dX10_book_25 : decode cX10_book 25 = .ok (.if_icmp .gt 12, 3) := oq_163 (bq_in kqX10_book_0 25 rfl) (bq_in kqX10_book_0 26 rfl) (bq_in kqX10_book_0 27 rfl) rfl
theorem dX10_book_28 : decode cX10_book 28 = .ok (.aload_n 0, 1) := oq_42 (bq_in kqX10_book_0 28 rfl)
theorem dX10_book_29 : decode cX10_book 29 = .ok (.getfield 70, 3) := oq_180 (bq_in kqX10_book_0 29 rfl) (bq_in kqX10_book_0 30 rfl) (bq_in kqX10_book_0 31 rfl) rfl
theorem kqX10_book_1 : ((cX10_book.data.toList.drop 32).take 34).map UInt8.toNat = [16, 12, 160, 0, 5, 2, 172, 42, 3, 181, 0, 83, 42, 3, 181, 0, 86, 42, 182, 0, 137, 42, 18, 206, 182, 0, 171, 42, 180, 0, 45, 3, 42, 3] := by decide +kernel
theorem dX10_book_32 : decode cX10_book 32 = .ok (.bipush 12, 2) := oq_16 (bq_in kqX10_book_1 0 rfl) (bq_in kqX10_book_1 1 rfl) rfl
theorem dX10_book_34 : decode cX10_book 34 = .ok (.if_icmp .ne 5, 3) := oq_160 (bq_in kqX10_book_1 2 rfl) (bq_in kqX10_book_1 3 rfl) (bq_in kqX10_book_1 4 rfl) rfl
theorem dX10_book_37 : decode cX10_book 37 = .ok (.iconst (-1), 1) := oq_2 (bq_in kqX10_book_1 5 rfl)
theorem dX10_book_38 : decode cX10_book 38 = .ok (.ireturn, 1) := oq_172 (bq_in kqX10_book_1 6 rfl)
theorem dX10_book_39 : decode cX10_book 39 = .ok (.aload_n 0, 1) := oq_42 (bq_in kqX10_book_1 7 rfl)
theorem dX10_book_40 : decode cX10_book 40 = .ok (.iconst 0, 1) := oq_3 (bq_in kqX10_book_1 8 rfl)
theorem dX10_book_41 : decode cX10_book 41 = .ok (.putfield 83, 3) := oq_181 (bq_in kqX10_book_1 9 rfl) (bq_in kqX10_book_1 10 rfl) (bq_in kqX10_book_1 11 rfl) rfl
theorem dX10_book_44 : decode cX10_book 44 = .ok (.aload_n 0, 1) := oq_42 (bq_in kqX10_book_1 12 rfl)
theorem dX10_book_45 : decode cX10_book 45 = .ok (.iconst 0, 1) := oq_3 (bq_in kqX10_book_1 13 rfl)
theorem dX10_book_46 : decode cX10_book 46 = .ok (.putfield 86, 3) := oq_181 (bq_in kqX10_book_1 14 rfl) (bq_in kqX10_book_1 15 rfl) (bq_in kqX10_book_1 16 rfl) rfl
theorem dX10_book_49 : decode cX10_book 49 = .ok (.aload_n 0, 1) := oq_42 (bq_in kqX10_book_1 17 rfl)
theorem dX10_book_50 : decode cX10_book 50 = .ok (.invokevirtual 137, 3) := oq_182 (bq_in kqX10_book_1 18 rfl) (bq_in kqX10_book_1 19 rfl) (bq_in kqX10_book_1 20 rfl) rfl
theorem dX10_book_53 : decode cX10_book 53 = .ok (.aload_n 0, 1) := oq_42 (bq_in kqX10_book_1 21 rfl)
theorem dX10_book_54 : decode cX10_book 54 = .ok (.ldc 206, 2) := oq_18 (bq_in kqX10_book_1 22 rfl) (bq_in kqX10_book_1 23 rfl)
theorem dX10_book_56 : decode cX10_book 56 = .ok (.invokevirtual 171, 3) := oq_182 (bq_in kqX10_book_1 24 rfl) (bq_in kqX10_book_1 25 rfl) (bq_in kqX10_book_1 26 rfl) rfl
theorem dX10_book_59 : decode cX10_book 59 = .ok (.aload_n 0, 1) := oq_42 (bq_in kqX10_book_1 27 rfl)
theorem dX10_book_60 : decode cX10_book 60 = .ok (.getfield 45, 3) := oq_180 (bq_in kqX10_book_1 28 rfl) (bq_in kqX10_book_1 29 rfl) (bq_in kqX10_book_1 30 rfl) rfl
theorem dX10_book_63 : decode cX10_book 63 = .ok (.iconst 0, 1) := oq_3 (bq_in kqX10_book_1 31 rfl)
theorem kqX10_book_2 : ((cX10_book.data.toList.drop 64).take 34).map UInt8.toNat = [42, 3, 16, 7, 182, 0, 160, 79, 42, 18, 208, 182, 0, 171, 42, 180, 0, 45, 4, 42, 3, 17, 5, 159, 182, 0, 160, 79, 42, 18, 210, 182, 0, 171] := by decide +kernel
theorem dX10_book_64 : decode cX10_book 64 = .ok (.aload_n 0, 1) := oq_42 (bq_in kqX10_book_2 0 rfl)
theorem dX10_book_65 : decode cX10_book 65 = .ok (.iconst 0, 1) := oq_3 (bq_in kqX10_book_2 1 rfl)
theorem dX10_book_66 : decode cX10_book 66 = .ok (.bipush 7, 2) := oq_16 (bq_in kqX10_book_2 2 rfl) (bq_in kqX10_book_2 3 rfl) rfl
theorem dX10_book_68 : decode cX10_book 68 = .ok (.invokevirtual 160, 3) := oq_182 (bq_in kqX10_book_2 4 rfl) (bq_in kqX10_book_2 5 rfl) (bq_in kqX10_book_2 6 rfl) rfl
theorem dX10_book_71 : decode cX10_book 71 = .ok (.iastore, 1) := oq_79 (bq_in kqX10_book_2 7 rfl)
theorem dX10_book_72 : decode cX10_book 72 = .ok (.aload_n 0, 1) := oq_42 (bq_in kqX10_book_2 8 rfl)
theorem dX10_book_73 : decode cX10_book 73 = .ok (.ldc 208, 2) := oq_18 (bq_in kqX10_book_2 9 rfl) (bq_in kqX10_book_2 10 rfl)
theorem dX10_book_75 : decode cX10_book 75 = .ok (.invokevirtual 171, 3) := oq_182 (bq_in kqX10_book_2 11 rfl) (bq_in kqX10_book_2 12 rfl) (bq_in kqX10_book_2 13 rfl) rfl
theorem dX10_book_78 : decode cX10_book 78 = .ok (.aload_n 0, 1) := oq_42 (bq_in kqX10_book_2 14 rfl)
theorem dX10_book_79 : decode cX10_book 79 = .ok (.getfield 45, 3) := oq_180 (bq_in kqX10_book_2 15 rfl) (bq_in kqX10_book_2 16 rfl) (bq_in kqX10_book_2 17 rfl) rfl
theorem dX10_book_82 : decode cX10_book 82 = .ok (.iconst 1, 1) := oq_4 (bq_in kqX10_book_2 18 rfl)
theorem dX10_book_83 : decode cX10_book 83 = .ok (.aload_n 0, 1) := oq_42 (bq_in kqX10_book_2 19 rfl)
theorem dX10_book_84 : decode cX10_book 84 = .ok (.iconst 0, 1) := oq_3 (bq_in kqX10_book_2 20 rfl)
theorem dX10_book_85 : decode cX10_book 85 = .ok (.sipush 1439, 3) := oq_17 (bq_in kqX10_book_2 21 rfl) (bq_in kqX10_book_2 22 rfl) (bq_in kqX10_book_2 23 rfl) rfl
theorem dX10_book_88 : decode cX10_book 88 = .ok (.invokevirtual 160, 3) := oq_182 (bq_in kqX10_book_2 24 rfl) (bq_in kqX10_book_2 25 rfl) (bq_in kqX10_book_2 26 rfl) rfl
theorem dX10_book_91 : decode cX10_book 91 = .ok (.iastore, 1) := oq_79 (bq_in kqX10_book_2 27 rfl)
theorem dX10_book_92 : decode cX10_book 92 = .ok (.aload_n 0, 1) := oq_42 (bq_in kqX10_book_2 28 rfl)
theorem dX10_book_93 : decode cX10_book 93 = .ok (.ldc 210, 2) := oq_18 (bq_in kqX10_book_2 29 rfl) (bq_in kqX10_book_2 30 rfl)
theorem dX10_book_95 : decode cX10_book 95 = .ok (.invokevirtual 171, 3) := oq_182 (bq_in kqX10_book_2 31 rfl) (bq_in kqX10_book_2 32 rfl) (bq_in kqX10_book_2 33 rfl) rfl
theorem kqX10_book_3 : ((cX10_book.data.toList.drop 96).take 34).map UInt8.toNat = [0, 171, 42, 180, 0, 45, 5, 42, 4, 17, 16, 224, 182, 0, 160, 79, 42, 180, 0, 83, 154, 0, 7, 42, 182, 0, 212, 42, 18, 215, 182, 0, 171, 42] := by decide +kernel
theorem dX10_book_98 : decode cX10_book 98 = .ok (.aload_n 0, 1) := oq_42 (bq_in kqX10_book_3 2 rfl)
theorem dX10_book_99 : decode cX10_book 99 = .ok (.getfield 45, 3) := oq_180 (bq_in kqX10_book_3 3 rfl) (bq_in kqX10_book_3 4 rfl) (bq_in kqX10_book_3 5 rfl) rfl
theorem dX10_book_102 : decode cX10_book 102 = .ok (.iconst 2, 1) := oq_5 (bq_in kqX10_book_3 6 rfl)
theorem dX10_book_103 : decode cX10_book 103 = .ok (.aload_n 0, 1) := oq_42 (bq_in kqX10_book_3 7 rfl)
theorem dX10_book_104 : decode cX10_book 104 = .ok (.iconst 1, 1) := oq_4 (bq_in kqX10_book_3 8 rfl)
theorem dX10_book_105 : decode cX10_book 105 = .ok (.sipush 4320, 3) := oq_17 (bq_in kqX10_book_3 9 rfl) (bq_in kqX10_book_3 10 rfl) (bq_in kqX10_book_3 11 rfl) rfl
theorem dX10_book_108 : decode cX10_book 108 = .ok (.invokevirtual 160, 3) := oq_182 (bq_in kqX10_book_3 12 rfl) (bq_in kqX10_book_3 13 rfl) (bq_in kqX10_book_3 14 rfl) rfl
theorem dX10_book_111 : decode cX10_book 111 = .ok (.iastore, 1) := oq_79 (bq_in kqX10_book_3 15 rfl)
theorem dX10_book_112 : decode cX10_book 112 = .ok (.aload_n 0, 1) := oq_42 (bq_in kqX10_book_3 16 rfl)
theorem dX10_book_113 : decode cX10_book 113 = .ok (.getfield 83, 3) := oq_180 (bq_in kqX10_book_3 17 rfl) (bq_in kqX10_book_3 18 rfl) (bq_in kqX10_book_3 19 rfl) rfl
theorem dX10_book_116 : decode cX10_book 116 = .ok (.ifCond .ne 7, 3) := oq_154 (bq_in kqX10_book_3 20 rfl) (bq_in kqX10_book_3 21 rfl) (bq_in kqX10_book_3 22 rfl) rfl
theorem dX10_book_119 : decode cX10_book 119 = .ok (.aload_n 0, 1) := oq_42 (bq_in kqX10_book_3 23 rfl)
theorem dX10_book_120 : decode cX10_book 120 = .ok (.invokevirtual 212, 3) := oq_182 (bq_in kqX10_book_3 24 rfl) (bq_in kqX10_book_3 25 rfl) (bq_in kqX10_book_3 26 rfl) rfl
theorem dX10_book_123 : decode cX10_book 123 = .ok (.aload_n 0, 1) := oq_42 (bq_in kqX10_book_3 27 rfl)
theorem dX10_book_124 : decode cX10_book 124 = .ok (.ldc 215, 2) := oq_18 (bq_in kqX10_book_3 28 rfl) (bq_in kqX10_book_3 29 rfl)
theorem dX10_book_126 : decode cX10_book 126 = .ok (.invokevirtual 171, 3) := oq_182 (bq_in kqX10_book_3 30 rfl) (bq_in kqX10_book_3 31 rfl) (bq_in kqX10_book_3 32 rfl) rfl
theorem kqX10_book_4 : ((cX10_book.data.toList.drop 128).take 34).map UInt8.toNat = [171, 42, 180, 0, 45, 8, 42, 182, 0, 202, 79, 42, 182, 0, 217, 42, 180, 0, 83, 158, 0, 11, 16, 254, 42, 180, 0, 83, 100, 172, 42, 180, 0, 45] := by decide +kernel
theorem dX10_book_129 : decode cX10_book 129 = .ok (.aload_n 0, 1) := oq_42 (bq_in kqX10_book_4 1 rfl)
theorem dX10_book_130 : decode cX10_book 130 = .ok (.getfield 45, 3) := oq_180 (bq_in kqX10_book_4 2 rfl) (bq_in kqX10_book_4 3 rfl) (bq_in kqX10_book_4 4 rfl) rfl
theorem dX10_book_133 : decode cX10_book 133 = .ok (.iconst 5, 1) := oq_8 (bq_in kqX10_book_4 5 rfl)
theorem dX10_book_134 : decode cX10_book 134 = .ok (.aload_n 0, 1) := oq_42 (bq_in kqX10_book_4 6 rfl)
theorem dX10_book_135 : decode cX10_book 135 = .ok (.invokevirtual 202, 3) := oq_182 (bq_in kqX10_book_4 7 rfl) (bq_in kqX10_book_4 8 rfl) (bq_in kqX10_book_4 9 rfl) rfl
theorem dX10_book_138 : decode cX10_book 138 = .ok (.iastore, 1) := oq_79 (bq_in kqX10_book_4 10 rfl)
theorem dX10_book_139 : decode cX10_book 139 = .ok (.aload_n 0, 1) := oq_42 (bq_in kqX10_book_4 11 rfl)
theorem dX10_book_140 : decode cX10_book 140 = .ok (.invokevirtual 217, 3) := oq_182 (bq_in kqX10_book_4 12 rfl) (bq_in kqX10_book_4 13 rfl) (bq_in kqX10_book_4 14 rfl) rfl
theorem dX10_book_143 : decode cX10_book 143 = .ok (.aload_n 0, 1) := oq_42 (bq_in kqX10_book_4 15 rfl)
theorem dX10_book_144 : decode cX10_book 144 = .ok (.getfield 83, 3) := oq_180 (bq_in kqX10_book_4 16 rfl) (bq_in kqX10_book_4 17 rfl) (bq_in kqX10_book_4 18 rfl) rfl
theorem dX10_book_147 : decode cX10_book 147 = .ok (.ifCond .le 11, 3) := oq_158 (bq_in kqX10_book_4 19 rfl) (bq_in kqX10_book_4 20 rfl) (bq_in kqX10_book_4 21 rfl) rfl
theorem dX10_book_150 : decode cX10_book 150 = .ok (.bipush (-2), 2) := oq_16 (bq_in kqX10_book_4 22 rfl) (bq_in kqX10_book_4 23 rfl) rfl
theorem dX10_book_152 : decode cX10_book 152 = .ok (.aload_n 0, 1) := oq_42 (bq_in kqX10_book_4 24 rfl)
theorem dX10_book_153 : decode cX10_book 153 = .ok (.getfield 83, 3) := oq_180 (bq_in kqX10_book_4 25 rfl) (bq_in kqX10_book_4 26 rfl) (bq_in kqX10_book_4 27 rfl) rfl
theorem dX10_book_156 : decode cX10_book 156 = .ok (.isub, 1) := oq_100 (bq_in kqX10_book_4 28 rfl)
theorem dX10_book_157 : decode cX10_book 157 = .ok (.ireturn, 1) := oq_172 (bq_in kqX10_book_4 29 rfl)
theorem dX10_book_158 : decode cX10_book 158 = .ok (.aload_n 0, 1) := oq_42 (bq_in kqX10_book_4 30 rfl)
theorem dX10_book_159 : decode cX10_book 159 = .ok (.getfield 45, 3) := oq_180 (bq_in kqX10_book_4 31 rfl) (bq_in kqX10_book_4 32 rfl) (bq_in kqX10_book_4 33 rfl) rfl
theorem kqX10_book_5 : ((cX10_book.data.toList.drop 160).take 34).map UInt8.toNat = [0, 45, 16, 10, 42, 180, 0, 45, 8, 46, 79, 42, 180, 0, 45, 16, 11, 3, 79, 3, 60, 27, 16, 44, 162, 0, 29, 42, 180, 0, 23, 16, 44, 42] := by decide +kernel
theorem dX10_book_162 : decode cX10_book 162 = .ok (.bipush 10, 2) := oq_16 (bq_in kqX10_book_5 2 rfl) (bq_in kqX10_book_5 3 rfl) rfl
theorem dX10_book_164 : decode cX10_book 164 = .ok (.aload_n 0, 1) := oq_42 (bq_in kqX10_book_5 4 rfl)
theorem dX10_book_165 : decode cX10_book 165 = .ok (.getfield 45, 3) := oq_180 (bq_in kqX10_book_5 5 rfl) (bq_in kqX10_book_5 6 rfl) (bq_in kqX10_book_5 7 rfl) rfl
theorem dX10_book_168 : decode cX10_book 168 = .ok (.iconst 5, 1) := oq_8 (bq_in kqX10_book_5 8 rfl)
theorem dX10_book_169 : decode cX10_book 169 = .ok (.iaload, 1) := oq_46 (bq_in kqX10_book_5 9 rfl)
theorem dX10_book_170 : decode cX10_book 170 = .ok (.iastore, 1) := oq_79 (bq_in kqX10_book_5 10 rfl)
theorem dX10_book_171 : decode cX10_book 171 = .ok (.aload_n 0, 1) := oq_42 (bq_in kqX10_book_5 11 rfl)
theorem dX10_book_172 : decode cX10_book 172 = .ok (.getfield 45, 3) := oq_180 (bq_in kqX10_book_5 12 rfl) (bq_in kqX10_book_5 13 rfl) (bq_in kqX10_book_5 14 rfl) rfl
theorem dX10_book_175 : decode cX10_book 175 = .ok (.bipush 11, 2) := oq_16 (bq_in kqX10_book_5 15 rfl) (bq_in kqX10_book_5 16 rfl) rfl
theorem dX10_book_177 : decode cX10_book 177 = .ok (.iconst 0, 1) := oq_3 (bq_in kqX10_book_5 17 rfl)
theorem dX10_book_178 : decode cX10_book 178 = .ok (.iastore, 1) := oq_79 (bq_in kqX10_book_5 18 rfl)
theorem dX10_book_179 : decode cX10_book 179 = .ok (.iconst 0, 1) := oq_3 (bq_in kqX10_book_5 19 rfl)
theorem dX10_book_180 : decode cX10_book 180 = .ok (.istore_n 1, 1) := oq_60 (bq_in kqX10_book_5 20 rfl)
theorem dX10_book_181 : decode cX10_book 181 = .ok (.iload_n 1, 1) := oq_27 (bq_in kqX10_book_5 21 rfl)
theorem dX10_book_182 : decode cX10_book 182 = .ok (.bipush 44, 2) := oq_16 (bq_in kqX10_book_5 22 rfl) (bq_in kqX10_book_5 23 rfl) rfl
theorem dX10_book_184 : decode cX10_book 184 = .ok (.if_icmp .ge 29, 3) := oq_162 (bq_in kqX10_book_5 24 rfl) (bq_in kqX10_book_5 25 rfl) (bq_in kqX10_book_5 26 rfl) rfl
theorem dX10_book_187 : decode cX10_book 187 = .ok (.aload_n 0, 1) := oq_42 (bq_in kqX10_book_5 27 rfl)
theorem dX10_book_188 : decode cX10_book 188 = .ok (.getfield 23, 3) := oq_180 (bq_in kqX10_book_5 28 rfl) (bq_in kqX10_book_5 29 rfl) (bq_in kqX10_book_5 30 rfl) rfl
theorem dX10_book_191 : decode cX10_book 191 = .ok (.bipush 44, 2) := oq_16 (bq_in kqX10_book_5 31 rfl) (bq_in kqX10_book_5 32 rfl) rfl
theorem kqX10_book_6 : ((cX10_book.data.toList.drop 192).take 34).map UInt8.toNat = [44, 42, 180, 0, 70, 104, 27, 96, 42, 180, 0, 45, 27, 46, 79, 132, 1, 1, 167, 255, 227, 42, 89, 180, 0, 70, 4, 96, 181, 0, 70, 42, 180, 0] := by decide +kernel
theorem dX10_book_193 : decode cX10_book 193 = .ok (.aload_n 0, 1) := oq_42 (bq_in kqX10_book_6 1 rfl)
theorem dX10_book_194 : decode cX10_book 194 = .ok (.getfield 70, 3) := oq_180 (bq_in kqX10_book_6 2 rfl) (bq_in kqX10_book_6 3 rfl) (bq_in kqX10_book_6 4 rfl) rfl
theorem dX10_book_197 : decode cX10_book 197 = .ok (.imul, 1) := oq_104 (bq_in kqX10_book_6 5 rfl)
theorem dX10_book_198 : decode cX10_book 198 = .ok (.iload_n 1, 1) := oq_27 (bq_in kqX10_book_6 6 rfl)
theorem dX10_book_199 : decode cX10_book 199 = .ok (.iadd, 1) := oq_96 (bq_in kqX10_book_6 7 rfl)
theorem dX10_book_200 : decode cX10_book 200 = .ok (.aload_n 0, 1) := oq_42 (bq_in kqX10_book_6 8 rfl)
theorem dX10_book_201 : decode cX10_book 201 = .ok (.getfield 45, 3) := oq_180 (bq_in kqX10_book_6 9 rfl) (bq_in kqX10_book_6 10 rfl) (bq_in kqX10_book_6 11 rfl) rfl
theorem dX10_book_204 : decode cX10_book 204 = .ok (.iload_n 1, 1) := oq_27 (bq_in kqX10_book_6 12 rfl)
theorem dX10_book_205 : decode cX10_book 205 = .ok (.iaload, 1) := oq_46 (bq_in kqX10_book_6 13 rfl)
theorem dX10_book_206 : decode cX10_book 206 = .ok (.iastore, 1) := oq_79 (bq_in kqX10_book_6 14 rfl)
theorem dX10_book_207 : decode cX10_book 207 = .ok (.iinc 1 1, 3) := oq_132 (bq_in kqX10_book_6 15 rfl) (bq_in kqX10_book_6 16 rfl) (bq_in kqX10_book_6 17 rfl) rfl
theorem dX10_book_210 : decode cX10_book 210 = .ok (.goto (-29), 3) := oq_167 (bq_in kqX10_book_6 18 rfl) (bq_in kqX10_book_6 19 rfl) (bq_in kqX10_book_6 20 rfl) rfl
theorem dX10_book_213 : decode cX10_book 213 = .ok (.aload_n 0, 1) := oq_42 (bq_in kqX10_book_6 21 rfl)
theorem dX10_book_214 : decode cX10_book 214 = .ok (.dup, 1) := oq_89 (bq_in kqX10_book_6 22 rfl)
theorem dX10_book_215 : decode cX10_book 215 = .ok (.getfield 70, 3) := oq_180 (bq_in kqX10_book_6 23 rfl) (bq_in kqX10_book_6 24 rfl) (bq_in kqX10_book_6 25 rfl) rfl
theorem dX10_book_218 : decode cX10_book 218 = .ok (.iconst 1, 1) := oq_4 (bq_in kqX10_book_6 26 rfl)
theorem dX10_book_219 : decode cX10_book 219 = .ok (.iadd, 1) := oq_96 (bq_in kqX10_book_6 27 rfl)
theorem dX10_book_220 : decode cX10_book 220 = .ok (.putfield 70, 3) := oq_181 (bq_in kqX10_book_6 28 rfl) (bq_in kqX10_book_6 29 rfl) (bq_in kqX10_book_6 30 rfl) rfl
theorem dX10_book_223 : decode cX10_book 223 = .ok (.aload_n 0, 1) := oq_42 (bq_in kqX10_book_6 31 rfl)
theorem kqX10_book_7 : ((cX10_book.data.toList.drop 224).take 34).map UInt8.toNat = [180, 0, 70, 4, 100, 172] := by decide +kernel
theorem dX10_book_224 : decode cX10_book 224 = .ok (.getfield 70, 3) := oq_180 (bq_in kqX10_book_7 0 rfl) (bq_in kqX10_book_7 1 rfl) (bq_in kqX10_book_7 2 rfl) rfl
theorem dX10_book_227 : decode cX10_book 227 = .ok (.iconst 1, 1) := oq_4 (bq_in kqX10_book_7 3 rfl)
theorem dX10_book_228 : decode cX10_book 228 = .ok (.isub, 1) := oq_100 (bq_in kqX10_book_7 4 rfl)
theorem dX10_book_229 : decode cX10_book 229 = .ok (.ireturn, 1) := oq_172 (bq_in kqX10_book_7 5 rfl)
theorem kqX10_cancel_0 : ((cX10_cancel.data.toList.drop 0).take 34).map UInt8.toNat = [42, 3, 181, 0, 60, 42, 27, 182, 0, 220, 154, 0, 5, 3, 172, 42, 89, 180, 0, 70, 4, 100, 181, 0, 70, 16, 44, 27, 104, 61, 28, 16, 44, 42] := by decide +kernel
theorem dX10_cancel_0 : decode cX10_cancel 0 = .ok (.aload_n 0, 1) := oq_42 (bq_in kqX10_cancel_0 0 rfl)
theorem dX10_cancel_1 : decode cX10_cancel 1 = .ok (.iconst 0, 1) := oq_3 (bq_in kqX10_cancel_0 1 rfl)
theorem dX10_cancel_2 : decode cX10_cancel 2 = .ok (.putfield 60, 3) := oq_181 (bq_in kqX10_cancel_0 2 rfl) (bq_in kqX10_cancel_0 3 rfl) (bq_in kqX10_cancel_0 4 rfl) rfl
theorem dX10_cancel_5 : decode cX10_cancel 5 = .ok (.aload_n 0, 1) := oq_42 (bq_in kqX10_cancel_0 5 rfl)
theorem dX10_cancel_6 : decode cX10_cancel 6 = .ok (.iload_n 1, 1) := oq_27 (bq_in kqX10_cancel_0 6 rfl)
theorem dX10_cancel_7 : decode cX10_cancel 7 = .ok (.invokevirtual 220, 3) := oq_182 (bq_in kqX10_cancel_0 7 rfl) (bq_in kqX10_cancel_0 8 rfl) (bq_in kqX10_cancel_0 9 rfl) rfl
theorem dX10_cancel_10 : decode cX10_cancel 10 = .ok (.ifCond .ne 5, 3) := oq_154 (bq_in kqX10_cancel_0 10 rfl) (bq_in kqX10_cancel_0 11 rfl) (bq_in kqX10_cancel_0 12 rfl) rfl
theorem dX10_cancel_13 : decode cX10_cancel 13 = .ok (.iconst 0, 1) := oq_3 (bq_in kqX10_cancel_0 13 rfl)
theorem dX10_cancel_14 : decode cX10_cancel 14 = .ok (.ireturn, 1) := oq_172 (bq_in kqX10_cancel_0 14 rfl)
theorem dX10_cancel_15 : decode cX10_cancel 15 = .ok (.aload_n 0, 1) := oq_42 (bq_in kqX10_cancel_0 15 rfl)
theorem dX10_cancel_16 : decode cX10_cancel 16 = .ok (.dup, 1) := oq_89 (bq_in kqX10_cancel_0 16 rfl)
theorem dX10_cancel_17 : decode cX10_cancel 17 = .ok (.getfield 70, 3) := oq_180 (bq_in kqX10_cancel_0 17 rfl) (bq_in kqX10_cancel_0 18 rfl) (bq_in kqX10_cancel_0 19 rfl) rfl
theorem dX10_cancel_20 : decode cX10_cancel 20 = .ok (.iconst 1, 1) := oq_4 (bq_in kqX10_cancel_0 20 rfl)
theorem dX10_cancel_21 : decode cX10_cancel 21 = .ok (.isub, 1) := oq_100 (bq_in kqX10_cancel_0 21 rfl)
theorem dX10_cancel_22 : decode cX10_cancel 22 = .ok (.putfield 70, 3) := oq_181 (bq_in kqX10_cancel_0 22 rfl) (bq_in kqX10_cancel_0 23 rfl) (bq_in kqX10_cancel_0 24 rfl) rfl
theorem dX10_cancel_25 : decode cX10_cancel 25 = .ok (.bipush 44, 2) := oq_16 (bq_in kqX10_cancel_0 25 rfl) (bq_in kqX10_cancel_0 26 rfl) rfl
theorem dX10_cancel_27 : decode cX10_cancel 27 = .ok (.iload_n 1, 1) := oq_27 (bq_in kqX10_cancel_0 27 rfl)
theorem dX10_cancel_28 : decode cX10_cancel 28 = .ok (.imul, 1) := oq_104 (bq_in kqX10_cancel_0 28 rfl)
theorem dX10_cancel_29 : decode cX10_cancel 29 = .ok (.istore_n 2, 1) := oq_61 (bq_in kqX10_cancel_0 29 rfl)
theorem dX10_cancel_30 : decode cX10_cancel 30 = .ok (.iload_n 2, 1) := oq_28 (bq_in kqX10_cancel_0 30 rfl)
theorem dX10_cancel_31 : decode cX10_cancel 31 = .ok (.bipush 44, 2) := oq_16 (bq_in kqX10_cancel_0 31 rfl) (bq_in kqX10_cancel_0 32 rfl) rfl
theorem kqX10_cancel_1 : ((cX10_cancel.data.toList.drop 32).take 34).map UInt8.toNat = [44, 42, 180, 0, 70, 104, 162, 0, 24, 42, 180, 0, 23, 28, 42, 180, 0, 23, 28, 16, 44, 96, 46, 79, 132, 2, 1, 167, 255, 227, 4, 172] := by decide +kernel
theorem dX10_cancel_33 : decode cX10_cancel 33 = .ok (.aload_n 0, 1) := oq_42 (bq_in kqX10_cancel_1 1 rfl)
theorem dX10_cancel_34 : decode cX10_cancel 34 = .ok (.getfield 70, 3) := oq_180 (bq_in kqX10_cancel_1 2 rfl) (bq_in kqX10_cancel_1 3 rfl) (bq_in kqX10_cancel_1 4 rfl) rfl
theorem dX10_cancel_37 : decode cX10_cancel 37 = .ok (.imul, 1) := oq_104 (bq_in kqX10_cancel_1 5 rfl)
theorem dX10_cancel_38 : decode cX10_cancel 38 = .ok (.if_icmp .ge 24, 3) := oq_162 (bq_in kqX10_cancel_1 6 rfl) (bq_in kqX10_cancel_1 7 rfl) (bq_in kqX10_cancel_1 8 rfl) rfl
theorem dX10_cancel_41 : decode cX10_cancel 41 = .ok (.aload_n 0, 1) := oq_42 (bq_in kqX10_cancel_1 9 rfl)
theorem dX10_cancel_42 : decode cX10_cancel 42 = .ok (.getfield 23, 3) := oq_180 (bq_in kqX10_cancel_1 10 rfl) (bq_in kqX10_cancel_1 11 rfl) (bq_in kqX10_cancel_1 12 rfl) rfl
theorem dX10_cancel_45 : decode cX10_cancel 45 = .ok (.iload_n 2, 1) := oq_28 (bq_in kqX10_cancel_1 13 rfl)
theorem dX10_cancel_46 : decode cX10_cancel 46 = .ok (.aload_n 0, 1) := oq_42 (bq_in kqX10_cancel_1 14 rfl)
theorem dX10_cancel_47 : decode cX10_cancel 47 = .ok (.getfield 23, 3) := oq_180 (bq_in kqX10_cancel_1 15 rfl) (bq_in kqX10_cancel_1 16 rfl) (bq_in kqX10_cancel_1 17 rfl) rfl
theorem dX10_cancel_50 : decode cX10_cancel 50 = .ok (.iload_n 2, 1) := oq_28 (bq_in kqX10_cancel_1 18 rfl)
theorem dX10_cancel_51 : decode cX10_cancel 51 = .ok (.bipush 44, 2) := oq_16 (bq_in kqX10_cancel_1 19 rfl) (bq_in kqX10_cancel_1 20 rfl) rfl
theorem dX10_cancel_53 : decode cX10_cancel 53 = .ok (.iadd, 1) := oq_96 (bq_in kqX10_cancel_1 21 rfl)
theorem dX10_cancel_54 : decode cX10_cancel 54 = .ok (.iaload, 1) := oq_46 (bq_in kqX10_cancel_1 22 rfl)
theorem dX10_cancel_55 : decode cX10_cancel 55 = .ok (.iastore, 1) := oq_79 (bq_in kqX10_cancel_1 23 rfl)
theorem dX10_cancel_56 : decode cX10_cancel 56 = .ok (.iinc 2 1, 3) := oq_132 (bq_in kqX10_cancel_1 24 rfl) (bq_in kqX10_cancel_1 25 rfl) (bq_in kqX10_cancel_1 26 rfl) rfl
theorem dX10_cancel_59 : decode cX10_cancel 59 = .ok (.goto (-29), 3) := oq_167 (bq_in kqX10_cancel_1 27 rfl) (bq_in kqX10_cancel_1 28 rfl) (bq_in kqX10_cancel_1 29 rfl) rfl
theorem dX10_cancel_62 : decode cX10_cancel 62 = .ok (.iconst 1, 1) := oq_4 (bq_in kqX10_cancel_1 30 rfl)
theorem dX10_cancel_63 : decode cX10_cancel 63 = .ok (.ireturn, 1) := oq_172 (bq_in kqX10_cancel_1 31 rfl)
theorem kqX10_day_0 : ((cX10_day.data.toList.drop 0).take 34).map UInt8.toNat = [42, 3, 181, 0, 60, 27, 17, 7, 208, 17, 8, 51, 184, 0, 65, 153, 0, 36, 28, 4, 16, 12, 184, 0, 65, 153, 0, 26, 29, 4, 27, 28, 184, 0] := by decide +kernel
theorem dX10_day_0 : decode cX10_day 0 = .ok (.aload_n 0, 1) := oq_42 (bq_in kqX10_day_0 0 rfl)
theorem dX10_day_1 : decode cX10_day 1 = .ok (.iconst 0, 1) := oq_3 (bq_in kqX10_day_0 1 rfl)
theorem dX10_day_2 : decode cX10_day 2 = .ok (.putfield 60, 3) := oq_181 (bq_in kqX10_day_0 2 rfl) (bq_in kqX10_day_0 3 rfl) (bq_in kqX10_day_0 4 rfl) rfl
theorem dX10_day_5 : decode cX10_day 5 = .ok (.iload_n 1, 1) := oq_27 (bq_in kqX10_day_0 5 rfl)
theorem dX10_day_6 : decode cX10_day 6 = .ok (.sipush 2000, 3) := oq_17 (bq_in kqX10_day_0 6 rfl) (bq_in kqX10_day_0 7 rfl) (bq_in kqX10_day_0 8 rfl) rfl
theorem dX10_day_9 : decode cX10_day 9 = .ok (.sipush 2099, 3) := oq_17 (bq_in kqX10_day_0 9 rfl) (bq_in kqX10_day_0 10 rfl) (bq_in kqX10_day_0 11 rfl) rfl
theorem dX10_day_12 : decode cX10_day 12 = .ok (.invokestatic 65, 3) := oq_184 (bq_in kqX10_day_0 12 rfl) (bq_in kqX10_day_0 13 rfl) (bq_in kqX10_day_0 14 rfl) rfl
theorem dX10_day_15 : decode cX10_day 15 = .ok (.ifCond .eq 36, 3) := oq_153 (bq_in kqX10_day_0 15 rfl) (bq_in kqX10_day_0 16 rfl) (bq_in kqX10_day_0 17 rfl) rfl
theorem dX10_day_18 : decode cX10_day 18 = .ok (.iload_n 2, 1) := oq_28 (bq_in kqX10_day_0 18 rfl)
theorem dX10_day_19 : decode cX10_day 19 = .ok (.iconst 1, 1) := oq_4 (bq_in kqX10_day_0 19 rfl)
theorem dX10_day_20 : decode cX10_day 20 = .ok (.bipush 12, 2) := oq_16 (bq_in kqX10_day_0 20 rfl) (bq_in kqX10_day_0 21 rfl) rfl
theorem dX10_day_22 : decode cX10_day 22 = .ok (.invokestatic 65, 3) := oq_184 (bq_in kqX10_day_0 22 rfl) (bq_in kqX10_day_0 23 rfl) (bq_in kqX10_day_0 24 rfl) rfl
theorem dX10_day_25 : decode cX10_day 25 = .ok (.ifCond .eq 26, 3) := oq_153 (bq_in kqX10_day_0 25 rfl) (bq_in kqX10_day_0 26 rfl) (bq_in kqX10_day_0 27 rfl) rfl
theorem dX10_day_28 : decode cX10_day 28 = .ok (.iload_n 3, 1) := oq_29 (bq_in kqX10_day_0 28 rfl)
theorem dX10_day_29 : decode cX10_day 29 = .ok (.iconst 1, 1) := oq_4 (bq_in kqX10_day_0 29 rfl)
theorem dX10_day_30 : decode cX10_day 30 = .ok (.iload_n 1, 1) := oq_27 (bq_in kqX10_day_0 30 rfl)
theorem dX10_day_31 : decode cX10_day 31 = .ok (.iload_n 2, 1) := oq_28 (bq_in kqX10_day_0 31 rfl)
theorem kqX10_day_1 : ((cX10_day.data.toList.drop 32).take 34).map UInt8.toNat = [184, 0, 56, 184, 0, 65, 153, 0, 13, 42, 27, 28, 29, 182, 0, 163, 167, 0, 4, 2, 172] := by decide +kernel
theorem dX10_day_32 : decode cX10_day 32 = .ok (.invokestatic 56, 3) := oq_184 (bq_in kqX10_day_1 0 rfl) (bq_in kqX10_day_1 1 rfl) (bq_in kqX10_day_1 2 rfl) rfl
theorem dX10_day_35 : decode cX10_day 35 = .ok (.invokestatic 65, 3) := oq_184 (bq_in kqX10_day_1 3 rfl) (bq_in kqX10_day_1 4 rfl) (bq_in kqX10_day_1 5 rfl) rfl
theorem dX10_day_38 : decode cX10_day 38 = .ok (.ifCond .eq 13, 3) := oq_153 (bq_in kqX10_day_1 6 rfl) (bq_in kqX10_day_1 7 rfl) (bq_in kqX10_day_1 8 rfl) rfl
theorem dX10_day_41 : decode cX10_day 41 = .ok (.aload_n 0, 1) := oq_42 (bq_in kqX10_day_1 9 rfl)
theorem dX10_day_42 : decode cX10_day 42 = .ok (.iload_n 1, 1) := oq_27 (bq_in kqX10_day_1 10 rfl)
theorem dX10_day_43 : decode cX10_day 43 = .ok (.iload_n 2, 1) := oq_28 (bq_in kqX10_day_1 11 rfl)
theorem dX10_day_44 : decode cX10_day 44 = .ok (.iload_n 3, 1) := oq_29 (bq_in kqX10_day_1 12 rfl)
theorem dX10_day_45 : decode cX10_day 45 = .ok (.invokevirtual 163, 3) := oq_182 (bq_in kqX10_day_1 13 rfl) (bq_in kqX10_day_1 14 rfl) (bq_in kqX10_day_1 15 rfl) rfl
theorem dX10_day_48 : decode cX10_day 48 = .ok (.goto 4, 3) := oq_167 (bq_in kqX10_day_1 16 rfl) (bq_in kqX10_day_1 17 rfl) (bq_in kqX10_day_1 18 rfl) rfl
theorem dX10_day_51 : decode cX10_day 51 = .ok (.iconst (-1), 1) := oq_2 (bq_in kqX10_day_1 19 rfl)
theorem dX10_day_52 : decode cX10_day 52 = .ok (.ireturn, 1) := oq_172 (bq_in kqX10_day_1 20 rfl)
theorem kqX10_date_0 : ((cX10_date.data.toList.drop 0).take 34).map UInt8.toNat = [42, 3, 181, 0, 60, 27, 184, 0, 223, 154, 0, 5, 2, 172, 28, 170, 0, 0, 0, 66, 0, 0, 0, 0, 0, 0, 0, 4, 0, 0, 0, 33, 0, 0] := by decide +kernel
theorem dX10_date_0 : decode cX10_date 0 = .ok (.aload_n 0, 1) := oq_42 (bq_in kqX10_date_0 0 rfl)
theorem dX10_date_1 : decode cX10_date 1 = .ok (.iconst 0, 1) := oq_3 (bq_in kqX10_date_0 1 rfl)
theorem dX10_date_2 : decode cX10_date 2 = .ok (.putfield 60, 3) := oq_181 (bq_in kqX10_date_0 2 rfl) (bq_in kqX10_date_0 3 rfl) (bq_in kqX10_date_0 4 rfl) rfl
theorem dX10_date_5 : decode cX10_date 5 = .ok (.iload_n 1, 1) := oq_27 (bq_in kqX10_date_0 5 rfl)
theorem dX10_date_6 : decode cX10_date 6 = .ok (.invokestatic 223, 3) := oq_184 (bq_in kqX10_date_0 6 rfl) (bq_in kqX10_date_0 7 rfl) (bq_in kqX10_date_0 8 rfl) rfl
theorem dX10_date_9 : decode cX10_date 9 = .ok (.ifCond .ne 5, 3) := oq_154 (bq_in kqX10_date_0 9 rfl) (bq_in kqX10_date_0 10 rfl) (bq_in kqX10_date_0 11 rfl) rfl
theorem dX10_date_12 : decode cX10_date 12 = .ok (.iconst (-1), 1) := oq_2 (bq_in kqX10_date_0 12 rfl)
theorem dX10_date_13 : decode cX10_date 13 = .ok (.ireturn, 1) := oq_172 (bq_in kqX10_date_0 13 rfl)
theorem dX10_date_14 : decode cX10_date 14 = .ok (.iload_n 2, 1) := oq_28 (bq_in kqX10_date_0 14 rfl)
theorem dX10_date_15 : decode cX10_date 15 = .ok (.tableswitch 66 0 4 #[33, 40, 47, 54, 59], 33) := by decide +kernel
theorem kqX10_date_1 : ((cX10_date.data.toList.drop 32).take 34).map UInt8.toNat = [0, 0, 0, 40, 0, 0, 0, 47, 0, 0, 0, 54, 0, 0, 0, 59, 42, 180, 0, 8, 27, 46, 172, 42, 180, 0, 14, 27, 46, 172, 42, 180, 0, 17] := by decide +kernel
theorem dX10_date_48 : decode cX10_date 48 = .ok (.aload_n 0, 1) := oq_42 (bq_in kqX10_date_1 16 rfl)
theorem dX10_date_49 : decode cX10_date 49 = .ok (.getfield 8, 3) := oq_180 (bq_in kqX10_date_1 17 rfl) (bq_in kqX10_date_1 18 rfl) (bq_in kqX10_date_1 19 rfl) rfl
theorem dX10_date_52 : decode cX10_date 52 = .ok (.iload_n 1, 1) := oq_27 (bq_in kqX10_date_1 20 rfl)
theorem dX10_date_53 : decode cX10_date 53 = .ok (.iaload, 1) := oq_46 (bq_in kqX10_date_1 21 rfl)
theorem dX10_date_54 : decode cX10_date 54 = .ok (.ireturn, 1) := oq_172 (bq_in kqX10_date_1 22 rfl)
theorem dX10_date_55 : decode cX10_date 55 = .ok (.aload_n 0, 1) := oq_42 (bq_in kqX10_date_1 23 rfl)
theorem dX10_date_56 : decode cX10_date 56 = .ok (.getfield 14, 3) := oq_180 (bq_in kqX10_date_1 24 rfl) (bq_in kqX10_date_1 25 rfl) (bq_in kqX10_date_1 26 rfl) rfl
theorem dX10_date_59 : decode cX10_date 59 = .ok (.iload_n 1, 1) := oq_27 (bq_in kqX10_date_1 27 rfl)
theorem dX10_date_60 : decode cX10_date 60 = .ok (.iaload, 1) := oq_46 (bq_in kqX10_date_1 28 rfl)
theorem dX10_date_61 : decode cX10_date 61 = .ok (.ireturn, 1) := oq_172 (bq_in kqX10_date_1 29 rfl)
theorem dX10_date_62 : decode cX10_date 62 = .ok (.aload_n 0, 1) := oq_42 (bq_in kqX10_date_1 30 rfl)
theorem dX10_date_63 : decode cX10_date 63 = .ok (.getfield 17, 3) := oq_180 (bq_in kqX10_date_1 31 rfl) (bq_in kqX10_date_1 32 rfl) (bq_in kqX10_date_1 33 rfl) rfl
theorem kqX10_date_2 : ((cX10_date.data.toList.drop 64).take 34).map UInt8.toNat = [0, 17, 27, 46, 172, 27, 184, 0, 226, 172, 42, 180, 0, 20, 27, 46, 172, 2, 172] := by decide +kernel
theorem dX10_date_66 : decode cX10_date 66 = .ok (.iload_n 1, 1) := oq_27 (bq_in kqX10_date_2 2 rfl)
theorem dX10_date_67 : decode cX10_date 67 = .ok (.iaload, 1) := oq_46 (bq_in kqX10_date_2 3 rfl)
theorem dX10_date_68 : decode cX10_date 68 = .ok (.ireturn, 1) := oq_172 (bq_in kqX10_date_2 4 rfl)
theorem dX10_date_69 : decode cX10_date 69 = .ok (.iload_n 1, 1) := oq_27 (bq_in kqX10_date_2 5 rfl)
theorem dX10_date_70 : decode cX10_date 70 = .ok (.invokestatic 226, 3) := oq_184 (bq_in kqX10_date_2 6 rfl) (bq_in kqX10_date_2 7 rfl) (bq_in kqX10_date_2 8 rfl) rfl
theorem dX10_date_73 : decode cX10_date 73 = .ok (.ireturn, 1) := oq_172 (bq_in kqX10_date_2 9 rfl)
theorem dX10_date_74 : decode cX10_date 74 = .ok (.aload_n 0, 1) := oq_42 (bq_in kqX10_date_2 10 rfl)
theorem dX10_date_75 : decode cX10_date 75 = .ok (.getfield 20, 3) := oq_180 (bq_in kqX10_date_2 11 rfl) (bq_in kqX10_date_2 12 rfl) (bq_in kqX10_date_2 13 rfl) rfl
theorem dX10_date_78 : decode cX10_date 78 = .ok (.iload_n 1, 1) := oq_27 (bq_in kqX10_date_2 14 rfl)
theorem dX10_date_79 : decode cX10_date 79 = .ok (.iaload, 1) := oq_46 (bq_in kqX10_date_2 15 rfl)
theorem dX10_date_80 : decode cX10_date 80 = .ok (.ireturn, 1) := oq_172 (bq_in kqX10_date_2 16 rfl)
theorem dX10_date_81 : decode cX10_date 81 = .ok (.iconst (-1), 1) := oq_2 (bq_in kqX10_date_2 17 rfl)
theorem dX10_date_82 : decode cX10_date 82 = .ok (.ireturn, 1) := oq_172 (bq_in kqX10_date_2 18 rfl)
theorem kqX10_isOn_0 : ((cX10_isOn.data.toList.drop 0).take 34).map UInt8.toNat = [42, 27, 8, 182, 0, 229, 62, 42, 27, 7, 182, 0, 229, 54, 4, 42, 27, 16, 6, 182, 0, 229, 54, 5, 28, 29, 162, 0, 5, 3, 172, 16, 12, 42] := by decide +kernel
theorem dX10_isOn_0 : decode cX10_isOn 0 = .ok (.aload_n 0, 1) := oq_42 (bq_in kqX10_isOn_0 0 rfl)
theorem dX10_isOn_1 : decode cX10_isOn 1 = .ok (.iload_n 1, 1) := oq_27 (bq_in kqX10_isOn_0 1 rfl)
theorem dX10_isOn_2 : decode cX10_isOn 2 = .ok (.iconst 5, 1) := oq_8 (bq_in kqX10_isOn_0 2 rfl)
theorem dX10_isOn_3 : decode cX10_isOn 3 = .ok (.invokevirtual 229, 3) := oq_182 (bq_in kqX10_isOn_0 3 rfl) (bq_in kqX10_isOn_0 4 rfl) (bq_in kqX10_isOn_0 5 rfl) rfl
theorem dX10_isOn_6 : decode cX10_isOn 6 = .ok (.istore_n 3, 1) := oq_62 (bq_in kqX10_isOn_0 6 rfl)
theorem dX10_isOn_7 : decode cX10_isOn 7 = .ok (.aload_n 0, 1) := oq_42 (bq_in kqX10_isOn_0 7 rfl)
theorem dX10_isOn_8 : decode cX10_isOn 8 = .ok (.iload_n 1, 1) := oq_27 (bq_in kqX10_isOn_0 8 rfl)
theorem dX10_isOn_9 : decode cX10_isOn 9 = .ok (.iconst 4, 1) := oq_7 (bq_in kqX10_isOn_0 9 rfl)
theorem dX10_isOn_10 : decode cX10_isOn 10 = .ok (.invokevirtual 229, 3) := oq_182 (bq_in kqX10_isOn_0 10 rfl) (bq_in kqX10_isOn_0 11 rfl) (bq_in kqX10_isOn_0 12 rfl) rfl
theorem dX10_isOn_13 : decode cX10_isOn 13 = .ok (.istore 4, 2) := oq_54 (bq_in kqX10_isOn_0 13 rfl) (bq_in kqX10_isOn_0 14 rfl)
theorem dX10_isOn_15 : decode cX10_isOn 15 = .ok (.aload_n 0, 1) := oq_42 (bq_in kqX10_isOn_0 15 rfl)
theorem dX10_isOn_16 : decode cX10_isOn 16 = .ok (.iload_n 1, 1) := oq_27 (bq_in kqX10_isOn_0 16 rfl)
theorem dX10_isOn_17 : decode cX10_isOn 17 = .ok (.bipush 6, 2) := oq_16 (bq_in kqX10_isOn_0 17 rfl) (bq_in kqX10_isOn_0 18 rfl) rfl
theorem dX10_isOn_19 : decode cX10_isOn 19 = .ok (.invokevirtual 229, 3) := oq_182 (bq_in kqX10_isOn_0 19 rfl) (bq_in kqX10_isOn_0 20 rfl) (bq_in kqX10_isOn_0 21 rfl) rfl
theorem dX10_isOn_22 : decode cX10_isOn 22 = .ok (.istore 5, 2) := oq_54 (bq_in kqX10_isOn_0 22 rfl) (bq_in kqX10_isOn_0 23 rfl)
theorem dX10_isOn_24 : decode cX10_isOn 24 = .ok (.iload_n 2, 1) := oq_28 (bq_in kqX10_isOn_0 24 rfl)
theorem dX10_isOn_25 : decode cX10_isOn 25 = .ok (.iload_n 3, 1) := oq_29 (bq_in kqX10_isOn_0 25 rfl)
theorem dX10_isOn_26 : decode cX10_isOn 26 = .ok (.if_icmp .ge 5, 3) := oq_162 (bq_in kqX10_isOn_0 26 rfl) (bq_in kqX10_isOn_0 27 rfl) (bq_in kqX10_isOn_0 28 rfl) rfl
theorem dX10_isOn_29 : decode cX10_isOn 29 = .ok (.iconst 0, 1) := oq_3 (bq_in kqX10_isOn_0 29 rfl)
theorem dX10_isOn_30 : decode cX10_isOn 30 = .ok (.ireturn, 1) := oq_172 (bq_in kqX10_isOn_0 30 rfl)
theorem dX10_isOn_31 : decode cX10_isOn 31 = .ok (.bipush 12, 2) := oq_16 (bq_in kqX10_isOn_0 31 rfl) (bq_in kqX10_isOn_0 32 rfl) rfl
theorem kqX10_isOn_1 : ((cX10_isOn.data.toList.drop 32).take 34).map UInt8.toNat = [12, 42, 180, 0, 8, 28, 46, 42, 180, 0, 8, 29, 46, 100, 104, 42, 180, 0, 14, 28, 46, 96, 42, 180, 0, 14, 29, 46, 100, 54, 6, 42, 27, 6] := by decide +kernel
theorem dX10_isOn_33 : decode cX10_isOn 33 = .ok (.aload_n 0, 1) := oq_42 (bq_in kqX10_isOn_1 1 rfl)
theorem dX10_isOn_34 : decode cX10_isOn 34 = .ok (.getfield 8, 3) := oq_180 (bq_in kqX10_isOn_1 2 rfl) (bq_in kqX10_isOn_1 3 rfl) (bq_in kqX10_isOn_1 4 rfl) rfl
theorem dX10_isOn_37 : decode cX10_isOn 37 = .ok (.iload_n 2, 1) := oq_28 (bq_in kqX10_isOn_1 5 rfl)
theorem dX10_isOn_38 : decode cX10_isOn 38 = .ok (.iaload, 1) := oq_46 (bq_in kqX10_isOn_1 6 rfl)
theorem dX10_isOn_39 : decode cX10_isOn 39 = .ok (.aload_n 0, 1) := oq_42 (bq_in kqX10_isOn_1 7 rfl)
theorem dX10_isOn_40 : decode cX10_isOn 40 = .ok (.getfield 8, 3) := oq_180 (bq_in kqX10_isOn_1 8 rfl) (bq_in kqX10_isOn_1 9 rfl) (bq_in kqX10_isOn_1 10 rfl) rfl
theorem dX10_isOn_43 : decode cX10_isOn 43 = .ok (.iload_n 3, 1) := oq_29 (bq_in kqX10_isOn_1 11 rfl)
theorem dX10_isOn_44 : decode cX10_isOn 44 = .ok (.iaload, 1) := oq_46 (bq_in kqX10_isOn_1 12 rfl)
theorem dX10_isOn_45 : decode cX10_isOn 45 = .ok (.isub, 1) := oq_100 (bq_in kqX10_isOn_1 13 rfl)
theorem dX10_isOn_46 : decode cX10_isOn 46 = .ok (.imul, 1) := oq_104 (bq_in kqX10_isOn_1 14 rfl)
theorem dX10_isOn_47 : decode cX10_isOn 47 = .ok (.aload_n 0, 1) := oq_42 (bq_in kqX10_isOn_1 15 rfl)
theorem dX10_isOn_48 : decode cX10_isOn 48 = .ok (.getfield 14, 3) := oq_180 (bq_in kqX10_isOn_1 16 rfl) (bq_in kqX10_isOn_1 17 rfl) (bq_in kqX10_isOn_1 18 rfl) rfl
theorem dX10_isOn_51 : decode cX10_isOn 51 = .ok (.iload_n 2, 1) := oq_28 (bq_in kqX10_isOn_1 19 rfl)
theorem dX10_isOn_52 : decode cX10_isOn 52 = .ok (.iaload, 1) := oq_46 (bq_in kqX10_isOn_1 20 rfl)
theorem dX10_isOn_53 : decode cX10_isOn 53 = .ok (.iadd, 1) := oq_96 (bq_in kqX10_isOn_1 21 rfl)
theorem dX10_isOn_54 : decode cX10_isOn 54 = .ok (.aload_n 0, 1) := oq_42 (bq_in kqX10_isOn_1 22 rfl)
theorem dX10_isOn_55 : decode cX10_isOn 55 = .ok (.getfield 14, 3) := oq_180 (bq_in kqX10_isOn_1 23 rfl) (bq_in kqX10_isOn_1 24 rfl) (bq_in kqX10_isOn_1 25 rfl) rfl
theorem dX10_isOn_58 : decode cX10_isOn 58 = .ok (.iload_n 3, 1) := oq_29 (bq_in kqX10_isOn_1 26 rfl)
theorem dX10_isOn_59 : decode cX10_isOn 59 = .ok (.iaload, 1) := oq_46 (bq_in kqX10_isOn_1 27 rfl)
theorem dX10_isOn_60 : decode cX10_isOn 60 = .ok (.isub, 1) := oq_100 (bq_in kqX10_isOn_1 28 rfl)
theorem dX10_isOn_61 : decode cX10_isOn 61 = .ok (.istore 6, 2) := oq_54 (bq_in kqX10_isOn_1 29 rfl) (bq_in kqX10_isOn_1 30 rfl)
theorem dX10_isOn_63 : decode cX10_isOn 63 = .ok (.aload_n 0, 1) := oq_42 (bq_in kqX10_isOn_1 31 rfl)
theorem kqX10_isOn_2 : ((cX10_isOn.data.toList.drop 64).take 34).map UInt8.toNat = [27, 6, 182, 0, 229, 170, 0, 0, 0, 0, 0, 253, 0, 0, 0, 0, 0, 0, 0, 6, 0, 0, 0, 43, 0, 0, 0, 54, 0, 0, 0, 69, 0, 0] := by decide +kernel
theorem dX10_isOn_64 : decode cX10_isOn 64 = .ok (.iload_n 1, 1) := oq_27 (bq_in kqX10_isOn_2 0 rfl)
theorem dX10_isOn_65 : decode cX10_isOn 65 = .ok (.iconst 3, 1) := oq_6 (bq_in kqX10_isOn_2 1 rfl)
theorem dX10_isOn_66 : decode cX10_isOn 66 = .ok (.invokevirtual 229, 3) := oq_182 (bq_in kqX10_isOn_2 2 rfl) (bq_in kqX10_isOn_2 3 rfl) (bq_in kqX10_isOn_2 4 rfl) rfl
theorem dX10_isOn_69 : decode cX10_isOn 69 = .ok (.tableswitch 253 0 6 #[43, 54, 69, 107, 132, 166, 212], 43) := by decide +kernel
theorem kqX10_isOn_3 : ((cX10_isOn.data.toList.drop 96).take 34).map UInt8.toNat = [0, 0, 0, 107, 0, 0, 0, 132, 0, 0, 0, 166, 0, 0, 0, 212, 28, 29, 160, 0, 7, 4, 167, 0, 4, 3, 172, 28, 29, 100, 21, 4, 112, 154] := by decide +kernel
theorem dX10_isOn_112 : decode cX10_isOn 112 = .ok (.iload_n 2, 1) := oq_28 (bq_in kqX10_isOn_3 16 rfl)
theorem dX10_isOn_113 : decode cX10_isOn 113 = .ok (.iload_n 3, 1) := oq_29 (bq_in kqX10_isOn_3 17 rfl)
theorem dX10_isOn_114 : decode cX10_isOn 114 = .ok (.if_icmp .ne 7, 3) := oq_160 (bq_in kqX10_isOn_3 18 rfl) (bq_in kqX10_isOn_3 19 rfl) (bq_in kqX10_isOn_3 20 rfl) rfl
theorem dX10_isOn_117 : decode cX10_isOn 117 = .ok (.iconst 1, 1) := oq_4 (bq_in kqX10_isOn_3 21 rfl)
theorem dX10_isOn_118 : decode cX10_isOn 118 = .ok (.goto 4, 3) := oq_167 (bq_in kqX10_isOn_3 22 rfl) (bq_in kqX10_isOn_3 23 rfl) (bq_in kqX10_isOn_3 24 rfl) rfl
theorem dX10_isOn_121 : decode cX10_isOn 121 = .ok (.iconst 0, 1) := oq_3 (bq_in kqX10_isOn_3 25 rfl)
theorem dX10_isOn_122 : decode cX10_isOn 122 = .ok (.ireturn, 1) := oq_172 (bq_in kqX10_isOn_3 26 rfl)
theorem dX10_isOn_123 : decode cX10_isOn 123 = .ok (.iload_n 2, 1) := oq_28 (bq_in kqX10_isOn_3 27 rfl)
theorem dX10_isOn_124 : decode cX10_isOn 124 = .ok (.iload_n 3, 1) := oq_29 (bq_in kqX10_isOn_3 28 rfl)
theorem dX10_isOn_125 : decode cX10_isOn 125 = .ok (.isub, 1) := oq_100 (bq_in kqX10_isOn_3 29 rfl)
theorem dX10_isOn_126 : decode cX10_isOn 126 = .ok (.iload 4, 2) := oq_21 (bq_in kqX10_isOn_3 30 rfl) (bq_in kqX10_isOn_3 31 rfl)
theorem kqX10_isOn_4 : ((cX10_isOn.data.toList.drop 128).take 34).map UInt8.toNat = [112, 154, 0, 7, 4, 167, 0, 4, 3, 172, 21, 5, 28, 184, 0, 226, 122, 4, 126, 4, 160, 0, 26, 28, 8, 96, 16, 7, 108, 29, 8, 96, 16, 7] := by decide +kernel
theorem dX10_isOn_128 : decode cX10_isOn 128 = .ok (.irem, 1) := oq_112 (bq_in kqX10_isOn_4 0 rfl)
theorem dX10_isOn_129 : decode cX10_isOn 129 = .ok (.ifCond .ne 7, 3) := oq_154 (bq_in kqX10_isOn_4 1 rfl) (bq_in kqX10_isOn_4 2 rfl) (bq_in kqX10_isOn_4 3 rfl) rfl
theorem dX10_isOn_132 : decode cX10_isOn 132 = .ok (.iconst 1, 1) := oq_4 (bq_in kqX10_isOn_4 4 rfl)
theorem dX10_isOn_133 : decode cX10_isOn 133 = .ok (.goto 4, 3) := oq_167 (bq_in kqX10_isOn_4 5 rfl) (bq_in kqX10_isOn_4 6 rfl) (bq_in kqX10_isOn_4 7 rfl) rfl
theorem dX10_isOn_136 : decode cX10_isOn 136 = .ok (.iconst 0, 1) := oq_3 (bq_in kqX10_isOn_4 8 rfl)
theorem dX10_isOn_137 : decode cX10_isOn 137 = .ok (.ireturn, 1) := oq_172 (bq_in kqX10_isOn_4 9 rfl)
theorem dX10_isOn_138 : decode cX10_isOn 138 = .ok (.iload 5, 2) := oq_21 (bq_in kqX10_isOn_4 10 rfl) (bq_in kqX10_isOn_4 11 rfl)
theorem dX10_isOn_140 : decode cX10_isOn 140 = .ok (.iload_n 2, 1) := oq_28 (bq_in kqX10_isOn_4 12 rfl)
theorem dX10_isOn_141 : decode cX10_isOn 141 = .ok (.invokestatic 226, 3) := oq_184 (bq_in kqX10_isOn_4 13 rfl) (bq_in kqX10_isOn_4 14 rfl) (bq_in kqX10_isOn_4 15 rfl) rfl
theorem dX10_isOn_144 : decode cX10_isOn 144 = .ok (.ishr, 1) := oq_122 (bq_in kqX10_isOn_4 16 rfl)
theorem dX10_isOn_145 : decode cX10_isOn 145 = .ok (.iconst 1, 1) := oq_4 (bq_in kqX10_isOn_4 17 rfl)
theorem dX10_isOn_146 : decode cX10_isOn 146 = .ok (.iand, 1) := oq_126 (bq_in kqX10_isOn_4 18 rfl)
theorem dX10_isOn_147 : decode cX10_isOn 147 = .ok (.iconst 1, 1) := oq_4 (bq_in kqX10_isOn_4 19 rfl)
theorem dX10_isOn_148 : decode cX10_isOn 148 = .ok (.if_icmp .ne 26, 3) := oq_160 (bq_in kqX10_isOn_4 20 rfl) (bq_in kqX10_isOn_4 21 rfl) (bq_in kqX10_isOn_4 22 rfl) rfl
theorem dX10_isOn_151 : decode cX10_isOn 151 = .ok (.iload_n 2, 1) := oq_28 (bq_in kqX10_isOn_4 23 rfl)
theorem dX10_isOn_152 : decode cX10_isOn 152 = .ok (.iconst 5, 1) := oq_8 (bq_in kqX10_isOn_4 24 rfl)
theorem dX10_isOn_153 : decode cX10_isOn 153 = .ok (.iadd, 1) := oq_96 (bq_in kqX10_isOn_4 25 rfl)
theorem dX10_isOn_154 : decode cX10_isOn 154 = .ok (.bipush 7, 2) := oq_16 (bq_in kqX10_isOn_4 26 rfl) (bq_in kqX10_isOn_4 27 rfl) rfl
theorem dX10_isOn_156 : decode cX10_isOn 156 = .ok (.idiv, 1) := oq_108 (bq_in kqX10_isOn_4 28 rfl)
theorem dX10_isOn_157 : decode cX10_isOn 157 = .ok (.iload_n 3, 1) := oq_29 (bq_in kqX10_isOn_4 29 rfl)
theorem dX10_isOn_158 : decode cX10_isOn 158 = .ok (.iconst 5, 1) := oq_8 (bq_in kqX10_isOn_4 30 rfl)
theorem dX10_isOn_159 : decode cX10_isOn 159 = .ok (.iadd, 1) := oq_96 (bq_in kqX10_isOn_4 31 rfl)
theorem kqX10_isOn_5 : ((cX10_isOn.data.toList.drop 160).take 34).map UInt8.toNat = [16, 7, 108, 100, 21, 4, 112, 154, 0, 7, 4, 167, 0, 4, 3, 172, 21, 6, 21, 4, 112, 154, 0, 18, 42, 180, 0, 17, 28, 46, 21, 5, 160, 0] := by decide +kernel
theorem dX10_isOn_160 : decode cX10_isOn 160 = .ok (.bipush 7, 2) := oq_16 (bq_in kqX10_isOn_5 0 rfl) (bq_in kqX10_isOn_5 1 rfl) rfl
theorem dX10_isOn_162 : decode cX10_isOn 162 = .ok (.idiv, 1) := oq_108 (bq_in kqX10_isOn_5 2 rfl)
theorem dX10_isOn_163 : decode cX10_isOn 163 = .ok (.isub, 1) := oq_100 (bq_in kqX10_isOn_5 3 rfl)
theorem dX10_isOn_164 : decode cX10_isOn 164 = .ok (.iload 4, 2) := oq_21 (bq_in kqX10_isOn_5 4 rfl) (bq_in kqX10_isOn_5 5 rfl)
theorem dX10_isOn_166 : decode cX10_isOn 166 = .ok (.irem, 1) := oq_112 (bq_in kqX10_isOn_5 6 rfl)
theorem dX10_isOn_167 : decode cX10_isOn 167 = .ok (.ifCond .ne 7, 3) := oq_154 (bq_in kqX10_isOn_5 7 rfl) (bq_in kqX10_isOn_5 8 rfl) (bq_in kqX10_isOn_5 9 rfl) rfl
theorem dX10_isOn_170 : decode cX10_isOn 170 = .ok (.iconst 1, 1) := oq_4 (bq_in kqX10_isOn_5 10 rfl)
theorem dX10_isOn_171 : decode cX10_isOn 171 = .ok (.goto 4, 3) := oq_167 (bq_in kqX10_isOn_5 11 rfl) (bq_in kqX10_isOn_5 12 rfl) (bq_in kqX10_isOn_5 13 rfl) rfl
theorem dX10_isOn_174 : decode cX10_isOn 174 = .ok (.iconst 0, 1) := oq_3 (bq_in kqX10_isOn_5 14 rfl)
theorem dX10_isOn_175 : decode cX10_isOn 175 = .ok (.ireturn, 1) := oq_172 (bq_in kqX10_isOn_5 15 rfl)
theorem dX10_isOn_176 : decode cX10_isOn 176 = .ok (.iload 6, 2) := oq_21 (bq_in kqX10_isOn_5 16 rfl) (bq_in kqX10_isOn_5 17 rfl)
theorem dX10_isOn_178 : decode cX10_isOn 178 = .ok (.iload 4, 2) := oq_21 (bq_in kqX10_isOn_5 18 rfl) (bq_in kqX10_isOn_5 19 rfl)
theorem dX10_isOn_180 : decode cX10_isOn 180 = .ok (.irem, 1) := oq_112 (bq_in kqX10_isOn_5 20 rfl)
theorem dX10_isOn_181 : decode cX10_isOn 181 = .ok (.ifCond .ne 18, 3) := oq_154 (bq_in kqX10_isOn_5 21 rfl) (bq_in kqX10_isOn_5 22 rfl) (bq_in kqX10_isOn_5 23 rfl) rfl
theorem dX10_isOn_184 : decode cX10_isOn 184 = .ok (.aload_n 0, 1) := oq_42 (bq_in kqX10_isOn_5 24 rfl)
theorem dX10_isOn_185 : decode cX10_isOn 185 = .ok (.getfield 17, 3) := oq_180 (bq_in kqX10_isOn_5 25 rfl) (bq_in kqX10_isOn_5 26 rfl) (bq_in kqX10_isOn_5 27 rfl) rfl
theorem dX10_isOn_188 : decode cX10_isOn 188 = .ok (.iload_n 2, 1) := oq_28 (bq_in kqX10_isOn_5 28 rfl)
theorem dX10_isOn_189 : decode cX10_isOn 189 = .ok (.iaload, 1) := oq_46 (bq_in kqX10_isOn_5 29 rfl)
theorem dX10_isOn_190 : decode cX10_isOn 190 = .ok (.iload 5, 2) := oq_21 (bq_in kqX10_isOn_5 30 rfl) (bq_in kqX10_isOn_5 31 rfl)
theorem kqX10_isOn_6 : ((cX10_isOn.data.toList.drop 192).take 34).map UInt8.toNat = [160, 0, 7, 4, 167, 0, 4, 3, 172, 21, 6, 21, 4, 112, 154, 0, 27, 42, 180, 0, 17, 28, 46, 42, 180, 0, 20, 28, 46, 21, 5, 100, 4, 96] := by decide +kernel
theorem dX10_isOn_192 : decode cX10_isOn 192 = .ok (.if_icmp .ne 7, 3) := oq_160 (bq_in kqX10_isOn_6 0 rfl) (bq_in kqX10_isOn_6 1 rfl) (bq_in kqX10_isOn_6 2 rfl) rfl
theorem dX10_isOn_195 : decode cX10_isOn 195 = .ok (.iconst 1, 1) := oq_4 (bq_in kqX10_isOn_6 3 rfl)
theorem dX10_isOn_196 : decode cX10_isOn 196 = .ok (.goto 4, 3) := oq_167 (bq_in kqX10_isOn_6 4 rfl) (bq_in kqX10_isOn_6 5 rfl) (bq_in kqX10_isOn_6 6 rfl) rfl
theorem dX10_isOn_199 : decode cX10_isOn 199 = .ok (.iconst 0, 1) := oq_3 (bq_in kqX10_isOn_6 7 rfl)
theorem dX10_isOn_200 : decode cX10_isOn 200 = .ok (.ireturn, 1) := oq_172 (bq_in kqX10_isOn_6 8 rfl)
theorem dX10_isOn_201 : decode cX10_isOn 201 = .ok (.iload 6, 2) := oq_21 (bq_in kqX10_isOn_6 9 rfl) (bq_in kqX10_isOn_6 10 rfl)
theorem dX10_isOn_203 : decode cX10_isOn 203 = .ok (.iload 4, 2) := oq_21 (bq_in kqX10_isOn_6 11 rfl) (bq_in kqX10_isOn_6 12 rfl)
theorem dX10_isOn_205 : decode cX10_isOn 205 = .ok (.irem, 1) := oq_112 (bq_in kqX10_isOn_6 13 rfl)
theorem dX10_isOn_206 : decode cX10_isOn 206 = .ok (.ifCond .ne 27, 3) := oq_154 (bq_in kqX10_isOn_6 14 rfl) (bq_in kqX10_isOn_6 15 rfl) (bq_in kqX10_isOn_6 16 rfl) rfl
theorem dX10_isOn_209 : decode cX10_isOn 209 = .ok (.aload_n 0, 1) := oq_42 (bq_in kqX10_isOn_6 17 rfl)
theorem dX10_isOn_210 : decode cX10_isOn 210 = .ok (.getfield 17, 3) := oq_180 (bq_in kqX10_isOn_6 18 rfl) (bq_in kqX10_isOn_6 19 rfl) (bq_in kqX10_isOn_6 20 rfl) rfl
theorem dX10_isOn_213 : decode cX10_isOn 213 = .ok (.iload_n 2, 1) := oq_28 (bq_in kqX10_isOn_6 21 rfl)
theorem dX10_isOn_214 : decode cX10_isOn 214 = .ok (.iaload, 1) := oq_46 (bq_in kqX10_isOn_6 22 rfl)
theorem dX10_isOn_215 : decode cX10_isOn 215 = .ok (.aload_n 0, 1) := oq_42 (bq_in kqX10_isOn_6 23 rfl)
theorem dX10_isOn_216 : decode cX10_isOn 216 = .ok (.getfield 20, 3) := oq_180 (bq_in kqX10_isOn_6 24 rfl) (bq_in kqX10_isOn_6 25 rfl) (bq_in kqX10_isOn_6 26 rfl) rfl
theorem dX10_isOn_219 : decode cX10_isOn 219 = .ok (.iload_n 2, 1) := oq_28 (bq_in kqX10_isOn_6 27 rfl)
theorem dX10_isOn_220 : decode cX10_isOn 220 = .ok (.iaload, 1) := oq_46 (bq_in kqX10_isOn_6 28 rfl)
theorem dX10_isOn_221 : decode cX10_isOn 221 = .ok (.iload 5, 2) := oq_21 (bq_in kqX10_isOn_6 29 rfl) (bq_in kqX10_isOn_6 30 rfl)
theorem dX10_isOn_223 : decode cX10_isOn 223 = .ok (.isub, 1) := oq_100 (bq_in kqX10_isOn_6 31 rfl)
theorem kqX10_isOn_7 : ((cX10_isOn.data.toList.drop 224).take 34).map UInt8.toNat = [4, 96, 160, 0, 7, 4, 167, 0, 4, 3, 172, 21, 6, 21, 4, 112, 154, 0, 39, 28, 184, 0, 226, 42, 27, 16, 7, 182, 0, 229, 160, 0, 25, 42] := by decide +kernel
theorem dX10_isOn_224 : decode cX10_isOn 224 = .ok (.iconst 1, 1) := oq_4 (bq_in kqX10_isOn_7 0 rfl)
theorem dX10_isOn_225 : decode cX10_isOn 225 = .ok (.iadd, 1) := oq_96 (bq_in kqX10_isOn_7 1 rfl)
theorem dX10_isOn_226 : decode cX10_isOn 226 = .ok (.if_icmp .ne 7, 3) := oq_160 (bq_in kqX10_isOn_7 2 rfl) (bq_in kqX10_isOn_7 3 rfl) (bq_in kqX10_isOn_7 4 rfl) rfl
theorem dX10_isOn_229 : decode cX10_isOn 229 = .ok (.iconst 1, 1) := oq_4 (bq_in kqX10_isOn_7 5 rfl)
theorem dX10_isOn_230 : decode cX10_isOn 230 = .ok (.goto 4, 3) := oq_167 (bq_in kqX10_isOn_7 6 rfl) (bq_in kqX10_isOn_7 7 rfl) (bq_in kqX10_isOn_7 8 rfl) rfl
theorem dX10_isOn_233 : decode cX10_isOn 233 = .ok (.iconst 0, 1) := oq_3 (bq_in kqX10_isOn_7 9 rfl)
theorem dX10_isOn_234 : decode cX10_isOn 234 = .ok (.ireturn, 1) := oq_172 (bq_in kqX10_isOn_7 10 rfl)
theorem dX10_isOn_235 : decode cX10_isOn 235 = .ok (.iload 6, 2) := oq_21 (bq_in kqX10_isOn_7 11 rfl) (bq_in kqX10_isOn_7 12 rfl)
theorem dX10_isOn_237 : decode cX10_isOn 237 = .ok (.iload 4, 2) := oq_21 (bq_in kqX10_isOn_7 13 rfl) (bq_in kqX10_isOn_7 14 rfl)
theorem dX10_isOn_239 : decode cX10_isOn 239 = .ok (.irem, 1) := oq_112 (bq_in kqX10_isOn_7 15 rfl)
theorem dX10_isOn_240 : decode cX10_isOn 240 = .ok (.ifCond .ne 39, 3) := oq_154 (bq_in kqX10_isOn_7 16 rfl) (bq_in kqX10_isOn_7 17 rfl) (bq_in kqX10_isOn_7 18 rfl) rfl
theorem dX10_isOn_243 : decode cX10_isOn 243 = .ok (.iload_n 2, 1) := oq_28 (bq_in kqX10_isOn_7 19 rfl)
theorem dX10_isOn_244 : decode cX10_isOn 244 = .ok (.invokestatic 226, 3) := oq_184 (bq_in kqX10_isOn_7 20 rfl) (bq_in kqX10_isOn_7 21 rfl) (bq_in kqX10_isOn_7 22 rfl) rfl
theorem dX10_isOn_247 : decode cX10_isOn 247 = .ok (.aload_n 0, 1) := oq_42 (bq_in kqX10_isOn_7 23 rfl)
theorem dX10_isOn_248 : decode cX10_isOn 248 = .ok (.iload_n 1, 1) := oq_27 (bq_in kqX10_isOn_7 24 rfl)
theorem dX10_isOn_249 : decode cX10_isOn 249 = .ok (.bipush 7, 2) := oq_16 (bq_in kqX10_isOn_7 25 rfl) (bq_in kqX10_isOn_7 26 rfl) rfl
theorem dX10_isOn_251 : decode cX10_isOn 251 = .ok (.invokevirtual 229, 3) := oq_182 (bq_in kqX10_isOn_7 27 rfl) (bq_in kqX10_isOn_7 28 rfl) (bq_in kqX10_isOn_7 29 rfl) rfl
theorem dX10_isOn_254 : decode cX10_isOn 254 = .ok (.if_icmp .ne 25, 3) := oq_160 (bq_in kqX10_isOn_7 30 rfl) (bq_in kqX10_isOn_7 31 rfl) (bq_in kqX10_isOn_7 32 rfl) rfl
theorem kqX10_isOn_8 : ((cX10_isOn.data.toList.drop 256).take 34).map UInt8.toNat = [25, 42, 180, 0, 17, 28, 46, 4, 100, 16, 7, 108, 4, 96, 21, 5, 160, 0, 7, 4, 167, 0, 4, 3, 172, 21, 6, 21, 4, 112, 154, 0, 34, 28] := by decide +kernel
theorem dX10_isOn_257 : decode cX10_isOn 257 = .ok (.aload_n 0, 1) := oq_42 (bq_in kqX10_isOn_8 1 rfl)
theorem dX10_isOn_258 : decode cX10_isOn 258 = .ok (.getfield 17, 3) := oq_180 (bq_in kqX10_isOn_8 2 rfl) (bq_in kqX10_isOn_8 3 rfl) (bq_in kqX10_isOn_8 4 rfl) rfl
theorem dX10_isOn_261 : decode cX10_isOn 261 = .ok (.iload_n 2, 1) := oq_28 (bq_in kqX10_isOn_8 5 rfl)
theorem dX10_isOn_262 : decode cX10_isOn 262 = .ok (.iaload, 1) := oq_46 (bq_in kqX10_isOn_8 6 rfl)
theorem dX10_isOn_263 : decode cX10_isOn 263 = .ok (.iconst 1, 1) := oq_4 (bq_in kqX10_isOn_8 7 rfl)
theorem dX10_isOn_264 : decode cX10_isOn 264 = .ok (.isub, 1) := oq_100 (bq_in kqX10_isOn_8 8 rfl)
theorem dX10_isOn_265 : decode cX10_isOn 265 = .ok (.bipush 7, 2) := oq_16 (bq_in kqX10_isOn_8 9 rfl) (bq_in kqX10_isOn_8 10 rfl) rfl
theorem dX10_isOn_267 : decode cX10_isOn 267 = .ok (.idiv, 1) := oq_108 (bq_in kqX10_isOn_8 11 rfl)
theorem dX10_isOn_268 : decode cX10_isOn 268 = .ok (.iconst 1, 1) := oq_4 (bq_in kqX10_isOn_8 12 rfl)
theorem dX10_isOn_269 : decode cX10_isOn 269 = .ok (.iadd, 1) := oq_96 (bq_in kqX10_isOn_8 13 rfl)
theorem dX10_isOn_270 : decode cX10_isOn 270 = .ok (.iload 5, 2) := oq_21 (bq_in kqX10_isOn_8 14 rfl) (bq_in kqX10_isOn_8 15 rfl)
theorem dX10_isOn_272 : decode cX10_isOn 272 = .ok (.if_icmp .ne 7, 3) := oq_160 (bq_in kqX10_isOn_8 16 rfl) (bq_in kqX10_isOn_8 17 rfl) (bq_in kqX10_isOn_8 18 rfl) rfl
theorem dX10_isOn_275 : decode cX10_isOn 275 = .ok (.iconst 1, 1) := oq_4 (bq_in kqX10_isOn_8 19 rfl)
theorem dX10_isOn_276 : decode cX10_isOn 276 = .ok (.goto 4, 3) := oq_167 (bq_in kqX10_isOn_8 20 rfl) (bq_in kqX10_isOn_8 21 rfl) (bq_in kqX10_isOn_8 22 rfl) rfl
theorem dX10_isOn_279 : decode cX10_isOn 279 = .ok (.iconst 0, 1) := oq_3 (bq_in kqX10_isOn_8 23 rfl)
theorem dX10_isOn_280 : decode cX10_isOn 280 = .ok (.ireturn, 1) := oq_172 (bq_in kqX10_isOn_8 24 rfl)
theorem dX10_isOn_281 : decode cX10_isOn 281 = .ok (.iload 6, 2) := oq_21 (bq_in kqX10_isOn_8 25 rfl) (bq_in kqX10_isOn_8 26 rfl)
theorem dX10_isOn_283 : decode cX10_isOn 283 = .ok (.iload 4, 2) := oq_21 (bq_in kqX10_isOn_8 27 rfl) (bq_in kqX10_isOn_8 28 rfl)
theorem dX10_isOn_285 : decode cX10_isOn 285 = .ok (.irem, 1) := oq_112 (bq_in kqX10_isOn_8 29 rfl)
theorem dX10_isOn_286 : decode cX10_isOn 286 = .ok (.ifCond .ne 34, 3) := oq_154 (bq_in kqX10_isOn_8 30 rfl) (bq_in kqX10_isOn_8 31 rfl) (bq_in kqX10_isOn_8 32 rfl) rfl
theorem kqX10_isOn_9 : ((cX10_isOn.data.toList.drop 288).take 34).map UInt8.toNat = [34, 28, 184, 0, 226, 21, 5, 160, 0, 25, 42, 180, 0, 17, 28, 46, 16, 7, 96, 42, 180, 0, 20, 28, 46, 164, 0, 7, 4, 167, 0, 4, 3, 172] := by decide +kernel
theorem dX10_isOn_289 : decode cX10_isOn 289 = .ok (.iload_n 2, 1) := oq_28 (bq_in kqX10_isOn_9 1 rfl)
theorem dX10_isOn_290 : decode cX10_isOn 290 = .ok (.invokestatic 226, 3) := oq_184 (bq_in kqX10_isOn_9 2 rfl) (bq_in kqX10_isOn_9 3 rfl) (bq_in kqX10_isOn_9 4 rfl) rfl
theorem dX10_isOn_293 : decode cX10_isOn 293 = .ok (.iload 5, 2) := oq_21 (bq_in kqX10_isOn_9 5 rfl) (bq_in kqX10_isOn_9 6 rfl)
theorem dX10_isOn_295 : decode cX10_isOn 295 = .ok (.if_icmp .ne 25, 3) := oq_160 (bq_in kqX10_isOn_9 7 rfl) (bq_in kqX10_isOn_9 8 rfl) (bq_in kqX10_isOn_9 9 rfl) rfl
theorem dX10_isOn_298 : decode cX10_isOn 298 = .ok (.aload_n 0, 1) := oq_42 (bq_in kqX10_isOn_9 10 rfl)
theorem dX10_isOn_299 : decode cX10_isOn 299 = .ok (.getfield 17, 3) := oq_180 (bq_in kqX10_isOn_9 11 rfl) (bq_in kqX10_isOn_9 12 rfl) (bq_in kqX10_isOn_9 13 rfl) rfl
theorem dX10_isOn_302 : decode cX10_isOn 302 = .ok (.iload_n 2, 1) := oq_28 (bq_in kqX10_isOn_9 14 rfl)
theorem dX10_isOn_303 : decode cX10_isOn 303 = .ok (.iaload, 1) := oq_46 (bq_in kqX10_isOn_9 15 rfl)
theorem dX10_isOn_304 : decode cX10_isOn 304 = .ok (.bipush 7, 2) := oq_16 (bq_in kqX10_isOn_9 16 rfl) (bq_in kqX10_isOn_9 17 rfl) rfl
theorem dX10_isOn_306 : decode cX10_isOn 306 = .ok (.iadd, 1) := oq_96 (bq_in kqX10_isOn_9 18 rfl)
theorem dX10_isOn_307 : decode cX10_isOn 307 = .ok (.aload_n 0, 1) := oq_42 (bq_in kqX10_isOn_9 19 rfl)
theorem dX10_isOn_308 : decode cX10_isOn 308 = .ok (.getfield 20, 3) := oq_180 (bq_in kqX10_isOn_9 20 rfl) (bq_in kqX10_isOn_9 21 rfl) (bq_in kqX10_isOn_9 22 rfl) rfl
theorem dX10_isOn_311 : decode cX10_isOn 311 = .ok (.iload_n 2, 1) := oq_28 (bq_in kqX10_isOn_9 23 rfl)
theorem dX10_isOn_312 : decode cX10_isOn 312 = .ok (.iaload, 1) := oq_46 (bq_in kqX10_isOn_9 24 rfl)
theorem dX10_isOn_313 : decode cX10_isOn 313 = .ok (.if_icmp .le 7, 3) := oq_164 (bq_in kqX10_isOn_9 25 rfl) (bq_in kqX10_isOn_9 26 rfl) (bq_in kqX10_isOn_9 27 rfl) rfl
theorem dX10_isOn_316 : decode cX10_isOn 316 = .ok (.iconst 1, 1) := oq_4 (bq_in kqX10_isOn_9 28 rfl)
theorem dX10_isOn_317 : decode cX10_isOn 317 = .ok (.goto 4, 3) := oq_167 (bq_in kqX10_isOn_9 29 rfl) (bq_in kqX10_isOn_9 30 rfl) (bq_in kqX10_isOn_9 31 rfl) rfl
theorem kqX10_isOn_10 : ((cX10_isOn.data.toList.drop 320).take 34).map UInt8.toNat = [3, 172, 42, 180, 0, 8, 28, 46, 42, 180, 0, 8, 29, 46, 100, 21, 4, 112, 154, 0, 37, 42, 180, 0, 14, 28, 46, 42, 180, 0, 14, 29, 46, 160] := by decide +kernel
theorem dX10_isOn_320 : decode cX10_isOn 320 = .ok (.iconst 0, 1) := oq_3 (bq_in kqX10_isOn_10 0 rfl)
theorem dX10_isOn_321 : decode cX10_isOn 321 = .ok (.ireturn, 1) := oq_172 (bq_in kqX10_isOn_10 1 rfl)
theorem dX10_isOn_322 : decode cX10_isOn 322 = .ok (.aload_n 0, 1) := oq_42 (bq_in kqX10_isOn_10 2 rfl)
theorem dX10_isOn_323 : decode cX10_isOn 323 = .ok (.getfield 8, 3) := oq_180 (bq_in kqX10_isOn_10 3 rfl) (bq_in kqX10_isOn_10 4 rfl) (bq_in kqX10_isOn_10 5 rfl) rfl
theorem dX10_isOn_326 : decode cX10_isOn 326 = .ok (.iload_n 2, 1) := oq_28 (bq_in kqX10_isOn_10 6 rfl)
theorem dX10_isOn_327 : decode cX10_isOn 327 = .ok (.iaload, 1) := oq_46 (bq_in kqX10_isOn_10 7 rfl)
theorem dX10_isOn_328 : decode cX10_isOn 328 = .ok (.aload_n 0, 1) := oq_42 (bq_in kqX10_isOn_10 8 rfl)
theorem dX10_isOn_329 : decode cX10_isOn 329 = .ok (.getfield 8, 3) := oq_180 (bq_in kqX10_isOn_10 9 rfl) (bq_in kqX10_isOn_10 10 rfl) (bq_in kqX10_isOn_10 11 rfl) rfl
theorem dX10_isOn_332 : decode cX10_isOn 332 = .ok (.iload_n 3, 1) := oq_29 (bq_in kqX10_isOn_10 12 rfl)
theorem dX10_isOn_333 : decode cX10_isOn 333 = .ok (.iaload, 1) := oq_46 (bq_in kqX10_isOn_10 13 rfl)
theorem dX10_isOn_334 : decode cX10_isOn 334 = .ok (.isub, 1) := oq_100 (bq_in kqX10_isOn_10 14 rfl)
theorem dX10_isOn_335 : decode cX10_isOn 335 = .ok (.iload 4, 2) := oq_21 (bq_in kqX10_isOn_10 15 rfl) (bq_in kqX10_isOn_10 16 rfl)
theorem dX10_isOn_337 : decode cX10_isOn 337 = .ok (.irem, 1) := oq_112 (bq_in kqX10_isOn_10 17 rfl)
theorem dX10_isOn_338 : decode cX10_isOn 338 = .ok (.ifCond .ne 37, 3) := oq_154 (bq_in kqX10_isOn_10 18 rfl) (bq_in kqX10_isOn_10 19 rfl) (bq_in kqX10_isOn_10 20 rfl) rfl
theorem dX10_isOn_341 : decode cX10_isOn 341 = .ok (.aload_n 0, 1) := oq_42 (bq_in kqX10_isOn_10 21 rfl)
theorem dX10_isOn_342 : decode cX10_isOn 342 = .ok (.getfield 14, 3) := oq_180 (bq_in kqX10_isOn_10 22 rfl) (bq_in kqX10_isOn_10 23 rfl) (bq_in kqX10_isOn_10 24 rfl) rfl
theorem dX10_isOn_345 : decode cX10_isOn 345 = .ok (.iload_n 2, 1) := oq_28 (bq_in kqX10_isOn_10 25 rfl)
theorem dX10_isOn_346 : decode cX10_isOn 346 = .ok (.iaload, 1) := oq_46 (bq_in kqX10_isOn_10 26 rfl)
theorem dX10_isOn_347 : decode cX10_isOn 347 = .ok (.aload_n 0, 1) := oq_42 (bq_in kqX10_isOn_10 27 rfl)
theorem dX10_isOn_348 : decode cX10_isOn 348 = .ok (.getfield 14, 3) := oq_180 (bq_in kqX10_isOn_10 28 rfl) (bq_in kqX10_isOn_10 29 rfl) (bq_in kqX10_isOn_10 30 rfl) rfl
theorem dX10_isOn_351 : decode cX10_isOn 351 = .ok (.iload_n 3, 1) := oq_29 (bq_in kqX10_isOn_10 31 rfl)
theorem kqX10_isOn_11 : ((cX10_isOn.data.toList.drop 352).take 34).map UInt8.toNat = [46, 160, 0, 22, 42, 180, 0, 17, 28, 46, 42, 180, 0, 17, 29, 46, 160, 0, 7, 4, 167, 0, 4, 3, 172] := by decide +kernel
theorem dX10_isOn_352 : decode cX10_isOn 352 = .ok (.iaload, 1) := oq_46 (bq_in kqX10_isOn_11 0 rfl)
theorem dX10_isOn_353 : decode cX10_isOn 353 = .ok (.if_icmp .ne 22, 3) := oq_160 (bq_in kqX10_isOn_11 1 rfl) (bq_in kqX10_isOn_11 2 rfl) (bq_in kqX10_isOn_11 3 rfl) rfl
theorem dX10_isOn_356 : decode cX10_isOn 356 = .ok (.aload_n 0, 1) := oq_42 (bq_in kqX10_isOn_11 4 rfl)
theorem dX10_isOn_357 : decode cX10_isOn 357 = .ok (.getfield 17, 3) := oq_180 (bq_in kqX10_isOn_11 5 rfl) (bq_in kqX10_isOn_11 6 rfl) (bq_in kqX10_isOn_11 7 rfl) rfl
theorem dX10_isOn_360 : decode cX10_isOn 360 = .ok (.iload_n 2, 1) := oq_28 (bq_in kqX10_isOn_11 8 rfl)
theorem dX10_isOn_361 : decode cX10_isOn 361 = .ok (.iaload, 1) := oq_46 (bq_in kqX10_isOn_11 9 rfl)
theorem dX10_isOn_362 : decode cX10_isOn 362 = .ok (.aload_n 0, 1) := oq_42 (bq_in kqX10_isOn_11 10 rfl)
theorem dX10_isOn_363 : decode cX10_isOn 363 = .ok (.getfield 17, 3) := oq_180 (bq_in kqX10_isOn_11 11 rfl) (bq_in kqX10_isOn_11 12 rfl) (bq_in kqX10_isOn_11 13 rfl) rfl
theorem dX10_isOn_366 : decode cX10_isOn 366 = .ok (.iload_n 3, 1) := oq_29 (bq_in kqX10_isOn_11 14 rfl)
theorem dX10_isOn_367 : decode cX10_isOn 367 = .ok (.iaload, 1) := oq_46 (bq_in kqX10_isOn_11 15 rfl)
theorem dX10_isOn_368 : decode cX10_isOn 368 = .ok (.if_icmp .ne 7, 3) := oq_160 (bq_in kqX10_isOn_11 16 rfl) (bq_in kqX10_isOn_11 17 rfl) (bq_in kqX10_isOn_11 18 rfl) rfl
theorem dX10_isOn_371 : decode cX10_isOn 371 = .ok (.iconst 1, 1) := oq_4 (bq_in kqX10_isOn_11 19 rfl)
theorem dX10_isOn_372 : decode cX10_isOn 372 = .ok (.goto 4, 3) := oq_167 (bq_in kqX10_isOn_11 20 rfl) (bq_in kqX10_isOn_11 21 rfl) (bq_in kqX10_isOn_11 22 rfl) rfl
theorem dX10_isOn_375 : decode cX10_isOn 375 = .ok (.iconst 0, 1) := oq_3 (bq_in kqX10_isOn_11 23 rfl)
theorem dX10_isOn_376 : decode cX10_isOn 376 = .ok (.ireturn, 1) := oq_172 (bq_in kqX10_isOn_11 24 rfl)
theorem kqX10_laysKeys_0 : ((cX10_laysKeys.data.toList.drop 0).take 34).map UInt8.toNat = [3, 62, 42, 27, 16, 9, 182, 0, 229, 54, 4, 42, 27, 16, 8, 182, 0, 229, 156, 0, 8, 18, 64, 167, 0, 10, 42, 27, 16, 8, 182, 0, 229, 54] := by decide +kernel
theorem dX10_laysKeys_0 : decode cX10_laysKeys 0 = .ok (.iconst 0, 1) := oq_3 (bq_in kqX10_laysKeys_0 0 rfl)
theorem dX10_laysKeys_1 : decode cX10_laysKeys 1 = .ok (.istore_n 3, 1) := oq_62 (bq_in kqX10_laysKeys_0 1 rfl)
theorem dX10_laysKeys_2 : decode cX10_laysKeys 2 = .ok (.aload_n 0, 1) := oq_42 (bq_in kqX10_laysKeys_0 2 rfl)
theorem dX10_laysKeys_3 : decode cX10_laysKeys 3 = .ok (.iload_n 1, 1) := oq_27 (bq_in kqX10_laysKeys_0 3 rfl)
theorem dX10_laysKeys_4 : decode cX10_laysKeys 4 = .ok (.bipush 9, 2) := oq_16 (bq_in kqX10_laysKeys_0 4 rfl) (bq_in kqX10_laysKeys_0 5 rfl) rfl
theorem dX10_laysKeys_6 : decode cX10_laysKeys 6 = .ok (.invokevirtual 229, 3) := oq_182 (bq_in kqX10_laysKeys_0 6 rfl) (bq_in kqX10_laysKeys_0 7 rfl) (bq_in kqX10_laysKeys_0 8 rfl) rfl
theorem dX10_laysKeys_9 : decode cX10_laysKeys 9 = .ok (.istore 4, 2) := oq_54 (bq_in kqX10_laysKeys_0 9 rfl) (bq_in kqX10_laysKeys_0 10 rfl)
theorem dX10_laysKeys_11 : decode cX10_laysKeys 11 = .ok (.aload_n 0, 1) := oq_42 (bq_in kqX10_laysKeys_0 11 rfl)
theorem dX10_laysKeys_12 : decode cX10_laysKeys 12 = .ok (.iload_n 1, 1) := oq_27 (bq_in kqX10_laysKeys_0 12 rfl)
theorem dX10_laysKeys_13 : decode cX10_laysKeys 13 = .ok (.bipush 8, 2) := oq_16 (bq_in kqX10_laysKeys_0 13 rfl) (bq_in kqX10_laysKeys_0 14 rfl) rfl
theorem dX10_laysKeys_15 : decode cX10_laysKeys 15 = .ok (.invokevirtual 229, 3) := oq_182 (bq_in kqX10_laysKeys_0 15 rfl) (bq_in kqX10_laysKeys_0 16 rfl) (bq_in kqX10_laysKeys_0 17 rfl) rfl
theorem dX10_laysKeys_18 : decode cX10_laysKeys 18 = .ok (.ifCond .ge 8, 3) := oq_156 (bq_in kqX10_laysKeys_0 18 rfl) (bq_in kqX10_laysKeys_0 19 rfl) (bq_in kqX10_laysKeys_0 20 rfl) rfl
theorem dX10_laysKeys_21 : decode cX10_laysKeys 21 = .ok (.ldc 64, 2) := oq_18 (bq_in kqX10_laysKeys_0 21 rfl) (bq_in kqX10_laysKeys_0 22 rfl)
theorem dX10_laysKeys_23 : decode cX10_laysKeys 23 = .ok (.goto 10, 3) := oq_167 (bq_in kqX10_laysKeys_0 23 rfl) (bq_in kqX10_laysKeys_0 24 rfl) (bq_in kqX10_laysKeys_0 25 rfl) rfl
theorem dX10_laysKeys_26 : decode cX10_laysKeys 26 = .ok (.aload_n 0, 1) := oq_42 (bq_in kqX10_laysKeys_0 26 rfl)
theorem dX10_laysKeys_27 : decode cX10_laysKeys 27 = .ok (.iload_n 1, 1) := oq_27 (bq_in kqX10_laysKeys_0 27 rfl)
theorem dX10_laysKeys_28 : decode cX10_laysKeys 28 = .ok (.bipush 8, 2) := oq_16 (bq_in kqX10_laysKeys_0 28 rfl) (bq_in kqX10_laysKeys_0 29 rfl) rfl
theorem dX10_laysKeys_30 : decode cX10_laysKeys 30 = .ok (.invokevirtual 229, 3) := oq_182 (bq_in kqX10_laysKeys_0 30 rfl) (bq_in kqX10_laysKeys_0 31 rfl) (bq_in kqX10_laysKeys_0 32 rfl) rfl
theorem kqX10_laysKeys_1 : ((cX10_laysKeys.data.toList.drop 32).take 34).map UInt8.toNat = [229, 54, 5, 42, 27, 16, 10, 182, 0, 229, 54, 6, 21, 6, 21, 5, 163, 0, 49, 21, 4, 155, 0, 9, 29, 21, 4, 162, 0, 38, 42, 27, 21, 6] := by decide +kernel
theorem dX10_laysKeys_33 : decode cX10_laysKeys 33 = .ok (.istore 5, 2) := oq_54 (bq_in kqX10_laysKeys_1 1 rfl) (bq_in kqX10_laysKeys_1 2 rfl)
theorem dX10_laysKeys_35 : decode cX10_laysKeys 35 = .ok (.aload_n 0, 1) := oq_42 (bq_in kqX10_laysKeys_1 3 rfl)
theorem dX10_laysKeys_36 : decode cX10_laysKeys 36 = .ok (.iload_n 1, 1) := oq_27 (bq_in kqX10_laysKeys_1 4 rfl)
theorem dX10_laysKeys_37 : decode cX10_laysKeys 37 = .ok (.bipush 10, 2) := oq_16 (bq_in kqX10_laysKeys_1 5 rfl) (bq_in kqX10_laysKeys_1 6 rfl) rfl
theorem dX10_laysKeys_39 : decode cX10_laysKeys 39 = .ok (.invokevirtual 229, 3) := oq_182 (bq_in kqX10_laysKeys_1 7 rfl) (bq_in kqX10_laysKeys_1 8 rfl) (bq_in kqX10_laysKeys_1 9 rfl) rfl
theorem dX10_laysKeys_42 : decode cX10_laysKeys 42 = .ok (.istore 6, 2) := oq_54 (bq_in kqX10_laysKeys_1 10 rfl) (bq_in kqX10_laysKeys_1 11 rfl)
theorem dX10_laysKeys_44 : decode cX10_laysKeys 44 = .ok (.iload 6, 2) := oq_21 (bq_in kqX10_laysKeys_1 12 rfl) (bq_in kqX10_laysKeys_1 13 rfl)
theorem dX10_laysKeys_46 : decode cX10_laysKeys 46 = .ok (.iload 5, 2) := oq_21 (bq_in kqX10_laysKeys_1 14 rfl) (bq_in kqX10_laysKeys_1 15 rfl)
theorem dX10_laysKeys_48 : decode cX10_laysKeys 48 = .ok (.if_icmp .gt 49, 3) := oq_163 (bq_in kqX10_laysKeys_1 16 rfl) (bq_in kqX10_laysKeys_1 17 rfl) (bq_in kqX10_laysKeys_1 18 rfl) rfl
theorem dX10_laysKeys_51 : decode cX10_laysKeys 51 = .ok (.iload 4, 2) := oq_21 (bq_in kqX10_laysKeys_1 19 rfl) (bq_in kqX10_laysKeys_1 20 rfl)
theorem dX10_laysKeys_53 : decode cX10_laysKeys 53 = .ok (.ifCond .lt 9, 3) := oq_155 (bq_in kqX10_laysKeys_1 21 rfl) (bq_in kqX10_laysKeys_1 22 rfl) (bq_in kqX10_laysKeys_1 23 rfl) rfl
theorem dX10_laysKeys_56 : decode cX10_laysKeys 56 = .ok (.iload_n 3, 1) := oq_29 (bq_in kqX10_laysKeys_1 24 rfl)
theorem dX10_laysKeys_57 : decode cX10_laysKeys 57 = .ok (.iload 4, 2) := oq_21 (bq_in kqX10_laysKeys_1 25 rfl) (bq_in kqX10_laysKeys_1 26 rfl)
theorem dX10_laysKeys_59 : decode cX10_laysKeys 59 = .ok (.if_icmp .ge 38, 3) := oq_162 (bq_in kqX10_laysKeys_1 27 rfl) (bq_in kqX10_laysKeys_1 28 rfl) (bq_in kqX10_laysKeys_1 29 rfl) rfl
theorem dX10_laysKeys_62 : decode cX10_laysKeys 62 = .ok (.aload_n 0, 1) := oq_42 (bq_in kqX10_laysKeys_1 30 rfl)
theorem dX10_laysKeys_63 : decode cX10_laysKeys 63 = .ok (.iload_n 1, 1) := oq_27 (bq_in kqX10_laysKeys_1 31 rfl)
theorem kqX10_laysKeys_2 : ((cX10_laysKeys.data.toList.drop 64).take 34).map UInt8.toNat = [21, 6, 182, 0, 232, 154, 0, 6, 167, 0, 19, 42, 180, 0, 39, 18, 7, 28, 104, 29, 96, 21, 6, 79, 132, 3, 1, 132, 6, 1, 167, 255, 206, 42] := by decide +kernel
theorem dX10_laysKeys_64 : decode cX10_laysKeys 64 = .ok (.iload 6, 2) := oq_21 (bq_in kqX10_laysKeys_2 0 rfl) (bq_in kqX10_laysKeys_2 1 rfl)
theorem dX10_laysKeys_66 : decode cX10_laysKeys 66 = .ok (.invokevirtual 232, 3) := oq_182 (bq_in kqX10_laysKeys_2 2 rfl) (bq_in kqX10_laysKeys_2 3 rfl) (bq_in kqX10_laysKeys_2 4 rfl) rfl
theorem dX10_laysKeys_69 : decode cX10_laysKeys 69 = .ok (.ifCond .ne 6, 3) := oq_154 (bq_in kqX10_laysKeys_2 5 rfl) (bq_in kqX10_laysKeys_2 6 rfl) (bq_in kqX10_laysKeys_2 7 rfl) rfl
theorem dX10_laysKeys_72 : decode cX10_laysKeys 72 = .ok (.goto 19, 3) := oq_167 (bq_in kqX10_laysKeys_2 8 rfl) (bq_in kqX10_laysKeys_2 9 rfl) (bq_in kqX10_laysKeys_2 10 rfl) rfl
theorem dX10_laysKeys_75 : decode cX10_laysKeys 75 = .ok (.aload_n 0, 1) := oq_42 (bq_in kqX10_laysKeys_2 11 rfl)
theorem dX10_laysKeys_76 : decode cX10_laysKeys 76 = .ok (.getfield 39, 3) := oq_180 (bq_in kqX10_laysKeys_2 12 rfl) (bq_in kqX10_laysKeys_2 13 rfl) (bq_in kqX10_laysKeys_2 14 rfl) rfl
theorem dX10_laysKeys_79 : decode cX10_laysKeys 79 = .ok (.ldc 7, 2) := oq_18 (bq_in kqX10_laysKeys_2 15 rfl) (bq_in kqX10_laysKeys_2 16 rfl)
theorem dX10_laysKeys_81 : decode cX10_laysKeys 81 = .ok (.iload_n 2, 1) := oq_28 (bq_in kqX10_laysKeys_2 17 rfl)
theorem dX10_laysKeys_82 : decode cX10_laysKeys 82 = .ok (.imul, 1) := oq_104 (bq_in kqX10_laysKeys_2 18 rfl)
theorem dX10_laysKeys_83 : decode cX10_laysKeys 83 = .ok (.iload_n 3, 1) := oq_29 (bq_in kqX10_laysKeys_2 19 rfl)
theorem dX10_laysKeys_84 : decode cX10_laysKeys 84 = .ok (.iadd, 1) := oq_96 (bq_in kqX10_laysKeys_2 20 rfl)
theorem dX10_laysKeys_85 : decode cX10_laysKeys 85 = .ok (.iload 6, 2) := oq_21 (bq_in kqX10_laysKeys_2 21 rfl) (bq_in kqX10_laysKeys_2 22 rfl)
theorem dX10_laysKeys_87 : decode cX10_laysKeys 87 = .ok (.iastore, 1) := oq_79 (bq_in kqX10_laysKeys_2 23 rfl)
theorem dX10_laysKeys_88 : decode cX10_laysKeys 88 = .ok (.iinc 3 1, 3) := oq_132 (bq_in kqX10_laysKeys_2 24 rfl) (bq_in kqX10_laysKeys_2 25 rfl) (bq_in kqX10_laysKeys_2 26 rfl) rfl
theorem dX10_laysKeys_91 : decode cX10_laysKeys 91 = .ok (.iinc 6 1, 3) := oq_132 (bq_in kqX10_laysKeys_2 27 rfl) (bq_in kqX10_laysKeys_2 28 rfl) (bq_in kqX10_laysKeys_2 29 rfl) rfl
theorem dX10_laysKeys_94 : decode cX10_laysKeys 94 = .ok (.goto (-50), 3) := oq_167 (bq_in kqX10_laysKeys_2 30 rfl) (bq_in kqX10_laysKeys_2 31 rfl) (bq_in kqX10_laysKeys_2 32 rfl) rfl
theorem kqX10_laysKeys_3 : ((cX10_laysKeys.data.toList.drop 96).take 34).map UInt8.toNat = [206, 42, 180, 0, 42, 28, 29, 79, 29, 172] := by decide +kernel
theorem dX10_laysKeys_97 : decode cX10_laysKeys 97 = .ok (.aload_n 0, 1) := oq_42 (bq_in kqX10_laysKeys_3 1 rfl)
theorem dX10_laysKeys_98 : decode cX10_laysKeys 98 = .ok (.getfield 42, 3) := oq_180 (bq_in kqX10_laysKeys_3 2 rfl) (bq_in kqX10_laysKeys_3 3 rfl) (bq_in kqX10_laysKeys_3 4 rfl) rfl
theorem dX10_laysKeys_101 : decode cX10_laysKeys 101 = .ok (.iload_n 2, 1) := oq_28 (bq_in kqX10_laysKeys_3 5 rfl)
theorem dX10_laysKeys_102 : decode cX10_laysKeys 102 = .ok (.iload_n 3, 1) := oq_29 (bq_in kqX10_laysKeys_3 6 rfl)
theorem dX10_laysKeys_103 : decode cX10_laysKeys 103 = .ok (.iastore, 1) := oq_79 (bq_in kqX10_laysKeys_3 7 rfl)
theorem dX10_laysKeys_104 : decode cX10_laysKeys 104 = .ok (.iload_n 3, 1) := oq_29 (bq_in kqX10_laysKeys_3 8 rfl)
theorem dX10_laysKeys_105 : decode cX10_laysKeys 105 = .ok (.ireturn, 1) := oq_172 (bq_in kqX10_laysKeys_3 9 rfl)
theorem kqX10_oddOf_0 : ((cX10_oddOf.data.toList.drop 0).take 34).map UInt8.toNat = [3, 62, 29, 42, 27, 16, 11, 182, 0, 229, 162, 0, 26, 42, 27, 16, 12, 5, 29, 104, 96, 182, 0, 229, 28, 160, 0, 5, 29, 172, 132, 3, 1, 167] := by decide +kernel
theorem dX10_oddOf_0 : decode cX10_oddOf 0 = .ok (.iconst 0, 1) := oq_3 (bq_in kqX10_oddOf_0 0 rfl)
theorem dX10_oddOf_1 : decode cX10_oddOf 1 = .ok (.istore_n 3, 1) := oq_62 (bq_in kqX10_oddOf_0 1 rfl)
theorem dX10_oddOf_2 : decode cX10_oddOf 2 = .ok (.iload_n 3, 1) := oq_29 (bq_in kqX10_oddOf_0 2 rfl)
theorem dX10_oddOf_3 : decode cX10_oddOf 3 = .ok (.aload_n 0, 1) := oq_42 (bq_in kqX10_oddOf_0 3 rfl)
theorem dX10_oddOf_4 : decode cX10_oddOf 4 = .ok (.iload_n 1, 1) := oq_27 (bq_in kqX10_oddOf_0 4 rfl)
theorem dX10_oddOf_5 : decode cX10_oddOf 5 = .ok (.bipush 11, 2) := oq_16 (bq_in kqX10_oddOf_0 5 rfl) (bq_in kqX10_oddOf_0 6 rfl) rfl
theorem dX10_oddOf_7 : decode cX10_oddOf 7 = .ok (.invokevirtual 229, 3) := oq_182 (bq_in kqX10_oddOf_0 7 rfl) (bq_in kqX10_oddOf_0 8 rfl) (bq_in kqX10_oddOf_0 9 rfl) rfl
theorem dX10_oddOf_10 : decode cX10_oddOf 10 = .ok (.if_icmp .ge 26, 3) := oq_162 (bq_in kqX10_oddOf_0 10 rfl) (bq_in kqX10_oddOf_0 11 rfl) (bq_in kqX10_oddOf_0 12 rfl) rfl
theorem dX10_oddOf_13 : decode cX10_oddOf 13 = .ok (.aload_n 0, 1) := oq_42 (bq_in kqX10_oddOf_0 13 rfl)
theorem dX10_oddOf_14 : decode cX10_oddOf 14 = .ok (.iload_n 1, 1) := oq_27 (bq_in kqX10_oddOf_0 14 rfl)
theorem dX10_oddOf_15 : decode cX10_oddOf 15 = .ok (.bipush 12, 2) := oq_16 (bq_in kqX10_oddOf_0 15 rfl) (bq_in kqX10_oddOf_0 16 rfl) rfl
theorem dX10_oddOf_17 : decode cX10_oddOf 17 = .ok (.iconst 2, 1) := oq_5 (bq_in kqX10_oddOf_0 17 rfl)
theorem dX10_oddOf_18 : decode cX10_oddOf 18 = .ok (.iload_n 3, 1) := oq_29 (bq_in kqX10_oddOf_0 18 rfl)
theorem dX10_oddOf_19 : decode cX10_oddOf 19 = .ok (.imul, 1) := oq_104 (bq_in kqX10_oddOf_0 19 rfl)
theorem dX10_oddOf_20 : decode cX10_oddOf 20 = .ok (.iadd, 1) := oq_96 (bq_in kqX10_oddOf_0 20 rfl)
theorem dX10_oddOf_21 : decode cX10_oddOf 21 = .ok (.invokevirtual 229, 3) := oq_182 (bq_in kqX10_oddOf_0 21 rfl) (bq_in kqX10_oddOf_0 22 rfl) (bq_in kqX10_oddOf_0 23 rfl) rfl
theorem dX10_oddOf_24 : decode cX10_oddOf 24 = .ok (.iload_n 2, 1) := oq_28 (bq_in kqX10_oddOf_0 24 rfl)
theorem dX10_oddOf_25 : decode cX10_oddOf 25 = .ok (.if_icmp .ne 5, 3) := oq_160 (bq_in kqX10_oddOf_0 25 rfl) (bq_in kqX10_oddOf_0 26 rfl) (bq_in kqX10_oddOf_0 27 rfl) rfl
theorem dX10_oddOf_28 : decode cX10_oddOf 28 = .ok (.iload_n 3, 1) := oq_29 (bq_in kqX10_oddOf_0 28 rfl)
theorem dX10_oddOf_29 : decode cX10_oddOf 29 = .ok (.ireturn, 1) := oq_172 (bq_in kqX10_oddOf_0 29 rfl)
theorem dX10_oddOf_30 : decode cX10_oddOf 30 = .ok (.iinc 3 1, 3) := oq_132 (bq_in kqX10_oddOf_0 30 rfl) (bq_in kqX10_oddOf_0 31 rfl) (bq_in kqX10_oddOf_0 32 rfl) rfl
theorem kqX10_oddOf_1 : ((cX10_oddOf.data.toList.drop 32).take 34).map UInt8.toNat = [1, 167, 255, 225, 2, 172] := by decide +kernel
theorem dX10_oddOf_33 : decode cX10_oddOf 33 = .ok (.goto (-31), 3) := oq_167 (bq_in kqX10_oddOf_1 1 rfl) (bq_in kqX10_oddOf_1 2 rfl) (bq_in kqX10_oddOf_1 3 rfl) rfl
theorem dX10_oddOf_36 : decode cX10_oddOf 36 = .ok (.iconst (-1), 1) := oq_2 (bq_in kqX10_oddOf_1 4 rfl)
theorem dX10_oddOf_37 : decode cX10_oddOf 37 = .ok (.ireturn, 1) := oq_172 (bq_in kqX10_oddOf_1 5 rfl)
theorem kqX10_laysTimes_0 : ((cX10_laysTimes.data.toList.drop 0).take 34).map UInt8.toNat = [42, 27, 28, 182, 0, 236, 62, 18, 7, 28, 104, 54, 4, 3, 54, 5, 3, 54, 6, 21, 6, 29, 162, 0, 72, 42, 180, 0, 39, 21, 4, 21, 6, 96] := by decide +kernel
theorem dX10_laysTimes_0 : decode cX10_laysTimes 0 = .ok (.aload_n 0, 1) := oq_42 (bq_in kqX10_laysTimes_0 0 rfl)
theorem dX10_laysTimes_1 : decode cX10_laysTimes 1 = .ok (.iload_n 1, 1) := oq_27 (bq_in kqX10_laysTimes_0 1 rfl)
theorem dX10_laysTimes_2 : decode cX10_laysTimes 2 = .ok (.iload_n 2, 1) := oq_28 (bq_in kqX10_laysTimes_0 2 rfl)
theorem dX10_laysTimes_3 : decode cX10_laysTimes 3 = .ok (.invokevirtual 236, 3) := oq_182 (bq_in kqX10_laysTimes_0 3 rfl) (bq_in kqX10_laysTimes_0 4 rfl) (bq_in kqX10_laysTimes_0 5 rfl) rfl
theorem dX10_laysTimes_6 : decode cX10_laysTimes 6 = .ok (.istore_n 3, 1) := oq_62 (bq_in kqX10_laysTimes_0 6 rfl)
theorem dX10_laysTimes_7 : decode cX10_laysTimes 7 = .ok (.ldc 7, 2) := oq_18 (bq_in kqX10_laysTimes_0 7 rfl) (bq_in kqX10_laysTimes_0 8 rfl)
theorem dX10_laysTimes_9 : decode cX10_laysTimes 9 = .ok (.iload_n 2, 1) := oq_28 (bq_in kqX10_laysTimes_0 9 rfl)
theorem dX10_laysTimes_10 : decode cX10_laysTimes 10 = .ok (.imul, 1) := oq_104 (bq_in kqX10_laysTimes_0 10 rfl)
theorem dX10_laysTimes_11 : decode cX10_laysTimes 11 = .ok (.istore 4, 2) := oq_54 (bq_in kqX10_laysTimes_0 11 rfl) (bq_in kqX10_laysTimes_0 12 rfl)
theorem dX10_laysTimes_13 : decode cX10_laysTimes 13 = .ok (.iconst 0, 1) := oq_3 (bq_in kqX10_laysTimes_0 13 rfl)
theorem dX10_laysTimes_14 : decode cX10_laysTimes 14 = .ok (.istore 5, 2) := oq_54 (bq_in kqX10_laysTimes_0 14 rfl) (bq_in kqX10_laysTimes_0 15 rfl)
theorem dX10_laysTimes_16 : decode cX10_laysTimes 16 = .ok (.iconst 0, 1) := oq_3 (bq_in kqX10_laysTimes_0 16 rfl)
theorem dX10_laysTimes_17 : decode cX10_laysTimes 17 = .ok (.istore 6, 2) := oq_54 (bq_in kqX10_laysTimes_0 17 rfl) (bq_in kqX10_laysTimes_0 18 rfl)
theorem dX10_laysTimes_19 : decode cX10_laysTimes 19 = .ok (.iload 6, 2) := oq_21 (bq_in kqX10_laysTimes_0 19 rfl) (bq_in kqX10_laysTimes_0 20 rfl)
theorem dX10_laysTimes_21 : decode cX10_laysTimes 21 = .ok (.iload_n 3, 1) := oq_29 (bq_in kqX10_laysTimes_0 21 rfl)
theorem dX10_laysTimes_22 : decode cX10_laysTimes 22 = .ok (.if_icmp .ge 72, 3) := oq_162 (bq_in kqX10_laysTimes_0 22 rfl) (bq_in kqX10_laysTimes_0 23 rfl) (bq_in kqX10_laysTimes_0 24 rfl) rfl
theorem dX10_laysTimes_25 : decode cX10_laysTimes 25 = .ok (.aload_n 0, 1) := oq_42 (bq_in kqX10_laysTimes_0 25 rfl)
theorem dX10_laysTimes_26 : decode cX10_laysTimes 26 = .ok (.getfield 39, 3) := oq_180 (bq_in kqX10_laysTimes_0 26 rfl) (bq_in kqX10_laysTimes_0 27 rfl) (bq_in kqX10_laysTimes_0 28 rfl) rfl
theorem dX10_laysTimes_29 : decode cX10_laysTimes 29 = .ok (.iload 4, 2) := oq_21 (bq_in kqX10_laysTimes_0 29 rfl) (bq_in kqX10_laysTimes_0 30 rfl)
theorem dX10_laysTimes_31 : decode cX10_laysTimes 31 = .ok (.iload 6, 2) := oq_21 (bq_in kqX10_laysTimes_0 31 rfl) (bq_in kqX10_laysTimes_0 32 rfl)
theorem kqX10_laysTimes_1 : ((cX10_laysTimes.data.toList.drop 32).take 34).map UInt8.toNat = [6, 96, 46, 54, 7, 42, 27, 21, 7, 182, 0, 239, 155, 0, 6, 167, 0, 41, 42, 180, 0, 39, 21, 4, 21, 5, 96, 21, 7, 79, 42, 180, 0, 36] := by decide +kernel
theorem dX10_laysTimes_33 : decode cX10_laysTimes 33 = .ok (.iadd, 1) := oq_96 (bq_in kqX10_laysTimes_1 1 rfl)
theorem dX10_laysTimes_34 : decode cX10_laysTimes 34 = .ok (.iaload, 1) := oq_46 (bq_in kqX10_laysTimes_1 2 rfl)
theorem dX10_laysTimes_35 : decode cX10_laysTimes 35 = .ok (.istore 7, 2) := oq_54 (bq_in kqX10_laysTimes_1 3 rfl) (bq_in kqX10_laysTimes_1 4 rfl)
theorem dX10_laysTimes_37 : decode cX10_laysTimes 37 = .ok (.aload_n 0, 1) := oq_42 (bq_in kqX10_laysTimes_1 5 rfl)
theorem dX10_laysTimes_38 : decode cX10_laysTimes 38 = .ok (.iload_n 1, 1) := oq_27 (bq_in kqX10_laysTimes_1 6 rfl)
theorem dX10_laysTimes_39 : decode cX10_laysTimes 39 = .ok (.iload 7, 2) := oq_21 (bq_in kqX10_laysTimes_1 7 rfl) (bq_in kqX10_laysTimes_1 8 rfl)
theorem dX10_laysTimes_41 : decode cX10_laysTimes 41 = .ok (.invokevirtual 239, 3) := oq_182 (bq_in kqX10_laysTimes_1 9 rfl) (bq_in kqX10_laysTimes_1 10 rfl) (bq_in kqX10_laysTimes_1 11 rfl) rfl
theorem dX10_laysTimes_44 : decode cX10_laysTimes 44 = .ok (.ifCond .lt 6, 3) := oq_155 (bq_in kqX10_laysTimes_1 12 rfl) (bq_in kqX10_laysTimes_1 13 rfl) (bq_in kqX10_laysTimes_1 14 rfl) rfl
theorem dX10_laysTimes_47 : decode cX10_laysTimes 47 = .ok (.goto 41, 3) := oq_167 (bq_in kqX10_laysTimes_1 15 rfl) (bq_in kqX10_laysTimes_1 16 rfl) (bq_in kqX10_laysTimes_1 17 rfl) rfl
theorem dX10_laysTimes_50 : decode cX10_laysTimes 50 = .ok (.aload_n 0, 1) := oq_42 (bq_in kqX10_laysTimes_1 18 rfl)
theorem dX10_laysTimes_51 : decode cX10_laysTimes 51 = .ok (.getfield 39, 3) := oq_180 (bq_in kqX10_laysTimes_1 19 rfl) (bq_in kqX10_laysTimes_1 20 rfl) (bq_in kqX10_laysTimes_1 21 rfl) rfl
theorem dX10_laysTimes_54 : decode cX10_laysTimes 54 = .ok (.iload 4, 2) := oq_21 (bq_in kqX10_laysTimes_1 22 rfl) (bq_in kqX10_laysTimes_1 23 rfl)
theorem dX10_laysTimes_56 : decode cX10_laysTimes 56 = .ok (.iload 5, 2) := oq_21 (bq_in kqX10_laysTimes_1 24 rfl) (bq_in kqX10_laysTimes_1 25 rfl)
theorem dX10_laysTimes_58 : decode cX10_laysTimes 58 = .ok (.iadd, 1) := oq_96 (bq_in kqX10_laysTimes_1 26 rfl)
theorem dX10_laysTimes_59 : decode cX10_laysTimes 59 = .ok (.iload 7, 2) := oq_21 (bq_in kqX10_laysTimes_1 27 rfl) (bq_in kqX10_laysTimes_1 28 rfl)
theorem dX10_laysTimes_61 : decode cX10_laysTimes 61 = .ok (.iastore, 1) := oq_79 (bq_in kqX10_laysTimes_1 29 rfl)
theorem dX10_laysTimes_62 : decode cX10_laysTimes 62 = .ok (.aload_n 0, 1) := oq_42 (bq_in kqX10_laysTimes_1 30 rfl)
theorem dX10_laysTimes_63 : decode cX10_laysTimes 63 = .ok (.getfield 36, 3) := oq_180 (bq_in kqX10_laysTimes_1 31 rfl) (bq_in kqX10_laysTimes_1 32 rfl) (bq_in kqX10_laysTimes_1 33 rfl) rfl
theorem kqX10_laysTimes_2 : ((cX10_laysTimes.data.toList.drop 64).take 34).map UInt8.toNat = [0, 36, 21, 4, 21, 5, 96, 17, 5, 160, 21, 7, 104, 42, 27, 4, 182, 0, 229, 96, 79, 132, 5, 1, 132, 6, 1, 167, 255, 184, 3, 54, 6, 21] := by decide +kernel
theorem dX10_laysTimes_66 : decode cX10_laysTimes 66 = .ok (.iload 4, 2) := oq_21 (bq_in kqX10_laysTimes_2 2 rfl) (bq_in kqX10_laysTimes_2 3 rfl)
theorem dX10_laysTimes_68 : decode cX10_laysTimes 68 = .ok (.iload 5, 2) := oq_21 (bq_in kqX10_laysTimes_2 4 rfl) (bq_in kqX10_laysTimes_2 5 rfl)
theorem dX10_laysTimes_70 : decode cX10_laysTimes 70 = .ok (.iadd, 1) := oq_96 (bq_in kqX10_laysTimes_2 6 rfl)
theorem dX10_laysTimes_71 : decode cX10_laysTimes 71 = .ok (.sipush 1440, 3) := oq_17 (bq_in kqX10_laysTimes_2 7 rfl) (bq_in kqX10_laysTimes_2 8 rfl) (bq_in kqX10_laysTimes_2 9 rfl) rfl
theorem dX10_laysTimes_74 : decode cX10_laysTimes 74 = .ok (.iload 7, 2) := oq_21 (bq_in kqX10_laysTimes_2 10 rfl) (bq_in kqX10_laysTimes_2 11 rfl)
theorem dX10_laysTimes_76 : decode cX10_laysTimes 76 = .ok (.imul, 1) := oq_104 (bq_in kqX10_laysTimes_2 12 rfl)
theorem dX10_laysTimes_77 : decode cX10_laysTimes 77 = .ok (.aload_n 0, 1) := oq_42 (bq_in kqX10_laysTimes_2 13 rfl)
theorem dX10_laysTimes_78 : decode cX10_laysTimes 78 = .ok (.iload_n 1, 1) := oq_27 (bq_in kqX10_laysTimes_2 14 rfl)
theorem dX10_laysTimes_79 : decode cX10_laysTimes 79 = .ok (.iconst 1, 1) := oq_4 (bq_in kqX10_laysTimes_2 15 rfl)
theorem dX10_laysTimes_80 : decode cX10_laysTimes 80 = .ok (.invokevirtual 229, 3) := oq_182 (bq_in kqX10_laysTimes_2 16 rfl) (bq_in kqX10_laysTimes_2 17 rfl) (bq_in kqX10_laysTimes_2 18 rfl) rfl
theorem dX10_laysTimes_83 : decode cX10_laysTimes 83 = .ok (.iadd, 1) := oq_96 (bq_in kqX10_laysTimes_2 19 rfl)
theorem dX10_laysTimes_84 : decode cX10_laysTimes 84 = .ok (.iastore, 1) := oq_79 (bq_in kqX10_laysTimes_2 20 rfl)
theorem dX10_laysTimes_85 : decode cX10_laysTimes 85 = .ok (.iinc 5 1, 3) := oq_132 (bq_in kqX10_laysTimes_2 21 rfl) (bq_in kqX10_laysTimes_2 22 rfl) (bq_in kqX10_laysTimes_2 23 rfl) rfl
theorem dX10_laysTimes_88 : decode cX10_laysTimes 88 = .ok (.iinc 6 1, 3) := oq_132 (bq_in kqX10_laysTimes_2 24 rfl) (bq_in kqX10_laysTimes_2 25 rfl) (bq_in kqX10_laysTimes_2 26 rfl) rfl
theorem dX10_laysTimes_91 : decode cX10_laysTimes 91 = .ok (.goto (-72), 3) := oq_167 (bq_in kqX10_laysTimes_2 27 rfl) (bq_in kqX10_laysTimes_2 28 rfl) (bq_in kqX10_laysTimes_2 29 rfl) rfl
theorem dX10_laysTimes_94 : decode cX10_laysTimes 94 = .ok (.iconst 0, 1) := oq_3 (bq_in kqX10_laysTimes_2 30 rfl)
theorem dX10_laysTimes_95 : decode cX10_laysTimes 95 = .ok (.istore 6, 2) := oq_54 (bq_in kqX10_laysTimes_2 31 rfl) (bq_in kqX10_laysTimes_2 32 rfl)
theorem kqX10_laysTimes_3 : ((cX10_laysTimes.data.toList.drop 96).take 34).map UInt8.toNat = [6, 21, 6, 42, 27, 16, 11, 182, 0, 229, 162, 0, 184, 42, 27, 16, 12, 5, 21, 6, 104, 96, 4, 96, 182, 0, 229, 54, 7, 42, 27, 16, 12, 5] := by decide +kernel
theorem dX10_laysTimes_97 : decode cX10_laysTimes 97 = .ok (.iload 6, 2) := oq_21 (bq_in kqX10_laysTimes_3 1 rfl) (bq_in kqX10_laysTimes_3 2 rfl)
theorem dX10_laysTimes_99 : decode cX10_laysTimes 99 = .ok (.aload_n 0, 1) := oq_42 (bq_in kqX10_laysTimes_3 3 rfl)
theorem dX10_laysTimes_100 : decode cX10_laysTimes 100 = .ok (.iload_n 1, 1) := oq_27 (bq_in kqX10_laysTimes_3 4 rfl)
theorem dX10_laysTimes_101 : decode cX10_laysTimes 101 = .ok (.bipush 11, 2) := oq_16 (bq_in kqX10_laysTimes_3 5 rfl) (bq_in kqX10_laysTimes_3 6 rfl) rfl
theorem dX10_laysTimes_103 : decode cX10_laysTimes 103 = .ok (.invokevirtual 229, 3) := oq_182 (bq_in kqX10_laysTimes_3 7 rfl) (bq_in kqX10_laysTimes_3 8 rfl) (bq_in kqX10_laysTimes_3 9 rfl) rfl
theorem dX10_laysTimes_106 : decode cX10_laysTimes 106 = .ok (.if_icmp .ge 184, 3) := oq_162 (bq_in kqX10_laysTimes_3 10 rfl) (bq_in kqX10_laysTimes_3 11 rfl) (bq_in kqX10_laysTimes_3 12 rfl) rfl
theorem dX10_laysTimes_109 : decode cX10_laysTimes 109 = .ok (.aload_n 0, 1) := oq_42 (bq_in kqX10_laysTimes_3 13 rfl)
theorem dX10_laysTimes_110 : decode cX10_laysTimes 110 = .ok (.iload_n 1, 1) := oq_27 (bq_in kqX10_laysTimes_3 14 rfl)
theorem dX10_laysTimes_111 : decode cX10_laysTimes 111 = .ok (.bipush 12, 2) := oq_16 (bq_in kqX10_laysTimes_3 15 rfl) (bq_in kqX10_laysTimes_3 16 rfl) rfl
theorem dX10_laysTimes_113 : decode cX10_laysTimes 113 = .ok (.iconst 2, 1) := oq_5 (bq_in kqX10_laysTimes_3 17 rfl)
theorem dX10_laysTimes_114 : decode cX10_laysTimes 114 = .ok (.iload 6, 2) := oq_21 (bq_in kqX10_laysTimes_3 18 rfl) (bq_in kqX10_laysTimes_3 19 rfl)
theorem dX10_laysTimes_116 : decode cX10_laysTimes 116 = .ok (.imul, 1) := oq_104 (bq_in kqX10_laysTimes_3 20 rfl)
theorem dX10_laysTimes_117 : decode cX10_laysTimes 117 = .ok (.iadd, 1) := oq_96 (bq_in kqX10_laysTimes_3 21 rfl)
theorem dX10_laysTimes_118 : decode cX10_laysTimes 118 = .ok (.iconst 1, 1) := oq_4 (bq_in kqX10_laysTimes_3 22 rfl)
theorem dX10_laysTimes_119 : decode cX10_laysTimes 119 = .ok (.iadd, 1) := oq_96 (bq_in kqX10_laysTimes_3 23 rfl)
theorem dX10_laysTimes_120 : decode cX10_laysTimes 120 = .ok (.invokevirtual 229, 3) := oq_182 (bq_in kqX10_laysTimes_3 24 rfl) (bq_in kqX10_laysTimes_3 25 rfl) (bq_in kqX10_laysTimes_3 26 rfl) rfl
theorem dX10_laysTimes_123 : decode cX10_laysTimes 123 = .ok (.istore 7, 2) := oq_54 (bq_in kqX10_laysTimes_3 27 rfl) (bq_in kqX10_laysTimes_3 28 rfl)
theorem dX10_laysTimes_125 : decode cX10_laysTimes 125 = .ok (.aload_n 0, 1) := oq_42 (bq_in kqX10_laysTimes_3 29 rfl)
theorem dX10_laysTimes_126 : decode cX10_laysTimes 126 = .ok (.iload_n 1, 1) := oq_27 (bq_in kqX10_laysTimes_3 30 rfl)
theorem dX10_laysTimes_127 : decode cX10_laysTimes 127 = .ok (.bipush 12, 2) := oq_16 (bq_in kqX10_laysTimes_3 31 rfl) (bq_in kqX10_laysTimes_3 32 rfl) rfl
theorem kqX10_laysTimes_4 : ((cX10_laysTimes.data.toList.drop 128).take 34).map UInt8.toNat = [12, 5, 21, 6, 104, 96, 182, 0, 229, 54, 8, 21, 7, 156, 0, 6, 167, 0, 140, 21, 5, 54, 9, 21, 9, 158, 0, 104, 42, 180, 0, 36, 21, 4] := by decide +kernel
theorem dX10_laysTimes_129 : decode cX10_laysTimes 129 = .ok (.iconst 2, 1) := oq_5 (bq_in kqX10_laysTimes_4 1 rfl)
theorem dX10_laysTimes_130 : decode cX10_laysTimes 130 = .ok (.iload 6, 2) := oq_21 (bq_in kqX10_laysTimes_4 2 rfl) (bq_in kqX10_laysTimes_4 3 rfl)
theorem dX10_laysTimes_132 : decode cX10_laysTimes 132 = .ok (.imul, 1) := oq_104 (bq_in kqX10_laysTimes_4 4 rfl)
theorem dX10_laysTimes_133 : decode cX10_laysTimes 133 = .ok (.iadd, 1) := oq_96 (bq_in kqX10_laysTimes_4 5 rfl)
theorem dX10_laysTimes_134 : decode cX10_laysTimes 134 = .ok (.invokevirtual 229, 3) := oq_182 (bq_in kqX10_laysTimes_4 6 rfl) (bq_in kqX10_laysTimes_4 7 rfl) (bq_in kqX10_laysTimes_4 8 rfl) rfl
theorem dX10_laysTimes_137 : decode cX10_laysTimes 137 = .ok (.istore 8, 2) := oq_54 (bq_in kqX10_laysTimes_4 9 rfl) (bq_in kqX10_laysTimes_4 10 rfl)
theorem dX10_laysTimes_139 : decode cX10_laysTimes 139 = .ok (.iload 7, 2) := oq_21 (bq_in kqX10_laysTimes_4 11 rfl) (bq_in kqX10_laysTimes_4 12 rfl)
theorem dX10_laysTimes_141 : decode cX10_laysTimes 141 = .ok (.ifCond .ge 6, 3) := oq_156 (bq_in kqX10_laysTimes_4 13 rfl) (bq_in kqX10_laysTimes_4 14 rfl) (bq_in kqX10_laysTimes_4 15 rfl) rfl
theorem dX10_laysTimes_144 : decode cX10_laysTimes 144 = .ok (.goto 140, 3) := oq_167 (bq_in kqX10_laysTimes_4 16 rfl) (bq_in kqX10_laysTimes_4 17 rfl) (bq_in kqX10_laysTimes_4 18 rfl) rfl
theorem dX10_laysTimes_147 : decode cX10_laysTimes 147 = .ok (.iload 5, 2) := oq_21 (bq_in kqX10_laysTimes_4 19 rfl) (bq_in kqX10_laysTimes_4 20 rfl)
theorem dX10_laysTimes_149 : decode cX10_laysTimes 149 = .ok (.istore 9, 2) := oq_54 (bq_in kqX10_laysTimes_4 21 rfl) (bq_in kqX10_laysTimes_4 22 rfl)
theorem dX10_laysTimes_151 : decode cX10_laysTimes 151 = .ok (.iload 9, 2) := oq_21 (bq_in kqX10_laysTimes_4 23 rfl) (bq_in kqX10_laysTimes_4 24 rfl)
theorem dX10_laysTimes_153 : decode cX10_laysTimes 153 = .ok (.ifCond .le 104, 3) := oq_158 (bq_in kqX10_laysTimes_4 25 rfl) (bq_in kqX10_laysTimes_4 26 rfl) (bq_in kqX10_laysTimes_4 27 rfl) rfl
theorem dX10_laysTimes_156 : decode cX10_laysTimes 156 = .ok (.aload_n 0, 1) := oq_42 (bq_in kqX10_laysTimes_4 28 rfl)
theorem dX10_laysTimes_157 : decode cX10_laysTimes 157 = .ok (.getfield 36, 3) := oq_180 (bq_in kqX10_laysTimes_4 29 rfl) (bq_in kqX10_laysTimes_4 30 rfl) (bq_in kqX10_laysTimes_4 31 rfl) rfl
theorem kqX10_laysTimes_5 : ((cX10_laysTimes.data.toList.drop 160).take 34).map UInt8.toNat = [21, 4, 21, 9, 96, 4, 100, 46, 21, 7, 163, 0, 37, 42, 180, 0, 36, 21, 4, 21, 9, 96, 4, 100, 46, 21, 7, 160, 0, 70, 42, 180, 0, 39] := by decide +kernel
theorem dX10_laysTimes_160 : decode cX10_laysTimes 160 = .ok (.iload 4, 2) := oq_21 (bq_in kqX10_laysTimes_5 0 rfl) (bq_in kqX10_laysTimes_5 1 rfl)
theorem dX10_laysTimes_162 : decode cX10_laysTimes 162 = .ok (.iload 9, 2) := oq_21 (bq_in kqX10_laysTimes_5 2 rfl) (bq_in kqX10_laysTimes_5 3 rfl)
theorem dX10_laysTimes_164 : decode cX10_laysTimes 164 = .ok (.iadd, 1) := oq_96 (bq_in kqX10_laysTimes_5 4 rfl)
theorem dX10_laysTimes_165 : decode cX10_laysTimes 165 = .ok (.iconst 1, 1) := oq_4 (bq_in kqX10_laysTimes_5 5 rfl)
theorem dX10_laysTimes_166 : decode cX10_laysTimes 166 = .ok (.isub, 1) := oq_100 (bq_in kqX10_laysTimes_5 6 rfl)
theorem dX10_laysTimes_167 : decode cX10_laysTimes 167 = .ok (.iaload, 1) := oq_46 (bq_in kqX10_laysTimes_5 7 rfl)
theorem dX10_laysTimes_168 : decode cX10_laysTimes 168 = .ok (.iload 7, 2) := oq_21 (bq_in kqX10_laysTimes_5 8 rfl) (bq_in kqX10_laysTimes_5 9 rfl)
theorem dX10_laysTimes_170 : decode cX10_laysTimes 170 = .ok (.if_icmp .gt 37, 3) := oq_163 (bq_in kqX10_laysTimes_5 10 rfl) (bq_in kqX10_laysTimes_5 11 rfl) (bq_in kqX10_laysTimes_5 12 rfl) rfl
theorem dX10_laysTimes_173 : decode cX10_laysTimes 173 = .ok (.aload_n 0, 1) := oq_42 (bq_in kqX10_laysTimes_5 13 rfl)
theorem dX10_laysTimes_174 : decode cX10_laysTimes 174 = .ok (.getfield 36, 3) := oq_180 (bq_in kqX10_laysTimes_5 14 rfl) (bq_in kqX10_laysTimes_5 15 rfl) (bq_in kqX10_laysTimes_5 16 rfl) rfl
theorem dX10_laysTimes_177 : decode cX10_laysTimes 177 = .ok (.iload 4, 2) := oq_21 (bq_in kqX10_laysTimes_5 17 rfl) (bq_in kqX10_laysTimes_5 18 rfl)
theorem dX10_laysTimes_179 : decode cX10_laysTimes 179 = .ok (.iload 9, 2) := oq_21 (bq_in kqX10_laysTimes_5 19 rfl) (bq_in kqX10_laysTimes_5 20 rfl)
theorem dX10_laysTimes_181 : decode cX10_laysTimes 181 = .ok (.iadd, 1) := oq_96 (bq_in kqX10_laysTimes_5 21 rfl)
theorem dX10_laysTimes_182 : decode cX10_laysTimes 182 = .ok (.iconst 1, 1) := oq_4 (bq_in kqX10_laysTimes_5 22 rfl)
theorem dX10_laysTimes_183 : decode cX10_laysTimes 183 = .ok (.isub, 1) := oq_100 (bq_in kqX10_laysTimes_5 23 rfl)
theorem dX10_laysTimes_184 : decode cX10_laysTimes 184 = .ok (.iaload, 1) := oq_46 (bq_in kqX10_laysTimes_5 24 rfl)
theorem dX10_laysTimes_185 : decode cX10_laysTimes 185 = .ok (.iload 7, 2) := oq_21 (bq_in kqX10_laysTimes_5 25 rfl) (bq_in kqX10_laysTimes_5 26 rfl)
theorem dX10_laysTimes_187 : decode cX10_laysTimes 187 = .ok (.if_icmp .ne 70, 3) := oq_160 (bq_in kqX10_laysTimes_5 27 rfl) (bq_in kqX10_laysTimes_5 28 rfl) (bq_in kqX10_laysTimes_5 29 rfl) rfl
theorem dX10_laysTimes_190 : decode cX10_laysTimes 190 = .ok (.aload_n 0, 1) := oq_42 (bq_in kqX10_laysTimes_5 30 rfl)
theorem dX10_laysTimes_191 : decode cX10_laysTimes 191 = .ok (.getfield 39, 3) := oq_180 (bq_in kqX10_laysTimes_5 31 rfl) (bq_in kqX10_laysTimes_5 32 rfl) (bq_in kqX10_laysTimes_5 33 rfl) rfl
theorem kqX10_laysTimes_6 : ((cX10_laysTimes.data.toList.drop 192).take 34).map UInt8.toNat = [0, 39, 21, 4, 21, 9, 96, 4, 100, 46, 21, 8, 164, 0, 53, 42, 180, 0, 36, 21, 4, 21, 9, 96, 42, 180, 0, 36, 21, 4, 21, 9, 96, 4] := by decide +kernel
theorem dX10_laysTimes_194 : decode cX10_laysTimes 194 = .ok (.iload 4, 2) := oq_21 (bq_in kqX10_laysTimes_6 2 rfl) (bq_in kqX10_laysTimes_6 3 rfl)
theorem dX10_laysTimes_196 : decode cX10_laysTimes 196 = .ok (.iload 9, 2) := oq_21 (bq_in kqX10_laysTimes_6 4 rfl) (bq_in kqX10_laysTimes_6 5 rfl)
theorem dX10_laysTimes_198 : decode cX10_laysTimes 198 = .ok (.iadd, 1) := oq_96 (bq_in kqX10_laysTimes_6 6 rfl)
theorem dX10_laysTimes_199 : decode cX10_laysTimes 199 = .ok (.iconst 1, 1) := oq_4 (bq_in kqX10_laysTimes_6 7 rfl)
theorem dX10_laysTimes_200 : decode cX10_laysTimes 200 = .ok (.isub, 1) := oq_100 (bq_in kqX10_laysTimes_6 8 rfl)
theorem dX10_laysTimes_201 : decode cX10_laysTimes 201 = .ok (.iaload, 1) := oq_46 (bq_in kqX10_laysTimes_6 9 rfl)
theorem dX10_laysTimes_202 : decode cX10_laysTimes 202 = .ok (.iload 8, 2) := oq_21 (bq_in kqX10_laysTimes_6 10 rfl) (bq_in kqX10_laysTimes_6 11 rfl)
theorem dX10_laysTimes_204 : decode cX10_laysTimes 204 = .ok (.if_icmp .le 53, 3) := oq_164 (bq_in kqX10_laysTimes_6 12 rfl) (bq_in kqX10_laysTimes_6 13 rfl) (bq_in kqX10_laysTimes_6 14 rfl) rfl
theorem dX10_laysTimes_207 : decode cX10_laysTimes 207 = .ok (.aload_n 0, 1) := oq_42 (bq_in kqX10_laysTimes_6 15 rfl)
theorem dX10_laysTimes_208 : decode cX10_laysTimes 208 = .ok (.getfield 36, 3) := oq_180 (bq_in kqX10_laysTimes_6 16 rfl) (bq_in kqX10_laysTimes_6 17 rfl) (bq_in kqX10_laysTimes_6 18 rfl) rfl
theorem dX10_laysTimes_211 : decode cX10_laysTimes 211 = .ok (.iload 4, 2) := oq_21 (bq_in kqX10_laysTimes_6 19 rfl) (bq_in kqX10_laysTimes_6 20 rfl)
theorem dX10_laysTimes_213 : decode cX10_laysTimes 213 = .ok (.iload 9, 2) := oq_21 (bq_in kqX10_laysTimes_6 21 rfl) (bq_in kqX10_laysTimes_6 22 rfl)
theorem dX10_laysTimes_215 : decode cX10_laysTimes 215 = .ok (.iadd, 1) := oq_96 (bq_in kqX10_laysTimes_6 23 rfl)
theorem dX10_laysTimes_216 : decode cX10_laysTimes 216 = .ok (.aload_n 0, 1) := oq_42 (bq_in kqX10_laysTimes_6 24 rfl)
theorem dX10_laysTimes_217 : decode cX10_laysTimes 217 = .ok (.getfield 36, 3) := oq_180 (bq_in kqX10_laysTimes_6 25 rfl) (bq_in kqX10_laysTimes_6 26 rfl) (bq_in kqX10_laysTimes_6 27 rfl) rfl
theorem dX10_laysTimes_220 : decode cX10_laysTimes 220 = .ok (.iload 4, 2) := oq_21 (bq_in kqX10_laysTimes_6 28 rfl) (bq_in kqX10_laysTimes_6 29 rfl)
theorem dX10_laysTimes_222 : decode cX10_laysTimes 222 = .ok (.iload 9, 2) := oq_21 (bq_in kqX10_laysTimes_6 30 rfl) (bq_in kqX10_laysTimes_6 31 rfl)
theorem kqX10_laysTimes_7 : ((cX10_laysTimes.data.toList.drop 224).take 34).map UInt8.toNat = [96, 4, 100, 46, 79, 42, 180, 0, 39, 21, 4, 21, 9, 96, 42, 180, 0, 39, 21, 4, 21, 9, 96, 4, 100, 46, 79, 132, 9, 255, 167, 255, 153, 42] := by decide +kernel
theorem dX10_laysTimes_224 : decode cX10_laysTimes 224 = .ok (.iadd, 1) := oq_96 (bq_in kqX10_laysTimes_7 0 rfl)
theorem dX10_laysTimes_225 : decode cX10_laysTimes 225 = .ok (.iconst 1, 1) := oq_4 (bq_in kqX10_laysTimes_7 1 rfl)
theorem dX10_laysTimes_226 : decode cX10_laysTimes 226 = .ok (.isub, 1) := oq_100 (bq_in kqX10_laysTimes_7 2 rfl)
theorem dX10_laysTimes_227 : decode cX10_laysTimes 227 = .ok (.iaload, 1) := oq_46 (bq_in kqX10_laysTimes_7 3 rfl)
theorem dX10_laysTimes_228 : decode cX10_laysTimes 228 = .ok (.iastore, 1) := oq_79 (bq_in kqX10_laysTimes_7 4 rfl)
theorem dX10_laysTimes_229 : decode cX10_laysTimes 229 = .ok (.aload_n 0, 1) := oq_42 (bq_in kqX10_laysTimes_7 5 rfl)
theorem dX10_laysTimes_230 : decode cX10_laysTimes 230 = .ok (.getfield 39, 3) := oq_180 (bq_in kqX10_laysTimes_7 6 rfl) (bq_in kqX10_laysTimes_7 7 rfl) (bq_in kqX10_laysTimes_7 8 rfl) rfl
theorem dX10_laysTimes_233 : decode cX10_laysTimes 233 = .ok (.iload 4, 2) := oq_21 (bq_in kqX10_laysTimes_7 9 rfl) (bq_in kqX10_laysTimes_7 10 rfl)
theorem dX10_laysTimes_235 : decode cX10_laysTimes 235 = .ok (.iload 9, 2) := oq_21 (bq_in kqX10_laysTimes_7 11 rfl) (bq_in kqX10_laysTimes_7 12 rfl)
theorem dX10_laysTimes_237 : decode cX10_laysTimes 237 = .ok (.iadd, 1) := oq_96 (bq_in kqX10_laysTimes_7 13 rfl)
theorem dX10_laysTimes_238 : decode cX10_laysTimes 238 = .ok (.aload_n 0, 1) := oq_42 (bq_in kqX10_laysTimes_7 14 rfl)
theorem dX10_laysTimes_239 : decode cX10_laysTimes 239 = .ok (.getfield 39, 3) := oq_180 (bq_in kqX10_laysTimes_7 15 rfl) (bq_in kqX10_laysTimes_7 16 rfl) (bq_in kqX10_laysTimes_7 17 rfl) rfl
theorem dX10_laysTimes_242 : decode cX10_laysTimes 242 = .ok (.iload 4, 2) := oq_21 (bq_in kqX10_laysTimes_7 18 rfl) (bq_in kqX10_laysTimes_7 19 rfl)
theorem dX10_laysTimes_244 : decode cX10_laysTimes 244 = .ok (.iload 9, 2) := oq_21 (bq_in kqX10_laysTimes_7 20 rfl) (bq_in kqX10_laysTimes_7 21 rfl)
theorem dX10_laysTimes_246 : decode cX10_laysTimes 246 = .ok (.iadd, 1) := oq_96 (bq_in kqX10_laysTimes_7 22 rfl)
theorem dX10_laysTimes_247 : decode cX10_laysTimes 247 = .ok (.iconst 1, 1) := oq_4 (bq_in kqX10_laysTimes_7 23 rfl)
theorem dX10_laysTimes_248 : decode cX10_laysTimes 248 = .ok (.isub, 1) := oq_100 (bq_in kqX10_laysTimes_7 24 rfl)
theorem dX10_laysTimes_249 : decode cX10_laysTimes 249 = .ok (.iaload, 1) := oq_46 (bq_in kqX10_laysTimes_7 25 rfl)
theorem dX10_laysTimes_250 : decode cX10_laysTimes 250 = .ok (.iastore, 1) := oq_79 (bq_in kqX10_laysTimes_7 26 rfl)
theorem dX10_laysTimes_251 : decode cX10_laysTimes 251 = .ok (.iinc 9 (-1), 3) := oq_132 (bq_in kqX10_laysTimes_7 27 rfl) (bq_in kqX10_laysTimes_7 28 rfl) (bq_in kqX10_laysTimes_7 29 rfl) rfl
theorem dX10_laysTimes_254 : decode cX10_laysTimes 254 = .ok (.goto (-103), 3) := oq_167 (bq_in kqX10_laysTimes_7 30 rfl) (bq_in kqX10_laysTimes_7 31 rfl) (bq_in kqX10_laysTimes_7 32 rfl) rfl
theorem kqX10_laysTimes_8 : ((cX10_laysTimes.data.toList.drop 256).take 34).map UInt8.toNat = [153, 42, 180, 0, 36, 21, 4, 21, 9, 96, 21, 7, 79, 42, 180, 0, 39, 21, 4, 21, 9, 96, 21, 8, 79, 132, 5, 1, 132, 6, 1, 167, 255, 66] := by decide +kernel
theorem dX10_laysTimes_257 : decode cX10_laysTimes 257 = .ok (.aload_n 0, 1) := oq_42 (bq_in kqX10_laysTimes_8 1 rfl)
theorem dX10_laysTimes_258 : decode cX10_laysTimes 258 = .ok (.getfield 36, 3) := oq_180 (bq_in kqX10_laysTimes_8 2 rfl) (bq_in kqX10_laysTimes_8 3 rfl) (bq_in kqX10_laysTimes_8 4 rfl) rfl
theorem dX10_laysTimes_261 : decode cX10_laysTimes 261 = .ok (.iload 4, 2) := oq_21 (bq_in kqX10_laysTimes_8 5 rfl) (bq_in kqX10_laysTimes_8 6 rfl)
theorem dX10_laysTimes_263 : decode cX10_laysTimes 263 = .ok (.iload 9, 2) := oq_21 (bq_in kqX10_laysTimes_8 7 rfl) (bq_in kqX10_laysTimes_8 8 rfl)
theorem dX10_laysTimes_265 : decode cX10_laysTimes 265 = .ok (.iadd, 1) := oq_96 (bq_in kqX10_laysTimes_8 9 rfl)
theorem dX10_laysTimes_266 : decode cX10_laysTimes 266 = .ok (.iload 7, 2) := oq_21 (bq_in kqX10_laysTimes_8 10 rfl) (bq_in kqX10_laysTimes_8 11 rfl)
theorem dX10_laysTimes_268 : decode cX10_laysTimes 268 = .ok (.iastore, 1) := oq_79 (bq_in kqX10_laysTimes_8 12 rfl)
theorem dX10_laysTimes_269 : decode cX10_laysTimes 269 = .ok (.aload_n 0, 1) := oq_42 (bq_in kqX10_laysTimes_8 13 rfl)
theorem dX10_laysTimes_270 : decode cX10_laysTimes 270 = .ok (.getfield 39, 3) := oq_180 (bq_in kqX10_laysTimes_8 14 rfl) (bq_in kqX10_laysTimes_8 15 rfl) (bq_in kqX10_laysTimes_8 16 rfl) rfl
theorem dX10_laysTimes_273 : decode cX10_laysTimes 273 = .ok (.iload 4, 2) := oq_21 (bq_in kqX10_laysTimes_8 17 rfl) (bq_in kqX10_laysTimes_8 18 rfl)
theorem dX10_laysTimes_275 : decode cX10_laysTimes 275 = .ok (.iload 9, 2) := oq_21 (bq_in kqX10_laysTimes_8 19 rfl) (bq_in kqX10_laysTimes_8 20 rfl)
theorem dX10_laysTimes_277 : decode cX10_laysTimes 277 = .ok (.iadd, 1) := oq_96 (bq_in kqX10_laysTimes_8 21 rfl)
theorem dX10_laysTimes_278 : decode cX10_laysTimes 278 = .ok (.iload 8, 2) := oq_21 (bq_in kqX10_laysTimes_8 22 rfl) (bq_in kqX10_laysTimes_8 23 rfl)
theorem dX10_laysTimes_280 : decode cX10_laysTimes 280 = .ok (.iastore, 1) := oq_79 (bq_in kqX10_laysTimes_8 24 rfl)
theorem dX10_laysTimes_281 : decode cX10_laysTimes 281 = .ok (.iinc 5 1, 3) := oq_132 (bq_in kqX10_laysTimes_8 25 rfl) (bq_in kqX10_laysTimes_8 26 rfl) (bq_in kqX10_laysTimes_8 27 rfl) rfl
theorem dX10_laysTimes_284 : decode cX10_laysTimes 284 = .ok (.iinc 6 1, 3) := oq_132 (bq_in kqX10_laysTimes_8 28 rfl) (bq_in kqX10_laysTimes_8 29 rfl) (bq_in kqX10_laysTimes_8 30 rfl) rfl
theorem dX10_laysTimes_287 : decode cX10_laysTimes 287 = .ok (.goto (-190), 3) := oq_167 (bq_in kqX10_laysTimes_8 31 rfl) (bq_in kqX10_laysTimes_8 32 rfl) (bq_in kqX10_laysTimes_8 33 rfl) rfl
theorem kqX10_laysTimes_9 : ((cX10_laysTimes.data.toList.drop 288).take 34).map UInt8.toNat = [255, 66, 42, 180, 0, 42, 28, 21, 5, 79, 177] := by decide +kernel
theorem dX10_laysTimes_290 : decode cX10_laysTimes 290 = .ok (.aload_n 0, 1) := oq_42 (bq_in kqX10_laysTimes_9 2 rfl)
theorem dX10_laysTimes_291 : decode cX10_laysTimes 291 = .ok (.getfield 42, 3) := oq_180 (bq_in kqX10_laysTimes_9 3 rfl) (bq_in kqX10_laysTimes_9 4 rfl) (bq_in kqX10_laysTimes_9 5 rfl) rfl
theorem dX10_laysTimes_294 : decode cX10_laysTimes 294 = .ok (.iload_n 2, 1) := oq_28 (bq_in kqX10_laysTimes_9 6 rfl)
theorem dX10_laysTimes_295 : decode cX10_laysTimes 295 = .ok (.iload 5, 2) := oq_21 (bq_in kqX10_laysTimes_9 7 rfl) (bq_in kqX10_laysTimes_9 8 rfl)
theorem dX10_laysTimes_297 : decode cX10_laysTimes 297 = .ok (.iastore, 1) := oq_79 (bq_in kqX10_laysTimes_9 9 rfl)
theorem dX10_laysTimes_298 : decode cX10_laysTimes 298 = .ok (.return_, 1) := oq_177 (bq_in kqX10_laysTimes_9 10 rfl)
theorem kqX10_isKey_0 : ((cX10_isKey.data.toList.drop 0).take 34).map UInt8.toNat = [42, 27, 182, 0, 220, 153, 0, 10, 28, 184, 0, 223, 154, 0, 5, 3, 172, 42, 27, 3, 182, 0, 236, 62, 3, 54, 4, 21, 4, 29, 162, 0, 22, 42] := by decide +kernel
theorem dX10_isKey_0 : decode cX10_isKey 0 = .ok (.aload_n 0, 1) := oq_42 (bq_in kqX10_isKey_0 0 rfl)
theorem dX10_isKey_1 : decode cX10_isKey 1 = .ok (.iload_n 1, 1) := oq_27 (bq_in kqX10_isKey_0 1 rfl)
theorem dX10_isKey_2 : decode cX10_isKey 2 = .ok (.invokevirtual 220, 3) := oq_182 (bq_in kqX10_isKey_0 2 rfl) (bq_in kqX10_isKey_0 3 rfl) (bq_in kqX10_isKey_0 4 rfl) rfl
theorem dX10_isKey_5 : decode cX10_isKey 5 = .ok (.ifCond .eq 10, 3) := oq_153 (bq_in kqX10_isKey_0 5 rfl) (bq_in kqX10_isKey_0 6 rfl) (bq_in kqX10_isKey_0 7 rfl) rfl
theorem dX10_isKey_8 : decode cX10_isKey 8 = .ok (.iload_n 2, 1) := oq_28 (bq_in kqX10_isKey_0 8 rfl)
theorem dX10_isKey_9 : decode cX10_isKey 9 = .ok (.invokestatic 223, 3) := oq_184 (bq_in kqX10_isKey_0 9 rfl) (bq_in kqX10_isKey_0 10 rfl) (bq_in kqX10_isKey_0 11 rfl) rfl
theorem dX10_isKey_12 : decode cX10_isKey 12 = .ok (.ifCond .ne 5, 3) := oq_154 (bq_in kqX10_isKey_0 12 rfl) (bq_in kqX10_isKey_0 13 rfl) (bq_in kqX10_isKey_0 14 rfl) rfl
theorem dX10_isKey_15 : decode cX10_isKey 15 = .ok (.iconst 0, 1) := oq_3 (bq_in kqX10_isKey_0 15 rfl)
theorem dX10_isKey_16 : decode cX10_isKey 16 = .ok (.ireturn, 1) := oq_172 (bq_in kqX10_isKey_0 16 rfl)
theorem dX10_isKey_17 : decode cX10_isKey 17 = .ok (.aload_n 0, 1) := oq_42 (bq_in kqX10_isKey_0 17 rfl)
theorem dX10_isKey_18 : decode cX10_isKey 18 = .ok (.iload_n 1, 1) := oq_27 (bq_in kqX10_isKey_0 18 rfl)
theorem dX10_isKey_19 : decode cX10_isKey 19 = .ok (.iconst 0, 1) := oq_3 (bq_in kqX10_isKey_0 19 rfl)
theorem dX10_isKey_20 : decode cX10_isKey 20 = .ok (.invokevirtual 236, 3) := oq_182 (bq_in kqX10_isKey_0 20 rfl) (bq_in kqX10_isKey_0 21 rfl) (bq_in kqX10_isKey_0 22 rfl) rfl
theorem dX10_isKey_23 : decode cX10_isKey 23 = .ok (.istore_n 3, 1) := oq_62 (bq_in kqX10_isKey_0 23 rfl)
theorem dX10_isKey_24 : decode cX10_isKey 24 = .ok (.iconst 0, 1) := oq_3 (bq_in kqX10_isKey_0 24 rfl)
theorem dX10_isKey_25 : decode cX10_isKey 25 = .ok (.istore 4, 2) := oq_54 (bq_in kqX10_isKey_0 25 rfl) (bq_in kqX10_isKey_0 26 rfl)
theorem dX10_isKey_27 : decode cX10_isKey 27 = .ok (.iload 4, 2) := oq_21 (bq_in kqX10_isKey_0 27 rfl) (bq_in kqX10_isKey_0 28 rfl)
theorem dX10_isKey_29 : decode cX10_isKey 29 = .ok (.iload_n 3, 1) := oq_29 (bq_in kqX10_isKey_0 29 rfl)
theorem dX10_isKey_30 : decode cX10_isKey 30 = .ok (.if_icmp .ge 22, 3) := oq_162 (bq_in kqX10_isKey_0 30 rfl) (bq_in kqX10_isKey_0 31 rfl) (bq_in kqX10_isKey_0 32 rfl) rfl
theorem kqX10_isKey_1 : ((cX10_isKey.data.toList.drop 32).take 34).map UInt8.toNat = [22, 42, 180, 0, 39, 21, 4, 46, 28, 160, 0, 5, 4, 172, 132, 4, 1, 167, 255, 234, 3, 172] := by decide +kernel
theorem dX10_isKey_33 : decode cX10_isKey 33 = .ok (.aload_n 0, 1) := oq_42 (bq_in kqX10_isKey_1 1 rfl)
theorem dX10_isKey_34 : decode cX10_isKey 34 = .ok (.getfield 39, 3) := oq_180 (bq_in kqX10_isKey_1 2 rfl) (bq_in kqX10_isKey_1 3 rfl) (bq_in kqX10_isKey_1 4 rfl) rfl
theorem dX10_isKey_37 : decode cX10_isKey 37 = .ok (.iload 4, 2) := oq_21 (bq_in kqX10_isKey_1 5 rfl) (bq_in kqX10_isKey_1 6 rfl)
theorem dX10_isKey_39 : decode cX10_isKey 39 = .ok (.iaload, 1) := oq_46 (bq_in kqX10_isKey_1 7 rfl)
theorem dX10_isKey_40 : decode cX10_isKey 40 = .ok (.iload_n 2, 1) := oq_28 (bq_in kqX10_isKey_1 8 rfl)
theorem dX10_isKey_41 : decode cX10_isKey 41 = .ok (.if_icmp .ne 5, 3) := oq_160 (bq_in kqX10_isKey_1 9 rfl) (bq_in kqX10_isKey_1 10 rfl) (bq_in kqX10_isKey_1 11 rfl) rfl
theorem dX10_isKey_44 : decode cX10_isKey 44 = .ok (.iconst 1, 1) := oq_4 (bq_in kqX10_isKey_1 12 rfl)
theorem dX10_isKey_45 : decode cX10_isKey 45 = .ok (.ireturn, 1) := oq_172 (bq_in kqX10_isKey_1 13 rfl)
theorem dX10_isKey_46 : decode cX10_isKey 46 = .ok (.iinc 4 1, 3) := oq_132 (bq_in kqX10_isKey_1 14 rfl) (bq_in kqX10_isKey_1 15 rfl) (bq_in kqX10_isKey_1 16 rfl) rfl
theorem dX10_isKey_49 : decode cX10_isKey 49 = .ok (.goto (-22), 3) := oq_167 (bq_in kqX10_isKey_1 17 rfl) (bq_in kqX10_isKey_1 18 rfl) (bq_in kqX10_isKey_1 19 rfl) rfl
theorem dX10_isKey_52 : decode cX10_isKey 52 = .ok (.iconst 0, 1) := oq_3 (bq_in kqX10_isKey_1 20 rfl)
theorem dX10_isKey_53 : decode cX10_isKey 53 = .ok (.ireturn, 1) := oq_172 (bq_in kqX10_isKey_1 21 rfl)
theorem kqX10_key_0 : ((cX10_key.data.toList.drop 0).take 34).map UInt8.toNat = [42, 3, 181, 0, 60, 42, 27, 182, 0, 220, 153, 0, 10, 28, 184, 0, 223, 154, 0, 5, 2, 172, 42, 27, 3, 182, 0, 236, 62, 3, 54, 4, 21, 4] := by decide +kernel
theorem dX10_key_0 : decode cX10_key 0 = .ok (.aload_n 0, 1) := oq_42 (bq_in kqX10_key_0 0 rfl)
theorem dX10_key_1 : decode cX10_key 1 = .ok (.iconst 0, 1) := oq_3 (bq_in kqX10_key_0 1 rfl)
theorem dX10_key_2 : decode cX10_key 2 = .ok (.putfield 60, 3) := oq_181 (bq_in kqX10_key_0 2 rfl) (bq_in kqX10_key_0 3 rfl) (bq_in kqX10_key_0 4 rfl) rfl
theorem dX10_key_5 : decode cX10_key 5 = .ok (.aload_n 0, 1) := oq_42 (bq_in kqX10_key_0 5 rfl)
theorem dX10_key_6 : decode cX10_key 6 = .ok (.iload_n 1, 1) := oq_27 (bq_in kqX10_key_0 6 rfl)
theorem dX10_key_7 : decode cX10_key 7 = .ok (.invokevirtual 220, 3) := oq_182 (bq_in kqX10_key_0 7 rfl) (bq_in kqX10_key_0 8 rfl) (bq_in kqX10_key_0 9 rfl) rfl
theorem dX10_key_10 : decode cX10_key 10 = .ok (.ifCond .eq 10, 3) := oq_153 (bq_in kqX10_key_0 10 rfl) (bq_in kqX10_key_0 11 rfl) (bq_in kqX10_key_0 12 rfl) rfl
theorem dX10_key_13 : decode cX10_key 13 = .ok (.iload_n 2, 1) := oq_28 (bq_in kqX10_key_0 13 rfl)
theorem dX10_key_14 : decode cX10_key 14 = .ok (.invokestatic 223, 3) := oq_184 (bq_in kqX10_key_0 14 rfl) (bq_in kqX10_key_0 15 rfl) (bq_in kqX10_key_0 16 rfl) rfl
theorem dX10_key_17 : decode cX10_key 17 = .ok (.ifCond .ne 5, 3) := oq_154 (bq_in kqX10_key_0 17 rfl) (bq_in kqX10_key_0 18 rfl) (bq_in kqX10_key_0 19 rfl) rfl
theorem dX10_key_20 : decode cX10_key 20 = .ok (.iconst (-1), 1) := oq_2 (bq_in kqX10_key_0 20 rfl)
theorem dX10_key_21 : decode cX10_key 21 = .ok (.ireturn, 1) := oq_172 (bq_in kqX10_key_0 21 rfl)
theorem dX10_key_22 : decode cX10_key 22 = .ok (.aload_n 0, 1) := oq_42 (bq_in kqX10_key_0 22 rfl)
theorem dX10_key_23 : decode cX10_key 23 = .ok (.iload_n 1, 1) := oq_27 (bq_in kqX10_key_0 23 rfl)
theorem dX10_key_24 : decode cX10_key 24 = .ok (.iconst 0, 1) := oq_3 (bq_in kqX10_key_0 24 rfl)
theorem dX10_key_25 : decode cX10_key 25 = .ok (.invokevirtual 236, 3) := oq_182 (bq_in kqX10_key_0 25 rfl) (bq_in kqX10_key_0 26 rfl) (bq_in kqX10_key_0 27 rfl) rfl
theorem dX10_key_28 : decode cX10_key 28 = .ok (.istore_n 3, 1) := oq_62 (bq_in kqX10_key_0 28 rfl)
theorem dX10_key_29 : decode cX10_key 29 = .ok (.iconst 0, 1) := oq_3 (bq_in kqX10_key_0 29 rfl)
theorem dX10_key_30 : decode cX10_key 30 = .ok (.istore 4, 2) := oq_54 (bq_in kqX10_key_0 30 rfl) (bq_in kqX10_key_0 31 rfl)
theorem kqX10_key_1 : ((cX10_key.data.toList.drop 32).take 34).map UInt8.toNat = [21, 4, 29, 162, 0, 28, 42, 180, 0, 39, 21, 4, 46, 28, 161, 0, 11, 42, 180, 0, 39, 21, 4, 46, 172, 132, 4, 1, 167, 255, 228, 2, 172] := by decide +kernel
theorem dX10_key_32 : decode cX10_key 32 = .ok (.iload 4, 2) := oq_21 (bq_in kqX10_key_1 0 rfl) (bq_in kqX10_key_1 1 rfl)
theorem dX10_key_34 : decode cX10_key 34 = .ok (.iload_n 3, 1) := oq_29 (bq_in kqX10_key_1 2 rfl)
theorem dX10_key_35 : decode cX10_key 35 = .ok (.if_icmp .ge 28, 3) := oq_162 (bq_in kqX10_key_1 3 rfl) (bq_in kqX10_key_1 4 rfl) (bq_in kqX10_key_1 5 rfl) rfl
theorem dX10_key_38 : decode cX10_key 38 = .ok (.aload_n 0, 1) := oq_42 (bq_in kqX10_key_1 6 rfl)
theorem dX10_key_39 : decode cX10_key 39 = .ok (.getfield 39, 3) := oq_180 (bq_in kqX10_key_1 7 rfl) (bq_in kqX10_key_1 8 rfl) (bq_in kqX10_key_1 9 rfl) rfl
theorem dX10_key_42 : decode cX10_key 42 = .ok (.iload 4, 2) := oq_21 (bq_in kqX10_key_1 10 rfl) (bq_in kqX10_key_1 11 rfl)
theorem dX10_key_44 : decode cX10_key 44 = .ok (.iaload, 1) := oq_46 (bq_in kqX10_key_1 12 rfl)
theorem dX10_key_45 : decode cX10_key 45 = .ok (.iload_n 2, 1) := oq_28 (bq_in kqX10_key_1 13 rfl)
theorem dX10_key_46 : decode cX10_key 46 = .ok (.if_icmp .lt 11, 3) := oq_161 (bq_in kqX10_key_1 14 rfl) (bq_in kqX10_key_1 15 rfl) (bq_in kqX10_key_1 16 rfl) rfl
theorem dX10_key_49 : decode cX10_key 49 = .ok (.aload_n 0, 1) := oq_42 (bq_in kqX10_key_1 17 rfl)
theorem dX10_key_50 : decode cX10_key 50 = .ok (.getfield 39, 3) := oq_180 (bq_in kqX10_key_1 18 rfl) (bq_in kqX10_key_1 19 rfl) (bq_in kqX10_key_1 20 rfl) rfl
theorem dX10_key_53 : decode cX10_key 53 = .ok (.iload 4, 2) := oq_21 (bq_in kqX10_key_1 21 rfl) (bq_in kqX10_key_1 22 rfl)
theorem dX10_key_55 : decode cX10_key 55 = .ok (.iaload, 1) := oq_46 (bq_in kqX10_key_1 23 rfl)
theorem dX10_key_56 : decode cX10_key 56 = .ok (.ireturn, 1) := oq_172 (bq_in kqX10_key_1 24 rfl)
theorem dX10_key_57 : decode cX10_key 57 = .ok (.iinc 4 1, 3) := oq_132 (bq_in kqX10_key_1 25 rfl) (bq_in kqX10_key_1 26 rfl) (bq_in kqX10_key_1 27 rfl) rfl
theorem dX10_key_60 : decode cX10_key 60 = .ok (.goto (-28), 3) := oq_167 (bq_in kqX10_key_1 28 rfl) (bq_in kqX10_key_1 29 rfl) (bq_in kqX10_key_1 30 rfl) rfl
theorem dX10_key_63 : decode cX10_key 63 = .ok (.iconst (-1), 1) := oq_2 (bq_in kqX10_key_1 31 rfl)
theorem kqX10_key_2 : ((cX10_key.data.toList.drop 64).take 34).map UInt8.toNat = [172] := by decide +kernel
theorem dX10_key_64 : decode cX10_key 64 = .ok (.ireturn, 1) := oq_172 (bq_in kqX10_key_2 0 rfl)
theorem kqX10_keys_0 : ((cX10_keys.data.toList.drop 0).take 34).map UInt8.toNat = [42, 3, 181, 0, 60, 42, 27, 182, 0, 220, 153, 0, 22, 28, 184, 0, 223, 153, 0, 15, 29, 184, 0, 223, 153, 0, 8, 29, 28, 162, 0, 5, 2, 172] := by decide +kernel
theorem dX10_keys_0 : decode cX10_keys 0 = .ok (.aload_n 0, 1) := oq_42 (bq_in kqX10_keys_0 0 rfl)
theorem dX10_keys_1 : decode cX10_keys 1 = .ok (.iconst 0, 1) := oq_3 (bq_in kqX10_keys_0 1 rfl)
theorem dX10_keys_2 : decode cX10_keys 2 = .ok (.putfield 60, 3) := oq_181 (bq_in kqX10_keys_0 2 rfl) (bq_in kqX10_keys_0 3 rfl) (bq_in kqX10_keys_0 4 rfl) rfl
theorem dX10_keys_5 : decode cX10_keys 5 = .ok (.aload_n 0, 1) := oq_42 (bq_in kqX10_keys_0 5 rfl)
theorem dX10_keys_6 : decode cX10_keys 6 = .ok (.iload_n 1, 1) := oq_27 (bq_in kqX10_keys_0 6 rfl)
theorem dX10_keys_7 : decode cX10_keys 7 = .ok (.invokevirtual 220, 3) := oq_182 (bq_in kqX10_keys_0 7 rfl) (bq_in kqX10_keys_0 8 rfl) (bq_in kqX10_keys_0 9 rfl) rfl
theorem dX10_keys_10 : decode cX10_keys 10 = .ok (.ifCond .eq 22, 3) := oq_153 (bq_in kqX10_keys_0 10 rfl) (bq_in kqX10_keys_0 11 rfl) (bq_in kqX10_keys_0 12 rfl) rfl
theorem dX10_keys_13 : decode cX10_keys 13 = .ok (.iload_n 2, 1) := oq_28 (bq_in kqX10_keys_0 13 rfl)
theorem dX10_keys_14 : decode cX10_keys 14 = .ok (.invokestatic 223, 3) := oq_184 (bq_in kqX10_keys_0 14 rfl) (bq_in kqX10_keys_0 15 rfl) (bq_in kqX10_keys_0 16 rfl) rfl
theorem dX10_keys_17 : decode cX10_keys 17 = .ok (.ifCond .eq 15, 3) := oq_153 (bq_in kqX10_keys_0 17 rfl) (bq_in kqX10_keys_0 18 rfl) (bq_in kqX10_keys_0 19 rfl) rfl
theorem dX10_keys_20 : decode cX10_keys 20 = .ok (.iload_n 3, 1) := oq_29 (bq_in kqX10_keys_0 20 rfl)
theorem dX10_keys_21 : decode cX10_keys 21 = .ok (.invokestatic 223, 3) := oq_184 (bq_in kqX10_keys_0 21 rfl) (bq_in kqX10_keys_0 22 rfl) (bq_in kqX10_keys_0 23 rfl) rfl
theorem dX10_keys_24 : decode cX10_keys 24 = .ok (.ifCond .eq 8, 3) := oq_153 (bq_in kqX10_keys_0 24 rfl) (bq_in kqX10_keys_0 25 rfl) (bq_in kqX10_keys_0 26 rfl) rfl
theorem dX10_keys_27 : decode cX10_keys 27 = .ok (.iload_n 3, 1) := oq_29 (bq_in kqX10_keys_0 27 rfl)
theorem dX10_keys_28 : decode cX10_keys 28 = .ok (.iload_n 2, 1) := oq_28 (bq_in kqX10_keys_0 28 rfl)
theorem dX10_keys_29 : decode cX10_keys 29 = .ok (.if_icmp .ge 5, 3) := oq_162 (bq_in kqX10_keys_0 29 rfl) (bq_in kqX10_keys_0 30 rfl) (bq_in kqX10_keys_0 31 rfl) rfl
theorem kqX10_keys_1 : ((cX10_keys.data.toList.drop 32).take 34).map UInt8.toNat = [2, 172, 42, 27, 3, 182, 0, 236, 54, 4, 3, 54, 5, 3, 54, 6, 21, 6, 21, 4, 162, 0, 27, 42, 180, 0, 39, 21, 6, 46, 28, 29, 184, 0] := by decide +kernel
theorem dX10_keys_32 : decode cX10_keys 32 = .ok (.iconst (-1), 1) := oq_2 (bq_in kqX10_keys_1 0 rfl)
theorem dX10_keys_33 : decode cX10_keys 33 = .ok (.ireturn, 1) := oq_172 (bq_in kqX10_keys_1 1 rfl)
theorem dX10_keys_34 : decode cX10_keys 34 = .ok (.aload_n 0, 1) := oq_42 (bq_in kqX10_keys_1 2 rfl)
theorem dX10_keys_35 : decode cX10_keys 35 = .ok (.iload_n 1, 1) := oq_27 (bq_in kqX10_keys_1 3 rfl)
theorem dX10_keys_36 : decode cX10_keys 36 = .ok (.iconst 0, 1) := oq_3 (bq_in kqX10_keys_1 4 rfl)
theorem dX10_keys_37 : decode cX10_keys 37 = .ok (.invokevirtual 236, 3) := oq_182 (bq_in kqX10_keys_1 5 rfl) (bq_in kqX10_keys_1 6 rfl) (bq_in kqX10_keys_1 7 rfl) rfl
theorem dX10_keys_40 : decode cX10_keys 40 = .ok (.istore 4, 2) := oq_54 (bq_in kqX10_keys_1 8 rfl) (bq_in kqX10_keys_1 9 rfl)
theorem dX10_keys_42 : decode cX10_keys 42 = .ok (.iconst 0, 1) := oq_3 (bq_in kqX10_keys_1 10 rfl)
theorem dX10_keys_43 : decode cX10_keys 43 = .ok (.istore 5, 2) := oq_54 (bq_in kqX10_keys_1 11 rfl) (bq_in kqX10_keys_1 12 rfl)
theorem dX10_keys_45 : decode cX10_keys 45 = .ok (.iconst 0, 1) := oq_3 (bq_in kqX10_keys_1 13 rfl)
theorem dX10_keys_46 : decode cX10_keys 46 = .ok (.istore 6, 2) := oq_54 (bq_in kqX10_keys_1 14 rfl) (bq_in kqX10_keys_1 15 rfl)
theorem dX10_keys_48 : decode cX10_keys 48 = .ok (.iload 6, 2) := oq_21 (bq_in kqX10_keys_1 16 rfl) (bq_in kqX10_keys_1 17 rfl)
theorem dX10_keys_50 : decode cX10_keys 50 = .ok (.iload 4, 2) := oq_21 (bq_in kqX10_keys_1 18 rfl) (bq_in kqX10_keys_1 19 rfl)
theorem dX10_keys_52 : decode cX10_keys 52 = .ok (.if_icmp .ge 27, 3) := oq_162 (bq_in kqX10_keys_1 20 rfl) (bq_in kqX10_keys_1 21 rfl) (bq_in kqX10_keys_1 22 rfl) rfl
theorem dX10_keys_55 : decode cX10_keys 55 = .ok (.aload_n 0, 1) := oq_42 (bq_in kqX10_keys_1 23 rfl)
theorem dX10_keys_56 : decode cX10_keys 56 = .ok (.getfield 39, 3) := oq_180 (bq_in kqX10_keys_1 24 rfl) (bq_in kqX10_keys_1 25 rfl) (bq_in kqX10_keys_1 26 rfl) rfl
theorem dX10_keys_59 : decode cX10_keys 59 = .ok (.iload 6, 2) := oq_21 (bq_in kqX10_keys_1 27 rfl) (bq_in kqX10_keys_1 28 rfl)
theorem dX10_keys_61 : decode cX10_keys 61 = .ok (.iaload, 1) := oq_46 (bq_in kqX10_keys_1 29 rfl)
theorem dX10_keys_62 : decode cX10_keys 62 = .ok (.iload_n 2, 1) := oq_28 (bq_in kqX10_keys_1 30 rfl)
theorem dX10_keys_63 : decode cX10_keys 63 = .ok (.iload_n 3, 1) := oq_29 (bq_in kqX10_keys_1 31 rfl)
theorem kqX10_keys_2 : ((cX10_keys.data.toList.drop 64).take 34).map UInt8.toNat = [184, 0, 65, 153, 0, 6, 132, 5, 1, 132, 6, 1, 167, 255, 228, 21, 5, 172] := by decide +kernel
theorem dX10_keys_64 : decode cX10_keys 64 = .ok (.invokestatic 65, 3) := oq_184 (bq_in kqX10_keys_2 0 rfl) (bq_in kqX10_keys_2 1 rfl) (bq_in kqX10_keys_2 2 rfl) rfl
theorem dX10_keys_67 : decode cX10_keys 67 = .ok (.ifCond .eq 6, 3) := oq_153 (bq_in kqX10_keys_2 3 rfl) (bq_in kqX10_keys_2 4 rfl) (bq_in kqX10_keys_2 5 rfl) rfl
theorem dX10_keys_70 : decode cX10_keys 70 = .ok (.iinc 5 1, 3) := oq_132 (bq_in kqX10_keys_2 6 rfl) (bq_in kqX10_keys_2 7 rfl) (bq_in kqX10_keys_2 8 rfl) rfl
theorem dX10_keys_73 : decode cX10_keys 73 = .ok (.iinc 6 1, 3) := oq_132 (bq_in kqX10_keys_2 9 rfl) (bq_in kqX10_keys_2 10 rfl) (bq_in kqX10_keys_2 11 rfl) rfl
theorem dX10_keys_76 : decode cX10_keys 76 = .ok (.goto (-28), 3) := oq_167 (bq_in kqX10_keys_2 12 rfl) (bq_in kqX10_keys_2 13 rfl) (bq_in kqX10_keys_2 14 rfl) rfl
theorem dX10_keys_79 : decode cX10_keys 79 = .ok (.iload 5, 2) := oq_21 (bq_in kqX10_keys_2 15 rfl) (bq_in kqX10_keys_2 16 rfl)
theorem dX10_keys_81 : decode cX10_keys 81 = .ok (.ireturn, 1) := oq_172 (bq_in kqX10_keys_2 17 rfl)
theorem kqX10_tellsOdd_0 : ((cX10_tellsOdd.data.toList.drop 0).take 34).map UInt8.toNat = [42, 27, 28, 182, 0, 239, 54, 4, 21, 4, 156, 0, 17, 42, 27, 16, 11, 182, 0, 229, 16, 16, 160, 0, 5, 3, 172, 21, 4, 156, 0, 28, 42, 27] := by decide +kernel
theorem dX10_tellsOdd_0 : decode cX10_tellsOdd 0 = .ok (.aload_n 0, 1) := oq_42 (bq_in kqX10_tellsOdd_0 0 rfl)
theorem dX10_tellsOdd_1 : decode cX10_tellsOdd 1 = .ok (.iload_n 1, 1) := oq_27 (bq_in kqX10_tellsOdd_0 1 rfl)
theorem dX10_tellsOdd_2 : decode cX10_tellsOdd 2 = .ok (.iload_n 2, 1) := oq_28 (bq_in kqX10_tellsOdd_0 2 rfl)
theorem dX10_tellsOdd_3 : decode cX10_tellsOdd 3 = .ok (.invokevirtual 239, 3) := oq_182 (bq_in kqX10_tellsOdd_0 3 rfl) (bq_in kqX10_tellsOdd_0 4 rfl) (bq_in kqX10_tellsOdd_0 5 rfl) rfl
theorem dX10_tellsOdd_6 : decode cX10_tellsOdd 6 = .ok (.istore 4, 2) := oq_54 (bq_in kqX10_tellsOdd_0 6 rfl) (bq_in kqX10_tellsOdd_0 7 rfl)
theorem dX10_tellsOdd_8 : decode cX10_tellsOdd 8 = .ok (.iload 4, 2) := oq_21 (bq_in kqX10_tellsOdd_0 8 rfl) (bq_in kqX10_tellsOdd_0 9 rfl)
theorem dX10_tellsOdd_10 : decode cX10_tellsOdd 10 = .ok (.ifCond .ge 17, 3) := oq_156 (bq_in kqX10_tellsOdd_0 10 rfl) (bq_in kqX10_tellsOdd_0 11 rfl) (bq_in kqX10_tellsOdd_0 12 rfl) rfl
theorem dX10_tellsOdd_13 : decode cX10_tellsOdd 13 = .ok (.aload_n 0, 1) := oq_42 (bq_in kqX10_tellsOdd_0 13 rfl)
theorem dX10_tellsOdd_14 : decode cX10_tellsOdd 14 = .ok (.iload_n 1, 1) := oq_27 (bq_in kqX10_tellsOdd_0 14 rfl)
theorem dX10_tellsOdd_15 : decode cX10_tellsOdd 15 = .ok (.bipush 11, 2) := oq_16 (bq_in kqX10_tellsOdd_0 15 rfl) (bq_in kqX10_tellsOdd_0 16 rfl) rfl
theorem dX10_tellsOdd_17 : decode cX10_tellsOdd 17 = .ok (.invokevirtual 229, 3) := oq_182 (bq_in kqX10_tellsOdd_0 17 rfl) (bq_in kqX10_tellsOdd_0 18 rfl) (bq_in kqX10_tellsOdd_0 19 rfl) rfl
theorem dX10_tellsOdd_20 : decode cX10_tellsOdd 20 = .ok (.bipush 16, 2) := oq_16 (bq_in kqX10_tellsOdd_0 20 rfl) (bq_in kqX10_tellsOdd_0 21 rfl) rfl
theorem dX10_tellsOdd_22 : decode cX10_tellsOdd 22 = .ok (.if_icmp .ne 5, 3) := oq_160 (bq_in kqX10_tellsOdd_0 22 rfl) (bq_in kqX10_tellsOdd_0 23 rfl) (bq_in kqX10_tellsOdd_0 24 rfl) rfl
theorem dX10_tellsOdd_25 : decode cX10_tellsOdd 25 = .ok (.iconst 0, 1) := oq_3 (bq_in kqX10_tellsOdd_0 25 rfl)
theorem dX10_tellsOdd_26 : decode cX10_tellsOdd 26 = .ok (.ireturn, 1) := oq_172 (bq_in kqX10_tellsOdd_0 26 rfl)
theorem dX10_tellsOdd_27 : decode cX10_tellsOdd 27 = .ok (.iload 4, 2) := oq_21 (bq_in kqX10_tellsOdd_0 27 rfl) (bq_in kqX10_tellsOdd_0 28 rfl)
theorem dX10_tellsOdd_29 : decode cX10_tellsOdd 29 = .ok (.ifCond .ge 28, 3) := oq_156 (bq_in kqX10_tellsOdd_0 29 rfl) (bq_in kqX10_tellsOdd_0 30 rfl) (bq_in kqX10_tellsOdd_0 31 rfl) rfl
theorem kqX10_tellsOdd_1 : ((cX10_tellsOdd.data.toList.drop 32).take 34).map UInt8.toNat = [42, 27, 16, 11, 182, 0, 229, 54, 4, 42, 180, 0, 23, 16, 44, 27, 104, 16, 11, 96, 92, 46, 4, 96, 79, 42, 180, 0, 23, 16, 44, 27, 104, 16] := by decide +kernel
theorem dX10_tellsOdd_32 : decode cX10_tellsOdd 32 = .ok (.aload_n 0, 1) := oq_42 (bq_in kqX10_tellsOdd_1 0 rfl)
theorem dX10_tellsOdd_33 : decode cX10_tellsOdd 33 = .ok (.iload_n 1, 1) := oq_27 (bq_in kqX10_tellsOdd_1 1 rfl)
theorem dX10_tellsOdd_34 : decode cX10_tellsOdd 34 = .ok (.bipush 11, 2) := oq_16 (bq_in kqX10_tellsOdd_1 2 rfl) (bq_in kqX10_tellsOdd_1 3 rfl) rfl
theorem dX10_tellsOdd_36 : decode cX10_tellsOdd 36 = .ok (.invokevirtual 229, 3) := oq_182 (bq_in kqX10_tellsOdd_1 4 rfl) (bq_in kqX10_tellsOdd_1 5 rfl) (bq_in kqX10_tellsOdd_1 6 rfl) rfl
theorem dX10_tellsOdd_39 : decode cX10_tellsOdd 39 = .ok (.istore 4, 2) := oq_54 (bq_in kqX10_tellsOdd_1 7 rfl) (bq_in kqX10_tellsOdd_1 8 rfl)
theorem dX10_tellsOdd_41 : decode cX10_tellsOdd 41 = .ok (.aload_n 0, 1) := oq_42 (bq_in kqX10_tellsOdd_1 9 rfl)
theorem dX10_tellsOdd_42 : decode cX10_tellsOdd 42 = .ok (.getfield 23, 3) := oq_180 (bq_in kqX10_tellsOdd_1 10 rfl) (bq_in kqX10_tellsOdd_1 11 rfl) (bq_in kqX10_tellsOdd_1 12 rfl) rfl
theorem dX10_tellsOdd_45 : decode cX10_tellsOdd 45 = .ok (.bipush 44, 2) := oq_16 (bq_in kqX10_tellsOdd_1 13 rfl) (bq_in kqX10_tellsOdd_1 14 rfl) rfl
theorem dX10_tellsOdd_47 : decode cX10_tellsOdd 47 = .ok (.iload_n 1, 1) := oq_27 (bq_in kqX10_tellsOdd_1 15 rfl)
theorem dX10_tellsOdd_48 : decode cX10_tellsOdd 48 = .ok (.imul, 1) := oq_104 (bq_in kqX10_tellsOdd_1 16 rfl)
theorem dX10_tellsOdd_49 : decode cX10_tellsOdd 49 = .ok (.bipush 11, 2) := oq_16 (bq_in kqX10_tellsOdd_1 17 rfl) (bq_in kqX10_tellsOdd_1 18 rfl) rfl
theorem dX10_tellsOdd_51 : decode cX10_tellsOdd 51 = .ok (.iadd, 1) := oq_96 (bq_in kqX10_tellsOdd_1 19 rfl)
theorem dX10_tellsOdd_52 : decode cX10_tellsOdd 52 = .ok (.dup2, 1) := oq_92 (bq_in kqX10_tellsOdd_1 20 rfl)
theorem dX10_tellsOdd_53 : decode cX10_tellsOdd 53 = .ok (.iaload, 1) := oq_46 (bq_in kqX10_tellsOdd_1 21 rfl)
theorem dX10_tellsOdd_54 : decode cX10_tellsOdd 54 = .ok (.iconst 1, 1) := oq_4 (bq_in kqX10_tellsOdd_1 22 rfl)
theorem dX10_tellsOdd_55 : decode cX10_tellsOdd 55 = .ok (.iadd, 1) := oq_96 (bq_in kqX10_tellsOdd_1 23 rfl)
theorem dX10_tellsOdd_56 : decode cX10_tellsOdd 56 = .ok (.iastore, 1) := oq_79 (bq_in kqX10_tellsOdd_1 24 rfl)
theorem dX10_tellsOdd_57 : decode cX10_tellsOdd 57 = .ok (.aload_n 0, 1) := oq_42 (bq_in kqX10_tellsOdd_1 25 rfl)
theorem dX10_tellsOdd_58 : decode cX10_tellsOdd 58 = .ok (.getfield 23, 3) := oq_180 (bq_in kqX10_tellsOdd_1 26 rfl) (bq_in kqX10_tellsOdd_1 27 rfl) (bq_in kqX10_tellsOdd_1 28 rfl) rfl
theorem dX10_tellsOdd_61 : decode cX10_tellsOdd 61 = .ok (.bipush 44, 2) := oq_16 (bq_in kqX10_tellsOdd_1 29 rfl) (bq_in kqX10_tellsOdd_1 30 rfl) rfl
theorem dX10_tellsOdd_63 : decode cX10_tellsOdd 63 = .ok (.iload_n 1, 1) := oq_27 (bq_in kqX10_tellsOdd_1 31 rfl)
theorem kqX10_tellsOdd_2 : ((cX10_tellsOdd.data.toList.drop 64).take 34).map UInt8.toNat = [104, 16, 12, 96, 5, 21, 4, 104, 96, 28, 79, 42, 180, 0, 23, 16, 44, 27, 104, 16, 12, 96, 5, 21, 4, 104, 96, 4, 96, 29, 79, 4, 172] := by decide +kernel
theorem dX10_tellsOdd_64 : decode cX10_tellsOdd 64 = .ok (.imul, 1) := oq_104 (bq_in kqX10_tellsOdd_2 0 rfl)
theorem dX10_tellsOdd_65 : decode cX10_tellsOdd 65 = .ok (.bipush 12, 2) := oq_16 (bq_in kqX10_tellsOdd_2 1 rfl) (bq_in kqX10_tellsOdd_2 2 rfl) rfl
theorem dX10_tellsOdd_67 : decode cX10_tellsOdd 67 = .ok (.iadd, 1) := oq_96 (bq_in kqX10_tellsOdd_2 3 rfl)
theorem dX10_tellsOdd_68 : decode cX10_tellsOdd 68 = .ok (.iconst 2, 1) := oq_5 (bq_in kqX10_tellsOdd_2 4 rfl)
theorem dX10_tellsOdd_69 : decode cX10_tellsOdd 69 = .ok (.iload 4, 2) := oq_21 (bq_in kqX10_tellsOdd_2 5 rfl) (bq_in kqX10_tellsOdd_2 6 rfl)
theorem dX10_tellsOdd_71 : decode cX10_tellsOdd 71 = .ok (.imul, 1) := oq_104 (bq_in kqX10_tellsOdd_2 7 rfl)
theorem dX10_tellsOdd_72 : decode cX10_tellsOdd 72 = .ok (.iadd, 1) := oq_96 (bq_in kqX10_tellsOdd_2 8 rfl)
theorem dX10_tellsOdd_73 : decode cX10_tellsOdd 73 = .ok (.iload_n 2, 1) := oq_28 (bq_in kqX10_tellsOdd_2 9 rfl)
theorem dX10_tellsOdd_74 : decode cX10_tellsOdd 74 = .ok (.iastore, 1) := oq_79 (bq_in kqX10_tellsOdd_2 10 rfl)
theorem dX10_tellsOdd_75 : decode cX10_tellsOdd 75 = .ok (.aload_n 0, 1) := oq_42 (bq_in kqX10_tellsOdd_2 11 rfl)
theorem dX10_tellsOdd_76 : decode cX10_tellsOdd 76 = .ok (.getfield 23, 3) := oq_180 (bq_in kqX10_tellsOdd_2 12 rfl) (bq_in kqX10_tellsOdd_2 13 rfl) (bq_in kqX10_tellsOdd_2 14 rfl) rfl
theorem dX10_tellsOdd_79 : decode cX10_tellsOdd 79 = .ok (.bipush 44, 2) := oq_16 (bq_in kqX10_tellsOdd_2 15 rfl) (bq_in kqX10_tellsOdd_2 16 rfl) rfl
theorem dX10_tellsOdd_81 : decode cX10_tellsOdd 81 = .ok (.iload_n 1, 1) := oq_27 (bq_in kqX10_tellsOdd_2 17 rfl)
theorem dX10_tellsOdd_82 : decode cX10_tellsOdd 82 = .ok (.imul, 1) := oq_104 (bq_in kqX10_tellsOdd_2 18 rfl)
theorem dX10_tellsOdd_83 : decode cX10_tellsOdd 83 = .ok (.bipush 12, 2) := oq_16 (bq_in kqX10_tellsOdd_2 19 rfl) (bq_in kqX10_tellsOdd_2 20 rfl) rfl
theorem dX10_tellsOdd_85 : decode cX10_tellsOdd 85 = .ok (.iadd, 1) := oq_96 (bq_in kqX10_tellsOdd_2 21 rfl)
theorem dX10_tellsOdd_86 : decode cX10_tellsOdd 86 = .ok (.iconst 2, 1) := oq_5 (bq_in kqX10_tellsOdd_2 22 rfl)
theorem dX10_tellsOdd_87 : decode cX10_tellsOdd 87 = .ok (.iload 4, 2) := oq_21 (bq_in kqX10_tellsOdd_2 23 rfl) (bq_in kqX10_tellsOdd_2 24 rfl)
theorem dX10_tellsOdd_89 : decode cX10_tellsOdd 89 = .ok (.imul, 1) := oq_104 (bq_in kqX10_tellsOdd_2 25 rfl)
theorem dX10_tellsOdd_90 : decode cX10_tellsOdd 90 = .ok (.iadd, 1) := oq_96 (bq_in kqX10_tellsOdd_2 26 rfl)
theorem dX10_tellsOdd_91 : decode cX10_tellsOdd 91 = .ok (.iconst 1, 1) := oq_4 (bq_in kqX10_tellsOdd_2 27 rfl)
theorem dX10_tellsOdd_92 : decode cX10_tellsOdd 92 = .ok (.iadd, 1) := oq_96 (bq_in kqX10_tellsOdd_2 28 rfl)
theorem dX10_tellsOdd_93 : decode cX10_tellsOdd 93 = .ok (.iload_n 3, 1) := oq_29 (bq_in kqX10_tellsOdd_2 29 rfl)
theorem dX10_tellsOdd_94 : decode cX10_tellsOdd 94 = .ok (.iastore, 1) := oq_79 (bq_in kqX10_tellsOdd_2 30 rfl)
theorem dX10_tellsOdd_95 : decode cX10_tellsOdd 95 = .ok (.iconst 1, 1) := oq_4 (bq_in kqX10_tellsOdd_2 31 rfl)
theorem kqX10_tellsOdd_3 : ((cX10_tellsOdd.data.toList.drop 96).take 34).map UInt8.toNat = [172] := by decide +kernel
theorem dX10_tellsOdd_96 : decode cX10_tellsOdd 96 = .ok (.ireturn, 1) := oq_172 (bq_in kqX10_tellsOdd_3 0 rfl)
theorem kqX10_drop_0 : ((cX10_drop.data.toList.drop 0).take 34).map UInt8.toNat = [42, 3, 181, 0, 60, 42, 27, 28, 182, 0, 242, 154, 0, 5, 3, 172, 42, 27, 28, 182, 0, 239, 62, 29, 155, 0, 21, 42, 27, 16, 12, 5, 29, 104] := by decide +kernel
theorem dX10_drop_0 : decode cX10_drop 0 = .ok (.aload_n 0, 1) := oq_42 (bq_in kqX10_drop_0 0 rfl)
theorem dX10_drop_1 : decode cX10_drop 1 = .ok (.iconst 0, 1) := oq_3 (bq_in kqX10_drop_0 1 rfl)
theorem dX10_drop_2 : decode cX10_drop 2 = .ok (.putfield 60, 3) := oq_181 (bq_in kqX10_drop_0 2 rfl) (bq_in kqX10_drop_0 3 rfl) (bq_in kqX10_drop_0 4 rfl) rfl
theorem dX10_drop_5 : decode cX10_drop 5 = .ok (.aload_n 0, 1) := oq_42 (bq_in kqX10_drop_0 5 rfl)
theorem dX10_drop_6 : decode cX10_drop 6 = .ok (.iload_n 1, 1) := oq_27 (bq_in kqX10_drop_0 6 rfl)
theorem dX10_drop_7 : decode cX10_drop 7 = .ok (.iload_n 2, 1) := oq_28 (bq_in kqX10_drop_0 7 rfl)
theorem dX10_drop_8 : decode cX10_drop 8 = .ok (.invokevirtual 242, 3) := oq_182 (bq_in kqX10_drop_0 8 rfl) (bq_in kqX10_drop_0 9 rfl) (bq_in kqX10_drop_0 10 rfl) rfl
theorem dX10_drop_11 : decode cX10_drop 11 = .ok (.ifCond .ne 5, 3) := oq_154 (bq_in kqX10_drop_0 11 rfl) (bq_in kqX10_drop_0 12 rfl) (bq_in kqX10_drop_0 13 rfl) rfl
theorem dX10_drop_14 : decode cX10_drop 14 = .ok (.iconst 0, 1) := oq_3 (bq_in kqX10_drop_0 14 rfl)
theorem dX10_drop_15 : decode cX10_drop 15 = .ok (.ireturn, 1) := oq_172 (bq_in kqX10_drop_0 15 rfl)
theorem dX10_drop_16 : decode cX10_drop 16 = .ok (.aload_n 0, 1) := oq_42 (bq_in kqX10_drop_0 16 rfl)
theorem dX10_drop_17 : decode cX10_drop 17 = .ok (.iload_n 1, 1) := oq_27 (bq_in kqX10_drop_0 17 rfl)
