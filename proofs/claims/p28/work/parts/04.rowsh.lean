theorem dX10_laysTimes_33 : decode cX10_laysTimes 33 = .ok (.iadd, 1) := by decide +kernel
theorem dX10_laysTimes_34 : decode cX10_laysTimes 34 = .ok (.iaload, 1) := by decide +kernel
theorem dX10_laysTimes_35 : decode cX10_laysTimes 35 = .ok (.istore 7, 2) := by decide +kernel
theorem dX10_laysTimes_37 : decode cX10_laysTimes 37 = .ok (.aload_n 0, 1) := by decide +kernel
theorem dX10_laysTimes_38 : decode cX10_laysTimes 38 = .ok (.iload_n 1, 1) := by decide +kernel
theorem dX10_laysTimes_39 : decode cX10_laysTimes 39 = .ok (.iload 7, 2) := by decide +kernel
theorem dX10_laysTimes_41 : decode cX10_laysTimes 41 = .ok (.invokevirtual 239, 3) := by decide +kernel
theorem dX10_laysTimes_44 : decode cX10_laysTimes 44 = .ok (.ifCond .lt 6, 3) := by decide +kernel
theorem dX10_laysTimes_47 : decode cX10_laysTimes 47 = .ok (.goto 41, 3) := by decide +kernel
theorem dX10_laysTimes_50 : decode cX10_laysTimes 50 = .ok (.aload_n 0, 1) := by decide +kernel
theorem dX10_laysTimes_51 : decode cX10_laysTimes 51 = .ok (.getfield 39, 3) := by decide +kernel
theorem dX10_laysTimes_54 : decode cX10_laysTimes 54 = .ok (.iload 4, 2) := by decide +kernel
theorem dX10_laysTimes_56 : decode cX10_laysTimes 56 = .ok (.iload 5, 2) := by decide +kernel
theorem dX10_laysTimes_58 : decode cX10_laysTimes 58 = .ok (.iadd, 1) := by decide +kernel
theorem dX10_laysTimes_59 : decode cX10_laysTimes 59 = .ok (.iload 7, 2) := by decide +kernel
theorem dX10_laysTimes_61 : decode cX10_laysTimes 61 = .ok (.iastore, 1) := by decide +kernel
theorem dX10_laysTimes_62 : decode cX10_laysTimes 62 = .ok (.aload_n 0, 1) := by decide +kernel
theorem dX10_laysTimes_63 : decode cX10_laysTimes 63 = .ok (.getfield 36, 3) := by decide +kernel
theorem dX10_laysTimes_66 : decode cX10_laysTimes 66 = .ok (.iload 4, 2) := by decide +kernel
theorem dX10_laysTimes_68 : decode cX10_laysTimes 68 = .ok (.iload 5, 2) := by decide +kernel
theorem dX10_laysTimes_70 : decode cX10_laysTimes 70 = .ok (.iadd, 1) := by decide +kernel
theorem dX10_laysTimes_71 : decode cX10_laysTimes 71 = .ok (.sipush 1440, 3) := by decide +kernel
theorem dX10_laysTimes_74 : decode cX10_laysTimes 74 = .ok (.iload 7, 2) := by decide +kernel
theorem dX10_laysTimes_76 : decode cX10_laysTimes 76 = .ok (.imul, 1) := by decide +kernel
theorem dX10_laysTimes_77 : decode cX10_laysTimes 77 = .ok (.aload_n 0, 1) := by decide +kernel
theorem dX10_laysTimes_78 : decode cX10_laysTimes 78 = .ok (.iload_n 1, 1) := by decide +kernel
theorem dX10_laysTimes_79 : decode cX10_laysTimes 79 = .ok (.iconst 1, 1) := by decide +kernel
theorem dX10_laysTimes_80 : decode cX10_laysTimes 80 = .ok (.invokevirtual 229, 3) := by decide +kernel
theorem dX10_laysTimes_83 : decode cX10_laysTimes 83 = .ok (.iadd, 1) := by decide +kernel
theorem dX10_laysTimes_84 : decode cX10_laysTimes 84 = .ok (.iastore, 1) := by decide +kernel
theorem dX10_laysTimes_85 : decode cX10_laysTimes 85 = .ok (.iinc 5 1, 3) := by decide +kernel
theorem dX10_laysTimes_88 : decode cX10_laysTimes 88 = .ok (.iinc 6 1, 3) := by decide +kernel
theorem dX10_laysTimes_91 : decode cX10_laysTimes 91 = .ok (.goto (-72), 3) := by decide +kernel
theorem dX10_laysTimes_94 : decode cX10_laysTimes 94 = .ok (.iconst 0, 1) := by decide +kernel
theorem dX10_laysTimes_95 : decode cX10_laysTimes 95 = .ok (.istore 6, 2) := by decide +kernel
theorem dX10_laysTimes_97 : decode cX10_laysTimes 97 = .ok (.iload 6, 2) := by decide +kernel
theorem dX10_laysTimes_99 : decode cX10_laysTimes 99 = .ok (.aload_n 0, 1) := by decide +kernel
theorem dX10_laysTimes_100 : decode cX10_laysTimes 100 = .ok (.iload_n 1, 1) := by decide +kernel
theorem dX10_laysTimes_101 : decode cX10_laysTimes 101 = .ok (.bipush 11, 2) := by decide +kernel
theorem dX10_laysTimes_103 : decode cX10_laysTimes 103 = .ok (.invokevirtual 229, 3) := by decide +kernel
theorem dX10_laysTimes_106 : decode cX10_laysTimes 106 = .ok (.if_icmp .ge 184, 3) := by decide +kernel
theorem dX10_laysTimes_109 : decode cX10_laysTimes 109 = .ok (.aload_n 0, 1) := by decide +kernel
theorem dX10_laysTimes_110 : decode cX10_laysTimes 110 = .ok (.iload_n 1, 1) := by decide +kernel
theorem dX10_laysTimes_111 : decode cX10_laysTimes 111 = .ok (.bipush 12, 2) := by decide +kernel
theorem dX10_laysTimes_113 : decode cX10_laysTimes 113 = .ok (.iconst 2, 1) := by decide +kernel
theorem dX10_laysTimes_114 : decode cX10_laysTimes 114 = .ok (.iload 6, 2) := by decide +kernel
theorem dX10_laysTimes_116 : decode cX10_laysTimes 116 = .ok (.imul, 1) := by decide +kernel
theorem dX10_laysTimes_117 : decode cX10_laysTimes 117 = .ok (.iadd, 1) := by decide +kernel
theorem dX10_laysTimes_118 : decode cX10_laysTimes 118 = .ok (.iconst 1, 1) := by decide +kernel
theorem dX10_laysTimes_119 : decode cX10_laysTimes 119 = .ok (.iadd, 1) := by decide +kernel
theorem dX10_laysTimes_120 : decode cX10_laysTimes 120 = .ok (.invokevirtual 229, 3) := by decide +kernel
theorem dX10_laysTimes_123 : decode cX10_laysTimes 123 = .ok (.istore 7, 2) := by decide +kernel
theorem dX10_laysTimes_125 : decode cX10_laysTimes 125 = .ok (.aload_n 0, 1) := by decide +kernel
theorem dX10_laysTimes_126 : decode cX10_laysTimes 126 = .ok (.iload_n 1, 1) := by decide +kernel
theorem dX10_laysTimes_127 : decode cX10_laysTimes 127 = .ok (.bipush 12, 2) := by decide +kernel
theorem dX10_laysTimes_129 : decode cX10_laysTimes 129 = .ok (.iconst 2, 1) := by decide +kernel
theorem dX10_laysTimes_130 : decode cX10_laysTimes 130 = .ok (.iload 6, 2) := by decide +kernel
theorem dX10_laysTimes_132 : decode cX10_laysTimes 132 = .ok (.imul, 1) := by decide +kernel
theorem dX10_laysTimes_133 : decode cX10_laysTimes 133 = .ok (.iadd, 1) := by decide +kernel
theorem dX10_laysTimes_134 : decode cX10_laysTimes 134 = .ok (.invokevirtual 229, 3) := by decide +kernel
theorem dX10_laysTimes_137 : decode cX10_laysTimes 137 = .ok (.istore 8, 2) := by decide +kernel
theorem dX10_laysTimes_139 : decode cX10_laysTimes 139 = .ok (.iload 7, 2) := by decide +kernel
theorem dX10_laysTimes_141 : decode cX10_laysTimes 141 = .ok (.ifCond .ge 6, 3) := by decide +kernel
theorem dX10_laysTimes_144 : decode cX10_laysTimes 144 = .ok (.goto 140, 3) := by decide +kernel
theorem dX10_laysTimes_147 : decode cX10_laysTimes 147 = .ok (.iload 5, 2) := by decide +kernel
theorem dX10_laysTimes_149 : decode cX10_laysTimes 149 = .ok (.istore 9, 2) := by decide +kernel
theorem dX10_laysTimes_151 : decode cX10_laysTimes 151 = .ok (.iload 9, 2) := by decide +kernel
theorem dX10_laysTimes_153 : decode cX10_laysTimes 153 = .ok (.ifCond .le 104, 3) := by decide +kernel
theorem dX10_laysTimes_156 : decode cX10_laysTimes 156 = .ok (.aload_n 0, 1) := by decide +kernel
theorem dX10_laysTimes_157 : decode cX10_laysTimes 157 = .ok (.getfield 36, 3) := by decide +kernel
theorem dX10_laysTimes_160 : decode cX10_laysTimes 160 = .ok (.iload 4, 2) := by decide +kernel
theorem dX10_laysTimes_162 : decode cX10_laysTimes 162 = .ok (.iload 9, 2) := by decide +kernel
theorem dX10_laysTimes_164 : decode cX10_laysTimes 164 = .ok (.iadd, 1) := by decide +kernel
theorem dX10_laysTimes_165 : decode cX10_laysTimes 165 = .ok (.iconst 1, 1) := by decide +kernel
theorem dX10_laysTimes_166 : decode cX10_laysTimes 166 = .ok (.isub, 1) := by decide +kernel
theorem dX10_laysTimes_167 : decode cX10_laysTimes 167 = .ok (.iaload, 1) := by decide +kernel
theorem dX10_laysTimes_168 : decode cX10_laysTimes 168 = .ok (.iload 7, 2) := by decide +kernel
theorem dX10_laysTimes_170 : decode cX10_laysTimes 170 = .ok (.if_icmp .gt 37, 3) := by decide +kernel
theorem dX10_laysTimes_173 : decode cX10_laysTimes 173 = .ok (.aload_n 0, 1) := by decide +kernel
theorem dX10_laysTimes_174 : decode cX10_laysTimes 174 = .ok (.getfield 36, 3) := by decide +kernel
theorem dX10_laysTimes_177 : decode cX10_laysTimes 177 = .ok (.iload 4, 2) := by decide +kernel
theorem dX10_laysTimes_179 : decode cX10_laysTimes 179 = .ok (.iload 9, 2) := by decide +kernel
theorem dX10_laysTimes_181 : decode cX10_laysTimes 181 = .ok (.iadd, 1) := by decide +kernel
theorem dX10_laysTimes_182 : decode cX10_laysTimes 182 = .ok (.iconst 1, 1) := by decide +kernel
theorem dX10_laysTimes_183 : decode cX10_laysTimes 183 = .ok (.isub, 1) := by decide +kernel
theorem dX10_laysTimes_184 : decode cX10_laysTimes 184 = .ok (.iaload, 1) := by decide +kernel
theorem dX10_laysTimes_185 : decode cX10_laysTimes 185 = .ok (.iload 7, 2) := by decide +kernel
theorem dX10_laysTimes_187 : decode cX10_laysTimes 187 = .ok (.if_icmp .ne 70, 3) := by decide +kernel
theorem dX10_laysTimes_190 : decode cX10_laysTimes 190 = .ok (.aload_n 0, 1) := by decide +kernel
theorem dX10_laysTimes_191 : decode cX10_laysTimes 191 = .ok (.getfield 39, 3) := by decide +kernel
theorem dX10_laysTimes_194 : decode cX10_laysTimes 194 = .ok (.iload 4, 2) := by decide +kernel
theorem dX10_laysTimes_196 : decode cX10_laysTimes 196 = .ok (.iload 9, 2) := by decide +kernel
theorem dX10_laysTimes_198 : decode cX10_laysTimes 198 = .ok (.iadd, 1) := by decide +kernel
theorem dX10_laysTimes_199 : decode cX10_laysTimes 199 = .ok (.iconst 1, 1) := by decide +kernel
theorem dX10_laysTimes_200 : decode cX10_laysTimes 200 = .ok (.isub, 1) := by decide +kernel
theorem dX10_laysTimes_201 : decode cX10_laysTimes 201 = .ok (.iaload, 1) := by decide +kernel
theorem dX10_laysTimes_202 : decode cX10_laysTimes 202 = .ok (.iload 8, 2) := by decide +kernel
theorem dX10_laysTimes_204 : decode cX10_laysTimes 204 = .ok (.if_icmp .le 53, 3) := by decide +kernel
theorem dX10_laysTimes_207 : decode cX10_laysTimes 207 = .ok (.aload_n 0, 1) := by decide +kernel
theorem dX10_laysTimes_208 : decode cX10_laysTimes 208 = .ok (.getfield 36, 3) := by decide +kernel
theorem dX10_laysTimes_211 : decode cX10_laysTimes 211 = .ok (.iload 4, 2) := by decide +kernel
theorem dX10_laysTimes_213 : decode cX10_laysTimes 213 = .ok (.iload 9, 2) := by decide +kernel
theorem dX10_laysTimes_215 : decode cX10_laysTimes 215 = .ok (.iadd, 1) := by decide +kernel
theorem dX10_laysTimes_216 : decode cX10_laysTimes 216 = .ok (.aload_n 0, 1) := by decide +kernel
theorem dX10_laysTimes_217 : decode cX10_laysTimes 217 = .ok (.getfield 36, 3) := by decide +kernel
theorem dX10_laysTimes_220 : decode cX10_laysTimes 220 = .ok (.iload 4, 2) := by decide +kernel
theorem dX10_laysTimes_222 : decode cX10_laysTimes 222 = .ok (.iload 9, 2) := by decide +kernel
theorem dX10_laysTimes_224 : decode cX10_laysTimes 224 = .ok (.iadd, 1) := by decide +kernel
theorem dX10_laysTimes_225 : decode cX10_laysTimes 225 = .ok (.iconst 1, 1) := by decide +kernel
theorem dX10_laysTimes_226 : decode cX10_laysTimes 226 = .ok (.isub, 1) := by decide +kernel
theorem dX10_laysTimes_227 : decode cX10_laysTimes 227 = .ok (.iaload, 1) := by decide +kernel
theorem dX10_laysTimes_228 : decode cX10_laysTimes 228 = .ok (.iastore, 1) := by decide +kernel
theorem dX10_laysTimes_229 : decode cX10_laysTimes 229 = .ok (.aload_n 0, 1) := by decide +kernel
theorem dX10_laysTimes_230 : decode cX10_laysTimes 230 = .ok (.getfield 39, 3) := by decide +kernel
theorem dX10_laysTimes_233 : decode cX10_laysTimes 233 = .ok (.iload 4, 2) := by decide +kernel
theorem dX10_laysTimes_235 : decode cX10_laysTimes 235 = .ok (.iload 9, 2) := by decide +kernel
theorem dX10_laysTimes_237 : decode cX10_laysTimes 237 = .ok (.iadd, 1) := by decide +kernel
theorem dX10_laysTimes_238 : decode cX10_laysTimes 238 = .ok (.aload_n 0, 1) := by decide +kernel
theorem dX10_laysTimes_239 : decode cX10_laysTimes 239 = .ok (.getfield 39, 3) := by decide +kernel
theorem dX10_laysTimes_242 : decode cX10_laysTimes 242 = .ok (.iload 4, 2) := by decide +kernel
theorem dX10_laysTimes_244 : decode cX10_laysTimes 244 = .ok (.iload 9, 2) := by decide +kernel
theorem dX10_laysTimes_246 : decode cX10_laysTimes 246 = .ok (.iadd, 1) := by decide +kernel
theorem dX10_laysTimes_247 : decode cX10_laysTimes 247 = .ok (.iconst 1, 1) := by decide +kernel
theorem dX10_laysTimes_248 : decode cX10_laysTimes 248 = .ok (.isub, 1) := by decide +kernel
theorem dX10_laysTimes_249 : decode cX10_laysTimes 249 = .ok (.iaload, 1) := by decide +kernel
theorem dX10_laysTimes_250 : decode cX10_laysTimes 250 = .ok (.iastore, 1) := by decide +kernel
theorem dX10_laysTimes_251 : decode cX10_laysTimes 251 = .ok (.iinc 9 (-1), 3) := by decide +kernel
theorem dX10_laysTimes_254 : decode cX10_laysTimes 254 = .ok (.goto (-103), 3) := by decide +kernel
theorem dX10_laysTimes_257 : decode cX10_laysTimes 257 = .ok (.aload_n 0, 1) := by decide +kernel
theorem dX10_laysTimes_258 : decode cX10_laysTimes 258 = .ok (.getfield 36, 3) := by decide +kernel
theorem dX10_laysTimes_261 : decode cX10_laysTimes 261 = .ok (.iload 4, 2) := by decide +kernel
theorem dX10_laysTimes_263 : decode cX10_laysTimes 263 = .ok (.iload 9, 2) := by decide +kernel
theorem dX10_laysTimes_265 : decode cX10_laysTimes 265 = .ok (.iadd, 1) := by decide +kernel
theorem dX10_laysTimes_266 : decode cX10_laysTimes 266 = .ok (.iload 7, 2) := by decide +kernel
theorem dX10_laysTimes_268 : decode cX10_laysTimes 268 = .ok (.iastore, 1) := by decide +kernel
theorem dX10_laysTimes_269 : decode cX10_laysTimes 269 = .ok (.aload_n 0, 1) := by decide +kernel
theorem dX10_laysTimes_270 : decode cX10_laysTimes 270 = .ok (.getfield 39, 3) := by decide +kernel
theorem dX10_laysTimes_273 : decode cX10_laysTimes 273 = .ok (.iload 4, 2) := by decide +kernel
theorem dX10_laysTimes_275 : decode cX10_laysTimes 275 = .ok (.iload 9, 2) := by decide +kernel
theorem dX10_laysTimes_277 : decode cX10_laysTimes 277 = .ok (.iadd, 1) := by decide +kernel
theorem dX10_laysTimes_278 : decode cX10_laysTimes 278 = .ok (.iload 8, 2) := by decide +kernel
theorem dX10_laysTimes_280 : decode cX10_laysTimes 280 = .ok (.iastore, 1) := by decide +kernel
theorem dX10_laysTimes_281 : decode cX10_laysTimes 281 = .ok (.iinc 5 1, 3) := by decide +kernel
theorem dX10_laysTimes_284 : decode cX10_laysTimes 284 = .ok (.iinc 6 1, 3) := by decide +kernel
theorem dX10_laysTimes_287 : decode cX10_laysTimes 287 = .ok (.goto (-190), 3) := by decide +kernel
theorem dX10_laysTimes_290 : decode cX10_laysTimes 290 = .ok (.aload_n 0, 1) := by decide +kernel
theorem dX10_laysTimes_291 : decode cX10_laysTimes 291 = .ok (.getfield 42, 3) := by decide +kernel
theorem dX10_laysTimes_294 : decode cX10_laysTimes 294 = .ok (.iload_n 2, 1) := by decide +kernel
theorem dX10_laysTimes_295 : decode cX10_laysTimes 295 = .ok (.iload 5, 2) := by decide +kernel
theorem dX10_laysTimes_297 : decode cX10_laysTimes 297 = .ok (.iastore, 1) := by decide +kernel
theorem dX10_laysTimes_298 : decode cX10_laysTimes 298 = .ok (.return_, 1) := by decide +kernel
set_option maxRecDepth 20000 in
theorem ggX10_isKey_X10_isBooking : GoodIn wsX10_isKey wsX10_isBooking := goodIn_r _ [6, 7, 8, 9, 5, 10, 37, 38, 39, 40, 41, 42, 43, 44, 45, 46, 47, 48, 49, 50, 51, 52, 53, 54, 55, 56, 57, 58, 59, 60, 61, 62] (by decide +kernel) (by decide +kernel)
set_option maxRecDepth 20000 in
theorem gX10_isKey_X10_isBooking : GoodIn wsX10_isKey (wsV RX10 220 RX10 yX10_isBooking wsX10_isBooking) := goodIn_app (goodIn_of _ (by decide +kernel)) ggX10_isKey_X10_isBooking
set_option maxRecDepth 20000 in
theorem ggX10_isKey_X10_isDay : GoodIn wsX10_isKey wsX10_isDay := goodIn_r _ [13, 14, 8, 9, 5, 10] (by decide +kernel) (by decide +kernel)
set_option maxRecDepth 20000 in
theorem gX10_isKey_X10_isDay : GoodIn wsX10_isKey (va_wsS RX10 223 yX10_isDay wsX10_isDay) := goodIn_app (goodIn_of _ (by decide +kernel)) ggX10_isKey_X10_isDay
set_option maxRecDepth 20000 in
theorem ggX10_isKey_X10_laysKeys : GoodIn wsX10_isKey wsX10_laysKeys := goodIn_r _ [18, 14, 1, 19, 20, 21, 22, 23, 5, 24, 25, 26, 27, 28, 29, 30, 31, 32, 33, 34, 35, 36, 37, 38, 39, 40, 41, 42, 43, 44, 45, 46, 47, 48, 49, 50, 51, 52, 53, 54, 55, 56, 57, 58, 59, 60, 61, 62] (by decide +kernel) (by decide +kernel)
set_option maxRecDepth 20000 in
theorem gX10_isKey_X10_laysKeys : GoodIn wsX10_isKey (wsV RX10 236 RX10 yX10_laysKeys wsX10_laysKeys) := goodIn_app (goodIn_of _ (by decide +kernel)) ggX10_isKey_X10_laysKeys
theorem dX10_isKey_0 : decode cX10_isKey 0 = .ok (.aload_n 0, 1) := by decide +kernel
theorem dX10_isKey_1 : decode cX10_isKey 1 = .ok (.iload_n 1, 1) := by decide +kernel
theorem dX10_isKey_2 : decode cX10_isKey 2 = .ok (.invokevirtual 220, 3) := by decide +kernel
theorem dX10_isKey_5 : decode cX10_isKey 5 = .ok (.ifCond .eq 10, 3) := by decide +kernel
theorem dX10_isKey_8 : decode cX10_isKey 8 = .ok (.iload_n 2, 1) := by decide +kernel
theorem dX10_isKey_9 : decode cX10_isKey 9 = .ok (.invokestatic 223, 3) := by decide +kernel
theorem dX10_isKey_12 : decode cX10_isKey 12 = .ok (.ifCond .ne 5, 3) := by decide +kernel
theorem dX10_isKey_15 : decode cX10_isKey 15 = .ok (.iconst 0, 1) := by decide +kernel
theorem dX10_isKey_16 : decode cX10_isKey 16 = .ok (.ireturn, 1) := by decide +kernel
theorem dX10_isKey_17 : decode cX10_isKey 17 = .ok (.aload_n 0, 1) := by decide +kernel
theorem dX10_isKey_18 : decode cX10_isKey 18 = .ok (.iload_n 1, 1) := by decide +kernel
theorem dX10_isKey_19 : decode cX10_isKey 19 = .ok (.iconst 0, 1) := by decide +kernel
theorem dX10_isKey_20 : decode cX10_isKey 20 = .ok (.invokevirtual 236, 3) := by decide +kernel
theorem dX10_isKey_23 : decode cX10_isKey 23 = .ok (.istore_n 3, 1) := by decide +kernel
theorem dX10_isKey_24 : decode cX10_isKey 24 = .ok (.iconst 0, 1) := by decide +kernel
theorem dX10_isKey_25 : decode cX10_isKey 25 = .ok (.istore 4, 2) := by decide +kernel
theorem dX10_isKey_27 : decode cX10_isKey 27 = .ok (.iload 4, 2) := by decide +kernel
theorem dX10_isKey_29 : decode cX10_isKey 29 = .ok (.iload_n 3, 1) := by decide +kernel
theorem dX10_isKey_30 : decode cX10_isKey 30 = .ok (.if_icmp .ge 22, 3) := by decide +kernel
theorem dX10_isKey_33 : decode cX10_isKey 33 = .ok (.aload_n 0, 1) := by decide +kernel
theorem dX10_isKey_34 : decode cX10_isKey 34 = .ok (.getfield 39, 3) := by decide +kernel
theorem dX10_isKey_37 : decode cX10_isKey 37 = .ok (.iload 4, 2) := by decide +kernel
theorem dX10_isKey_39 : decode cX10_isKey 39 = .ok (.iaload, 1) := by decide +kernel
theorem dX10_isKey_40 : decode cX10_isKey 40 = .ok (.iload_n 2, 1) := by decide +kernel
theorem dX10_isKey_41 : decode cX10_isKey 41 = .ok (.if_icmp .ne 5, 3) := by decide +kernel
theorem dX10_isKey_44 : decode cX10_isKey 44 = .ok (.iconst 1, 1) := by decide +kernel
theorem dX10_isKey_45 : decode cX10_isKey 45 = .ok (.ireturn, 1) := by decide +kernel
theorem dX10_isKey_46 : decode cX10_isKey 46 = .ok (.iinc 4 1, 3) := by decide +kernel
theorem dX10_isKey_49 : decode cX10_isKey 49 = .ok (.goto (-22), 3) := by decide +kernel
theorem dX10_isKey_52 : decode cX10_isKey 52 = .ok (.iconst 0, 1) := by decide +kernel
theorem dX10_isKey_53 : decode cX10_isKey 53 = .ok (.ireturn, 1) := by decide +kernel
set_option maxRecDepth 20000 in
theorem ggX10_key_X10_isBooking : GoodIn wsX10_key wsX10_isBooking := goodIn_r _ [7, 8, 9, 10, 6, 11, 38, 39, 40, 41, 42, 43, 44, 45, 46, 47, 48, 49, 50, 51, 52, 53, 54, 55, 56, 57, 58, 59, 60, 61, 62, 63] (by decide +kernel) (by decide +kernel)
set_option maxRecDepth 20000 in
theorem gX10_key_X10_isBooking : GoodIn wsX10_key (wsV RX10 220 RX10 yX10_isBooking wsX10_isBooking) := goodIn_app (goodIn_of _ (by decide +kernel)) ggX10_key_X10_isBooking
set_option maxRecDepth 20000 in
theorem ggX10_key_X10_isDay : GoodIn wsX10_key wsX10_isDay := goodIn_r _ [14, 15, 9, 10, 6, 11] (by decide +kernel) (by decide +kernel)
set_option maxRecDepth 20000 in
theorem gX10_key_X10_isDay : GoodIn wsX10_key (va_wsS RX10 223 yX10_isDay wsX10_isDay) := goodIn_app (goodIn_of _ (by decide +kernel)) ggX10_key_X10_isDay
set_option maxRecDepth 20000 in
theorem ggX10_key_X10_laysKeys : GoodIn wsX10_key wsX10_laysKeys := goodIn_r _ [19, 15, 2, 20, 21, 22, 23, 24, 6, 25, 26, 27, 28, 29, 30, 31, 32, 33, 34, 35, 36, 37, 38, 39, 40, 41, 42, 43, 44, 45, 46, 47, 48, 49, 50, 51, 52, 53, 54, 55, 56, 57, 58, 59, 60, 61, 62, 63] (by decide +kernel) (by decide +kernel)
set_option maxRecDepth 20000 in
theorem gX10_key_X10_laysKeys : GoodIn wsX10_key (wsV RX10 236 RX10 yX10_laysKeys wsX10_laysKeys) := goodIn_app (goodIn_of _ (by decide +kernel)) ggX10_key_X10_laysKeys
theorem dX10_key_0 : decode cX10_key 0 = .ok (.aload_n 0, 1) := by decide +kernel
theorem dX10_key_1 : decode cX10_key 1 = .ok (.iconst 0, 1) := by decide +kernel
theorem dX10_key_2 : decode cX10_key 2 = .ok (.putfield 60, 3) := by decide +kernel
theorem dX10_key_5 : decode cX10_key 5 = .ok (.aload_n 0, 1) := by decide +kernel
theorem dX10_key_6 : decode cX10_key 6 = .ok (.iload_n 1, 1) := by decide +kernel
theorem dX10_key_7 : decode cX10_key 7 = .ok (.invokevirtual 220, 3) := by decide +kernel
theorem dX10_key_10 : decode cX10_key 10 = .ok (.ifCond .eq 10, 3) := by decide +kernel
theorem dX10_key_13 : decode cX10_key 13 = .ok (.iload_n 2, 1) := by decide +kernel
theorem dX10_key_14 : decode cX10_key 14 = .ok (.invokestatic 223, 3) := by decide +kernel
theorem dX10_key_17 : decode cX10_key 17 = .ok (.ifCond .ne 5, 3) := by decide +kernel
theorem dX10_key_20 : decode cX10_key 20 = .ok (.iconst (-1), 1) := by decide +kernel
theorem dX10_key_21 : decode cX10_key 21 = .ok (.ireturn, 1) := by decide +kernel
theorem dX10_key_22 : decode cX10_key 22 = .ok (.aload_n 0, 1) := by decide +kernel
theorem dX10_key_23 : decode cX10_key 23 = .ok (.iload_n 1, 1) := by decide +kernel
theorem dX10_key_24 : decode cX10_key 24 = .ok (.iconst 0, 1) := by decide +kernel
theorem dX10_key_25 : decode cX10_key 25 = .ok (.invokevirtual 236, 3) := by decide +kernel
theorem dX10_key_28 : decode cX10_key 28 = .ok (.istore_n 3, 1) := by decide +kernel
theorem dX10_key_29 : decode cX10_key 29 = .ok (.iconst 0, 1) := by decide +kernel
theorem dX10_key_30 : decode cX10_key 30 = .ok (.istore 4, 2) := by decide +kernel
theorem dX10_key_32 : decode cX10_key 32 = .ok (.iload 4, 2) := by decide +kernel
theorem dX10_key_34 : decode cX10_key 34 = .ok (.iload_n 3, 1) := by decide +kernel
theorem dX10_key_35 : decode cX10_key 35 = .ok (.if_icmp .ge 28, 3) := by decide +kernel
theorem dX10_key_38 : decode cX10_key 38 = .ok (.aload_n 0, 1) := by decide +kernel
theorem dX10_key_39 : decode cX10_key 39 = .ok (.getfield 39, 3) := by decide +kernel
theorem dX10_key_42 : decode cX10_key 42 = .ok (.iload 4, 2) := by decide +kernel
theorem dX10_key_44 : decode cX10_key 44 = .ok (.iaload, 1) := by decide +kernel
theorem dX10_key_45 : decode cX10_key 45 = .ok (.iload_n 2, 1) := by decide +kernel
theorem dX10_key_46 : decode cX10_key 46 = .ok (.if_icmp .lt 11, 3) := by decide +kernel
theorem dX10_key_49 : decode cX10_key 49 = .ok (.aload_n 0, 1) := by decide +kernel
theorem dX10_key_50 : decode cX10_key 50 = .ok (.getfield 39, 3) := by decide +kernel
theorem dX10_key_53 : decode cX10_key 53 = .ok (.iload 4, 2) := by decide +kernel
theorem dX10_key_55 : decode cX10_key 55 = .ok (.iaload, 1) := by decide +kernel
theorem dX10_key_56 : decode cX10_key 56 = .ok (.ireturn, 1) := by decide +kernel
theorem dX10_key_57 : decode cX10_key 57 = .ok (.iinc 4 1, 3) := by decide +kernel
theorem dX10_key_60 : decode cX10_key 60 = .ok (.goto (-28), 3) := by decide +kernel
theorem dX10_key_63 : decode cX10_key 63 = .ok (.iconst (-1), 1) := by decide +kernel
theorem dX10_key_64 : decode cX10_key 64 = .ok (.ireturn, 1) := by decide +kernel
set_option maxRecDepth 20000 in
theorem ggX10_keys_X10_isBooking : GoodIn wsX10_keys wsX10_isBooking := goodIn_r _ [7, 8, 9, 10, 6, 11, 38, 39, 40, 41, 42, 43, 44, 45, 46, 47, 48, 49, 50, 51, 52, 53, 54, 55, 56, 57, 58, 59, 60, 61, 62, 63] (by decide +kernel) (by decide +kernel)
set_option maxRecDepth 20000 in
theorem gX10_keys_X10_isBooking : GoodIn wsX10_keys (wsV RX10 220 RX10 yX10_isBooking wsX10_isBooking) := goodIn_app (goodIn_of _ (by decide +kernel)) ggX10_keys_X10_isBooking
set_option maxRecDepth 20000 in
theorem ggX10_keys_X10_isDay : GoodIn wsX10_keys wsX10_isDay := goodIn_r _ [14, 15, 9, 10, 6, 11] (by decide +kernel) (by decide +kernel)
set_option maxRecDepth 20000 in
theorem gX10_keys_X10_isDay : GoodIn wsX10_keys (va_wsS RX10 223 yX10_isDay wsX10_isDay) := goodIn_app (goodIn_of _ (by decide +kernel)) ggX10_keys_X10_isDay
set_option maxRecDepth 20000 in
theorem ggX10_keys_X10_laysKeys : GoodIn wsX10_keys wsX10_laysKeys := goodIn_r _ [19, 15, 2, 20, 21, 22, 23, 24, 6, 25, 26, 27, 28, 29, 30, 31, 32, 33, 34, 35, 36, 37, 38, 39, 40, 41, 42, 43, 44, 45, 46, 47, 48, 49, 50, 51, 52, 53, 54, 55, 56, 57, 58, 59, 60, 61, 62, 63] (by decide +kernel) (by decide +kernel)
set_option maxRecDepth 20000 in
theorem gX10_keys_X10_laysKeys : GoodIn wsX10_keys (wsV RX10 236 RX10 yX10_laysKeys wsX10_laysKeys) := goodIn_app (goodIn_of _ (by decide +kernel)) ggX10_keys_X10_laysKeys
set_option maxRecDepth 20000 in
theorem ggX10_keys_X10_within : GoodIn wsX10_keys wsX10_within := goodIn_r _ [11] (by decide +kernel) (by decide +kernel)
set_option maxRecDepth 20000 in
theorem gX10_keys_X10_within : GoodIn wsX10_keys (va_wsS RX10 65 yX10_within wsX10_within) := goodIn_app (goodIn_of _ (by decide +kernel)) ggX10_keys_X10_within
theorem dX10_keys_0 : decode cX10_keys 0 = .ok (.aload_n 0, 1) := by decide +kernel
theorem dX10_keys_1 : decode cX10_keys 1 = .ok (.iconst 0, 1) := by decide +kernel
theorem dX10_keys_2 : decode cX10_keys 2 = .ok (.putfield 60, 3) := by decide +kernel
theorem dX10_keys_5 : decode cX10_keys 5 = .ok (.aload_n 0, 1) := by decide +kernel
theorem dX10_keys_6 : decode cX10_keys 6 = .ok (.iload_n 1, 1) := by decide +kernel
theorem dX10_keys_7 : decode cX10_keys 7 = .ok (.invokevirtual 220, 3) := by decide +kernel
theorem dX10_keys_10 : decode cX10_keys 10 = .ok (.ifCond .eq 22, 3) := by decide +kernel
theorem dX10_keys_13 : decode cX10_keys 13 = .ok (.iload_n 2, 1) := by decide +kernel
theorem dX10_keys_14 : decode cX10_keys 14 = .ok (.invokestatic 223, 3) := by decide +kernel
theorem dX10_keys_17 : decode cX10_keys 17 = .ok (.ifCond .eq 15, 3) := by decide +kernel
theorem dX10_keys_20 : decode cX10_keys 20 = .ok (.iload_n 3, 1) := by decide +kernel
theorem dX10_keys_21 : decode cX10_keys 21 = .ok (.invokestatic 223, 3) := by decide +kernel
theorem dX10_keys_24 : decode cX10_keys 24 = .ok (.ifCond .eq 8, 3) := by decide +kernel
theorem dX10_keys_27 : decode cX10_keys 27 = .ok (.iload_n 3, 1) := by decide +kernel
theorem dX10_keys_28 : decode cX10_keys 28 = .ok (.iload_n 2, 1) := by decide +kernel
theorem dX10_keys_29 : decode cX10_keys 29 = .ok (.if_icmp .ge 5, 3) := by decide +kernel
theorem dX10_keys_32 : decode cX10_keys 32 = .ok (.iconst (-1), 1) := by decide +kernel
theorem dX10_keys_33 : decode cX10_keys 33 = .ok (.ireturn, 1) := by decide +kernel
theorem dX10_keys_34 : decode cX10_keys 34 = .ok (.aload_n 0, 1) := by decide +kernel
theorem dX10_keys_35 : decode cX10_keys 35 = .ok (.iload_n 1, 1) := by decide +kernel
theorem dX10_keys_36 : decode cX10_keys 36 = .ok (.iconst 0, 1) := by decide +kernel
theorem dX10_keys_37 : decode cX10_keys 37 = .ok (.invokevirtual 236, 3) := by decide +kernel
theorem dX10_keys_40 : decode cX10_keys 40 = .ok (.istore 4, 2) := by decide +kernel
theorem dX10_keys_42 : decode cX10_keys 42 = .ok (.iconst 0, 1) := by decide +kernel
theorem dX10_keys_43 : decode cX10_keys 43 = .ok (.istore 5, 2) := by decide +kernel
theorem dX10_keys_45 : decode cX10_keys 45 = .ok (.iconst 0, 1) := by decide +kernel
theorem dX10_keys_46 : decode cX10_keys 46 = .ok (.istore 6, 2) := by decide +kernel
theorem dX10_keys_48 : decode cX10_keys 48 = .ok (.iload 6, 2) := by decide +kernel
theorem dX10_keys_50 : decode cX10_keys 50 = .ok (.iload 4, 2) := by decide +kernel
theorem dX10_keys_52 : decode cX10_keys 52 = .ok (.if_icmp .ge 27, 3) := by decide +kernel
theorem dX10_keys_55 : decode cX10_keys 55 = .ok (.aload_n 0, 1) := by decide +kernel
theorem dX10_keys_56 : decode cX10_keys 56 = .ok (.getfield 39, 3) := by decide +kernel
theorem dX10_keys_59 : decode cX10_keys 59 = .ok (.iload 6, 2) := by decide +kernel
theorem dX10_keys_61 : decode cX10_keys 61 = .ok (.iaload, 1) := by decide +kernel
theorem dX10_keys_62 : decode cX10_keys 62 = .ok (.iload_n 2, 1) := by decide +kernel
theorem dX10_keys_63 : decode cX10_keys 63 = .ok (.iload_n 3, 1) := by decide +kernel
theorem dX10_keys_64 : decode cX10_keys 64 = .ok (.invokestatic 65, 3) := by decide +kernel
theorem dX10_keys_67 : decode cX10_keys 67 = .ok (.ifCond .eq 6, 3) := by decide +kernel
theorem dX10_keys_70 : decode cX10_keys 70 = .ok (.iinc 5 1, 3) := by decide +kernel
theorem dX10_keys_73 : decode cX10_keys 73 = .ok (.iinc 6 1, 3) := by decide +kernel
theorem dX10_keys_76 : decode cX10_keys 76 = .ok (.goto (-28), 3) := by decide +kernel
theorem dX10_keys_79 : decode cX10_keys 79 = .ok (.iload 5, 2) := by decide +kernel
theorem dX10_keys_81 : decode cX10_keys 81 = .ok (.ireturn, 1) := by decide +kernel
set_option maxRecDepth 20000 in
theorem ggX10_tellsOdd_X10_oddOf : GoodIn wsX10_tellsOdd wsX10_oddOf := goodIn_r _ [6, 7, 8, 9, 5, 10, 1, 11, 12, 13, 14, 15, 16, 17, 18, 19, 20, 21, 22, 23, 24, 25, 26, 27, 28, 29, 30, 31, 32, 33, 34, 35, 36] (by decide +kernel) (by decide +kernel)
set_option maxRecDepth 20000 in
theorem gX10_tellsOdd_X10_oddOf : GoodIn wsX10_tellsOdd (wsV RX10 239 RX10 yX10_oddOf wsX10_oddOf) := goodIn_app (goodIn_of _ (by decide +kernel)) ggX10_tellsOdd_X10_oddOf
set_option maxRecDepth 20000 in
theorem ggX10_tellsOdd_X10_get : GoodIn wsX10_tellsOdd wsX10_get := goodIn_r _ [10, 1, 11, 12, 13, 14, 15, 16, 17, 18, 19, 20, 21, 22, 23, 24, 25, 26, 27, 28, 29, 30, 31, 32, 33, 34, 35, 36] (by decide +kernel) (by decide +kernel)
set_option maxRecDepth 20000 in
theorem gX10_tellsOdd_X10_get : GoodIn wsX10_tellsOdd (wsV RX10 229 RX10 yX10_get wsX10_get) := goodIn_app (goodIn_of _ (by decide +kernel)) ggX10_tellsOdd_X10_get
theorem dX10_tellsOdd_0 : decode cX10_tellsOdd 0 = .ok (.aload_n 0, 1) := by decide +kernel
theorem dX10_tellsOdd_1 : decode cX10_tellsOdd 1 = .ok (.iload_n 1, 1) := by decide +kernel
theorem dX10_tellsOdd_2 : decode cX10_tellsOdd 2 = .ok (.iload_n 2, 1) := by decide +kernel
theorem dX10_tellsOdd_3 : decode cX10_tellsOdd 3 = .ok (.invokevirtual 239, 3) := by decide +kernel
theorem dX10_tellsOdd_6 : decode cX10_tellsOdd 6 = .ok (.istore 4, 2) := by decide +kernel
theorem dX10_tellsOdd_8 : decode cX10_tellsOdd 8 = .ok (.iload 4, 2) := by decide +kernel
theorem dX10_tellsOdd_10 : decode cX10_tellsOdd 10 = .ok (.ifCond .ge 17, 3) := by decide +kernel
theorem dX10_tellsOdd_13 : decode cX10_tellsOdd 13 = .ok (.aload_n 0, 1) := by decide +kernel
theorem dX10_tellsOdd_14 : decode cX10_tellsOdd 14 = .ok (.iload_n 1, 1) := by decide +kernel
theorem dX10_tellsOdd_15 : decode cX10_tellsOdd 15 = .ok (.bipush 11, 2) := by decide +kernel
theorem dX10_tellsOdd_17 : decode cX10_tellsOdd 17 = .ok (.invokevirtual 229, 3) := by decide +kernel
theorem dX10_tellsOdd_20 : decode cX10_tellsOdd 20 = .ok (.bipush 16, 2) := by decide +kernel
theorem dX10_tellsOdd_22 : decode cX10_tellsOdd 22 = .ok (.if_icmp .ne 5, 3) := by decide +kernel
theorem dX10_tellsOdd_25 : decode cX10_tellsOdd 25 = .ok (.iconst 0, 1) := by decide +kernel
theorem dX10_tellsOdd_26 : decode cX10_tellsOdd 26 = .ok (.ireturn, 1) := by decide +kernel
theorem dX10_tellsOdd_27 : decode cX10_tellsOdd 27 = .ok (.iload 4, 2) := by decide +kernel
theorem dX10_tellsOdd_29 : decode cX10_tellsOdd 29 = .ok (.ifCond .ge 28, 3) := by decide +kernel
theorem dX10_tellsOdd_32 : decode cX10_tellsOdd 32 = .ok (.aload_n 0, 1) := by decide +kernel
theorem dX10_tellsOdd_33 : decode cX10_tellsOdd 33 = .ok (.iload_n 1, 1) := by decide +kernel
theorem dX10_tellsOdd_34 : decode cX10_tellsOdd 34 = .ok (.bipush 11, 2) := by decide +kernel
theorem dX10_tellsOdd_36 : decode cX10_tellsOdd 36 = .ok (.invokevirtual 229, 3) := by decide +kernel
theorem dX10_tellsOdd_39 : decode cX10_tellsOdd 39 = .ok (.istore 4, 2) := by decide +kernel
theorem dX10_tellsOdd_41 : decode cX10_tellsOdd 41 = .ok (.aload_n 0, 1) := by decide +kernel
theorem dX10_tellsOdd_42 : decode cX10_tellsOdd 42 = .ok (.getfield 23, 3) := by decide +kernel
theorem dX10_tellsOdd_45 : decode cX10_tellsOdd 45 = .ok (.bipush 44, 2) := by decide +kernel
theorem dX10_tellsOdd_47 : decode cX10_tellsOdd 47 = .ok (.iload_n 1, 1) := by decide +kernel
theorem dX10_tellsOdd_48 : decode cX10_tellsOdd 48 = .ok (.imul, 1) := by decide +kernel
theorem dX10_tellsOdd_49 : decode cX10_tellsOdd 49 = .ok (.bipush 11, 2) := by decide +kernel
theorem dX10_tellsOdd_51 : decode cX10_tellsOdd 51 = .ok (.iadd, 1) := by decide +kernel
theorem dX10_tellsOdd_52 : decode cX10_tellsOdd 52 = .ok (.dup2, 1) := by decide +kernel
theorem dX10_tellsOdd_53 : decode cX10_tellsOdd 53 = .ok (.iaload, 1) := by decide +kernel
theorem dX10_tellsOdd_54 : decode cX10_tellsOdd 54 = .ok (.iconst 1, 1) := by decide +kernel
theorem dX10_tellsOdd_55 : decode cX10_tellsOdd 55 = .ok (.iadd, 1) := by decide +kernel
theorem dX10_tellsOdd_56 : decode cX10_tellsOdd 56 = .ok (.iastore, 1) := by decide +kernel
theorem dX10_tellsOdd_57 : decode cX10_tellsOdd 57 = .ok (.aload_n 0, 1) := by decide +kernel
theorem dX10_tellsOdd_58 : decode cX10_tellsOdd 58 = .ok (.getfield 23, 3) := by decide +kernel
theorem dX10_tellsOdd_61 : decode cX10_tellsOdd 61 = .ok (.bipush 44, 2) := by decide +kernel
theorem dX10_tellsOdd_63 : decode cX10_tellsOdd 63 = .ok (.iload_n 1, 1) := by decide +kernel
theorem dX10_tellsOdd_64 : decode cX10_tellsOdd 64 = .ok (.imul, 1) := by decide +kernel
theorem dX10_tellsOdd_65 : decode cX10_tellsOdd 65 = .ok (.bipush 12, 2) := by decide +kernel
theorem dX10_tellsOdd_67 : decode cX10_tellsOdd 67 = .ok (.iadd, 1) := by decide +kernel
theorem dX10_tellsOdd_68 : decode cX10_tellsOdd 68 = .ok (.iconst 2, 1) := by decide +kernel
theorem dX10_tellsOdd_69 : decode cX10_tellsOdd 69 = .ok (.iload 4, 2) := by decide +kernel
theorem dX10_tellsOdd_71 : decode cX10_tellsOdd 71 = .ok (.imul, 1) := by decide +kernel
theorem dX10_tellsOdd_72 : decode cX10_tellsOdd 72 = .ok (.iadd, 1) := by decide +kernel
theorem dX10_tellsOdd_73 : decode cX10_tellsOdd 73 = .ok (.iload_n 2, 1) := by decide +kernel
theorem dX10_tellsOdd_74 : decode cX10_tellsOdd 74 = .ok (.iastore, 1) := by decide +kernel
theorem dX10_tellsOdd_75 : decode cX10_tellsOdd 75 = .ok (.aload_n 0, 1) := by decide +kernel
theorem dX10_tellsOdd_76 : decode cX10_tellsOdd 76 = .ok (.getfield 23, 3) := by decide +kernel
theorem dX10_tellsOdd_79 : decode cX10_tellsOdd 79 = .ok (.bipush 44, 2) := by decide +kernel
theorem dX10_tellsOdd_81 : decode cX10_tellsOdd 81 = .ok (.iload_n 1, 1) := by decide +kernel
theorem dX10_tellsOdd_82 : decode cX10_tellsOdd 82 = .ok (.imul, 1) := by decide +kernel
theorem dX10_tellsOdd_83 : decode cX10_tellsOdd 83 = .ok (.bipush 12, 2) := by decide +kernel
theorem dX10_tellsOdd_85 : decode cX10_tellsOdd 85 = .ok (.iadd, 1) := by decide +kernel
theorem dX10_tellsOdd_86 : decode cX10_tellsOdd 86 = .ok (.iconst 2, 1) := by decide +kernel
theorem dX10_tellsOdd_87 : decode cX10_tellsOdd 87 = .ok (.iload 4, 2) := by decide +kernel
theorem dX10_tellsOdd_89 : decode cX10_tellsOdd 89 = .ok (.imul, 1) := by decide +kernel
theorem dX10_tellsOdd_90 : decode cX10_tellsOdd 90 = .ok (.iadd, 1) := by decide +kernel
theorem dX10_tellsOdd_91 : decode cX10_tellsOdd 91 = .ok (.iconst 1, 1) := by decide +kernel
theorem dX10_tellsOdd_92 : decode cX10_tellsOdd 92 = .ok (.iadd, 1) := by decide +kernel
theorem dX10_tellsOdd_93 : decode cX10_tellsOdd 93 = .ok (.iload_n 3, 1) := by decide +kernel
theorem dX10_tellsOdd_94 : decode cX10_tellsOdd 94 = .ok (.iastore, 1) := by decide +kernel
theorem dX10_tellsOdd_95 : decode cX10_tellsOdd 95 = .ok (.iconst 1, 1) := by decide +kernel
theorem dX10_tellsOdd_96 : decode cX10_tellsOdd 96 = .ok (.ireturn, 1) := by decide +kernel
set_option maxRecDepth 20000 in
theorem ggX10_drop_X10_isKey : GoodIn wsX10_drop wsX10_isKey := goodIn_r _ [6, 7, 8, 9, 10, 5, 11, 12, 13, 14, 15, 16, 17, 18, 19, 20, 21, 22, 23, 24, 25, 26, 27, 28, 29, 30, 31, 32, 33, 34, 35, 36, 37, 38, 39, 40, 41, 50, 51, 52, 53, 54, 55, 56, 57, 58, 59, 60, 61, 62, 63, 64, 65, 66, 67, 68, 69, 70, 71, 72, 73, 74, 75] (by decide +kernel) (by decide +kernel)
set_option maxRecDepth 20000 in
theorem gX10_drop_X10_isKey : GoodIn wsX10_drop (wsV RX10 242 RX10 yX10_isKey wsX10_isKey) := goodIn_app (goodIn_of _ (by decide +kernel)) ggX10_drop_X10_isKey
set_option maxRecDepth 20000 in
theorem ggX10_drop_X10_oddOf : GoodIn wsX10_drop wsX10_oddOf := goodIn_r _ [45, 26, 27, 28, 5, 29, 30, 50, 51, 52, 53, 54, 55, 56, 57, 58, 59, 60, 61, 62, 63, 64, 65, 66, 67, 68, 69, 70, 71, 72, 73, 74, 75] (by decide +kernel) (by decide +kernel)
set_option maxRecDepth 20000 in
theorem gX10_drop_X10_oddOf : GoodIn wsX10_drop (wsV RX10 239 RX10 yX10_oddOf wsX10_oddOf) := goodIn_app (goodIn_of _ (by decide +kernel)) ggX10_drop_X10_oddOf
set_option maxRecDepth 20000 in
theorem ggX10_drop_X10_get : GoodIn wsX10_drop wsX10_get := goodIn_r _ [29, 30, 50, 51, 52, 53, 54, 55, 56, 57, 58, 59, 60, 61, 62, 63, 64, 65, 66, 67, 68, 69, 70, 71, 72, 73, 74, 75] (by decide +kernel) (by decide +kernel)
set_option maxRecDepth 20000 in
theorem gX10_drop_X10_get : GoodIn wsX10_drop (wsV RX10 229 RX10 yX10_get wsX10_get) := goodIn_app (goodIn_of _ (by decide +kernel)) ggX10_drop_X10_get
set_option maxRecDepth 20000 in
theorem ggX10_drop_X10_tellsOdd : GoodIn wsX10_drop wsX10_tellsOdd := goodIn_r _ [49, 30, 42, 43, 44, 5, 45, 26, 27, 28, 29, 50, 51, 52, 53, 54, 55, 56, 57, 58, 59, 60, 61, 62, 63, 64, 65, 66, 67, 68, 69, 70, 71, 72, 73, 74, 75] (by decide +kernel) (by decide +kernel)
set_option maxRecDepth 20000 in
theorem gX10_drop_X10_tellsOdd : GoodIn wsX10_drop (wsV RX10 245 RX10 yX10_tellsOdd wsX10_tellsOdd) := goodIn_app (goodIn_of _ (by decide +kernel)) ggX10_drop_X10_tellsOdd
theorem dX10_drop_0 : decode cX10_drop 0 = .ok (.aload_n 0, 1) := by decide +kernel
theorem dX10_drop_1 : decode cX10_drop 1 = .ok (.iconst 0, 1) := by decide +kernel
theorem dX10_drop_2 : decode cX10_drop 2 = .ok (.putfield 60, 3) := by decide +kernel
theorem dX10_drop_5 : decode cX10_drop 5 = .ok (.aload_n 0, 1) := by decide +kernel
theorem dX10_drop_6 : decode cX10_drop 6 = .ok (.iload_n 1, 1) := by decide +kernel
theorem dX10_drop_7 : decode cX10_drop 7 = .ok (.iload_n 2, 1) := by decide +kernel
theorem dX10_drop_8 : decode cX10_drop 8 = .ok (.invokevirtual 242, 3) := by decide +kernel
theorem dX10_drop_11 : decode cX10_drop 11 = .ok (.ifCond .ne 5, 3) := by decide +kernel
theorem dX10_drop_14 : decode cX10_drop 14 = .ok (.iconst 0, 1) := by decide +kernel
theorem dX10_drop_15 : decode cX10_drop 15 = .ok (.ireturn, 1) := by decide +kernel
theorem dX10_drop_16 : decode cX10_drop 16 = .ok (.aload_n 0, 1) := by decide +kernel
theorem dX10_drop_17 : decode cX10_drop 17 = .ok (.iload_n 1, 1) := by decide +kernel
theorem dX10_drop_18 : decode cX10_drop 18 = .ok (.iload_n 2, 1) := by decide +kernel
theorem dX10_drop_19 : decode cX10_drop 19 = .ok (.invokevirtual 239, 3) := by decide +kernel
theorem dX10_drop_22 : decode cX10_drop 22 = .ok (.istore_n 3, 1) := by decide +kernel
theorem dX10_drop_23 : decode cX10_drop 23 = .ok (.iload_n 3, 1) := by decide +kernel
theorem dX10_drop_24 : decode cX10_drop 24 = .ok (.ifCond .lt 21, 3) := by decide +kernel
theorem dX10_drop_27 : decode cX10_drop 27 = .ok (.aload_n 0, 1) := by decide +kernel
theorem dX10_drop_28 : decode cX10_drop 28 = .ok (.iload_n 1, 1) := by decide +kernel
theorem dX10_drop_29 : decode cX10_drop 29 = .ok (.bipush 12, 2) := by decide +kernel
theorem dX10_drop_31 : decode cX10_drop 31 = .ok (.iconst 2, 1) := by decide +kernel
theorem dX10_drop_32 : decode cX10_drop 32 = .ok (.iload_n 3, 1) := by decide +kernel
theorem dX10_drop_33 : decode cX10_drop 33 = .ok (.imul, 1) := by decide +kernel
theorem dX10_drop_34 : decode cX10_drop 34 = .ok (.iadd, 1) := by decide +kernel
theorem dX10_drop_35 : decode cX10_drop 35 = .ok (.iconst 1, 1) := by decide +kernel
theorem dX10_drop_36 : decode cX10_drop 36 = .ok (.iadd, 1) := by decide +kernel
theorem dX10_drop_37 : decode cX10_drop 37 = .ok (.invokevirtual 229, 3) := by decide +kernel
theorem dX10_drop_40 : decode cX10_drop 40 = .ok (.ifCond .ge 5, 3) := by decide +kernel
theorem dX10_drop_43 : decode cX10_drop 43 = .ok (.iconst 0, 1) := by decide +kernel
theorem dX10_drop_44 : decode cX10_drop 44 = .ok (.ireturn, 1) := by decide +kernel
theorem dX10_drop_45 : decode cX10_drop 45 = .ok (.aload_n 0, 1) := by decide +kernel
theorem dX10_drop_46 : decode cX10_drop 46 = .ok (.iload_n 1, 1) := by decide +kernel
theorem dX10_drop_47 : decode cX10_drop 47 = .ok (.iload_n 2, 1) := by decide +kernel
theorem dX10_drop_48 : decode cX10_drop 48 = .ok (.iconst (-1), 1) := by decide +kernel
theorem dX10_drop_49 : decode cX10_drop 49 = .ok (.invokevirtual 245, 3) := by decide +kernel
theorem dX10_drop_52 : decode cX10_drop 52 = .ok (.ireturn, 1) := by decide +kernel
set_option maxRecDepth 20000 in
theorem ggX10_move_X10_isTime : GoodIn wsX10_move wsX10_isTime := goodIn_r _ [5, 6, 7, 8, 4, 9] (by decide +kernel) (by decide +kernel)
set_option maxRecDepth 20000 in
theorem gX10_move_X10_isTime : GoodIn wsX10_move (va_wsS RX10 248 yX10_isTime wsX10_isTime) := goodIn_app (goodIn_of _ (by decide +kernel)) ggX10_move_X10_isTime
set_option maxRecDepth 20000 in
theorem ggX10_move_X10_isKey : GoodIn wsX10_move wsX10_isKey := goodIn_r _ [13, 14, 15, 16, 17, 4, 18, 19, 7, 8, 9, 20, 21, 22, 23, 24, 25, 26, 27, 28, 29, 30, 31, 32, 33, 34, 35, 36, 37, 38, 39, 40, 41, 42, 43, 44, 45, 54, 55, 56, 57, 58, 59, 60, 61, 62, 63, 64, 65, 66, 67, 68, 69, 70, 71, 72, 73, 74, 75, 76, 77, 78, 79] (by decide +kernel) (by decide +kernel)
set_option maxRecDepth 20000 in
theorem gX10_move_X10_isKey : GoodIn wsX10_move (wsV RX10 242 RX10 yX10_isKey wsX10_isKey) := goodIn_app (goodIn_of _ (by decide +kernel)) ggX10_move_X10_isKey
set_option maxRecDepth 20000 in
theorem ggX10_move_X10_tellsOdd : GoodIn wsX10_move wsX10_tellsOdd := goodIn_r _ [49, 34, 50, 51, 52, 4, 53, 30, 31, 32, 33, 54, 55, 56, 57, 58, 59, 60, 61, 62, 63, 64, 65, 66, 67, 68, 69, 70, 71, 72, 73, 74, 75, 76, 77, 78, 79] (by decide +kernel) (by decide +kernel)
set_option maxRecDepth 20000 in
theorem gX10_move_X10_tellsOdd : GoodIn wsX10_move (wsV RX10 245 RX10 yX10_tellsOdd wsX10_tellsOdd) := goodIn_app (goodIn_of _ (by decide +kernel)) ggX10_move_X10_tellsOdd
theorem dX10_move_0 : decode cX10_move 0 = .ok (.aload_n 0, 1) := by decide +kernel
theorem dX10_move_1 : decode cX10_move 1 = .ok (.iconst 0, 1) := by decide +kernel
theorem dX10_move_2 : decode cX10_move 2 = .ok (.putfield 60, 3) := by decide +kernel
theorem dX10_move_5 : decode cX10_move 5 = .ok (.iload_n 3, 1) := by decide +kernel
theorem dX10_move_6 : decode cX10_move 6 = .ok (.invokestatic 248, 3) := by decide +kernel
theorem dX10_move_9 : decode cX10_move 9 = .ok (.ifCond .eq 26, 3) := by decide +kernel
theorem dX10_move_12 : decode cX10_move 12 = .ok (.aload_n 0, 1) := by decide +kernel
theorem dX10_move_13 : decode cX10_move 13 = .ok (.iload_n 1, 1) := by decide +kernel
theorem dX10_move_14 : decode cX10_move 14 = .ok (.iload_n 2, 1) := by decide +kernel
theorem dX10_move_15 : decode cX10_move 15 = .ok (.invokevirtual 242, 3) := by decide +kernel
theorem dX10_move_18 : decode cX10_move 18 = .ok (.ifCond .eq 17, 3) := by decide +kernel
theorem dX10_move_21 : decode cX10_move 21 = .ok (.aload_n 0, 1) := by decide +kernel
theorem dX10_move_22 : decode cX10_move 22 = .ok (.iload_n 1, 1) := by decide +kernel
theorem dX10_move_23 : decode cX10_move 23 = .ok (.iload_n 2, 1) := by decide +kernel
theorem dX10_move_24 : decode cX10_move 24 = .ok (.iload_n 3, 1) := by decide +kernel
theorem dX10_move_25 : decode cX10_move 25 = .ok (.invokevirtual 245, 3) := by decide +kernel
theorem dX10_move_28 : decode cX10_move 28 = .ok (.ifCond .eq 7, 3) := by decide +kernel
theorem dX10_move_31 : decode cX10_move 31 = .ok (.iconst 1, 1) := by decide +kernel
theorem dX10_move_32 : decode cX10_move 32 = .ok (.goto 4, 3) := by decide +kernel
theorem dX10_move_35 : decode cX10_move 35 = .ok (.iconst 0, 1) := by decide +kernel
theorem dX10_move_36 : decode cX10_move 36 = .ok (.ireturn, 1) := by decide +kernel
set_option maxRecDepth 20000 in
theorem ggX10_forgets_X10_get : GoodIn wsX10_forgets wsX10_get := goodIn_r _ [6, 1, 7, 8, 9, 10, 11, 12, 13, 14, 15, 16, 17, 18, 19, 20, 21, 22, 23, 24, 25, 26, 27, 28, 29, 30, 31, 32] (by decide +kernel) (by decide +kernel)
set_option maxRecDepth 20000 in
theorem gX10_forgets_X10_get : GoodIn wsX10_forgets (wsV RX10 229 RX10 yX10_get wsX10_get) := goodIn_app (goodIn_of _ (by decide +kernel)) ggX10_forgets_X10_get
theorem dX10_forgets_0 : decode cX10_forgets 0 = .ok (.aload_n 0, 1) := by decide +kernel
theorem dX10_forgets_1 : decode cX10_forgets 1 = .ok (.getfield 23, 3) := by decide +kernel
theorem dX10_forgets_4 : decode cX10_forgets 4 = .ok (.bipush 44, 2) := by decide +kernel
theorem dX10_forgets_6 : decode cX10_forgets 6 = .ok (.iload_n 1, 1) := by decide +kernel
theorem dX10_forgets_7 : decode cX10_forgets 7 = .ok (.imul, 1) := by decide +kernel
theorem dX10_forgets_8 : decode cX10_forgets 8 = .ok (.bipush 11, 2) := by decide +kernel
theorem dX10_forgets_10 : decode cX10_forgets 10 = .ok (.iadd, 1) := by decide +kernel
theorem dX10_forgets_11 : decode cX10_forgets 11 = .ok (.dup2, 1) := by decide +kernel
theorem dX10_forgets_12 : decode cX10_forgets 12 = .ok (.iaload, 1) := by decide +kernel
theorem dX10_forgets_13 : decode cX10_forgets 13 = .ok (.iconst 1, 1) := by decide +kernel
theorem dX10_forgets_14 : decode cX10_forgets 14 = .ok (.isub, 1) := by decide +kernel
theorem dX10_forgets_15 : decode cX10_forgets 15 = .ok (.iastore, 1) := by decide +kernel
theorem dX10_forgets_16 : decode cX10_forgets 16 = .ok (.bipush 12, 2) := by decide +kernel
theorem dX10_forgets_18 : decode cX10_forgets 18 = .ok (.iconst 2, 1) := by decide +kernel
theorem dX10_forgets_19 : decode cX10_forgets 19 = .ok (.iload_n 2, 1) := by decide +kernel
theorem dX10_forgets_20 : decode cX10_forgets 20 = .ok (.imul, 1) := by decide +kernel
theorem dX10_forgets_21 : decode cX10_forgets 21 = .ok (.iadd, 1) := by decide +kernel
theorem dX10_forgets_22 : decode cX10_forgets 22 = .ok (.istore_n 3, 1) := by decide +kernel
theorem dX10_forgets_23 : decode cX10_forgets 23 = .ok (.iload_n 3, 1) := by decide +kernel
theorem dX10_forgets_24 : decode cX10_forgets 24 = .ok (.bipush 12, 2) := by decide +kernel
theorem dX10_forgets_26 : decode cX10_forgets 26 = .ok (.iconst 2, 1) := by decide +kernel
theorem dX10_forgets_27 : decode cX10_forgets 27 = .ok (.aload_n 0, 1) := by decide +kernel
theorem dX10_forgets_28 : decode cX10_forgets 28 = .ok (.iload_n 1, 1) := by decide +kernel
theorem dX10_forgets_29 : decode cX10_forgets 29 = .ok (.bipush 11, 2) := by decide +kernel
theorem dX10_forgets_31 : decode cX10_forgets 31 = .ok (.invokevirtual 229, 3) := by decide +kernel
theorem dX10_forgets_34 : decode cX10_forgets 34 = .ok (.imul, 1) := by decide +kernel
theorem dX10_forgets_35 : decode cX10_forgets 35 = .ok (.iadd, 1) := by decide +kernel
theorem dX10_forgets_36 : decode cX10_forgets 36 = .ok (.if_icmp .ge 33, 3) := by decide +kernel
theorem dX10_forgets_39 : decode cX10_forgets 39 = .ok (.aload_n 0, 1) := by decide +kernel
theorem dX10_forgets_40 : decode cX10_forgets 40 = .ok (.getfield 23, 3) := by decide +kernel
theorem dX10_forgets_43 : decode cX10_forgets 43 = .ok (.bipush 44, 2) := by decide +kernel
theorem dX10_forgets_45 : decode cX10_forgets 45 = .ok (.iload_n 1, 1) := by decide +kernel
theorem dX10_forgets_46 : decode cX10_forgets 46 = .ok (.imul, 1) := by decide +kernel
theorem dX10_forgets_47 : decode cX10_forgets 47 = .ok (.iload_n 3, 1) := by decide +kernel
theorem dX10_forgets_48 : decode cX10_forgets 48 = .ok (.iadd, 1) := by decide +kernel
theorem dX10_forgets_49 : decode cX10_forgets 49 = .ok (.aload_n 0, 1) := by decide +kernel
theorem dX10_forgets_50 : decode cX10_forgets 50 = .ok (.getfield 23, 3) := by decide +kernel
theorem dX10_forgets_53 : decode cX10_forgets 53 = .ok (.bipush 44, 2) := by decide +kernel
theorem dX10_forgets_55 : decode cX10_forgets 55 = .ok (.iload_n 1, 1) := by decide +kernel
theorem dX10_forgets_56 : decode cX10_forgets 56 = .ok (.imul, 1) := by decide +kernel
theorem dX10_forgets_57 : decode cX10_forgets 57 = .ok (.iload_n 3, 1) := by decide +kernel
theorem dX10_forgets_58 : decode cX10_forgets 58 = .ok (.iadd, 1) := by decide +kernel
theorem dX10_forgets_59 : decode cX10_forgets 59 = .ok (.iconst 2, 1) := by decide +kernel
theorem dX10_forgets_60 : decode cX10_forgets 60 = .ok (.iadd, 1) := by decide +kernel
theorem dX10_forgets_61 : decode cX10_forgets 61 = .ok (.iaload, 1) := by decide +kernel
theorem dX10_forgets_62 : decode cX10_forgets 62 = .ok (.iastore, 1) := by decide +kernel
theorem dX10_forgets_63 : decode cX10_forgets 63 = .ok (.iinc 3 1, 3) := by decide +kernel
theorem dX10_forgets_66 : decode cX10_forgets 66 = .ok (.goto (-43), 3) := by decide +kernel
theorem dX10_forgets_69 : decode cX10_forgets 69 = .ok (.return_, 1) := by decide +kernel
set_option maxRecDepth 20000 in
theorem ggX10_restore_X10_isKey : GoodIn wsX10_restore wsX10_isKey := goodIn_r _ [6, 7, 8, 9, 10, 5, 11, 12, 13, 14, 15, 16, 17, 18, 19, 20, 21, 22, 23, 24, 25, 26, 27, 28, 29, 30, 31, 32, 33, 34, 35, 36, 37, 38, 39, 40, 41, 50, 51, 52, 53, 54, 55, 56, 57, 58, 59, 60, 61, 62, 63, 64, 65, 66, 67, 68, 69, 70, 71, 72, 73, 74, 75] (by decide +kernel) (by decide +kernel)
set_option maxRecDepth 20000 in
theorem gX10_restore_X10_isKey : GoodIn wsX10_restore (wsV RX10 242 RX10 yX10_isKey wsX10_isKey) := goodIn_app (goodIn_of _ (by decide +kernel)) ggX10_restore_X10_isKey
set_option maxRecDepth 20000 in
theorem ggX10_restore_X10_oddOf : GoodIn wsX10_restore wsX10_oddOf := goodIn_r _ [45, 26, 27, 28, 5, 29, 30, 50, 51, 52, 53, 54, 55, 56, 57, 58, 59, 60, 61, 62, 63, 64, 65, 66, 67, 68, 69, 70, 71, 72, 73, 74, 75] (by decide +kernel) (by decide +kernel)
set_option maxRecDepth 20000 in
theorem gX10_restore_X10_oddOf : GoodIn wsX10_restore (wsV RX10 239 RX10 yX10_oddOf wsX10_oddOf) := goodIn_app (goodIn_of _ (by decide +kernel)) ggX10_restore_X10_oddOf
set_option maxRecDepth 20000 in
theorem ggX10_restore_X10_get : GoodIn wsX10_restore wsX10_get := goodIn_r _ [29, 30, 50, 51, 52, 53, 54, 55, 56, 57, 58, 59, 60, 61, 62, 63, 64, 65, 66, 67, 68, 69, 70, 71, 72, 73, 74, 75] (by decide +kernel) (by decide +kernel)
set_option maxRecDepth 20000 in
theorem gX10_restore_X10_get : GoodIn wsX10_restore (wsV RX10 229 RX10 yX10_get wsX10_get) := goodIn_app (goodIn_of _ (by decide +kernel)) ggX10_restore_X10_get
set_option maxRecDepth 20000 in
theorem ggX10_restore_X10_forgets : GoodIn wsX10_restore wsX10_forgets := goodIn_r _ [49, 30, 26, 27, 28, 5, 29, 50, 51, 52, 53, 54, 55, 56, 57, 58, 59, 60, 61, 62, 63, 64, 65, 66, 67, 68, 69, 70, 71, 72, 73, 74, 75] (by decide +kernel) (by decide +kernel)
set_option maxRecDepth 20000 in
theorem gX10_restore_X10_forgets : GoodIn wsX10_restore (wsV RX10 251 RX10 yX10_forgets wsX10_forgets) := goodIn_app (goodIn_of _ (by decide +kernel)) ggX10_restore_X10_forgets
theorem dX10_restore_0 : decode cX10_restore 0 = .ok (.aload_n 0, 1) := by decide +kernel
theorem dX10_restore_1 : decode cX10_restore 1 = .ok (.iconst 0, 1) := by decide +kernel
theorem dX10_restore_2 : decode cX10_restore 2 = .ok (.putfield 60, 3) := by decide +kernel
theorem dX10_restore_5 : decode cX10_restore 5 = .ok (.aload_n 0, 1) := by decide +kernel
theorem dX10_restore_6 : decode cX10_restore 6 = .ok (.iload_n 1, 1) := by decide +kernel
theorem dX10_restore_7 : decode cX10_restore 7 = .ok (.iload_n 2, 1) := by decide +kernel
theorem dX10_restore_8 : decode cX10_restore 8 = .ok (.invokevirtual 242, 3) := by decide +kernel
theorem dX10_restore_11 : decode cX10_restore 11 = .ok (.ifCond .ne 5, 3) := by decide +kernel
theorem dX10_restore_14 : decode cX10_restore 14 = .ok (.iconst (-1), 1) := by decide +kernel
theorem dX10_restore_15 : decode cX10_restore 15 = .ok (.ireturn, 1) := by decide +kernel
theorem dX10_restore_16 : decode cX10_restore 16 = .ok (.aload_n 0, 1) := by decide +kernel
theorem dX10_restore_17 : decode cX10_restore 17 = .ok (.iload_n 1, 1) := by decide +kernel
theorem dX10_restore_18 : decode cX10_restore 18 = .ok (.iload_n 2, 1) := by decide +kernel
theorem dX10_restore_19 : decode cX10_restore 19 = .ok (.invokevirtual 239, 3) := by decide +kernel
theorem dX10_restore_22 : decode cX10_restore 22 = .ok (.istore_n 3, 1) := by decide +kernel
theorem dX10_restore_23 : decode cX10_restore 23 = .ok (.iload_n 3, 1) := by decide +kernel
theorem dX10_restore_24 : decode cX10_restore 24 = .ok (.ifCond .ge 5, 3) := by decide +kernel
theorem dX10_restore_27 : decode cX10_restore 27 = .ok (.iconst 0, 1) := by decide +kernel
theorem dX10_restore_28 : decode cX10_restore 28 = .ok (.ireturn, 1) := by decide +kernel
theorem dX10_restore_29 : decode cX10_restore 29 = .ok (.aload_n 0, 1) := by decide +kernel
theorem dX10_restore_30 : decode cX10_restore 30 = .ok (.iload_n 1, 1) := by decide +kernel
theorem dX10_restore_31 : decode cX10_restore 31 = .ok (.bipush 12, 2) := by decide +kernel
theorem dX10_restore_33 : decode cX10_restore 33 = .ok (.iconst 2, 1) := by decide +kernel
theorem dX10_restore_34 : decode cX10_restore 34 = .ok (.iload_n 3, 1) := by decide +kernel
theorem dX10_restore_35 : decode cX10_restore 35 = .ok (.imul, 1) := by decide +kernel
theorem dX10_restore_36 : decode cX10_restore 36 = .ok (.iadd, 1) := by decide +kernel
theorem dX10_restore_37 : decode cX10_restore 37 = .ok (.iconst 1, 1) := by decide +kernel
theorem dX10_restore_38 : decode cX10_restore 38 = .ok (.iadd, 1) := by decide +kernel
theorem dX10_restore_39 : decode cX10_restore 39 = .ok (.invokevirtual 229, 3) := by decide +kernel
theorem dX10_restore_42 : decode cX10_restore 42 = .ok (.ifCond .ge 7, 3) := by decide +kernel
theorem dX10_restore_45 : decode cX10_restore 45 = .ok (.iconst 1, 1) := by decide +kernel
theorem dX10_restore_46 : decode cX10_restore 46 = .ok (.goto 4, 3) := by decide +kernel
theorem dX10_restore_49 : decode cX10_restore 49 = .ok (.iconst 2, 1) := by decide +kernel
theorem dX10_restore_50 : decode cX10_restore 50 = .ok (.istore 4, 2) := by decide +kernel
theorem dX10_restore_52 : decode cX10_restore 52 = .ok (.aload_n 0, 1) := by decide +kernel
theorem dX10_restore_53 : decode cX10_restore 53 = .ok (.iload_n 1, 1) := by decide +kernel
theorem dX10_restore_54 : decode cX10_restore 54 = .ok (.iload_n 3, 1) := by decide +kernel
theorem dX10_restore_55 : decode cX10_restore 55 = .ok (.invokevirtual 251, 3) := by decide +kernel
theorem dX10_restore_58 : decode cX10_restore 58 = .ok (.iload 4, 2) := by decide +kernel
theorem dX10_restore_60 : decode cX10_restore 60 = .ok (.ireturn, 1) := by decide +kernel
set_option maxRecDepth 20000 in
theorem ggX10_next__X10_isBooking : GoodIn wsX10_next_ wsX10_isBooking := goodIn_r _ [9, 10, 11, 12, 8, 13, 48, 49, 50, 51, 52, 53, 54, 55, 56, 57, 58, 59, 60, 61, 62, 63, 64, 65, 66, 67, 68, 69, 70, 71, 72, 73] (by decide +kernel) (by decide +kernel)
set_option maxRecDepth 20000 in
theorem gX10_next__X10_isBooking : GoodIn wsX10_next_ (wsV RX10 220 RX10 yX10_isBooking wsX10_isBooking) := goodIn_app (goodIn_of _ (by decide +kernel)) ggX10_next__X10_isBooking
set_option maxRecDepth 20000 in
theorem ggX10_next__X10_isTime : GoodIn wsX10_next_ wsX10_isTime := goodIn_r _ [16, 17, 11, 12, 8, 13] (by decide +kernel) (by decide +kernel)
set_option maxRecDepth 20000 in
theorem gX10_next__X10_isTime : GoodIn wsX10_next_ (va_wsS RX10 248 yX10_isTime wsX10_isTime) := goodIn_app (goodIn_of _ (by decide +kernel)) ggX10_next__X10_isTime
set_option maxRecDepth 20000 in
theorem ggX10_next__X10_within : GoodIn wsX10_next_ wsX10_within := goodIn_r _ [13] (by decide +kernel) (by decide +kernel)
set_option maxRecDepth 20000 in
theorem gX10_next__X10_within : GoodIn wsX10_next_ (va_wsS RX10 65 yX10_within wsX10_within) := goodIn_app (goodIn_of _ (by decide +kernel)) ggX10_next__X10_within
set_option maxRecDepth 20000 in
theorem ggX10_next__X10_laysTimes : GoodIn wsX10_next_ wsX10_laysTimes := goodIn_r _ [21, 22, 4, 3, 2, 23, 24, 25, 8, 26, 27, 28, 29, 30, 31, 32, 33, 34, 35, 36, 37, 38, 39, 40, 41, 42, 43, 44, 45, 46, 47, 48, 49, 50, 51, 52, 53, 54, 55, 56, 57, 58, 59, 60, 61, 62, 63, 64, 65, 66, 67, 68, 69, 70, 71, 72, 73] (by decide +kernel) (by decide +kernel)
set_option maxRecDepth 20000 in
theorem gX10_next__X10_laysTimes : GoodIn wsX10_next_ (wsV RX10 255 RX10 yX10_laysTimes wsX10_laysTimes) := goodIn_app (goodIn_of _ (by decide +kernel)) ggX10_next__X10_laysTimes
theorem dX10_next__0 : decode cX10_next_ 0 = .ok (.aload_n 0, 1) := by decide +kernel
theorem dX10_next__1 : decode cX10_next_ 1 = .ok (.iconst 0, 1) := by decide +kernel
theorem dX10_next__2 : decode cX10_next_ 2 = .ok (.putfield 60, 3) := by decide +kernel
theorem dX10_next__5 : decode cX10_next_ 5 = .ok (.aload_n 0, 1) := by decide +kernel
theorem dX10_next__6 : decode cX10_next_ 6 = .ok (.iload_n 1, 1) := by decide +kernel
theorem dX10_next__7 : decode cX10_next_ 7 = .ok (.invokevirtual 220, 3) := by decide +kernel
theorem dX10_next__10 : decode cX10_next_ 10 = .ok (.ifCond .eq 19, 3) := by decide +kernel
theorem dX10_next__13 : decode cX10_next_ 13 = .ok (.iload_n 2, 1) := by decide +kernel
theorem dX10_next__14 : decode cX10_next_ 14 = .ok (.invokestatic 248, 3) := by decide +kernel
theorem dX10_next__17 : decode cX10_next_ 17 = .ok (.ifCond .eq 12, 3) := by decide +kernel
theorem dX10_next__20 : decode cX10_next_ 20 = .ok (.iload_n 3, 1) := by decide +kernel
theorem dX10_next__21 : decode cX10_next_ 21 = .ok (.iconst 0, 1) := by decide +kernel
theorem dX10_next__22 : decode cX10_next_ 22 = .ok (.iconst 1, 1) := by decide +kernel
theorem dX10_next__23 : decode cX10_next_ 23 = .ok (.invokestatic 65, 3) := by decide +kernel
theorem dX10_next__26 : decode cX10_next_ 26 = .ok (.ifCond .ne 5, 3) := by decide +kernel
theorem dX10_next__29 : decode cX10_next_ 29 = .ok (.iconst (-1), 1) := by decide +kernel
theorem dX10_next__30 : decode cX10_next_ 30 = .ok (.ireturn, 1) := by decide +kernel
theorem dX10_next__31 : decode cX10_next_ 31 = .ok (.aload_n 0, 1) := by decide +kernel
theorem dX10_next__32 : decode cX10_next_ 32 = .ok (.iload_n 1, 1) := by decide +kernel
theorem dX10_next__33 : decode cX10_next_ 33 = .ok (.iconst 0, 1) := by decide +kernel
theorem dX10_next__34 : decode cX10_next_ 34 = .ok (.invokevirtual 255, 3) := by decide +kernel
theorem dX10_next__37 : decode cX10_next_ 37 = .ok (.iconst 0, 1) := by decide +kernel
theorem dX10_next__38 : decode cX10_next_ 38 = .ok (.istore 4, 2) := by decide +kernel
theorem dX10_next__40 : decode cX10_next_ 40 = .ok (.iload 4, 2) := by decide +kernel
theorem dX10_next__42 : decode cX10_next_ 42 = .ok (.aload_n 0, 1) := by decide +kernel
theorem dX10_next__43 : decode cX10_next_ 43 = .ok (.getfield 42, 3) := by decide +kernel
theorem dX10_next__46 : decode cX10_next_ 46 = .ok (.iconst 0, 1) := by decide +kernel
theorem dX10_next__47 : decode cX10_next_ 47 = .ok (.iaload, 1) := by decide +kernel
theorem dX10_next__48 : decode cX10_next_ 48 = .ok (.if_icmp .ge 42, 3) := by decide +kernel
theorem dX10_next__51 : decode cX10_next_ 51 = .ok (.aload_n 0, 1) := by decide +kernel
theorem dX10_next__52 : decode cX10_next_ 52 = .ok (.getfield 36, 3) := by decide +kernel
theorem dX10_next__55 : decode cX10_next_ 55 = .ok (.iload 4, 2) := by decide +kernel
theorem dX10_next__57 : decode cX10_next_ 57 = .ok (.iaload, 1) := by decide +kernel
theorem dX10_next__58 : decode cX10_next_ 58 = .ok (.iload_n 2, 1) := by decide +kernel
theorem dX10_next__59 : decode cX10_next_ 59 = .ok (.if_icmp .lt 25, 3) := by decide +kernel
theorem dX10_next__62 : decode cX10_next_ 62 = .ok (.iload_n 3, 1) := by decide +kernel
theorem dX10_next__63 : decode cX10_next_ 63 = .ok (.ifCond .ne 13, 3) := by decide +kernel
theorem dX10_next__66 : decode cX10_next_ 66 = .ok (.aload_n 0, 1) := by decide +kernel
theorem dX10_next__67 : decode cX10_next_ 67 = .ok (.getfield 36, 3) := by decide +kernel
theorem dX10_next__70 : decode cX10_next_ 70 = .ok (.iload 4, 2) := by decide +kernel
theorem dX10_next__72 : decode cX10_next_ 72 = .ok (.iaload, 1) := by decide +kernel
theorem dX10_next__73 : decode cX10_next_ 73 = .ok (.goto 10, 3) := by decide +kernel
theorem dX10_next__76 : decode cX10_next_ 76 = .ok (.aload_n 0, 1) := by decide +kernel
theorem dX10_next__77 : decode cX10_next_ 77 = .ok (.getfield 39, 3) := by decide +kernel
theorem dX10_next__80 : decode cX10_next_ 80 = .ok (.iload 4, 2) := by decide +kernel
theorem dX10_next__82 : decode cX10_next_ 82 = .ok (.iaload, 1) := by decide +kernel
theorem dX10_next__83 : decode cX10_next_ 83 = .ok (.ireturn, 1) := by decide +kernel
theorem dX10_next__84 : decode cX10_next_ 84 = .ok (.iinc 4 1, 3) := by decide +kernel
theorem dX10_next__87 : decode cX10_next_ 87 = .ok (.goto (-47), 3) := by decide +kernel
theorem dX10_next__90 : decode cX10_next_ 90 = .ok (.iconst (-1), 1) := by decide +kernel
theorem dX10_next__91 : decode cX10_next_ 91 = .ok (.ireturn, 1) := by decide +kernel
set_option maxRecDepth 20000 in
theorem ggX10_ahead_X10_isBooking : GoodIn wsX10_ahead wsX10_isBooking := goodIn_r _ [9, 10, 11, 12, 8, 13, 48, 49, 50, 51, 52, 53, 54, 55, 56, 57, 58, 59, 60, 61, 62, 63, 64, 65, 66, 67, 68, 69, 70, 71, 72, 73] (by decide +kernel) (by decide +kernel)
set_option maxRecDepth 20000 in
theorem gX10_ahead_X10_isBooking : GoodIn wsX10_ahead (wsV RX10 220 RX10 yX10_isBooking wsX10_isBooking) := goodIn_app (goodIn_of _ (by decide +kernel)) ggX10_ahead_X10_isBooking
set_option maxRecDepth 20000 in
theorem ggX10_ahead_X10_isTime : GoodIn wsX10_ahead wsX10_isTime := goodIn_r _ [16, 17, 11, 12, 8, 13] (by decide +kernel) (by decide +kernel)
set_option maxRecDepth 20000 in
theorem gX10_ahead_X10_isTime : GoodIn wsX10_ahead (va_wsS RX10 248 yX10_isTime wsX10_isTime) := goodIn_app (goodIn_of _ (by decide +kernel)) ggX10_ahead_X10_isTime
set_option maxRecDepth 20000 in
theorem ggX10_ahead_X10_within : GoodIn wsX10_ahead wsX10_within := goodIn_r _ [13] (by decide +kernel) (by decide +kernel)
set_option maxRecDepth 20000 in
theorem gX10_ahead_X10_within : GoodIn wsX10_ahead (va_wsS RX10 65 yX10_within wsX10_within) := goodIn_app (goodIn_of _ (by decide +kernel)) ggX10_ahead_X10_within
set_option maxRecDepth 20000 in
theorem ggX10_ahead_X10_laysTimes : GoodIn wsX10_ahead wsX10_laysTimes := goodIn_r _ [21, 22, 4, 3, 2, 23, 24, 25, 8, 26, 27, 28, 29, 30, 31, 32, 33, 34, 35, 36, 37, 38, 39, 40, 41, 42, 43, 44, 45, 46, 47, 48, 49, 50, 51, 52, 53, 54, 55, 56, 57, 58, 59, 60, 61, 62, 63, 64, 65, 66, 67, 68, 69, 70, 71, 72, 73] (by decide +kernel) (by decide +kernel)
set_option maxRecDepth 20000 in
theorem gX10_ahead_X10_laysTimes : GoodIn wsX10_ahead (wsV RX10 255 RX10 yX10_laysTimes wsX10_laysTimes) := goodIn_app (goodIn_of _ (by decide +kernel)) ggX10_ahead_X10_laysTimes
theorem dX10_ahead_0 : decode cX10_ahead 0 = .ok (.aload_n 0, 1) := by decide +kernel
theorem dX10_ahead_1 : decode cX10_ahead 1 = .ok (.iconst 0, 1) := by decide +kernel
theorem dX10_ahead_2 : decode cX10_ahead 2 = .ok (.putfield 60, 3) := by decide +kernel
theorem dX10_ahead_5 : decode cX10_ahead 5 = .ok (.aload_n 0, 1) := by decide +kernel
theorem dX10_ahead_6 : decode cX10_ahead 6 = .ok (.iload_n 1, 1) := by decide +kernel
theorem dX10_ahead_7 : decode cX10_ahead 7 = .ok (.invokevirtual 220, 3) := by decide +kernel
theorem dX10_ahead_10 : decode cX10_ahead 10 = .ok (.ifCond .eq 19, 3) := by decide +kernel
theorem dX10_ahead_13 : decode cX10_ahead 13 = .ok (.iload_n 2, 1) := by decide +kernel
theorem dX10_ahead_14 : decode cX10_ahead 14 = .ok (.invokestatic 248, 3) := by decide +kernel
theorem dX10_ahead_17 : decode cX10_ahead 17 = .ok (.ifCond .eq 12, 3) := by decide +kernel
theorem dX10_ahead_20 : decode cX10_ahead 20 = .ok (.iload_n 3, 1) := by decide +kernel
theorem dX10_ahead_21 : decode cX10_ahead 21 = .ok (.iconst 0, 1) := by decide +kernel
theorem dX10_ahead_22 : decode cX10_ahead 22 = .ok (.iconst 1, 1) := by decide +kernel
theorem dX10_ahead_23 : decode cX10_ahead 23 = .ok (.invokestatic 65, 3) := by decide +kernel
theorem dX10_ahead_26 : decode cX10_ahead 26 = .ok (.ifCond .ne 5, 3) := by decide +kernel
theorem dX10_ahead_29 : decode cX10_ahead 29 = .ok (.iconst (-1), 1) := by decide +kernel
theorem dX10_ahead_30 : decode cX10_ahead 30 = .ok (.ireturn, 1) := by decide +kernel
theorem dX10_ahead_31 : decode cX10_ahead 31 = .ok (.aload_n 0, 1) := by decide +kernel
theorem dX10_ahead_32 : decode cX10_ahead 32 = .ok (.iload_n 1, 1) := by decide +kernel
theorem dX10_ahead_33 : decode cX10_ahead 33 = .ok (.iconst 0, 1) := by decide +kernel
theorem dX10_ahead_34 : decode cX10_ahead 34 = .ok (.invokevirtual 255, 3) := by decide +kernel
theorem dX10_ahead_37 : decode cX10_ahead 37 = .ok (.aload_n 0, 1) := by decide +kernel
theorem dX10_ahead_38 : decode cX10_ahead 38 = .ok (.getfield 42, 3) := by decide +kernel
theorem dX10_ahead_41 : decode cX10_ahead 41 = .ok (.iconst 0, 1) := by decide +kernel
theorem dX10_ahead_42 : decode cX10_ahead 42 = .ok (.iaload, 1) := by decide +kernel
theorem dX10_ahead_43 : decode cX10_ahead 43 = .ok (.iconst 1, 1) := by decide +kernel
theorem dX10_ahead_44 : decode cX10_ahead 44 = .ok (.isub, 1) := by decide +kernel
theorem dX10_ahead_45 : decode cX10_ahead 45 = .ok (.istore 4, 2) := by decide +kernel
theorem dX10_ahead_47 : decode cX10_ahead 47 = .ok (.iload 4, 2) := by decide +kernel
theorem dX10_ahead_49 : decode cX10_ahead 49 = .ok (.ifCond .lt 42, 3) := by decide +kernel
theorem dX10_ahead_52 : decode cX10_ahead 52 = .ok (.aload_n 0, 1) := by decide +kernel
theorem dX10_ahead_53 : decode cX10_ahead 53 = .ok (.getfield 36, 3) := by decide +kernel
theorem dX10_ahead_56 : decode cX10_ahead 56 = .ok (.iload 4, 2) := by decide +kernel
theorem dX10_ahead_58 : decode cX10_ahead 58 = .ok (.iaload, 1) := by decide +kernel
theorem dX10_ahead_59 : decode cX10_ahead 59 = .ok (.iload_n 2, 1) := by decide +kernel
theorem dX10_ahead_60 : decode cX10_ahead 60 = .ok (.if_icmp .ge 25, 3) := by decide +kernel
theorem dX10_ahead_63 : decode cX10_ahead 63 = .ok (.iload_n 3, 1) := by decide +kernel
theorem dX10_ahead_64 : decode cX10_ahead 64 = .ok (.ifCond .ne 13, 3) := by decide +kernel
theorem dX10_ahead_67 : decode cX10_ahead 67 = .ok (.aload_n 0, 1) := by decide +kernel
theorem dX10_ahead_68 : decode cX10_ahead 68 = .ok (.getfield 36, 3) := by decide +kernel
theorem dX10_ahead_71 : decode cX10_ahead 71 = .ok (.iload 4, 2) := by decide +kernel
theorem dX10_ahead_73 : decode cX10_ahead 73 = .ok (.iaload, 1) := by decide +kernel
theorem dX10_ahead_74 : decode cX10_ahead 74 = .ok (.goto 10, 3) := by decide +kernel
theorem dX10_ahead_77 : decode cX10_ahead 77 = .ok (.aload_n 0, 1) := by decide +kernel
theorem dX10_ahead_78 : decode cX10_ahead 78 = .ok (.getfield 39, 3) := by decide +kernel
theorem dX10_ahead_81 : decode cX10_ahead 81 = .ok (.iload 4, 2) := by decide +kernel
theorem dX10_ahead_83 : decode cX10_ahead 83 = .ok (.iaload, 1) := by decide +kernel
theorem dX10_ahead_84 : decode cX10_ahead 84 = .ok (.ireturn, 1) := by decide +kernel
theorem dX10_ahead_85 : decode cX10_ahead 85 = .ok (.iinc 4 (-1), 3) := by decide +kernel
theorem dX10_ahead_88 : decode cX10_ahead 88 = .ok (.goto (-41), 3) := by decide +kernel
theorem dX10_ahead_91 : decode cX10_ahead 91 = .ok (.iconst (-1), 1) := by decide +kernel
theorem dX10_ahead_92 : decode cX10_ahead 92 = .ok (.ireturn, 1) := by decide +kernel
set_option maxRecDepth 20000 in
theorem ggX10_count_X10_isBooking : GoodIn wsX10_count wsX10_isBooking := goodIn_r _ [8, 9, 10, 11, 7, 12, 47, 48, 49, 50, 51, 52, 53, 54, 55, 56, 57, 58, 59, 60, 61, 62, 63, 64, 65, 66, 67, 68, 69, 70, 71, 72] (by decide +kernel) (by decide +kernel)
set_option maxRecDepth 20000 in
theorem gX10_count_X10_isBooking : GoodIn wsX10_count (wsV RX10 220 RX10 yX10_isBooking wsX10_isBooking) := goodIn_app (goodIn_of _ (by decide +kernel)) ggX10_count_X10_isBooking
set_option maxRecDepth 20000 in
theorem ggX10_count_X10_isDay : GoodIn wsX10_count wsX10_isDay := goodIn_r _ [15, 16, 10, 11, 7, 12] (by decide +kernel) (by decide +kernel)
set_option maxRecDepth 20000 in
theorem gX10_count_X10_isDay : GoodIn wsX10_count (va_wsS RX10 223 yX10_isDay wsX10_isDay) := goodIn_app (goodIn_of _ (by decide +kernel)) ggX10_count_X10_isDay
set_option maxRecDepth 20000 in
theorem ggX10_count_X10_laysTimes : GoodIn wsX10_count wsX10_laysTimes := goodIn_r _ [20, 21, 22, 3, 2, 23, 24, 25, 7, 26, 16, 27, 28, 29, 30, 31, 32, 33, 34, 35, 36, 37, 38, 39, 40, 41, 42, 43, 44, 45, 46, 47, 48, 49, 50, 51, 52, 53, 54, 55, 56, 57, 58, 59, 60, 61, 62, 63, 64, 65, 66, 67, 68, 69, 70, 71, 72] (by decide +kernel) (by decide +kernel)
set_option maxRecDepth 20000 in
theorem gX10_count_X10_laysTimes : GoodIn wsX10_count (wsV RX10 255 RX10 yX10_laysTimes wsX10_laysTimes) := goodIn_app (goodIn_of _ (by decide +kernel)) ggX10_count_X10_laysTimes
set_option maxRecDepth 20000 in
theorem ggX10_count_X10_within : GoodIn wsX10_count wsX10_within := goodIn_r _ [12] (by decide +kernel) (by decide +kernel)
set_option maxRecDepth 20000 in
theorem gX10_count_X10_within : GoodIn wsX10_count (va_wsS RX10 65 yX10_within wsX10_within) := goodIn_app (goodIn_of _ (by decide +kernel)) ggX10_count_X10_within
theorem dX10_count_0 : decode cX10_count 0 = .ok (.aload_n 0, 1) := by decide +kernel
theorem dX10_count_1 : decode cX10_count 1 = .ok (.iconst 0, 1) := by decide +kernel
theorem dX10_count_2 : decode cX10_count 2 = .ok (.putfield 60, 3) := by decide +kernel
theorem dX10_count_5 : decode cX10_count 5 = .ok (.aload_n 0, 1) := by decide +kernel
theorem dX10_count_6 : decode cX10_count 6 = .ok (.iload_n 1, 1) := by decide +kernel
theorem dX10_count_7 : decode cX10_count 7 = .ok (.invokevirtual 220, 3) := by decide +kernel
theorem dX10_count_10 : decode cX10_count 10 = .ok (.ifCond .eq 22, 3) := by decide +kernel
theorem dX10_count_13 : decode cX10_count 13 = .ok (.iload_n 2, 1) := by decide +kernel
theorem dX10_count_14 : decode cX10_count 14 = .ok (.invokestatic 223, 3) := by decide +kernel
theorem dX10_count_17 : decode cX10_count 17 = .ok (.ifCond .eq 15, 3) := by decide +kernel
theorem dX10_count_20 : decode cX10_count 20 = .ok (.iload_n 3, 1) := by decide +kernel
theorem dX10_count_21 : decode cX10_count 21 = .ok (.invokestatic 223, 3) := by decide +kernel
theorem dX10_count_24 : decode cX10_count 24 = .ok (.ifCond .eq 8, 3) := by decide +kernel
theorem dX10_count_27 : decode cX10_count 27 = .ok (.iload_n 3, 1) := by decide +kernel
theorem dX10_count_28 : decode cX10_count 28 = .ok (.iload_n 2, 1) := by decide +kernel
theorem dX10_count_29 : decode cX10_count 29 = .ok (.if_icmp .ge 5, 3) := by decide +kernel
theorem dX10_count_32 : decode cX10_count 32 = .ok (.iconst (-1), 1) := by decide +kernel
theorem dX10_count_33 : decode cX10_count 33 = .ok (.ireturn, 1) := by decide +kernel
theorem dX10_count_34 : decode cX10_count 34 = .ok (.aload_n 0, 1) := by decide +kernel
theorem dX10_count_35 : decode cX10_count 35 = .ok (.iload_n 1, 1) := by decide +kernel
theorem dX10_count_36 : decode cX10_count 36 = .ok (.iconst 0, 1) := by decide +kernel
theorem dX10_count_37 : decode cX10_count 37 = .ok (.invokevirtual 255, 3) := by decide +kernel
theorem dX10_count_40 : decode cX10_count 40 = .ok (.iconst 0, 1) := by decide +kernel
theorem dX10_count_41 : decode cX10_count 41 = .ok (.istore 4, 2) := by decide +kernel
theorem dX10_count_43 : decode cX10_count 43 = .ok (.iconst 0, 1) := by decide +kernel
theorem dX10_count_44 : decode cX10_count 44 = .ok (.istore 5, 2) := by decide +kernel
theorem dX10_count_46 : decode cX10_count 46 = .ok (.iload 5, 2) := by decide +kernel
theorem dX10_count_48 : decode cX10_count 48 = .ok (.aload_n 0, 1) := by decide +kernel
theorem dX10_count_49 : decode cX10_count 49 = .ok (.getfield 42, 3) := by decide +kernel
theorem dX10_count_52 : decode cX10_count 52 = .ok (.iconst 0, 1) := by decide +kernel
theorem dX10_count_53 : decode cX10_count 53 = .ok (.iaload, 1) := by decide +kernel
theorem dX10_count_54 : decode cX10_count 54 = .ok (.if_icmp .ge 31, 3) := by decide +kernel
theorem dX10_count_57 : decode cX10_count 57 = .ok (.aload_n 0, 1) := by decide +kernel
theorem dX10_count_58 : decode cX10_count 58 = .ok (.getfield 36, 3) := by decide +kernel
theorem dX10_count_61 : decode cX10_count 61 = .ok (.iload 5, 2) := by decide +kernel
theorem dX10_count_63 : decode cX10_count 63 = .ok (.iaload, 1) := by decide +kernel
theorem dX10_count_64 : decode cX10_count 64 = .ok (.sipush 1440, 3) := by decide +kernel
theorem dX10_count_67 : decode cX10_count 67 = .ok (.idiv, 1) := by decide +kernel
theorem dX10_count_68 : decode cX10_count 68 = .ok (.iload_n 2, 1) := by decide +kernel
theorem dX10_count_69 : decode cX10_count 69 = .ok (.iload_n 3, 1) := by decide +kernel
theorem dX10_count_70 : decode cX10_count 70 = .ok (.invokestatic 65, 3) := by decide +kernel
theorem dX10_count_73 : decode cX10_count 73 = .ok (.ifCond .eq 6, 3) := by decide +kernel
theorem dX10_count_76 : decode cX10_count 76 = .ok (.iinc 4 1, 3) := by decide +kernel
theorem dX10_count_79 : decode cX10_count 79 = .ok (.iinc 5 1, 3) := by decide +kernel
theorem dX10_count_82 : decode cX10_count 82 = .ok (.goto (-36), 3) := by decide +kernel
theorem dX10_count_85 : decode cX10_count 85 = .ok (.iload 4, 2) := by decide +kernel
theorem dX10_count_87 : decode cX10_count 87 = .ok (.ireturn, 1) := by decide +kernel
set_option maxRecDepth 20000 in
theorem ggX10_isOfRoom_X10_get : GoodIn wsX10_isOfRoom wsX10_get := goodIn_r _ [5, 6, 7, 8, 9, 10, 11, 12, 13, 14, 15, 16, 17, 18, 19, 20, 21, 22, 23, 24, 25, 26, 27, 28, 29, 30, 31, 32] (by decide +kernel) (by decide +kernel)
set_option maxRecDepth 20000 in
theorem gX10_isOfRoom_X10_get : GoodIn wsX10_isOfRoom (wsV RX10 229 RX10 yX10_get wsX10_get) := goodIn_app (goodIn_of _ (by decide +kernel)) ggX10_isOfRoom_X10_get
theorem dX10_isOfRoom_0 : decode cX10_isOfRoom 0 = .ok (.iload_n 2, 1) := by decide +kernel
theorem dX10_isOfRoom_1 : decode cX10_isOfRoom 1 = .ok (.iconst (-1), 1) := by decide +kernel
theorem dX10_isOfRoom_2 : decode cX10_isOfRoom 2 = .ok (.if_icmp .eq 13, 3) := by decide +kernel
theorem dX10_isOfRoom_5 : decode cX10_isOfRoom 5 = .ok (.aload_n 0, 1) := by decide +kernel
theorem dX10_isOfRoom_6 : decode cX10_isOfRoom 6 = .ok (.iload_n 1, 1) := by decide +kernel
theorem dX10_isOfRoom_7 : decode cX10_isOfRoom 7 = .ok (.iconst 0, 1) := by decide +kernel
theorem dX10_isOfRoom_8 : decode cX10_isOfRoom 8 = .ok (.invokevirtual 229, 3) := by decide +kernel
theorem dX10_isOfRoom_11 : decode cX10_isOfRoom 11 = .ok (.iload_n 2, 1) := by decide +kernel
theorem dX10_isOfRoom_12 : decode cX10_isOfRoom 12 = .ok (.if_icmp .ne 7, 3) := by decide +kernel
theorem dX10_isOfRoom_15 : decode cX10_isOfRoom 15 = .ok (.iconst 1, 1) := by decide +kernel
theorem dX10_isOfRoom_16 : decode cX10_isOfRoom 16 = .ok (.goto 4, 3) := by decide +kernel
theorem dX10_isOfRoom_19 : decode cX10_isOfRoom 19 = .ok (.iconst 0, 1) := by decide +kernel
theorem dX10_isOfRoom_20 : decode cX10_isOfRoom 20 = .ok (.ireturn, 1) := by decide +kernel
set_option maxRecDepth 20000 in
theorem ggX10_laysOn_X10_isOfRoom : GoodIn wsX10_laysOn wsX10_isOfRoom := goodIn_r _ [10, 11, 12, 13, 9, 14, 15, 46, 47, 48, 49, 50, 51, 52, 53, 54, 55, 56, 57, 58, 59, 60, 61, 62, 63, 64, 65, 66, 67, 68, 69, 70, 71] (by decide +kernel) (by decide +kernel)
set_option maxRecDepth 20000 in
theorem gX10_laysOn_X10_isOfRoom : GoodIn wsX10_laysOn (wsV RX10 261 RX10 yX10_isOfRoom wsX10_isOfRoom) := goodIn_app (goodIn_of _ (by decide +kernel)) ggX10_laysOn_X10_isOfRoom
set_option maxRecDepth 20000 in
theorem ggX10_laysOn_X10_laysTimes : GoodIn wsX10_laysOn wsX10_laysTimes := goodIn_r _ [19, 20, 5, 4, 3, 21, 22, 23, 9, 24, 25, 11, 12, 13, 14, 15, 26, 27, 28, 29, 30, 31, 32, 33, 34, 35, 36, 37, 38, 39, 40, 46, 47, 48, 49, 50, 51, 52, 53, 54, 55, 56, 57, 58, 59, 60, 61, 62, 63, 64, 65, 66, 67, 68, 69, 70, 71] (by decide +kernel) (by decide +kernel)
set_option maxRecDepth 20000 in
theorem gX10_laysOn_X10_laysTimes : GoodIn wsX10_laysOn (wsV RX10 255 RX10 yX10_laysTimes wsX10_laysTimes) := goodIn_app (goodIn_of _ (by decide +kernel)) ggX10_laysOn_X10_laysTimes
set_option maxRecDepth 20000 in
theorem ggX10_laysOn_X10_get : GoodIn wsX10_laysOn wsX10_get := goodIn_r _ [14, 15, 46, 47, 48, 49, 50, 51, 52, 53, 54, 55, 56, 57, 58, 59, 60, 61, 62, 63, 64, 65, 66, 67, 68, 69, 70, 71] (by decide +kernel) (by decide +kernel)
set_option maxRecDepth 20000 in
theorem gX10_laysOn_X10_get : GoodIn wsX10_laysOn (wsV RX10 229 RX10 yX10_get wsX10_get) := goodIn_app (goodIn_of _ (by decide +kernel)) ggX10_laysOn_X10_get
set_option maxRecDepth 20000 in
theorem ggX10_laysOn_X10_comesOn : GoodIn wsX10_laysOn wsX10_comesOn := goodIn_r _ [44, 1, 45, 46, 47, 48, 49, 50, 51, 52, 53, 54, 55, 56, 57, 58, 59, 60, 61, 62, 63, 64, 65, 66, 67, 68, 69, 70, 71] (by decide +kernel) (by decide +kernel)
set_option maxRecDepth 20000 in
theorem gX10_laysOn_X10_comesOn : GoodIn wsX10_laysOn (wsV RX10 264 RX10 yX10_comesOn wsX10_comesOn) := goodIn_app (goodIn_of _ (by decide +kernel)) ggX10_laysOn_X10_comesOn
theorem dX10_laysOn_0 : decode cX10_laysOn 0 = .ok (.aload_n 0, 1) := by decide +kernel
theorem dX10_laysOn_1 : decode cX10_laysOn 1 = .ok (.iconst 0, 1) := by decide +kernel
theorem dX10_laysOn_2 : decode cX10_laysOn 2 = .ok (.putfield 258, 3) := by decide +kernel
theorem dX10_laysOn_5 : decode cX10_laysOn 5 = .ok (.iconst 0, 1) := by decide +kernel
theorem dX10_laysOn_6 : decode cX10_laysOn 6 = .ok (.istore 4, 2) := by decide +kernel
theorem dX10_laysOn_8 : decode cX10_laysOn 8 = .ok (.iload 4, 2) := by decide +kernel
theorem dX10_laysOn_10 : decode cX10_laysOn 10 = .ok (.aload_n 0, 1) := by decide +kernel
theorem dX10_laysOn_11 : decode cX10_laysOn 11 = .ok (.getfield 70, 3) := by decide +kernel
theorem dX10_laysOn_14 : decode cX10_laysOn 14 = .ok (.if_icmp .ge 99, 3) := by decide +kernel
theorem dX10_laysOn_17 : decode cX10_laysOn 17 = .ok (.aload_n 0, 1) := by decide +kernel
theorem dX10_laysOn_18 : decode cX10_laysOn 18 = .ok (.iload 4, 2) := by decide +kernel
theorem dX10_laysOn_20 : decode cX10_laysOn 20 = .ok (.iload_n 1, 1) := by decide +kernel
theorem dX10_laysOn_21 : decode cX10_laysOn 21 = .ok (.invokevirtual 261, 3) := by decide +kernel
theorem dX10_laysOn_24 : decode cX10_laysOn 24 = .ok (.ifCond .ne 6, 3) := by decide +kernel
theorem dX10_laysOn_27 : decode cX10_laysOn 27 = .ok (.goto 80, 3) := by decide +kernel
theorem dX10_laysOn_30 : decode cX10_laysOn 30 = .ok (.aload_n 0, 1) := by decide +kernel
theorem dX10_laysOn_31 : decode cX10_laysOn 31 = .ok (.iload 4, 2) := by decide +kernel
theorem dX10_laysOn_33 : decode cX10_laysOn 33 = .ok (.iconst 0, 1) := by decide +kernel
theorem dX10_laysOn_34 : decode cX10_laysOn 34 = .ok (.invokevirtual 255, 3) := by decide +kernel
theorem dX10_laysOn_37 : decode cX10_laysOn 37 = .ok (.iconst 0, 1) := by decide +kernel
theorem dX10_laysOn_38 : decode cX10_laysOn 38 = .ok (.istore 5, 2) := by decide +kernel
theorem dX10_laysOn_40 : decode cX10_laysOn 40 = .ok (.iload 5, 2) := by decide +kernel
theorem dX10_laysOn_42 : decode cX10_laysOn 42 = .ok (.aload_n 0, 1) := by decide +kernel
theorem dX10_laysOn_43 : decode cX10_laysOn 43 = .ok (.getfield 42, 3) := by decide +kernel
theorem dX10_laysOn_46 : decode cX10_laysOn 46 = .ok (.iconst 0, 1) := by decide +kernel
theorem dX10_laysOn_47 : decode cX10_laysOn 47 = .ok (.iaload, 1) := by decide +kernel
theorem dX10_laysOn_48 : decode cX10_laysOn 48 = .ok (.if_icmp .ge 59, 3) := by decide +kernel
theorem dX10_laysOn_51 : decode cX10_laysOn 51 = .ok (.aload_n 0, 1) := by decide +kernel
theorem dX10_laysOn_52 : decode cX10_laysOn 52 = .ok (.getfield 36, 3) := by decide +kernel
theorem dX10_laysOn_55 : decode cX10_laysOn 55 = .ok (.iload 5, 2) := by decide +kernel
theorem dX10_laysOn_57 : decode cX10_laysOn 57 = .ok (.iaload, 1) := by decide +kernel
theorem dX10_laysOn_58 : decode cX10_laysOn 58 = .ok (.iload_n 3, 1) := by decide +kernel
theorem dX10_laysOn_59 : decode cX10_laysOn 59 = .ok (.if_icmp .ge 42, 3) := by decide +kernel
theorem dX10_laysOn_62 : decode cX10_laysOn 62 = .ok (.aload_n 0, 1) := by decide +kernel
theorem dX10_laysOn_63 : decode cX10_laysOn 63 = .ok (.getfield 36, 3) := by decide +kernel
theorem dX10_laysOn_66 : decode cX10_laysOn 66 = .ok (.iload 5, 2) := by decide +kernel
theorem dX10_laysOn_68 : decode cX10_laysOn 68 = .ok (.iaload, 1) := by decide +kernel
theorem dX10_laysOn_69 : decode cX10_laysOn 69 = .ok (.aload_n 0, 1) := by decide +kernel
theorem dX10_laysOn_70 : decode cX10_laysOn 70 = .ok (.iload 4, 2) := by decide +kernel
theorem dX10_laysOn_72 : decode cX10_laysOn 72 = .ok (.iconst 2, 1) := by decide +kernel
theorem dX10_laysOn_73 : decode cX10_laysOn 73 = .ok (.invokevirtual 229, 3) := by decide +kernel
theorem dX10_laysOn_76 : decode cX10_laysOn 76 = .ok (.iadd, 1) := by decide +kernel
theorem dX10_laysOn_77 : decode cX10_laysOn 77 = .ok (.iload_n 2, 1) := by decide +kernel
theorem dX10_laysOn_78 : decode cX10_laysOn 78 = .ok (.if_icmp .le 23, 3) := by decide +kernel
theorem dX10_laysOn_81 : decode cX10_laysOn 81 = .ok (.aload_n 0, 1) := by decide +kernel
theorem dX10_laysOn_82 : decode cX10_laysOn 82 = .ok (.iload 4, 2) := by decide +kernel
theorem dX10_laysOn_84 : decode cX10_laysOn 84 = .ok (.aload_n 0, 1) := by decide +kernel
theorem dX10_laysOn_85 : decode cX10_laysOn 85 = .ok (.getfield 39, 3) := by decide +kernel
theorem dX10_laysOn_88 : decode cX10_laysOn 88 = .ok (.iload 5, 2) := by decide +kernel
theorem dX10_laysOn_90 : decode cX10_laysOn 90 = .ok (.iaload, 1) := by decide +kernel
theorem dX10_laysOn_91 : decode cX10_laysOn 91 = .ok (.aload_n 0, 1) := by decide +kernel
theorem dX10_laysOn_92 : decode cX10_laysOn 92 = .ok (.getfield 36, 3) := by decide +kernel
theorem dX10_laysOn_95 : decode cX10_laysOn 95 = .ok (.iload 5, 2) := by decide +kernel
theorem dX10_laysOn_97 : decode cX10_laysOn 97 = .ok (.iaload, 1) := by decide +kernel
theorem dX10_laysOn_98 : decode cX10_laysOn 98 = .ok (.invokevirtual 264, 3) := by decide +kernel
theorem dX10_laysOn_101 : decode cX10_laysOn 101 = .ok (.iinc 5 1, 3) := by decide +kernel
theorem dX10_laysOn_104 : decode cX10_laysOn 104 = .ok (.goto (-64), 3) := by decide +kernel
theorem dX10_laysOn_107 : decode cX10_laysOn 107 = .ok (.iinc 4 1, 3) := by decide +kernel
theorem dX10_laysOn_110 : decode cX10_laysOn 110 = .ok (.goto (-102), 3) := by decide +kernel
theorem dX10_laysOn_113 : decode cX10_laysOn 113 = .ok (.return_, 1) := by decide +kernel
theorem dX10_comesOn_0 : decode cX10_comesOn 0 = .ok (.aload_n 0, 1) := by decide +kernel
theorem dX10_comesOn_1 : decode cX10_comesOn 1 = .ok (.getfield 258, 3) := by decide +kernel
theorem dX10_comesOn_4 : decode cX10_comesOn 4 = .ok (.istore 4, 2) := by decide +kernel
theorem dX10_comesOn_6 : decode cX10_comesOn 6 = .ok (.iload 4, 2) := by decide +kernel
theorem dX10_comesOn_8 : decode cX10_comesOn 8 = .ok (.ifCond .le 65, 3) := by decide +kernel
theorem dX10_comesOn_11 : decode cX10_comesOn 11 = .ok (.aload_n 0, 1) := by decide +kernel
theorem dX10_comesOn_12 : decode cX10_comesOn 12 = .ok (.getfield 48, 3) := by decide +kernel
theorem dX10_comesOn_15 : decode cX10_comesOn 15 = .ok (.iconst 3, 1) := by decide +kernel
theorem dX10_comesOn_16 : decode cX10_comesOn 16 = .ok (.iload 4, 2) := by decide +kernel
theorem dX10_comesOn_18 : decode cX10_comesOn 18 = .ok (.imul, 1) := by decide +kernel
theorem dX10_comesOn_19 : decode cX10_comesOn 19 = .ok (.iconst 1, 1) := by decide +kernel
theorem dX10_comesOn_20 : decode cX10_comesOn 20 = .ok (.isub, 1) := by decide +kernel
theorem dX10_comesOn_21 : decode cX10_comesOn 21 = .ok (.iaload, 1) := by decide +kernel
theorem dX10_comesOn_22 : decode cX10_comesOn 22 = .ok (.iload_n 3, 1) := by decide +kernel
theorem dX10_comesOn_23 : decode cX10_comesOn 23 = .ok (.if_icmp .le 50, 3) := by decide +kernel
theorem dX10_comesOn_26 : decode cX10_comesOn 26 = .ok (.iconst 0, 1) := by decide +kernel
theorem dX10_comesOn_27 : decode cX10_comesOn 27 = .ok (.istore 5, 2) := by decide +kernel
theorem dX10_comesOn_29 : decode cX10_comesOn 29 = .ok (.iload 5, 2) := by decide +kernel
theorem dX10_comesOn_31 : decode cX10_comesOn 31 = .ok (.iconst 3, 1) := by decide +kernel
theorem dX10_comesOn_32 : decode cX10_comesOn 32 = .ok (.if_icmp .ge 35, 3) := by decide +kernel
theorem dX10_comesOn_35 : decode cX10_comesOn 35 = .ok (.aload_n 0, 1) := by decide +kernel
theorem dX10_comesOn_36 : decode cX10_comesOn 36 = .ok (.getfield 48, 3) := by decide +kernel
theorem dX10_comesOn_39 : decode cX10_comesOn 39 = .ok (.iconst 3, 1) := by decide +kernel
theorem dX10_comesOn_40 : decode cX10_comesOn 40 = .ok (.iload 4, 2) := by decide +kernel
theorem dX10_comesOn_42 : decode cX10_comesOn 42 = .ok (.imul, 1) := by decide +kernel
theorem dX10_comesOn_43 : decode cX10_comesOn 43 = .ok (.iload 5, 2) := by decide +kernel
theorem dX10_comesOn_45 : decode cX10_comesOn 45 = .ok (.iadd, 1) := by decide +kernel
theorem dX10_comesOn_46 : decode cX10_comesOn 46 = .ok (.aload_n 0, 1) := by decide +kernel
theorem dX10_comesOn_47 : decode cX10_comesOn 47 = .ok (.getfield 48, 3) := by decide +kernel
theorem dX10_comesOn_50 : decode cX10_comesOn 50 = .ok (.iconst 3, 1) := by decide +kernel
theorem dX10_comesOn_51 : decode cX10_comesOn 51 = .ok (.iload 4, 2) := by decide +kernel
theorem dX10_comesOn_53 : decode cX10_comesOn 53 = .ok (.imul, 1) := by decide +kernel
theorem dX10_comesOn_54 : decode cX10_comesOn 54 = .ok (.iconst 3, 1) := by decide +kernel
theorem dX10_comesOn_55 : decode cX10_comesOn 55 = .ok (.isub, 1) := by decide +kernel
theorem dX10_comesOn_56 : decode cX10_comesOn 56 = .ok (.iload 5, 2) := by decide +kernel
theorem dX10_comesOn_58 : decode cX10_comesOn 58 = .ok (.iadd, 1) := by decide +kernel
theorem dX10_comesOn_59 : decode cX10_comesOn 59 = .ok (.iaload, 1) := by decide +kernel
theorem dX10_comesOn_60 : decode cX10_comesOn 60 = .ok (.iastore, 1) := by decide +kernel
theorem dX10_comesOn_61 : decode cX10_comesOn 61 = .ok (.iinc 5 1, 3) := by decide +kernel
theorem dX10_comesOn_64 : decode cX10_comesOn 64 = .ok (.goto (-35), 3) := by decide +kernel
theorem dX10_comesOn_67 : decode cX10_comesOn 67 = .ok (.iinc 4 (-1), 3) := by decide +kernel
theorem dX10_comesOn_70 : decode cX10_comesOn 70 = .ok (.goto (-64), 3) := by decide +kernel
theorem dX10_comesOn_73 : decode cX10_comesOn 73 = .ok (.aload_n 0, 1) := by decide +kernel
theorem dX10_comesOn_74 : decode cX10_comesOn 74 = .ok (.getfield 48, 3) := by decide +kernel
theorem dX10_comesOn_77 : decode cX10_comesOn 77 = .ok (.iconst 3, 1) := by decide +kernel
theorem dX10_comesOn_78 : decode cX10_comesOn 78 = .ok (.iload 4, 2) := by decide +kernel
theorem dX10_comesOn_80 : decode cX10_comesOn 80 = .ok (.imul, 1) := by decide +kernel
theorem dX10_comesOn_81 : decode cX10_comesOn 81 = .ok (.iload_n 1, 1) := by decide +kernel
theorem dX10_comesOn_82 : decode cX10_comesOn 82 = .ok (.iastore, 1) := by decide +kernel
theorem dX10_comesOn_83 : decode cX10_comesOn 83 = .ok (.aload_n 0, 1) := by decide +kernel
theorem dX10_comesOn_84 : decode cX10_comesOn 84 = .ok (.getfield 48, 3) := by decide +kernel
theorem dX10_comesOn_87 : decode cX10_comesOn 87 = .ok (.iconst 3, 1) := by decide +kernel
theorem dX10_comesOn_88 : decode cX10_comesOn 88 = .ok (.iload 4, 2) := by decide +kernel
theorem dX10_comesOn_90 : decode cX10_comesOn 90 = .ok (.imul, 1) := by decide +kernel
theorem dX10_comesOn_91 : decode cX10_comesOn 91 = .ok (.iconst 1, 1) := by decide +kernel
theorem dX10_comesOn_92 : decode cX10_comesOn 92 = .ok (.iadd, 1) := by decide +kernel
theorem dX10_comesOn_93 : decode cX10_comesOn 93 = .ok (.iload_n 2, 1) := by decide +kernel
theorem dX10_comesOn_94 : decode cX10_comesOn 94 = .ok (.iastore, 1) := by decide +kernel
theorem dX10_comesOn_95 : decode cX10_comesOn 95 = .ok (.aload_n 0, 1) := by decide +kernel
theorem dX10_comesOn_96 : decode cX10_comesOn 96 = .ok (.getfield 48, 3) := by decide +kernel
theorem dX10_comesOn_99 : decode cX10_comesOn 99 = .ok (.iconst 3, 1) := by decide +kernel
theorem dX10_comesOn_100 : decode cX10_comesOn 100 = .ok (.iload 4, 2) := by decide +kernel
theorem dX10_comesOn_102 : decode cX10_comesOn 102 = .ok (.imul, 1) := by decide +kernel
theorem dX10_comesOn_103 : decode cX10_comesOn 103 = .ok (.iconst 2, 1) := by decide +kernel
theorem dX10_comesOn_104 : decode cX10_comesOn 104 = .ok (.iadd, 1) := by decide +kernel
theorem dX10_comesOn_105 : decode cX10_comesOn 105 = .ok (.iload_n 3, 1) := by decide +kernel
theorem dX10_comesOn_106 : decode cX10_comesOn 106 = .ok (.iastore, 1) := by decide +kernel
theorem dX10_comesOn_107 : decode cX10_comesOn 107 = .ok (.aload_n 0, 1) := by decide +kernel
theorem dX10_comesOn_108 : decode cX10_comesOn 108 = .ok (.dup, 1) := by decide +kernel
theorem dX10_comesOn_109 : decode cX10_comesOn 109 = .ok (.getfield 258, 3) := by decide +kernel
theorem dX10_comesOn_112 : decode cX10_comesOn 112 = .ok (.iconst 1, 1) := by decide +kernel
theorem dX10_comesOn_113 : decode cX10_comesOn 113 = .ok (.iadd, 1) := by decide +kernel
theorem dX10_comesOn_114 : decode cX10_comesOn 114 = .ok (.putfield 258, 3) := by decide +kernel
theorem dX10_comesOn_117 : decode cX10_comesOn 117 = .ok (.return_, 1) := by decide +kernel
set_option maxRecDepth 20000 in
theorem ggX10_isSpan_X10_within : GoodIn wsX10_isSpan wsX10_within := goodIn_r _ [6] (by decide +kernel) (by decide +kernel)
set_option maxRecDepth 20000 in
theorem gX10_isSpan_X10_within : GoodIn wsX10_isSpan (va_wsS RX10 65 yX10_within wsX10_within) := goodIn_app (goodIn_of _ (by decide +kernel)) ggX10_isSpan_X10_within
set_option maxRecDepth 20000 in
theorem ggX10_isSpan_X10_isTime : GoodIn wsX10_isSpan wsX10_isTime := goodIn_r _ [9, 10, 3, 4, 5, 6] (by decide +kernel) (by decide +kernel)
set_option maxRecDepth 20000 in
theorem gX10_isSpan_X10_isTime : GoodIn wsX10_isSpan (va_wsS RX10 248 yX10_isTime wsX10_isTime) := goodIn_app (goodIn_of _ (by decide +kernel)) ggX10_isSpan_X10_isTime
theorem dX10_isSpan_0 : decode cX10_isSpan 0 = .ok (.iload_n 0, 1) := by decide +kernel
theorem dX10_isSpan_1 : decode cX10_isSpan 1 = .ok (.iconst (-1), 1) := by decide +kernel
theorem dX10_isSpan_2 : decode cX10_isSpan 2 = .ok (.bipush 7, 2) := by decide +kernel
theorem dX10_isSpan_4 : decode cX10_isSpan 4 = .ok (.invokestatic 65, 3) := by decide +kernel
theorem dX10_isSpan_7 : decode cX10_isSpan 7 = .ok (.ifCond .eq 39, 3) := by decide +kernel
theorem dX10_isSpan_10 : decode cX10_isSpan 10 = .ok (.iload_n 1, 1) := by decide +kernel
theorem dX10_isSpan_11 : decode cX10_isSpan 11 = .ok (.invokestatic 248, 3) := by decide +kernel
theorem dX10_isSpan_14 : decode cX10_isSpan 14 = .ok (.ifCond .eq 32, 3) := by decide +kernel
theorem dX10_isSpan_17 : decode cX10_isSpan 17 = .ok (.iload_n 2, 1) := by decide +kernel
theorem dX10_isSpan_18 : decode cX10_isSpan 18 = .ok (.iconst 0, 1) := by decide +kernel
theorem dX10_isSpan_19 : decode cX10_isSpan 19 = .ok (.ldc_w 268, 3) := by decide +kernel
theorem dX10_isSpan_22 : decode cX10_isSpan 22 = .ok (.invokestatic 65, 3) := by decide +kernel
theorem dX10_isSpan_25 : decode cX10_isSpan 25 = .ok (.ifCond .eq 21, 3) := by decide +kernel
theorem dX10_isSpan_28 : decode cX10_isSpan 28 = .ok (.iload_n 2, 1) := by decide +kernel
theorem dX10_isSpan_29 : decode cX10_isSpan 29 = .ok (.iload_n 1, 1) := by decide +kernel
theorem dX10_isSpan_30 : decode cX10_isSpan 30 = .ok (.if_icmp .le 16, 3) := by decide +kernel
theorem dX10_isSpan_33 : decode cX10_isSpan 33 = .ok (.iload_n 2, 1) := by decide +kernel
theorem dX10_isSpan_34 : decode cX10_isSpan 34 = .ok (.iload_n 1, 1) := by decide +kernel
theorem dX10_isSpan_35 : decode cX10_isSpan 35 = .ok (.isub, 1) := by decide +kernel
theorem dX10_isSpan_36 : decode cX10_isSpan 36 = .ok (.ldc_w 269, 3) := by decide +kernel
theorem dX10_isSpan_39 : decode cX10_isSpan 39 = .ok (.if_icmp .gt 7, 3) := by decide +kernel
theorem dX10_isSpan_42 : decode cX10_isSpan 42 = .ok (.iconst 1, 1) := by decide +kernel
theorem dX10_isSpan_43 : decode cX10_isSpan 43 = .ok (.goto 4, 3) := by decide +kernel
theorem dX10_isSpan_46 : decode cX10_isSpan 46 = .ok (.iconst 0, 1) := by decide +kernel
theorem dX10_isSpan_47 : decode cX10_isSpan 47 = .ok (.ireturn, 1) := by decide +kernel
set_option maxRecDepth 20000 in
theorem ggX10_on_X10_isSpan : GoodIn wsX10_on wsX10_isSpan := goodIn_r _ [6, 7, 8, 9, 10, 5, 11, 12, 13, 14, 15] (by decide +kernel) (by decide +kernel)
set_option maxRecDepth 20000 in
theorem gX10_on_X10_isSpan : GoodIn wsX10_on (va_wsS RX10 270 yX10_isSpan wsX10_isSpan) := goodIn_app (goodIn_of _ (by decide +kernel)) ggX10_on_X10_isSpan
set_option maxRecDepth 20000 in
theorem ggX10_on_X10_laysOn : GoodIn wsX10_on wsX10_laysOn := goodIn_r _ [19, 2, 20, 21, 22, 23, 24, 25, 26, 5, 27, 28, 29, 30, 31, 32, 33, 34, 35, 36, 37, 38, 39, 40, 41, 42, 43, 44, 45, 46, 47, 48, 49, 50, 51, 52, 53, 54, 55, 56, 57, 58, 59, 60, 61, 62, 63, 64, 65, 66, 67, 68, 69, 70, 71, 72, 73, 74, 75, 76, 77, 78, 79, 80, 81, 82, 83, 84, 85, 86, 87, 88] (by decide +kernel) (by decide +kernel)
set_option maxRecDepth 20000 in
theorem gX10_on_X10_laysOn : GoodIn wsX10_on (wsV RX10 273 RX10 yX10_laysOn wsX10_laysOn) := goodIn_app (goodIn_of _ (by decide +kernel)) ggX10_on_X10_laysOn
theorem dX10_on_0 : decode cX10_on 0 = .ok (.aload_n 0, 1) := by decide +kernel
theorem dX10_on_1 : decode cX10_on 1 = .ok (.iconst 0, 1) := by decide +kernel
theorem dX10_on_2 : decode cX10_on 2 = .ok (.putfield 60, 3) := by decide +kernel
theorem dX10_on_5 : decode cX10_on 5 = .ok (.iload_n 1, 1) := by decide +kernel
theorem dX10_on_6 : decode cX10_on 6 = .ok (.iload_n 2, 1) := by decide +kernel
theorem dX10_on_7 : decode cX10_on 7 = .ok (.iload_n 3, 1) := by decide +kernel
theorem dX10_on_8 : decode cX10_on 8 = .ok (.invokestatic 270, 3) := by decide +kernel
theorem dX10_on_11 : decode cX10_on 11 = .ok (.ifCond .ne 5, 3) := by decide +kernel
theorem dX10_on_14 : decode cX10_on 14 = .ok (.iconst (-1), 1) := by decide +kernel
theorem dX10_on_15 : decode cX10_on 15 = .ok (.ireturn, 1) := by decide +kernel
theorem dX10_on_16 : decode cX10_on 16 = .ok (.aload_n 0, 1) := by decide +kernel
theorem dX10_on_17 : decode cX10_on 17 = .ok (.iload_n 1, 1) := by decide +kernel
theorem dX10_on_18 : decode cX10_on 18 = .ok (.iload_n 2, 1) := by decide +kernel
theorem dX10_on_19 : decode cX10_on 19 = .ok (.iload_n 3, 1) := by decide +kernel
theorem dX10_on_20 : decode cX10_on 20 = .ok (.invokevirtual 273, 3) := by decide +kernel
theorem dX10_on_23 : decode cX10_on 23 = .ok (.aload_n 0, 1) := by decide +kernel
theorem dX10_on_24 : decode cX10_on 24 = .ok (.getfield 258, 3) := by decide +kernel
theorem dX10_on_27 : decode cX10_on 27 = .ok (.ireturn, 1) := by decide +kernel
set_option maxRecDepth 20000 in
theorem ggX10_onAt_X10_isSpan : GoodIn wsX10_onAt wsX10_isSpan := goodIn_r _ [7, 8, 9, 10, 11, 6, 12, 13, 14, 15, 16] (by decide +kernel) (by decide +kernel)
set_option maxRecDepth 20000 in
theorem gX10_onAt_X10_isSpan : GoodIn wsX10_onAt (va_wsS RX10 270 yX10_isSpan wsX10_isSpan) := goodIn_app (goodIn_of _ (by decide +kernel)) ggX10_onAt_X10_isSpan
set_option maxRecDepth 20000 in
theorem ggX10_onAt_X10_within : GoodIn wsX10_onAt wsX10_within := goodIn_r _ [12] (by decide +kernel) (by decide +kernel)
set_option maxRecDepth 20000 in
theorem gX10_onAt_X10_within : GoodIn wsX10_onAt (va_wsS RX10 65 yX10_within wsX10_within) := goodIn_app (goodIn_of _ (by decide +kernel)) ggX10_onAt_X10_within
