theorem kqL_law_0 : ((cL_law.data.toList.drop 0).take 34).map UInt8.toNat = [187, 0, 8, 89, 183, 0, 15, 76, 187, 0, 16, 89, 183, 0, 18, 77, 4, 188, 11, 78, 3, 54, 4, 21, 4, 42, 190, 16, 7, 100, 163, 5, 150, 42] := by decide +kernel
theorem dL_law_0 : decode cL_law 0 = .ok (.new 8, 3) := oq_187 (bq_in kqL_law_0 0 rfl) (bq_in kqL_law_0 1 rfl) (bq_in kqL_law_0 2 rfl) rfl
theorem dL_law_3 : decode cL_law 3 = .ok (.dup, 1) := oq_89 (bq_in kqL_law_0 3 rfl)
theorem dL_law_4 : decode cL_law 4 = .ok (.invokespecial 15, 3) := oq_183 (bq_in kqL_law_0 4 rfl) (bq_in kqL_law_0 5 rfl) (bq_in kqL_law_0 6 rfl) rfl
theorem dL_law_7 : decode cL_law 7 = .ok (.astore_n 1, 1) := oq_76 (bq_in kqL_law_0 7 rfl)
theorem dL_law_8 : decode cL_law 8 = .ok (.new 16, 3) := oq_187 (bq_in kqL_law_0 8 rfl) (bq_in kqL_law_0 9 rfl) (bq_in kqL_law_0 10 rfl) rfl
theorem dL_law_11 : decode cL_law 11 = .ok (.dup, 1) := oq_89 (bq_in kqL_law_0 11 rfl)
theorem dL_law_12 : decode cL_law 12 = .ok (.invokespecial 18, 3) := oq_183 (bq_in kqL_law_0 12 rfl) (bq_in kqL_law_0 13 rfl) (bq_in kqL_law_0 14 rfl) rfl
theorem dL_law_15 : decode cL_law 15 = .ok (.astore_n 2, 1) := oq_77 (bq_in kqL_law_0 15 rfl)
theorem dL_law_16 : decode cL_law 16 = .ok (.iconst 1, 1) := oq_4 (bq_in kqL_law_0 16 rfl)
theorem dL_law_17 : decode cL_law 17 = .ok (.newarray .long, 2) := by decide +kernel
theorem dL_law_19 : decode cL_law 19 = .ok (.astore_n 3, 1) := oq_78 (bq_in kqL_law_0 19 rfl)
theorem dL_law_20 : decode cL_law 20 = .ok (.iconst 0, 1) := oq_3 (bq_in kqL_law_0 20 rfl)
theorem dL_law_21 : decode cL_law 21 = .ok (.istore 4, 2) := oq_54 (bq_in kqL_law_0 21 rfl) (bq_in kqL_law_0 22 rfl)
theorem dL_law_23 : decode cL_law 23 = .ok (.iload 4, 2) := oq_21 (bq_in kqL_law_0 23 rfl) (bq_in kqL_law_0 24 rfl)
theorem dL_law_25 : decode cL_law 25 = .ok (.aload_n 0, 1) := oq_42 (bq_in kqL_law_0 25 rfl)
theorem dL_law_26 : decode cL_law 26 = .ok (.arraylength, 1) := oq_190 (bq_in kqL_law_0 26 rfl)
theorem dL_law_27 : decode cL_law 27 = .ok (.bipush 7, 2) := oq_16 (bq_in kqL_law_0 27 rfl) (bq_in kqL_law_0 28 rfl) rfl
theorem dL_law_29 : decode cL_law 29 = .ok (.isub, 1) := oq_100 (bq_in kqL_law_0 29 rfl)
theorem dL_law_30 : decode cL_law 30 = .ok (.if_icmp .gt 1430, 3) := oq_163 (bq_in kqL_law_0 30 rfl) (bq_in kqL_law_0 31 rfl) (bq_in kqL_law_0 32 rfl) rfl
theorem kqL_law_1 : ((cL_law.data.toList.drop 32).take 34).map UInt8.toNat = [150, 42, 21, 4, 46, 16, 31, 126, 170, 0, 0, 0, 0, 0, 5, 134, 0, 0, 0, 0, 0, 0, 0, 28, 0, 0, 0, 132, 0, 0, 1, 23, 0, 0] := by decide +kernel
theorem dL_law_33 : decode cL_law 33 = .ok (.aload_n 0, 1) := oq_42 (bq_in kqL_law_1 1 rfl)
theorem dL_law_34 : decode cL_law 34 = .ok (.iload 4, 2) := oq_21 (bq_in kqL_law_1 2 rfl) (bq_in kqL_law_1 3 rfl)
theorem dL_law_36 : decode cL_law 36 = .ok (.iaload, 1) := oq_46 (bq_in kqL_law_1 4 rfl)
theorem dL_law_37 : decode cL_law 37 = .ok (.bipush 31, 2) := oq_16 (bq_in kqL_law_1 5 rfl) (bq_in kqL_law_1 6 rfl) rfl
theorem dL_law_39 : decode cL_law 39 = .ok (.iand, 1) := oq_126 (bq_in kqL_law_1 7 rfl)
theorem dL_law_40 : decode cL_law 40 = .ok (.tableswitch 1414 0 28 #[132, 279, 304, 317, 342, 391, 428, 465, 514, 551, 600, 637, 686, 735, 784, 833, 909, 958, 1019, 1068, 1117, 1154, 1203, 1240, 1265, 1302, 1339, 1364, 1389], 132) := by decide +kernel
theorem kqL_law_5 : ((cL_law.data.toList.drop 160).take 34).map UInt8.toNat = [0, 0, 5, 59, 0, 0, 5, 84, 0, 0, 5, 109, 43, 42, 21, 4, 4, 96, 46, 133, 16, 32, 121, 42, 21, 4, 5, 96, 46, 133, 20, 0, 19, 127] := by decide +kernel
theorem dL_law_172 : decode cL_law 172 = .ok (.aload_n 1, 1) := oq_43 (bq_in kqL_law_5 12 rfl)
theorem dL_law_173 : decode cL_law 173 = .ok (.aload_n 0, 1) := oq_42 (bq_in kqL_law_5 13 rfl)
theorem dL_law_174 : decode cL_law 174 = .ok (.iload 4, 2) := oq_21 (bq_in kqL_law_5 14 rfl) (bq_in kqL_law_5 15 rfl)
theorem dL_law_176 : decode cL_law 176 = .ok (.iconst 1, 1) := oq_4 (bq_in kqL_law_5 16 rfl)
theorem dL_law_177 : decode cL_law 177 = .ok (.iadd, 1) := oq_96 (bq_in kqL_law_5 17 rfl)
theorem dL_law_178 : decode cL_law 178 = .ok (.iaload, 1) := oq_46 (bq_in kqL_law_5 18 rfl)
theorem dL_law_179 : decode cL_law 179 = .ok (.i2l, 1) := oq_133 (bq_in kqL_law_5 19 rfl)
theorem dL_law_180 : decode cL_law 180 = .ok (.bipush 32, 2) := oq_16 (bq_in kqL_law_5 20 rfl) (bq_in kqL_law_5 21 rfl) rfl
theorem dL_law_182 : decode cL_law 182 = .ok (.lshl, 1) := oq_121 (bq_in kqL_law_5 22 rfl)
theorem dL_law_183 : decode cL_law 183 = .ok (.aload_n 0, 1) := oq_42 (bq_in kqL_law_5 23 rfl)
theorem dL_law_184 : decode cL_law 184 = .ok (.iload 4, 2) := oq_21 (bq_in kqL_law_5 24 rfl) (bq_in kqL_law_5 25 rfl)
theorem dL_law_186 : decode cL_law 186 = .ok (.iconst 2, 1) := oq_5 (bq_in kqL_law_5 26 rfl)
theorem dL_law_187 : decode cL_law 187 = .ok (.iadd, 1) := oq_96 (bq_in kqL_law_5 27 rfl)
theorem dL_law_188 : decode cL_law 188 = .ok (.iaload, 1) := oq_46 (bq_in kqL_law_5 28 rfl)
theorem dL_law_189 : decode cL_law 189 = .ok (.i2l, 1) := oq_133 (bq_in kqL_law_5 29 rfl)
theorem dL_law_190 : decode cL_law 190 = .ok (.ldc2_w 19, 3) := oq_20 (bq_in kqL_law_5 30 rfl) (bq_in kqL_law_5 31 rfl) (bq_in kqL_law_5 32 rfl) rfl
theorem kqL_law_6 : ((cL_law.data.toList.drop 192).take 34).map UInt8.toNat = [19, 127, 129, 42, 21, 4, 6, 96, 46, 133, 16, 32, 121, 42, 21, 4, 7, 96, 46, 133, 20, 0, 19, 127, 129, 42, 21, 4, 8, 96, 46, 133, 16, 32] := by decide +kernel
theorem dL_law_193 : decode cL_law 193 = .ok (.land, 1) := oq_127 (bq_in kqL_law_6 1 rfl)
theorem dL_law_194 : decode cL_law 194 = .ok (.lor, 1) := oq_129 (bq_in kqL_law_6 2 rfl)
theorem dL_law_195 : decode cL_law 195 = .ok (.aload_n 0, 1) := oq_42 (bq_in kqL_law_6 3 rfl)
theorem dL_law_196 : decode cL_law 196 = .ok (.iload 4, 2) := oq_21 (bq_in kqL_law_6 4 rfl) (bq_in kqL_law_6 5 rfl)
theorem dL_law_198 : decode cL_law 198 = .ok (.iconst 3, 1) := oq_6 (bq_in kqL_law_6 6 rfl)
theorem dL_law_199 : decode cL_law 199 = .ok (.iadd, 1) := oq_96 (bq_in kqL_law_6 7 rfl)
theorem dL_law_200 : decode cL_law 200 = .ok (.iaload, 1) := oq_46 (bq_in kqL_law_6 8 rfl)
theorem dL_law_201 : decode cL_law 201 = .ok (.i2l, 1) := oq_133 (bq_in kqL_law_6 9 rfl)
theorem dL_law_202 : decode cL_law 202 = .ok (.bipush 32, 2) := oq_16 (bq_in kqL_law_6 10 rfl) (bq_in kqL_law_6 11 rfl) rfl
theorem dL_law_204 : decode cL_law 204 = .ok (.lshl, 1) := oq_121 (bq_in kqL_law_6 12 rfl)
theorem dL_law_205 : decode cL_law 205 = .ok (.aload_n 0, 1) := oq_42 (bq_in kqL_law_6 13 rfl)
theorem dL_law_206 : decode cL_law 206 = .ok (.iload 4, 2) := oq_21 (bq_in kqL_law_6 14 rfl) (bq_in kqL_law_6 15 rfl)
theorem dL_law_208 : decode cL_law 208 = .ok (.iconst 4, 1) := oq_7 (bq_in kqL_law_6 16 rfl)
theorem dL_law_209 : decode cL_law 209 = .ok (.iadd, 1) := oq_96 (bq_in kqL_law_6 17 rfl)
theorem dL_law_210 : decode cL_law 210 = .ok (.iaload, 1) := oq_46 (bq_in kqL_law_6 18 rfl)
theorem dL_law_211 : decode cL_law 211 = .ok (.i2l, 1) := oq_133 (bq_in kqL_law_6 19 rfl)
theorem dL_law_212 : decode cL_law 212 = .ok (.ldc2_w 19, 3) := oq_20 (bq_in kqL_law_6 20 rfl) (bq_in kqL_law_6 21 rfl) (bq_in kqL_law_6 22 rfl) rfl
theorem dL_law_215 : decode cL_law 215 = .ok (.land, 1) := oq_127 (bq_in kqL_law_6 23 rfl)
theorem dL_law_216 : decode cL_law 216 = .ok (.lor, 1) := oq_129 (bq_in kqL_law_6 24 rfl)
theorem dL_law_217 : decode cL_law 217 = .ok (.aload_n 0, 1) := oq_42 (bq_in kqL_law_6 25 rfl)
theorem dL_law_218 : decode cL_law 218 = .ok (.iload 4, 2) := oq_21 (bq_in kqL_law_6 26 rfl) (bq_in kqL_law_6 27 rfl)
theorem dL_law_220 : decode cL_law 220 = .ok (.iconst 5, 1) := oq_8 (bq_in kqL_law_6 28 rfl)
theorem dL_law_221 : decode cL_law 221 = .ok (.iadd, 1) := oq_96 (bq_in kqL_law_6 29 rfl)
theorem dL_law_222 : decode cL_law 222 = .ok (.iaload, 1) := oq_46 (bq_in kqL_law_6 30 rfl)
theorem dL_law_223 : decode cL_law 223 = .ok (.i2l, 1) := oq_133 (bq_in kqL_law_6 31 rfl)
theorem kqL_law_7 : ((cL_law.data.toList.drop 224).take 34).map UInt8.toNat = [16, 32, 121, 42, 21, 4, 16, 6, 96, 46, 133, 20, 0, 19, 127, 129, 182, 0, 21, 87, 44, 42, 21, 4, 4, 96, 46, 133, 16, 32, 121, 42, 21, 4] := by decide +kernel
theorem dL_law_224 : decode cL_law 224 = .ok (.bipush 32, 2) := oq_16 (bq_in kqL_law_7 0 rfl) (bq_in kqL_law_7 1 rfl) rfl
theorem dL_law_226 : decode cL_law 226 = .ok (.lshl, 1) := oq_121 (bq_in kqL_law_7 2 rfl)
theorem dL_law_227 : decode cL_law 227 = .ok (.aload_n 0, 1) := oq_42 (bq_in kqL_law_7 3 rfl)
theorem dL_law_228 : decode cL_law 228 = .ok (.iload 4, 2) := oq_21 (bq_in kqL_law_7 4 rfl) (bq_in kqL_law_7 5 rfl)
theorem dL_law_230 : decode cL_law 230 = .ok (.bipush 6, 2) := oq_16 (bq_in kqL_law_7 6 rfl) (bq_in kqL_law_7 7 rfl) rfl
theorem dL_law_232 : decode cL_law 232 = .ok (.iadd, 1) := oq_96 (bq_in kqL_law_7 8 rfl)
theorem dL_law_233 : decode cL_law 233 = .ok (.iaload, 1) := oq_46 (bq_in kqL_law_7 9 rfl)
theorem dL_law_234 : decode cL_law 234 = .ok (.i2l, 1) := oq_133 (bq_in kqL_law_7 10 rfl)
theorem dL_law_235 : decode cL_law 235 = .ok (.ldc2_w 19, 3) := oq_20 (bq_in kqL_law_7 11 rfl) (bq_in kqL_law_7 12 rfl) (bq_in kqL_law_7 13 rfl) rfl
theorem dL_law_238 : decode cL_law 238 = .ok (.land, 1) := oq_127 (bq_in kqL_law_7 14 rfl)
theorem dL_law_239 : decode cL_law 239 = .ok (.lor, 1) := oq_129 (bq_in kqL_law_7 15 rfl)
theorem dL_law_240 : decode cL_law 240 = .ok (.invokevirtual 21, 3) := oq_182 (bq_in kqL_law_7 16 rfl) (bq_in kqL_law_7 17 rfl) (bq_in kqL_law_7 18 rfl) rfl
theorem dL_law_243 : decode cL_law 243 = .ok (.pop, 1) := oq_87 (bq_in kqL_law_7 19 rfl)
theorem dL_law_244 : decode cL_law 244 = .ok (.aload_n 2, 1) := oq_44 (bq_in kqL_law_7 20 rfl)
theorem dL_law_245 : decode cL_law 245 = .ok (.aload_n 0, 1) := oq_42 (bq_in kqL_law_7 21 rfl)
theorem dL_law_246 : decode cL_law 246 = .ok (.iload 4, 2) := oq_21 (bq_in kqL_law_7 22 rfl) (bq_in kqL_law_7 23 rfl)
theorem dL_law_248 : decode cL_law 248 = .ok (.iconst 1, 1) := oq_4 (bq_in kqL_law_7 24 rfl)
theorem dL_law_249 : decode cL_law 249 = .ok (.iadd, 1) := oq_96 (bq_in kqL_law_7 25 rfl)
theorem dL_law_250 : decode cL_law 250 = .ok (.iaload, 1) := oq_46 (bq_in kqL_law_7 26 rfl)
theorem dL_law_251 : decode cL_law 251 = .ok (.i2l, 1) := oq_133 (bq_in kqL_law_7 27 rfl)
theorem dL_law_252 : decode cL_law 252 = .ok (.bipush 32, 2) := oq_16 (bq_in kqL_law_7 28 rfl) (bq_in kqL_law_7 29 rfl) rfl
theorem dL_law_254 : decode cL_law 254 = .ok (.lshl, 1) := oq_121 (bq_in kqL_law_7 30 rfl)
theorem dL_law_255 : decode cL_law 255 = .ok (.aload_n 0, 1) := oq_42 (bq_in kqL_law_7 31 rfl)
theorem kqL_law_8 : ((cL_law.data.toList.drop 256).take 34).map UInt8.toNat = [21, 4, 5, 96, 46, 133, 20, 0, 19, 127, 129, 42, 21, 4, 6, 96, 46, 133, 16, 32, 121, 42, 21, 4, 7, 96, 46, 133, 20, 0, 19, 127, 129, 42] := by decide +kernel
theorem dL_law_256 : decode cL_law 256 = .ok (.iload 4, 2) := oq_21 (bq_in kqL_law_8 0 rfl) (bq_in kqL_law_8 1 rfl)
theorem dL_law_258 : decode cL_law 258 = .ok (.iconst 2, 1) := oq_5 (bq_in kqL_law_8 2 rfl)
theorem dL_law_259 : decode cL_law 259 = .ok (.iadd, 1) := oq_96 (bq_in kqL_law_8 3 rfl)
theorem dL_law_260 : decode cL_law 260 = .ok (.iaload, 1) := oq_46 (bq_in kqL_law_8 4 rfl)
theorem dL_law_261 : decode cL_law 261 = .ok (.i2l, 1) := oq_133 (bq_in kqL_law_8 5 rfl)
theorem dL_law_262 : decode cL_law 262 = .ok (.ldc2_w 19, 3) := oq_20 (bq_in kqL_law_8 6 rfl) (bq_in kqL_law_8 7 rfl) (bq_in kqL_law_8 8 rfl) rfl
theorem dL_law_265 : decode cL_law 265 = .ok (.land, 1) := oq_127 (bq_in kqL_law_8 9 rfl)
theorem dL_law_266 : decode cL_law 266 = .ok (.lor, 1) := oq_129 (bq_in kqL_law_8 10 rfl)
theorem dL_law_267 : decode cL_law 267 = .ok (.aload_n 0, 1) := oq_42 (bq_in kqL_law_8 11 rfl)
theorem dL_law_268 : decode cL_law 268 = .ok (.iload 4, 2) := oq_21 (bq_in kqL_law_8 12 rfl) (bq_in kqL_law_8 13 rfl)
theorem dL_law_270 : decode cL_law 270 = .ok (.iconst 3, 1) := oq_6 (bq_in kqL_law_8 14 rfl)
theorem dL_law_271 : decode cL_law 271 = .ok (.iadd, 1) := oq_96 (bq_in kqL_law_8 15 rfl)
theorem dL_law_272 : decode cL_law 272 = .ok (.iaload, 1) := oq_46 (bq_in kqL_law_8 16 rfl)
theorem dL_law_273 : decode cL_law 273 = .ok (.i2l, 1) := oq_133 (bq_in kqL_law_8 17 rfl)
theorem dL_law_274 : decode cL_law 274 = .ok (.bipush 32, 2) := oq_16 (bq_in kqL_law_8 18 rfl) (bq_in kqL_law_8 19 rfl) rfl
theorem dL_law_276 : decode cL_law 276 = .ok (.lshl, 1) := oq_121 (bq_in kqL_law_8 20 rfl)
theorem dL_law_277 : decode cL_law 277 = .ok (.aload_n 0, 1) := oq_42 (bq_in kqL_law_8 21 rfl)
theorem dL_law_278 : decode cL_law 278 = .ok (.iload 4, 2) := oq_21 (bq_in kqL_law_8 22 rfl) (bq_in kqL_law_8 23 rfl)
theorem dL_law_280 : decode cL_law 280 = .ok (.iconst 4, 1) := oq_7 (bq_in kqL_law_8 24 rfl)
theorem dL_law_281 : decode cL_law 281 = .ok (.iadd, 1) := oq_96 (bq_in kqL_law_8 25 rfl)
theorem dL_law_282 : decode cL_law 282 = .ok (.iaload, 1) := oq_46 (bq_in kqL_law_8 26 rfl)
theorem dL_law_283 : decode cL_law 283 = .ok (.i2l, 1) := oq_133 (bq_in kqL_law_8 27 rfl)
theorem dL_law_284 : decode cL_law 284 = .ok (.ldc2_w 19, 3) := oq_20 (bq_in kqL_law_8 28 rfl) (bq_in kqL_law_8 29 rfl) (bq_in kqL_law_8 30 rfl) rfl
theorem dL_law_287 : decode cL_law 287 = .ok (.land, 1) := oq_127 (bq_in kqL_law_8 31 rfl)
theorem kqL_law_9 : ((cL_law.data.toList.drop 288).take 34).map UInt8.toNat = [129, 42, 21, 4, 8, 96, 46, 133, 16, 32, 121, 42, 21, 4, 16, 6, 96, 46, 133, 20, 0, 19, 127, 129, 182, 0, 25, 87, 167, 4, 114, 43, 42, 21] := by decide +kernel
theorem dL_law_288 : decode cL_law 288 = .ok (.lor, 1) := oq_129 (bq_in kqL_law_9 0 rfl)
theorem dL_law_289 : decode cL_law 289 = .ok (.aload_n 0, 1) := oq_42 (bq_in kqL_law_9 1 rfl)
theorem dL_law_290 : decode cL_law 290 = .ok (.iload 4, 2) := oq_21 (bq_in kqL_law_9 2 rfl) (bq_in kqL_law_9 3 rfl)
theorem dL_law_292 : decode cL_law 292 = .ok (.iconst 5, 1) := oq_8 (bq_in kqL_law_9 4 rfl)
theorem dL_law_293 : decode cL_law 293 = .ok (.iadd, 1) := oq_96 (bq_in kqL_law_9 5 rfl)
theorem dL_law_294 : decode cL_law 294 = .ok (.iaload, 1) := oq_46 (bq_in kqL_law_9 6 rfl)
theorem dL_law_295 : decode cL_law 295 = .ok (.i2l, 1) := oq_133 (bq_in kqL_law_9 7 rfl)
theorem dL_law_296 : decode cL_law 296 = .ok (.bipush 32, 2) := oq_16 (bq_in kqL_law_9 8 rfl) (bq_in kqL_law_9 9 rfl) rfl
theorem dL_law_298 : decode cL_law 298 = .ok (.lshl, 1) := oq_121 (bq_in kqL_law_9 10 rfl)
theorem dL_law_299 : decode cL_law 299 = .ok (.aload_n 0, 1) := oq_42 (bq_in kqL_law_9 11 rfl)
theorem dL_law_300 : decode cL_law 300 = .ok (.iload 4, 2) := oq_21 (bq_in kqL_law_9 12 rfl) (bq_in kqL_law_9 13 rfl)
theorem dL_law_302 : decode cL_law 302 = .ok (.bipush 6, 2) := oq_16 (bq_in kqL_law_9 14 rfl) (bq_in kqL_law_9 15 rfl) rfl
theorem dL_law_304 : decode cL_law 304 = .ok (.iadd, 1) := oq_96 (bq_in kqL_law_9 16 rfl)
theorem dL_law_305 : decode cL_law 305 = .ok (.iaload, 1) := oq_46 (bq_in kqL_law_9 17 rfl)
theorem dL_law_306 : decode cL_law 306 = .ok (.i2l, 1) := oq_133 (bq_in kqL_law_9 18 rfl)
theorem dL_law_307 : decode cL_law 307 = .ok (.ldc2_w 19, 3) := oq_20 (bq_in kqL_law_9 19 rfl) (bq_in kqL_law_9 20 rfl) (bq_in kqL_law_9 21 rfl) rfl
theorem dL_law_310 : decode cL_law 310 = .ok (.land, 1) := oq_127 (bq_in kqL_law_9 22 rfl)
theorem dL_law_311 : decode cL_law 311 = .ok (.lor, 1) := oq_129 (bq_in kqL_law_9 23 rfl)
theorem dL_law_312 : decode cL_law 312 = .ok (.invokevirtual 25, 3) := oq_182 (bq_in kqL_law_9 24 rfl) (bq_in kqL_law_9 25 rfl) (bq_in kqL_law_9 26 rfl) rfl
theorem dL_law_315 : decode cL_law 315 = .ok (.pop, 1) := oq_87 (bq_in kqL_law_9 27 rfl)
theorem dL_law_316 : decode cL_law 316 = .ok (.goto 1138, 3) := oq_167 (bq_in kqL_law_9 28 rfl) (bq_in kqL_law_9 29 rfl) (bq_in kqL_law_9 30 rfl) rfl
theorem dL_law_319 : decode cL_law 319 = .ok (.aload_n 1, 1) := oq_43 (bq_in kqL_law_9 31 rfl)
theorem kqL_law_10 : ((cL_law.data.toList.drop 320).take 34).map UInt8.toNat = [42, 21, 4, 4, 96, 46, 182, 0, 26, 87, 44, 42, 21, 4, 4, 96, 46, 182, 0, 30, 87, 167, 4, 89, 43, 182, 0, 31, 87, 44, 182, 0, 35, 87] := by decide +kernel
theorem dL_law_320 : decode cL_law 320 = .ok (.aload_n 0, 1) := oq_42 (bq_in kqL_law_10 0 rfl)
theorem dL_law_321 : decode cL_law 321 = .ok (.iload 4, 2) := oq_21 (bq_in kqL_law_10 1 rfl) (bq_in kqL_law_10 2 rfl)
theorem dL_law_323 : decode cL_law 323 = .ok (.iconst 1, 1) := oq_4 (bq_in kqL_law_10 3 rfl)
theorem dL_law_324 : decode cL_law 324 = .ok (.iadd, 1) := oq_96 (bq_in kqL_law_10 4 rfl)
theorem dL_law_325 : decode cL_law 325 = .ok (.iaload, 1) := oq_46 (bq_in kqL_law_10 5 rfl)
theorem dL_law_326 : decode cL_law 326 = .ok (.invokevirtual 26, 3) := oq_182 (bq_in kqL_law_10 6 rfl) (bq_in kqL_law_10 7 rfl) (bq_in kqL_law_10 8 rfl) rfl
theorem dL_law_329 : decode cL_law 329 = .ok (.pop, 1) := oq_87 (bq_in kqL_law_10 9 rfl)
theorem dL_law_330 : decode cL_law 330 = .ok (.aload_n 2, 1) := oq_44 (bq_in kqL_law_10 10 rfl)
theorem dL_law_331 : decode cL_law 331 = .ok (.aload_n 0, 1) := oq_42 (bq_in kqL_law_10 11 rfl)
theorem dL_law_332 : decode cL_law 332 = .ok (.iload 4, 2) := oq_21 (bq_in kqL_law_10 12 rfl) (bq_in kqL_law_10 13 rfl)
theorem dL_law_334 : decode cL_law 334 = .ok (.iconst 1, 1) := oq_4 (bq_in kqL_law_10 14 rfl)
theorem dL_law_335 : decode cL_law 335 = .ok (.iadd, 1) := oq_96 (bq_in kqL_law_10 15 rfl)
theorem dL_law_336 : decode cL_law 336 = .ok (.iaload, 1) := oq_46 (bq_in kqL_law_10 16 rfl)
theorem dL_law_337 : decode cL_law 337 = .ok (.invokevirtual 30, 3) := oq_182 (bq_in kqL_law_10 17 rfl) (bq_in kqL_law_10 18 rfl) (bq_in kqL_law_10 19 rfl) rfl
theorem dL_law_340 : decode cL_law 340 = .ok (.pop, 1) := oq_87 (bq_in kqL_law_10 20 rfl)
theorem dL_law_341 : decode cL_law 341 = .ok (.goto 1113, 3) := oq_167 (bq_in kqL_law_10 21 rfl) (bq_in kqL_law_10 22 rfl) (bq_in kqL_law_10 23 rfl) rfl
theorem dL_law_344 : decode cL_law 344 = .ok (.aload_n 1, 1) := oq_43 (bq_in kqL_law_10 24 rfl)
theorem dL_law_345 : decode cL_law 345 = .ok (.invokevirtual 31, 3) := oq_182 (bq_in kqL_law_10 25 rfl) (bq_in kqL_law_10 26 rfl) (bq_in kqL_law_10 27 rfl) rfl
theorem dL_law_348 : decode cL_law 348 = .ok (.pop, 1) := oq_87 (bq_in kqL_law_10 28 rfl)
theorem dL_law_349 : decode cL_law 349 = .ok (.aload_n 2, 1) := oq_44 (bq_in kqL_law_10 29 rfl)
theorem dL_law_350 : decode cL_law 350 = .ok (.invokevirtual 35, 3) := oq_182 (bq_in kqL_law_10 30 rfl) (bq_in kqL_law_10 31 rfl) (bq_in kqL_law_10 32 rfl) rfl
theorem kqL_law_11 : ((cL_law.data.toList.drop 352).take 34).map UInt8.toNat = [35, 87, 167, 4, 76, 43, 42, 21, 4, 4, 96, 46, 182, 0, 36, 87, 44, 42, 21, 4, 4, 96, 46, 182, 0, 40, 87, 167, 4, 51, 43, 42, 21, 4] := by decide +kernel
theorem dL_law_353 : decode cL_law 353 = .ok (.pop, 1) := oq_87 (bq_in kqL_law_11 1 rfl)
theorem dL_law_354 : decode cL_law 354 = .ok (.goto 1100, 3) := oq_167 (bq_in kqL_law_11 2 rfl) (bq_in kqL_law_11 3 rfl) (bq_in kqL_law_11 4 rfl) rfl
theorem dL_law_357 : decode cL_law 357 = .ok (.aload_n 1, 1) := oq_43 (bq_in kqL_law_11 5 rfl)
theorem dL_law_358 : decode cL_law 358 = .ok (.aload_n 0, 1) := oq_42 (bq_in kqL_law_11 6 rfl)
theorem dL_law_359 : decode cL_law 359 = .ok (.iload 4, 2) := oq_21 (bq_in kqL_law_11 7 rfl) (bq_in kqL_law_11 8 rfl)
theorem dL_law_361 : decode cL_law 361 = .ok (.iconst 1, 1) := oq_4 (bq_in kqL_law_11 9 rfl)
theorem dL_law_362 : decode cL_law 362 = .ok (.iadd, 1) := oq_96 (bq_in kqL_law_11 10 rfl)
theorem dL_law_363 : decode cL_law 363 = .ok (.iaload, 1) := oq_46 (bq_in kqL_law_11 11 rfl)
theorem dL_law_364 : decode cL_law 364 = .ok (.invokevirtual 36, 3) := oq_182 (bq_in kqL_law_11 12 rfl) (bq_in kqL_law_11 13 rfl) (bq_in kqL_law_11 14 rfl) rfl
theorem dL_law_367 : decode cL_law 367 = .ok (.pop, 1) := oq_87 (bq_in kqL_law_11 15 rfl)
theorem dL_law_368 : decode cL_law 368 = .ok (.aload_n 2, 1) := oq_44 (bq_in kqL_law_11 16 rfl)
theorem dL_law_369 : decode cL_law 369 = .ok (.aload_n 0, 1) := oq_42 (bq_in kqL_law_11 17 rfl)
theorem dL_law_370 : decode cL_law 370 = .ok (.iload 4, 2) := oq_21 (bq_in kqL_law_11 18 rfl) (bq_in kqL_law_11 19 rfl)
theorem dL_law_372 : decode cL_law 372 = .ok (.iconst 1, 1) := oq_4 (bq_in kqL_law_11 20 rfl)
theorem dL_law_373 : decode cL_law 373 = .ok (.iadd, 1) := oq_96 (bq_in kqL_law_11 21 rfl)
theorem dL_law_374 : decode cL_law 374 = .ok (.iaload, 1) := oq_46 (bq_in kqL_law_11 22 rfl)
theorem dL_law_375 : decode cL_law 375 = .ok (.invokevirtual 40, 3) := oq_182 (bq_in kqL_law_11 23 rfl) (bq_in kqL_law_11 24 rfl) (bq_in kqL_law_11 25 rfl) rfl
theorem dL_law_378 : decode cL_law 378 = .ok (.pop, 1) := oq_87 (bq_in kqL_law_11 26 rfl)
theorem dL_law_379 : decode cL_law 379 = .ok (.goto 1075, 3) := oq_167 (bq_in kqL_law_11 27 rfl) (bq_in kqL_law_11 28 rfl) (bq_in kqL_law_11 29 rfl) rfl
theorem dL_law_382 : decode cL_law 382 = .ok (.aload_n 1, 1) := oq_43 (bq_in kqL_law_11 30 rfl)
theorem dL_law_383 : decode cL_law 383 = .ok (.aload_n 0, 1) := oq_42 (bq_in kqL_law_11 31 rfl)
theorem kqL_law_12 : ((cL_law.data.toList.drop 384).take 34).map UInt8.toNat = [21, 4, 4, 96, 46, 42, 21, 4, 5, 96, 46, 42, 21, 4, 6, 96, 46, 182, 0, 41, 87, 44, 42, 21, 4, 4, 96, 46, 42, 21, 4, 5, 96, 46] := by decide +kernel
theorem dL_law_384 : decode cL_law 384 = .ok (.iload 4, 2) := oq_21 (bq_in kqL_law_12 0 rfl) (bq_in kqL_law_12 1 rfl)
theorem dL_law_386 : decode cL_law 386 = .ok (.iconst 1, 1) := oq_4 (bq_in kqL_law_12 2 rfl)
theorem dL_law_387 : decode cL_law 387 = .ok (.iadd, 1) := oq_96 (bq_in kqL_law_12 3 rfl)
theorem dL_law_388 : decode cL_law 388 = .ok (.iaload, 1) := oq_46 (bq_in kqL_law_12 4 rfl)
theorem dL_law_389 : decode cL_law 389 = .ok (.aload_n 0, 1) := oq_42 (bq_in kqL_law_12 5 rfl)
theorem dL_law_390 : decode cL_law 390 = .ok (.iload 4, 2) := oq_21 (bq_in kqL_law_12 6 rfl) (bq_in kqL_law_12 7 rfl)
theorem dL_law_392 : decode cL_law 392 = .ok (.iconst 2, 1) := oq_5 (bq_in kqL_law_12 8 rfl)
theorem dL_law_393 : decode cL_law 393 = .ok (.iadd, 1) := oq_96 (bq_in kqL_law_12 9 rfl)
theorem dL_law_394 : decode cL_law 394 = .ok (.iaload, 1) := oq_46 (bq_in kqL_law_12 10 rfl)
theorem dL_law_395 : decode cL_law 395 = .ok (.aload_n 0, 1) := oq_42 (bq_in kqL_law_12 11 rfl)
theorem dL_law_396 : decode cL_law 396 = .ok (.iload 4, 2) := oq_21 (bq_in kqL_law_12 12 rfl) (bq_in kqL_law_12 13 rfl)
theorem dL_law_398 : decode cL_law 398 = .ok (.iconst 3, 1) := oq_6 (bq_in kqL_law_12 14 rfl)
theorem dL_law_399 : decode cL_law 399 = .ok (.iadd, 1) := oq_96 (bq_in kqL_law_12 15 rfl)
theorem dL_law_400 : decode cL_law 400 = .ok (.iaload, 1) := oq_46 (bq_in kqL_law_12 16 rfl)
theorem dL_law_401 : decode cL_law 401 = .ok (.invokevirtual 41, 3) := oq_182 (bq_in kqL_law_12 17 rfl) (bq_in kqL_law_12 18 rfl) (bq_in kqL_law_12 19 rfl) rfl
theorem dL_law_404 : decode cL_law 404 = .ok (.pop, 1) := oq_87 (bq_in kqL_law_12 20 rfl)
theorem dL_law_405 : decode cL_law 405 = .ok (.aload_n 2, 1) := oq_44 (bq_in kqL_law_12 21 rfl)
theorem dL_law_406 : decode cL_law 406 = .ok (.aload_n 0, 1) := oq_42 (bq_in kqL_law_12 22 rfl)
theorem dL_law_407 : decode cL_law 407 = .ok (.iload 4, 2) := oq_21 (bq_in kqL_law_12 23 rfl) (bq_in kqL_law_12 24 rfl)
theorem dL_law_409 : decode cL_law 409 = .ok (.iconst 1, 1) := oq_4 (bq_in kqL_law_12 25 rfl)
theorem dL_law_410 : decode cL_law 410 = .ok (.iadd, 1) := oq_96 (bq_in kqL_law_12 26 rfl)
theorem dL_law_411 : decode cL_law 411 = .ok (.iaload, 1) := oq_46 (bq_in kqL_law_12 27 rfl)
theorem dL_law_412 : decode cL_law 412 = .ok (.aload_n 0, 1) := oq_42 (bq_in kqL_law_12 28 rfl)
theorem dL_law_413 : decode cL_law 413 = .ok (.iload 4, 2) := oq_21 (bq_in kqL_law_12 29 rfl) (bq_in kqL_law_12 30 rfl)
theorem dL_law_415 : decode cL_law 415 = .ok (.iconst 2, 1) := oq_5 (bq_in kqL_law_12 31 rfl)
theorem kqL_law_13 : ((cL_law.data.toList.drop 416).take 34).map UInt8.toNat = [96, 46, 42, 21, 4, 6, 96, 46, 182, 0, 45, 87, 167, 4, 2, 43, 42, 21, 4, 4, 96, 46, 42, 21, 4, 5, 96, 46, 182, 0, 46, 87, 44, 42] := by decide +kernel
theorem dL_law_416 : decode cL_law 416 = .ok (.iadd, 1) := oq_96 (bq_in kqL_law_13 0 rfl)
theorem dL_law_417 : decode cL_law 417 = .ok (.iaload, 1) := oq_46 (bq_in kqL_law_13 1 rfl)
theorem dL_law_418 : decode cL_law 418 = .ok (.aload_n 0, 1) := oq_42 (bq_in kqL_law_13 2 rfl)
theorem dL_law_419 : decode cL_law 419 = .ok (.iload 4, 2) := oq_21 (bq_in kqL_law_13 3 rfl) (bq_in kqL_law_13 4 rfl)
theorem dL_law_421 : decode cL_law 421 = .ok (.iconst 3, 1) := oq_6 (bq_in kqL_law_13 5 rfl)
theorem dL_law_422 : decode cL_law 422 = .ok (.iadd, 1) := oq_96 (bq_in kqL_law_13 6 rfl)
theorem dL_law_423 : decode cL_law 423 = .ok (.iaload, 1) := oq_46 (bq_in kqL_law_13 7 rfl)
theorem dL_law_424 : decode cL_law 424 = .ok (.invokevirtual 45, 3) := oq_182 (bq_in kqL_law_13 8 rfl) (bq_in kqL_law_13 9 rfl) (bq_in kqL_law_13 10 rfl) rfl
theorem dL_law_427 : decode cL_law 427 = .ok (.pop, 1) := oq_87 (bq_in kqL_law_13 11 rfl)
theorem dL_law_428 : decode cL_law 428 = .ok (.goto 1026, 3) := oq_167 (bq_in kqL_law_13 12 rfl) (bq_in kqL_law_13 13 rfl) (bq_in kqL_law_13 14 rfl) rfl
theorem dL_law_431 : decode cL_law 431 = .ok (.aload_n 1, 1) := oq_43 (bq_in kqL_law_13 15 rfl)
theorem dL_law_432 : decode cL_law 432 = .ok (.aload_n 0, 1) := oq_42 (bq_in kqL_law_13 16 rfl)
theorem dL_law_433 : decode cL_law 433 = .ok (.iload 4, 2) := oq_21 (bq_in kqL_law_13 17 rfl) (bq_in kqL_law_13 18 rfl)
theorem dL_law_435 : decode cL_law 435 = .ok (.iconst 1, 1) := oq_4 (bq_in kqL_law_13 19 rfl)
theorem dL_law_436 : decode cL_law 436 = .ok (.iadd, 1) := oq_96 (bq_in kqL_law_13 20 rfl)
theorem dL_law_437 : decode cL_law 437 = .ok (.iaload, 1) := oq_46 (bq_in kqL_law_13 21 rfl)
theorem dL_law_438 : decode cL_law 438 = .ok (.aload_n 0, 1) := oq_42 (bq_in kqL_law_13 22 rfl)
theorem dL_law_439 : decode cL_law 439 = .ok (.iload 4, 2) := oq_21 (bq_in kqL_law_13 23 rfl) (bq_in kqL_law_13 24 rfl)
theorem dL_law_441 : decode cL_law 441 = .ok (.iconst 2, 1) := oq_5 (bq_in kqL_law_13 25 rfl)
theorem dL_law_442 : decode cL_law 442 = .ok (.iadd, 1) := oq_96 (bq_in kqL_law_13 26 rfl)
theorem dL_law_443 : decode cL_law 443 = .ok (.iaload, 1) := oq_46 (bq_in kqL_law_13 27 rfl)
theorem dL_law_444 : decode cL_law 444 = .ok (.invokevirtual 46, 3) := oq_182 (bq_in kqL_law_13 28 rfl) (bq_in kqL_law_13 29 rfl) (bq_in kqL_law_13 30 rfl) rfl
theorem dL_law_447 : decode cL_law 447 = .ok (.pop, 1) := oq_87 (bq_in kqL_law_13 31 rfl)
theorem kqL_law_14 : ((cL_law.data.toList.drop 448).take 34).map UInt8.toNat = [44, 42, 21, 4, 4, 96, 46, 42, 21, 4, 5, 96, 46, 182, 0, 50, 87, 167, 3, 221, 43, 42, 21, 4, 4, 96, 46, 42, 21, 4, 5, 96, 46, 182] := by decide +kernel
theorem dL_law_448 : decode cL_law 448 = .ok (.aload_n 2, 1) := oq_44 (bq_in kqL_law_14 0 rfl)
theorem dL_law_449 : decode cL_law 449 = .ok (.aload_n 0, 1) := oq_42 (bq_in kqL_law_14 1 rfl)
theorem dL_law_450 : decode cL_law 450 = .ok (.iload 4, 2) := oq_21 (bq_in kqL_law_14 2 rfl) (bq_in kqL_law_14 3 rfl)
theorem dL_law_452 : decode cL_law 452 = .ok (.iconst 1, 1) := oq_4 (bq_in kqL_law_14 4 rfl)
theorem dL_law_453 : decode cL_law 453 = .ok (.iadd, 1) := oq_96 (bq_in kqL_law_14 5 rfl)
theorem dL_law_454 : decode cL_law 454 = .ok (.iaload, 1) := oq_46 (bq_in kqL_law_14 6 rfl)
theorem dL_law_455 : decode cL_law 455 = .ok (.aload_n 0, 1) := oq_42 (bq_in kqL_law_14 7 rfl)
theorem dL_law_456 : decode cL_law 456 = .ok (.iload 4, 2) := oq_21 (bq_in kqL_law_14 8 rfl) (bq_in kqL_law_14 9 rfl)
theorem dL_law_458 : decode cL_law 458 = .ok (.iconst 2, 1) := oq_5 (bq_in kqL_law_14 10 rfl)
theorem dL_law_459 : decode cL_law 459 = .ok (.iadd, 1) := oq_96 (bq_in kqL_law_14 11 rfl)
theorem dL_law_460 : decode cL_law 460 = .ok (.iaload, 1) := oq_46 (bq_in kqL_law_14 12 rfl)
theorem dL_law_461 : decode cL_law 461 = .ok (.invokevirtual 50, 3) := oq_182 (bq_in kqL_law_14 13 rfl) (bq_in kqL_law_14 14 rfl) (bq_in kqL_law_14 15 rfl) rfl
theorem dL_law_464 : decode cL_law 464 = .ok (.pop, 1) := oq_87 (bq_in kqL_law_14 16 rfl)
theorem dL_law_465 : decode cL_law 465 = .ok (.goto 989, 3) := oq_167 (bq_in kqL_law_14 17 rfl) (bq_in kqL_law_14 18 rfl) (bq_in kqL_law_14 19 rfl) rfl
theorem dL_law_468 : decode cL_law 468 = .ok (.aload_n 1, 1) := oq_43 (bq_in kqL_law_14 20 rfl)
theorem dL_law_469 : decode cL_law 469 = .ok (.aload_n 0, 1) := oq_42 (bq_in kqL_law_14 21 rfl)
theorem dL_law_470 : decode cL_law 470 = .ok (.iload 4, 2) := oq_21 (bq_in kqL_law_14 22 rfl) (bq_in kqL_law_14 23 rfl)
theorem dL_law_472 : decode cL_law 472 = .ok (.iconst 1, 1) := oq_4 (bq_in kqL_law_14 24 rfl)
theorem dL_law_473 : decode cL_law 473 = .ok (.iadd, 1) := oq_96 (bq_in kqL_law_14 25 rfl)
theorem dL_law_474 : decode cL_law 474 = .ok (.iaload, 1) := oq_46 (bq_in kqL_law_14 26 rfl)
theorem dL_law_475 : decode cL_law 475 = .ok (.aload_n 0, 1) := oq_42 (bq_in kqL_law_14 27 rfl)
theorem dL_law_476 : decode cL_law 476 = .ok (.iload 4, 2) := oq_21 (bq_in kqL_law_14 28 rfl) (bq_in kqL_law_14 29 rfl)
theorem dL_law_478 : decode cL_law 478 = .ok (.iconst 2, 1) := oq_5 (bq_in kqL_law_14 30 rfl)
theorem dL_law_479 : decode cL_law 479 = .ok (.iadd, 1) := oq_96 (bq_in kqL_law_14 31 rfl)
theorem kqL_law_15 : ((cL_law.data.toList.drop 480).take 34).map UInt8.toNat = [46, 182, 0, 51, 87, 44, 42, 21, 4, 4, 96, 46, 42, 21, 4, 5, 96, 46, 182, 0, 54, 87, 167, 3, 184, 43, 42, 21, 4, 4, 96, 46, 42, 21] := by decide +kernel
theorem dL_law_480 : decode cL_law 480 = .ok (.iaload, 1) := oq_46 (bq_in kqL_law_15 0 rfl)
