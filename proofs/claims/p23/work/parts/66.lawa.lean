set_option maxHeartbeats 4000000 in
set_option maxRecDepth 100000 in
theorem wl_0 {Z : Zt} (zo : Zok Z) (zc : ∀ (A : Nat → Prop) (U : State) (H : Heap), Z A U H → ZE U) {p : Program} {l : Launch} {e : Env} {s : State} {m : MethodId} {below : List Frame} {meth : Method} {c : Code} {b Ln : Nat} {xs : Nat → Int32} {D : va_G} {cy : Cy} {cL : ClassId} {A : Nat → Prop} (hB : LB Z p l s m c b Ln xs D cy cL A) {Q : State → Prop} {x mo o : Nat} {ad : Nat → Nat} {Mm : List Nat} (y4 : Int) (ly4 : -2147483648 ≤ y4) (uy4 : y4 ≤ 2147483647) (i0 : 0 ≤ y4) (i1 : y4 + 7 ≤ (Ln : Int)) {X : List Nat} {fx fm fo : Nat → va_E} {H : Heap} {locs : List Loc} {ls : Array Slot} {cells slots : Nat} (hI : LI cy cL D A s.heap x mo o ad X fx Mm fm fo H locs) (hl : lv_has ls 7 [(0, .ref b), (1, .ref x), (2, .ref mo), (3, .ref o), (4, .int (iI y4))]) (hc : cells + 40 ≤ 601024) (hs0 : slots + 600 ≤ 7293034) (kk : ∀ (X1 : List Nat) (fx1 fm1 fo1 : Nat → va_E) (H1 : Heap) (locs1 : List Loc) (ls1 : Array Slot) (cells1 slots1 : Nat), cells1 ≤ cells + 40 → slots1 ≤ slots + 600 → LI cy cL D A s.heap x mo o ad X1 fx1 Mm fm1 fo1 H1 locs1 → lv_has ls1 7 [(0, .ref b), (1, .ref x), (2, .ref mo), (3, .ref o), (4, .int (iI y4))] → W p l e room_1 s m #[Value.ref b] below meth c H1 locs1 cells1 slots1 Q (F0 m 1454 ls1 [])) : W p l e room_1 s m #[Value.ref b] below meth c H locs cells slots Q (F0 m 172 ls []) := by
  obtain ⟨hx, hb, hml, hown, hts, hXs, hbl, hK, hA, hbA, hZ, hlt, hLn⟩ := hB
  obtain ⟨hwX, hwM, hwO, apM, apO, apOM, m_x, o_x, hg, ⟨hs, hv, hi, hd, t9a, t9b, t15a, t15b⟩, ho, t1⟩ := hI
  obtain ⟨⟨rq, rr, im, tp, cw, oxm⟩, bt⟩ := id t1
  have hg0 := hg
  have ox0 := o_x
  have mx0 := m_x
  have hKq : va_K D vwCl (tq cy) s := hK.sub [0, 1, 2, 3, 4] rfl
  refine lv_aload_n hx hb dL_law_172 rfl (lv_at hl 1 rfl) ?_
  refine lv_aload_n hx hb dL_law_173 rfl (lv_at hl 0 rfl) ?_
  refine lv_iload hx hb dL_law_174 (lv_at hl 4 rfl) ?_
  refine q_iconst hx hb dL_law_176 ?_
  first | refine q_iadd hx hb dL_law_177 ⟨by omega, by omega⟩ (fun x_1 lx_1 ux_1 ex_1 => ?_) | refine q_iaddw hx hb dL_law_177 (fun x_1 lx_1 ux_1 ex_1 => ?_)
  refine q_sld hx hb hXs hbl hbA hwX.2.2 ⟨lx_1, ux_1⟩ (by omega) (by omega) dL_law_178 (fun x_2 lx_2 ux_2 ex_2 => ?_)
  refine q_i2l hx hb dL_law_179 ⟨lx_2, ux_2⟩ ?_
  obtain ⟨j_3, lj_3, uj_3, ej_3⟩ : ∃ z : Int, -9223372036854775808 ≤ z ∧ z ≤ 9223372036854775807 ∧ x_2 = z := ⟨x_2, by omega, by omega, rfl⟩
  rw [show (lJ x_2) = lJ j_3 from by rw [ej_3]]
  refine q_bipush hx hb dL_law_180 rfl ?_
  refine lv_lshl hx hb dL_law_182 rfl ?_
  refine q_numl (fun j_4 lj_4 uj_4 ej_4 => ?_)
  refine lv_aload_n hx hb dL_law_183 rfl (lv_at hl 0 rfl) ?_
  refine lv_iload hx hb dL_law_184 (lv_at hl 4 rfl) ?_
  refine q_iconst hx hb dL_law_186 ?_
  first | refine q_iadd hx hb dL_law_187 ⟨by omega, by omega⟩ (fun x_5 lx_5 ux_5 ex_5 => ?_) | refine q_iaddw hx hb dL_law_187 (fun x_5 lx_5 ux_5 ex_5 => ?_)
  refine q_sld hx hb hXs hbl hbA hwX.2.2 ⟨lx_5, ux_5⟩ (by omega) (by omega) dL_law_188 (fun x_6 lx_6 ux_6 ex_6 => ?_)
  refine q_i2l hx hb dL_law_189 ⟨lx_6, ux_6⟩ ?_
  obtain ⟨j_7, lj_7, uj_7, ej_7⟩ : ∃ z : Int, -9223372036854775808 ≤ z ∧ z ≤ 9223372036854775807 ∧ x_6 = z := ⟨x_6, by omega, by omega, rfl⟩
  rw [show (lJ x_6) = lJ j_7 from by rw [ej_7]]
  refine q_ldc2 (n := 4294967295) hx hb hown (hts _ (List.mem_cons_of_mem _ (mr1 _ (List.mem_of_getElem? (i := 7) rfl)))) rfl dL_law_190 ?_
  refine lv_land hx hb dL_law_193 ?_
  refine q_numl (fun j_8 lj_8 uj_8 ej_8 => ?_)
  refine lv_lor hx hb dL_law_194 ?_
  refine q_numl (fun j_9 lj_9 uj_9 ej_9 => ?_)
  refine lv_aload_n hx hb dL_law_195 rfl (lv_at hl 0 rfl) ?_
  refine lv_iload hx hb dL_law_196 (lv_at hl 4 rfl) ?_
  refine q_iconst hx hb dL_law_198 ?_
  first | refine q_iadd hx hb dL_law_199 ⟨by omega, by omega⟩ (fun x_10 lx_10 ux_10 ex_10 => ?_) | refine q_iaddw hx hb dL_law_199 (fun x_10 lx_10 ux_10 ex_10 => ?_)
  refine q_sld hx hb hXs hbl hbA hwX.2.2 ⟨lx_10, ux_10⟩ (by omega) (by omega) dL_law_200 (fun x_11 lx_11 ux_11 ex_11 => ?_)
  refine q_i2l hx hb dL_law_201 ⟨lx_11, ux_11⟩ ?_
  obtain ⟨j_12, lj_12, uj_12, ej_12⟩ : ∃ z : Int, -9223372036854775808 ≤ z ∧ z ≤ 9223372036854775807 ∧ x_11 = z := ⟨x_11, by omega, by omega, rfl⟩
  rw [show (lJ x_11) = lJ j_12 from by rw [ej_12]]
  refine q_bipush hx hb dL_law_202 rfl ?_
  refine lv_lshl hx hb dL_law_204 rfl ?_
  refine q_numl (fun j_13 lj_13 uj_13 ej_13 => ?_)
  refine lv_aload_n hx hb dL_law_205 rfl (lv_at hl 0 rfl) ?_
  refine lv_iload hx hb dL_law_206 (lv_at hl 4 rfl) ?_
  refine q_iconst hx hb dL_law_208 ?_
  first | refine q_iadd hx hb dL_law_209 ⟨by omega, by omega⟩ (fun x_14 lx_14 ux_14 ex_14 => ?_) | refine q_iaddw hx hb dL_law_209 (fun x_14 lx_14 ux_14 ex_14 => ?_)
  refine q_sld hx hb hXs hbl hbA hwX.2.2 ⟨lx_14, ux_14⟩ (by omega) (by omega) dL_law_210 (fun x_15 lx_15 ux_15 ex_15 => ?_)
  refine q_i2l hx hb dL_law_211 ⟨lx_15, ux_15⟩ ?_
  obtain ⟨j_16, lj_16, uj_16, ej_16⟩ : ∃ z : Int, -9223372036854775808 ≤ z ∧ z ≤ 9223372036854775807 ∧ x_15 = z := ⟨x_15, by omega, by omega, rfl⟩
  rw [show (lJ x_15) = lJ j_16 from by rw [ej_16]]
  refine q_ldc2 (n := 4294967295) hx hb hown (hts _ (List.mem_cons_of_mem _ (mr1 _ (List.mem_of_getElem? (i := 7) rfl)))) rfl dL_law_212 ?_
  refine lv_land hx hb dL_law_215 ?_
  refine q_numl (fun j_17 lj_17 uj_17 ej_17 => ?_)
  refine lv_lor hx hb dL_law_216 ?_
  refine q_numl (fun j_18 lj_18 uj_18 ej_18 => ?_)
  refine lv_aload_n hx hb dL_law_217 rfl (lv_at hl 0 rfl) ?_
  refine lv_iload hx hb dL_law_218 (lv_at hl 4 rfl) ?_
  refine q_iconst hx hb dL_law_220 ?_
  first | refine q_iadd hx hb dL_law_221 ⟨by omega, by omega⟩ (fun x_19 lx_19 ux_19 ex_19 => ?_) | refine q_iaddw hx hb dL_law_221 (fun x_19 lx_19 ux_19 ex_19 => ?_)
  refine q_sld hx hb hXs hbl hbA hwX.2.2 ⟨lx_19, ux_19⟩ (by omega) (by omega) dL_law_222 (fun x_20 lx_20 ux_20 ex_20 => ?_)
  refine q_i2l hx hb dL_law_223 ⟨lx_20, ux_20⟩ ?_
  obtain ⟨j_21, lj_21, uj_21, ej_21⟩ : ∃ z : Int, -9223372036854775808 ≤ z ∧ z ≤ 9223372036854775807 ∧ x_20 = z := ⟨x_20, by omega, by omega, rfl⟩
  rw [show (lJ x_20) = lJ j_21 from by rw [ej_21]]
  refine q_bipush hx hb dL_law_224 rfl ?_
  refine lv_lshl hx hb dL_law_226 rfl ?_
  refine q_numl (fun j_22 lj_22 uj_22 ej_22 => ?_)
  refine lv_aload_n hx hb dL_law_227 rfl (lv_at hl 0 rfl) ?_
  refine lv_iload hx hb dL_law_228 (lv_at hl 4 rfl) ?_
  refine q_bipush hx hb dL_law_230 rfl ?_
  first | refine q_iadd hx hb dL_law_232 ⟨by omega, by omega⟩ (fun x_23 lx_23 ux_23 ex_23 => ?_) | refine q_iaddw hx hb dL_law_232 (fun x_23 lx_23 ux_23 ex_23 => ?_)
  refine q_sld hx hb hXs hbl hbA hwX.2.2 ⟨lx_23, ux_23⟩ (by omega) (by omega) dL_law_233 (fun x_24 lx_24 ux_24 ex_24 => ?_)
  refine q_i2l hx hb dL_law_234 ⟨lx_24, ux_24⟩ ?_
  obtain ⟨j_25, lj_25, uj_25, ej_25⟩ : ∃ z : Int, -9223372036854775808 ≤ z ∧ z ≤ 9223372036854775807 ∧ x_24 = z := ⟨x_24, by omega, by omega, rfl⟩
  rw [show (lJ x_24) = lJ j_25 from by rw [ej_25]]
  refine q_ldc2 (n := 4294967295) hx hb hown (hts _ (List.mem_cons_of_mem _ (mr1 _ (List.mem_of_getElem? (i := 7) rfl)))) rfl dL_law_235 ?_
  refine lv_land hx hb dL_law_238 ?_
  refine q_numl (fun j_26 lj_26 uj_26 ej_26 => ?_)
  refine lv_lor hx hb dL_law_239 ?_
  refine q_numl (fun j_27 lj_27 uj_27 ej_27 => ?_)
  refine q_cf_i hA hwX (va_runV (As := [.long (lJ j_9), .long (lJ j_18), .long (lJ j_27)]) (rest := []) ⟨hx, hb, hml, hown, hts⟩ (c_X9_feed_t zo l D cy X fx x j_9 lj_9 uj_9 j_18 lj_18 uj_18 j_27 lj_27 uj_27 m_x o_x hg tp cw.2.2.2.2.1 _) (cwV 3 hts (gT (inV (mr4 _ (List.mem_of_getElem? (i := 6) rfl)) (mr4 _ (List.mem_of_getElem? (i := 7) rfl)) (mr4 _ (List.mem_of_getElem? (i := 8) rfl)) (mr1 _ (List.mem_of_getElem? (i := 2) rfl)) (mr4 _ (List.mem_of_getElem? (i := 9) rfl)))) rfl rfl rfl (by decide +kernel) ⟨Nat.le_of_ble_eq_true rfl, Nat.le_of_ble_eq_true rfl⟩) (Wd.preV zo hA hZ hwX hKq m_x o_x rfl) rfl rfl hl.1 rfl (lv_room (Nat.le_of_ble_eq_true rfl)) dL_law_240 ⟨by show cells + 0 ≤ 601024; omega, by show slots + 0 ≤ 7293034; omega⟩) (fun x_28 L_30 f_29 H locs lx_28 ux_28 ex_28 hwX fr => ?_)
  obtain ⟨rfl, hg, hXc, ex_28⟩ := ex_28
  have o_x := hXc.1.1 _ _ o_x
  obtain ⟨hwM, apM⟩ := hwM.keep fr hwX.2.2 apM
  obtain ⟨hwO, apO⟩ := hwO.keep fr hwX.2.2 apO
  refine lv_pop hx hb dL_law_243 rfl ?_
  refine lv_aload_n hx hb dL_law_244 rfl (lv_at hl 2 rfl) ?_
  refine lv_aload_n hx hb dL_law_245 rfl (lv_at hl 0 rfl) ?_
  refine lv_iload hx hb dL_law_246 (lv_at hl 4 rfl) ?_
  refine q_iconst hx hb dL_law_248 ?_
  first | refine q_iadd hx hb dL_law_249 ⟨by omega, by omega⟩ (fun x_31 lx_31 ux_31 ex_31 => ?_) | refine q_iaddw hx hb dL_law_249 (fun x_31 lx_31 ux_31 ex_31 => ?_)
  refine q_sld hx hb hXs hbl hbA hwX.2.2 ⟨lx_31, ux_31⟩ (by omega) (by omega) dL_law_250 (fun x_32 lx_32 ux_32 ex_32 => ?_)
  refine q_i2l hx hb dL_law_251 ⟨lx_32, ux_32⟩ ?_
  obtain ⟨j_33, lj_33, uj_33, ej_33⟩ : ∃ z : Int, -9223372036854775808 ≤ z ∧ z ≤ 9223372036854775807 ∧ x_32 = z := ⟨x_32, by omega, by omega, rfl⟩
  rw [show (lJ x_32) = lJ j_33 from by rw [ej_33]]
  refine q_bipush hx hb dL_law_252 rfl ?_
  refine lv_lshl hx hb dL_law_254 rfl ?_
  refine q_numl (fun j_34 lj_34 uj_34 ej_34 => ?_)
  refine lv_aload_n hx hb dL_law_255 rfl (lv_at hl 0 rfl) ?_
  refine lv_iload hx hb dL_law_256 (lv_at hl 4 rfl) ?_
  refine q_iconst hx hb dL_law_258 ?_
  first | refine q_iadd hx hb dL_law_259 ⟨by omega, by omega⟩ (fun x_35 lx_35 ux_35 ex_35 => ?_) | refine q_iaddw hx hb dL_law_259 (fun x_35 lx_35 ux_35 ex_35 => ?_)
  refine q_sld hx hb hXs hbl hbA hwX.2.2 ⟨lx_35, ux_35⟩ (by omega) (by omega) dL_law_260 (fun x_36 lx_36 ux_36 ex_36 => ?_)
  refine q_i2l hx hb dL_law_261 ⟨lx_36, ux_36⟩ ?_
  obtain ⟨j_37, lj_37, uj_37, ej_37⟩ : ∃ z : Int, -9223372036854775808 ≤ z ∧ z ≤ 9223372036854775807 ∧ x_36 = z := ⟨x_36, by omega, by omega, rfl⟩
  rw [show (lJ x_36) = lJ j_37 from by rw [ej_37]]
  refine q_ldc2 (n := 4294967295) hx hb hown (hts _ (List.mem_cons_of_mem _ (mr1 _ (List.mem_of_getElem? (i := 7) rfl)))) rfl dL_law_262 ?_
  refine lv_land hx hb dL_law_265 ?_
  refine q_numl (fun j_38 lj_38 uj_38 ej_38 => ?_)
  refine lv_lor hx hb dL_law_266 ?_
  refine q_numl (fun j_39 lj_39 uj_39 ej_39 => ?_)
  refine lv_aload_n hx hb dL_law_267 rfl (lv_at hl 0 rfl) ?_
  refine lv_iload hx hb dL_law_268 (lv_at hl 4 rfl) ?_
  refine q_iconst hx hb dL_law_270 ?_
  first | refine q_iadd hx hb dL_law_271 ⟨by omega, by omega⟩ (fun x_40 lx_40 ux_40 ex_40 => ?_) | refine q_iaddw hx hb dL_law_271 (fun x_40 lx_40 ux_40 ex_40 => ?_)
  refine q_sld hx hb hXs hbl hbA hwX.2.2 ⟨lx_40, ux_40⟩ (by omega) (by omega) dL_law_272 (fun x_41 lx_41 ux_41 ex_41 => ?_)
  refine q_i2l hx hb dL_law_273 ⟨lx_41, ux_41⟩ ?_
  obtain ⟨j_42, lj_42, uj_42, ej_42⟩ : ∃ z : Int, -9223372036854775808 ≤ z ∧ z ≤ 9223372036854775807 ∧ x_41 = z := ⟨x_41, by omega, by omega, rfl⟩
  rw [show (lJ x_41) = lJ j_42 from by rw [ej_42]]
  refine q_bipush hx hb dL_law_274 rfl ?_
  refine lv_lshl hx hb dL_law_276 rfl ?_
  refine q_numl (fun j_43 lj_43 uj_43 ej_43 => ?_)
  refine lv_aload_n hx hb dL_law_277 rfl (lv_at hl 0 rfl) ?_
  refine lv_iload hx hb dL_law_278 (lv_at hl 4 rfl) ?_
  refine q_iconst hx hb dL_law_280 ?_
  first | refine q_iadd hx hb dL_law_281 ⟨by omega, by omega⟩ (fun x_44 lx_44 ux_44 ex_44 => ?_) | refine q_iaddw hx hb dL_law_281 (fun x_44 lx_44 ux_44 ex_44 => ?_)
  refine q_sld hx hb hXs hbl hbA hwX.2.2 ⟨lx_44, ux_44⟩ (by omega) (by omega) dL_law_282 (fun x_45 lx_45 ux_45 ex_45 => ?_)
  refine q_i2l hx hb dL_law_283 ⟨lx_45, ux_45⟩ ?_
  obtain ⟨j_46, lj_46, uj_46, ej_46⟩ : ∃ z : Int, -9223372036854775808 ≤ z ∧ z ≤ 9223372036854775807 ∧ x_45 = z := ⟨x_45, by omega, by omega, rfl⟩
  rw [show (lJ x_45) = lJ j_46 from by rw [ej_46]]
  refine q_ldc2 (n := 4294967295) hx hb hown (hts _ (List.mem_cons_of_mem _ (mr1 _ (List.mem_of_getElem? (i := 7) rfl)))) rfl dL_law_284 ?_
  refine lv_land hx hb dL_law_287 ?_
  refine q_numl (fun j_47 lj_47 uj_47 ej_47 => ?_)
  refine lv_lor hx hb dL_law_288 ?_
  refine q_numl (fun j_48 lj_48 uj_48 ej_48 => ?_)
  refine lv_aload_n hx hb dL_law_289 rfl (lv_at hl 0 rfl) ?_
  refine lv_iload hx hb dL_law_290 (lv_at hl 4 rfl) ?_
  refine q_iconst hx hb dL_law_292 ?_
  first | refine q_iadd hx hb dL_law_293 ⟨by omega, by omega⟩ (fun x_49 lx_49 ux_49 ex_49 => ?_) | refine q_iaddw hx hb dL_law_293 (fun x_49 lx_49 ux_49 ex_49 => ?_)
  refine q_sld hx hb hXs hbl hbA hwX.2.2 ⟨lx_49, ux_49⟩ (by omega) (by omega) dL_law_294 (fun x_50 lx_50 ux_50 ex_50 => ?_)
  refine q_i2l hx hb dL_law_295 ⟨lx_50, ux_50⟩ ?_
  obtain ⟨j_51, lj_51, uj_51, ej_51⟩ : ∃ z : Int, -9223372036854775808 ≤ z ∧ z ≤ 9223372036854775807 ∧ x_50 = z := ⟨x_50, by omega, by omega, rfl⟩
  rw [show (lJ x_50) = lJ j_51 from by rw [ej_51]]
  refine q_bipush hx hb dL_law_296 rfl ?_
  refine lv_lshl hx hb dL_law_298 rfl ?_
  refine q_numl (fun j_52 lj_52 uj_52 ej_52 => ?_)
  refine lv_aload_n hx hb dL_law_299 rfl (lv_at hl 0 rfl) ?_
  refine lv_iload hx hb dL_law_300 (lv_at hl 4 rfl) ?_
  refine q_bipush hx hb dL_law_302 rfl ?_
  first | refine q_iadd hx hb dL_law_304 ⟨by omega, by omega⟩ (fun x_53 lx_53 ux_53 ex_53 => ?_) | refine q_iaddw hx hb dL_law_304 (fun x_53 lx_53 ux_53 ex_53 => ?_)
  refine q_sld hx hb hXs hbl hbA hwX.2.2 ⟨lx_53, ux_53⟩ (by omega) (by omega) dL_law_305 (fun x_54 lx_54 ux_54 ex_54 => ?_)
  refine q_i2l hx hb dL_law_306 ⟨lx_54, ux_54⟩ ?_
  obtain ⟨j_55, lj_55, uj_55, ej_55⟩ : ∃ z : Int, -9223372036854775808 ≤ z ∧ z ≤ 9223372036854775807 ∧ x_54 = z := ⟨x_54, by omega, by omega, rfl⟩
  rw [show (lJ x_54) = lJ j_55 from by rw [ej_55]]
  refine q_ldc2 (n := 4294967295) hx hb hown (hts _ (List.mem_cons_of_mem _ (mr1 _ (List.mem_of_getElem? (i := 7) rfl)))) rfl dL_law_307 ?_
  refine lv_land hx hb dL_law_310 ?_
  refine q_numl (fun j_56 lj_56 uj_56 ej_56 => ?_)
  refine lv_lor hx hb dL_law_311 ?_
  refine q_numl (fun j_57 lj_57 uj_57 ej_57 => ?_)
  refine q_cf_i hA hwM (va_runV (As := [.long (lJ j_39), .long (lJ j_48), .long (lJ j_57)]) (rest := []) ⟨hx, hb, hml, hown, hts⟩ (c_X10_feed_t zo l D cy Mm fm mo j_39 lj_39 uj_39 j_48 lj_48 uj_48 j_57 lj_57 uj_57 ad hs (by omega) (by omega) _) (cwV 3 hts (gT (inV (mr4 _ (List.mem_of_getElem? (i := 15) rfl)) (mr4 _ (List.mem_of_getElem? (i := 16) rfl)) (mr4 _ (List.mem_of_getElem? (i := 17) rfl)) (mr1 _ (List.mem_of_getElem? (i := 5) rfl)) (mr4 _ (List.mem_of_getElem? (i := 18) rfl)))) rfl rfl rfl (by decide +kernel) ⟨Nat.le_of_ble_eq_true rfl, Nat.le_of_ble_eq_true rfl⟩) (Wd.preV zo hA hZ hwM hKq hs.1 hs.2.1 rfl) rfl rfl hl.1 rfl (lv_room (Nat.le_of_ble_eq_true rfl)) dL_law_312 ⟨by show cells + 0 + 0 ≤ 601024; omega, by show slots + 0 + 0 ≤ 7293034; omega⟩) (fun x_58 L_60 f_59 H locs lx_58 ux_58 ex_58 hwM fr => ?_)
  obtain ⟨rfl, hs, hX, ex_58⟩ := ex_58
  obtain ⟨hwX, -⟩ := hwX.keep fr hwM.2.2 (fun y hy hm => apM y hm hy)
  obtain ⟨hwO, -⟩ := hwO.keep fr hwM.2.2 apOM
  have hd := hd.kp hX (by decide) (by decide) (by decide) (by decide)
  have hi := hi.kp hX (by decide) (by decide)
  have hv := hv.kp hX (by decide) (by decide)
  have q9 : fI f_59 mo 9 = fI fm mo 9 ∨ (fI fm mo 9 ≤ 144 ∧ fI f_59 mo 9 = fI fm mo 9 + 24) := ex_58.elim (fun z => Or.inl z.2.2.1) (fun z => Or.inr ⟨z.1, z.2.2.1⟩)
  have q15 := hX.2 15 (by decide)
  have qx_1 : x_1 = x_31 := by omega
  have qx_1 : x_1 = x_31 := by omega
  have qx_2 : x_2 = x_32 := by rw [ex_2, ex_32, qx_1]
  have qj_3 : j_3 = j_33 := by rw [← ej_3, ← ej_33, qx_2]
  have qj_4 : j_4 = j_34 := by rw [ej_4, ej_34, qj_3]
  have qx_5 : x_5 = x_35 := by omega
  have qx_5 : x_5 = x_35 := by omega
  have qx_6 : x_6 = x_36 := by rw [ex_6, ex_36, qx_5]
  have qj_7 : j_7 = j_37 := by rw [← ej_7, ← ej_37, qx_6]
  have qj_8 : j_8 = j_38 := by rw [ej_8, ej_38, qj_7]
  have qj_9 : j_9 = j_39 := by rw [ej_9, ej_39, qj_4, qj_8]
  have qx_10 : x_10 = x_40 := by omega
  have qx_10 : x_10 = x_40 := by omega
  have qx_11 : x_11 = x_41 := by rw [ex_11, ex_41, qx_10]
  have qj_12 : j_12 = j_42 := by rw [← ej_12, ← ej_42, qx_11]
  have qj_13 : j_13 = j_43 := by rw [ej_13, ej_43, qj_12]
  have qx_14 : x_14 = x_44 := by omega
  have qx_14 : x_14 = x_44 := by omega
  have qx_15 : x_15 = x_45 := by rw [ex_15, ex_45, qx_14]
  have qj_16 : j_16 = j_46 := by rw [← ej_16, ← ej_46, qx_15]
  have qj_17 : j_17 = j_47 := by rw [ej_17, ej_47, qj_16]
  have qj_18 : j_18 = j_48 := by rw [ej_18, ej_48, qj_13, qj_17]
  have qx_19 : x_19 = x_49 := by omega
  have qx_19 : x_19 = x_49 := by omega
  have qx_20 : x_20 = x_50 := by rw [ex_20, ex_50, qx_19]
  have qj_21 : j_21 = j_51 := by rw [← ej_21, ← ej_51, qx_20]
  have qj_22 : j_22 = j_52 := by rw [ej_22, ej_52, qj_21]
  have qx_23 : x_23 = x_53 := by omega
  have qx_23 : x_23 = x_53 := by omega
  have qx_24 : x_24 = x_54 := by rw [ex_24, ex_54, qx_23]
  have qj_25 : j_25 = j_55 := by rw [← ej_25, ← ej_55, qx_24]
  have qj_26 : j_26 = j_56 := by rw [ej_26, ej_56, qj_25]
  have qj_27 : j_27 = j_57 := by rw [ej_27, ej_57, qj_22, qj_26]
  obtain ⟨t1, eqr⟩ := CRO.feed cw oxm bt hg0 mx0 ox0 ex_28 hX ex_58 qj_9 qj_18 qj_27
  clear cw bt ex_58 ex_28 oxm
  have t9a : 0 ≤ fI f_59 mo 9 := by omega
  have t9b : fI f_59 mo 9 ≤ 168 := by omega
  have t15a : 0 ≤ fI f_59 mo 15 := by omega
  have t15b : fI f_59 mo 15 ≤ 168 := by omega
  refine lv_pop hx hb dL_law_315 rfl ?_
  refine lv_goto (tgt := 1454) hx hb dL_law_316 (by decide) ?_
  exact kk X f_29 f_59 fo _ _ _ _ _ (by omega) (by omega) ⟨hwX, hwM, hwO, apM, apO, apOM, m_x, o_x, hg, ⟨hs, hv, hi, hd, t9a, t9b, t15a, t15b⟩, ho, t1⟩ (lv_sub hl [0, 1, 2, 3, 4] rfl)
set_option maxHeartbeats 4000000 in
set_option maxRecDepth 100000 in
theorem wl_1 {Z : Zt} (zo : Zok Z) (zc : ∀ (A : Nat → Prop) (U : State) (H : Heap), Z A U H → ZE U) {p : Program} {l : Launch} {e : Env} {s : State} {m : MethodId} {below : List Frame} {meth : Method} {c : Code} {b Ln : Nat} {xs : Nat → Int32} {D : va_G} {cy : Cy} {cL : ClassId} {A : Nat → Prop} (hB : LB Z p l s m c b Ln xs D cy cL A) {Q : State → Prop} {x mo o : Nat} {ad : Nat → Nat} {Mm : List Nat} (y4 : Int) (ly4 : -2147483648 ≤ y4) (uy4 : y4 ≤ 2147483647) (i0 : 0 ≤ y4) (i1 : y4 + 7 ≤ (Ln : Int)) {X : List Nat} {fx fm fo : Nat → va_E} {H : Heap} {locs : List Loc} {ls : Array Slot} {cells slots : Nat} (hI : LI cy cL D A s.heap x mo o ad X fx Mm fm fo H locs) (hl : lv_has ls 7 [(0, .ref b), (1, .ref x), (2, .ref mo), (3, .ref o), (4, .int (iI y4))]) (hc : cells + 40 ≤ 601024) (hs0 : slots + 600 ≤ 7293034) (kk : ∀ (X1 : List Nat) (fx1 fm1 fo1 : Nat → va_E) (H1 : Heap) (locs1 : List Loc) (ls1 : Array Slot) (cells1 slots1 : Nat), cells1 ≤ cells + 40 → slots1 ≤ slots + 600 → LI cy cL D A s.heap x mo o ad X1 fx1 Mm fm1 fo1 H1 locs1 → lv_has ls1 7 [(0, .ref b), (1, .ref x), (2, .ref mo), (3, .ref o), (4, .int (iI y4))] → W p l e room_1 s m #[Value.ref b] below meth c H1 locs1 cells1 slots1 Q (F0 m 1454 ls1 [])) : W p l e room_1 s m #[Value.ref b] below meth c H locs cells slots Q (F0 m 319 ls []) := by
  obtain ⟨hx, hb, hml, hown, hts, hXs, hbl, hK, hA, hbA, hZ, hlt, hLn⟩ := hB
  obtain ⟨hwX, hwM, hwO, apM, apO, apOM, m_x, o_x, hg, ⟨hs, hv, hi, hd, t9a, t9b, t15a, t15b⟩, ho, t1⟩ := hI
  obtain ⟨⟨rq, rr, im, tp, cw, oxm⟩, bt⟩ := id t1
  have hg0 := hg
  have ox0 := o_x
  have mx0 := m_x
  have hKq : va_K D vwCl (tq cy) s := hK.sub [0, 1, 2, 3, 4] rfl
  refine lv_aload_n hx hb dL_law_319 rfl (lv_at hl 1 rfl) ?_
  refine lv_aload_n hx hb dL_law_320 rfl (lv_at hl 0 rfl) ?_
  refine lv_iload hx hb dL_law_321 (lv_at hl 4 rfl) ?_
  refine q_iconst hx hb dL_law_323 ?_
  first | refine q_iadd hx hb dL_law_324 ⟨by omega, by omega⟩ (fun x_1 lx_1 ux_1 ex_1 => ?_) | refine q_iaddw hx hb dL_law_324 (fun x_1 lx_1 ux_1 ex_1 => ?_)
  refine q_sld hx hb hXs hbl hbA hwX.2.2 ⟨lx_1, ux_1⟩ (by omega) (by omega) dL_law_325 (fun x_2 lx_2 ux_2 ex_2 => ?_)
  refine q_cf_i hA hwX (va_runV (As := [.int (iI x_2)]) (rest := []) ⟨hx, hb, hml, hown, hts⟩ (c_X9_end_t zo l D cy X fx x x_2 lx_2 ux_2 m_x o_x hg _) (cwV 1 hts (gT (inV (mr5 _ (List.mem_of_getElem? (i := 1) rfl)) (mr5 _ (List.mem_of_getElem? (i := 2) rfl)) (mr5 _ (List.mem_of_getElem? (i := 3) rfl)) (mr1 _ (List.mem_of_getElem? (i := 2) rfl)) (mr5 _ (List.mem_of_getElem? (i := 4) rfl)))) rfl rfl rfl (by decide +kernel) ⟨Nat.le_of_ble_eq_true rfl, Nat.le_of_ble_eq_true rfl⟩) (Wd.preV zo hA hZ hwX hKq m_x o_x rfl) rfl rfl hl.1 rfl (lv_room (Nat.le_of_ble_eq_true rfl)) dL_law_326 ⟨by show cells + 0 ≤ 601024; omega, by show slots + 0 ≤ 7293034; omega⟩) (fun x_3 L_5 f_4 H locs lx_3 ux_3 ex_3 hwX fr => ?_)
  obtain ⟨rfl, hg, hXc, ex_3⟩ := ex_3
  have o_x := hXc.1.1 _ _ o_x
  obtain ⟨hwM, apM⟩ := hwM.keep fr hwX.2.2 apM
  obtain ⟨hwO, apO⟩ := hwO.keep fr hwX.2.2 apO
  refine lv_pop hx hb dL_law_329 rfl ?_
  refine lv_aload_n hx hb dL_law_330 rfl (lv_at hl 2 rfl) ?_
  refine lv_aload_n hx hb dL_law_331 rfl (lv_at hl 0 rfl) ?_
  refine lv_iload hx hb dL_law_332 (lv_at hl 4 rfl) ?_
  refine q_iconst hx hb dL_law_334 ?_
  first | refine q_iadd hx hb dL_law_335 ⟨by omega, by omega⟩ (fun x_6 lx_6 ux_6 ex_6 => ?_) | refine q_iaddw hx hb dL_law_335 (fun x_6 lx_6 ux_6 ex_6 => ?_)
  refine q_sld hx hb hXs hbl hbA hwX.2.2 ⟨lx_6, ux_6⟩ (by omega) (by omega) dL_law_336 (fun x_7 lx_7 ux_7 ex_7 => ?_)
  refine q_cf_i hA hwM (va_runV (As := [.int (iI x_7)]) (rest := []) ⟨hx, hb, hml, hown, hts⟩ (c_X10_end zo l D cy Mm fm mo x_7 lx_7 ux_7 ad hs _) (cwV 1 hts (gT (inV (mr5 _ (List.mem_of_getElem? (i := 5) rfl)) (mr5 _ (List.mem_of_getElem? (i := 6) rfl)) (mr5 _ (List.mem_of_getElem? (i := 7) rfl)) (mr1 _ (List.mem_of_getElem? (i := 5) rfl)) (mr5 _ (List.mem_of_getElem? (i := 8) rfl)))) rfl rfl rfl (by decide +kernel) ⟨Nat.le_of_ble_eq_true rfl, Nat.le_of_ble_eq_true rfl⟩) (Wd.preV zo hA hZ hwM hKq hs.1 hs.2.1 rfl) rfl rfl hl.1 rfl (lv_room (Nat.le_of_ble_eq_true rfl)) dL_law_337 ⟨by show cells + 0 + 0 ≤ 601024; omega, by show slots + 0 + 0 ≤ 7293034; omega⟩) (fun x_8 L_10 f_9 H locs lx_8 ux_8 ex_8 hwM fr => ?_)
  obtain ⟨rfl, hs, hX, ex_8⟩ := ex_8
  obtain ⟨hwX, -⟩ := hwX.keep fr hwM.2.2 (fun y hy hm => apM y hm hy)
  obtain ⟨hwO, -⟩ := hwO.keep fr hwM.2.2 apOM
  have hd := hd.kp hX (by decide) (by decide) (by decide) (by decide)
  have hi := hi.kp hX (by decide) (by decide)
  have hv := hv.kp hX (by decide) (by decide)
  have q9 : fI f_9 mo 9 = fI fm mo 9 ∨ (0 ≤ fI f_9 mo 9 ∧ fI f_9 mo 9 ≤ fI fm mo 9) := ex_8.elim (fun z => Or.inl z.2.2) (fun z => Or.inr ⟨by have := z.1; have := z.2.2.2; omega, by have := z.2.1; have := z.2.2.2; omega⟩)
  have q15 := hX.2 15 (by decide)
  have qx_2 : x_2 = x_7 := by rw [ex_2, ex_7, show x_1 = x_6 by omega]
  obtain ⟨t1, eqr⟩ := CRO.ended cw oxm bt hg0 mx0 ox0 ex_3 hX ex_8 qx_2
  clear cw bt ex_8 ex_3 oxm
  have t9a : 0 ≤ fI f_9 mo 9 := by omega
  have t9b : fI f_9 mo 9 ≤ 168 := by omega
  have t15a : 0 ≤ fI f_9 mo 15 := by omega
  have t15b : fI f_9 mo 15 ≤ 168 := by omega
  refine lv_pop hx hb dL_law_340 rfl ?_
  refine lv_goto (tgt := 1454) hx hb dL_law_341 (by decide) ?_
  exact kk X f_4 f_9 fo _ _ _ _ _ (by omega) (by omega) ⟨hwX, hwM, hwO, apM, apO, apOM, m_x, o_x, hg, ⟨hs, hv, hi, hd, t9a, t9b, t15a, t15b⟩, ho, t1⟩ (lv_sub hl [0, 1, 2, 3, 4] rfl)
set_option maxHeartbeats 4000000 in
set_option maxRecDepth 100000 in
theorem wl_2 {Z : Zt} (zo : Zok Z) (zc : ∀ (A : Nat → Prop) (U : State) (H : Heap), Z A U H → ZE U) {p : Program} {l : Launch} {e : Env} {s : State} {m : MethodId} {below : List Frame} {meth : Method} {c : Code} {b Ln : Nat} {xs : Nat → Int32} {D : va_G} {cy : Cy} {cL : ClassId} {A : Nat → Prop} (hB : LB Z p l s m c b Ln xs D cy cL A) {Q : State → Prop} {x mo o : Nat} {ad : Nat → Nat} {Mm : List Nat} (y4 : Int) (ly4 : -2147483648 ≤ y4) (uy4 : y4 ≤ 2147483647) (i0 : 0 ≤ y4) (i1 : y4 + 7 ≤ (Ln : Int)) {X : List Nat} {fx fm fo : Nat → va_E} {H : Heap} {locs : List Loc} {ls : Array Slot} {cells slots : Nat} (hI : LI cy cL D A s.heap x mo o ad X fx Mm fm fo H locs) (hl : lv_has ls 7 [(0, .ref b), (1, .ref x), (2, .ref mo), (3, .ref o), (4, .int (iI y4))]) (hc : cells + 40 ≤ 601024) (hs0 : slots + 600 ≤ 7293034) (kk : ∀ (X1 : List Nat) (fx1 fm1 fo1 : Nat → va_E) (H1 : Heap) (locs1 : List Loc) (ls1 : Array Slot) (cells1 slots1 : Nat), cells1 ≤ cells + 40 → slots1 ≤ slots + 600 → LI cy cL D A s.heap x mo o ad X1 fx1 Mm fm1 fo1 H1 locs1 → lv_has ls1 7 [(0, .ref b), (1, .ref x), (2, .ref mo), (3, .ref o), (4, .int (iI y4))] → W p l e room_1 s m #[Value.ref b] below meth c H1 locs1 cells1 slots1 Q (F0 m 1454 ls1 [])) : W p l e room_1 s m #[Value.ref b] below meth c H locs cells slots Q (F0 m 344 ls []) := by
  obtain ⟨hx, hb, hml, hown, hts, hXs, hbl, hK, hA, hbA, hZ, hlt, hLn⟩ := hB
  obtain ⟨hwX, hwM, hwO, apM, apO, apOM, m_x, o_x, hg, ⟨hs, hv, hi, hd, t9a, t9b, t15a, t15b⟩, ho, t1⟩ := hI
  obtain ⟨⟨rq, rr, im, tp, cw, oxm⟩, bt⟩ := id t1
  have hg0 := hg
  have ox0 := o_x
  have mx0 := m_x
  have hKq : va_K D vwCl (tq cy) s := hK.sub [0, 1, 2, 3, 4] rfl
  refine lv_aload_n hx hb dL_law_344 rfl (lv_at hl 1 rfl) ?_
  refine q_cf_i hA hwX (va_runV (As := []) (rest := []) ⟨hx, hb, hml, hown, hts⟩ (c_X9_book_o zo l D cy X fx x m_x o_x hg rq (aI fm (ad 4)) (fI fm mo 5) cw.1 tp cw.2.2.2.2.1 (Tc fm ad) (fun i i0 i1 => (cw.2.2.2.2.2.1 i i0 i1).trans (Tc_e i0 i1)) _) (cwV 0 hts (gT (inV (mr5 _ (List.mem_of_getElem? (i := 12) rfl)) (mr5 _ (List.mem_of_getElem? (i := 13) rfl)) (mr5 _ (List.mem_of_getElem? (i := 14) rfl)) (mr1 _ (List.mem_of_getElem? (i := 2) rfl)) (mr5 _ (List.mem_of_getElem? (i := 15) rfl)))) rfl rfl rfl (by decide +kernel) ⟨Nat.le_of_ble_eq_true rfl, Nat.le_of_ble_eq_true rfl⟩) (Wd.preV zo hA hZ hwX hKq m_x o_x rfl) rfl rfl hl.1 rfl (lv_room (Nat.le_of_ble_eq_true rfl)) dL_law_345 ⟨by show cells + 2 ≤ 601024; omega, by show slots + 17 ≤ 7293034; omega⟩) (fun x_1 L_3 f_2 H locs lx_1 ux_1 ex_1 hwX fr => ?_)
  obtain ⟨hs1, hg, hXc, ex_1⟩ := ex_1
  have o_x := hXc.1 _ m_x _ o_x
  have m_x := hs1 _ m_x
  obtain ⟨hwM, apM⟩ := hwM.keep fr hwX.2.2 apM
  obtain ⟨hwO, apO⟩ := hwO.keep fr hwX.2.2 apO
  refine lv_pop hx hb dL_law_348 rfl ?_
  refine lv_aload_n hx hb dL_law_349 rfl (lv_at hl 2 rfl) ?_
  refine q_cf_i hA hwM (va_runV (As := []) (rest := []) ⟨hx, hb, hml, hown, hts⟩ (c_X10_book_p zo l D cy Mm fm mo ad hs hv (by omega) (by omega) (by omega) (by omega) hd (Tc fm ad) (fI fm mo 9) rfl (fun i i0 i1 => Tc_e i0 i1) (Tc_b bt) _) (cwV 0 hts (gT (inV (mr18 _ (List.mem_of_getElem? (i := 20) rfl)) (mr18 _ (List.mem_of_getElem? (i := 21) rfl)) (mr18 _ (List.mem_of_getElem? (i := 22) rfl)) (mr1 _ (List.mem_of_getElem? (i := 5) rfl)) (mr18 _ (List.mem_of_getElem? (i := 23) rfl)))) rfl rfl rfl (by decide +kernel) ⟨Nat.le_of_ble_eq_true rfl, Nat.le_of_ble_eq_true rfl⟩) (Wd.preV zo hA hZ hwM hKq hs.1 hs.2.1 rfl) rfl rfl hl.1 rfl (lv_room (Nat.le_of_ble_eq_true rfl)) dL_law_350 ⟨by show cells + 2 + 0 ≤ 601024; omega, by show slots + 17 + 0 ≤ 7293034; omega⟩) (fun x_4 L_6 f_5 H locs lx_4 ux_4 ex_4 hwM fr => ?_)
  obtain ⟨rfl, hs, hX, ex_4⟩ := ex_4
  obtain ⟨hwX, -⟩ := hwX.keep fr hwM.2.2 (fun y hy hm => apM y hm hy)
  obtain ⟨hwO, -⟩ := hwO.keep fr hwM.2.2 apOM
  have hd := hd.kp hX (by decide) (by decide) (by decide) (by decide)
  have hi := hi.kp hX (by decide) (by decide)
  obtain ⟨hv, e9, e15a, e15b, ex_4⟩ := ex_4
  obtain ⟨t1, eqr⟩ := CRO.book cw oxm bt hg0 hs1 hg hXc mx0 ox0 ex_1 hX e9 ex_4
  clear cw bt ex_4 ex_1 oxm
  have t9a : 0 ≤ fI f_5 mo 9 := by omega
  have t9b : fI f_5 mo 9 ≤ 168 := by omega
  have t15a : 0 ≤ fI f_5 mo 15 := by omega
  have t15b : fI f_5 mo 15 ≤ 168 := by omega
  refine lv_pop hx hb dL_law_353 rfl ?_
  refine lv_goto (tgt := 1454) hx hb dL_law_354 (by decide) ?_
  exact kk L_3 f_2 f_5 fo _ _ _ _ _ (by omega) (by omega) ⟨hwX, hwM, hwO, apM, apO, apOM, m_x, o_x, hg, ⟨hs, hv, hi, hd, t9a, t9b, t15a, t15b⟩, ho, t1⟩ (lv_sub hl [0, 1, 2, 3, 4] rfl)
set_option maxHeartbeats 4000000 in
set_option maxRecDepth 100000 in
theorem wl_3 {Z : Zt} (zo : Zok Z) (zc : ∀ (A : Nat → Prop) (U : State) (H : Heap), Z A U H → ZE U) {p : Program} {l : Launch} {e : Env} {s : State} {m : MethodId} {below : List Frame} {meth : Method} {c : Code} {b Ln : Nat} {xs : Nat → Int32} {D : va_G} {cy : Cy} {cL : ClassId} {A : Nat → Prop} (hB : LB Z p l s m c b Ln xs D cy cL A) {Q : State → Prop} {x mo o : Nat} {ad : Nat → Nat} {Mm : List Nat} (y4 : Int) (ly4 : -2147483648 ≤ y4) (uy4 : y4 ≤ 2147483647) (i0 : 0 ≤ y4) (i1 : y4 + 7 ≤ (Ln : Int)) {X : List Nat} {fx fm fo : Nat → va_E} {H : Heap} {locs : List Loc} {ls : Array Slot} {cells slots : Nat} (hI : LI cy cL D A s.heap x mo o ad X fx Mm fm fo H locs) (hl : lv_has ls 7 [(0, .ref b), (1, .ref x), (2, .ref mo), (3, .ref o), (4, .int (iI y4))]) (hc : cells + 40 ≤ 601024) (hs0 : slots + 600 ≤ 7293034) (kk : ∀ (X1 : List Nat) (fx1 fm1 fo1 : Nat → va_E) (H1 : Heap) (locs1 : List Loc) (ls1 : Array Slot) (cells1 slots1 : Nat), cells1 ≤ cells + 40 → slots1 ≤ slots + 600 → LI cy cL D A s.heap x mo o ad X1 fx1 Mm fm1 fo1 H1 locs1 → lv_has ls1 7 [(0, .ref b), (1, .ref x), (2, .ref mo), (3, .ref o), (4, .int (iI y4))] → W p l e room_1 s m #[Value.ref b] below meth c H1 locs1 cells1 slots1 Q (F0 m 1454 ls1 [])) : W p l e room_1 s m #[Value.ref b] below meth c H locs cells slots Q (F0 m 357 ls []) := by
  obtain ⟨hx, hb, hml, hown, hts, hXs, hbl, hK, hA, hbA, hZ, hlt, hLn⟩ := hB
  obtain ⟨hwX, hwM, hwO, apM, apO, apOM, m_x, o_x, hg, ⟨hs, hv, hi, hd, t9a, t9b, t15a, t15b⟩, ho, t1⟩ := hI
  obtain ⟨⟨rq, rr, im, tp, cw, oxm⟩, bt⟩ := id t1
  have hg0 := hg
  have ox0 := o_x
  have mx0 := m_x
  have hKq : va_K D vwCl (tq cy) s := hK.sub [0, 1, 2, 3, 4] rfl
  refine lv_aload_n hx hb dL_law_357 rfl (lv_at hl 1 rfl) ?_
  refine lv_aload_n hx hb dL_law_358 rfl (lv_at hl 0 rfl) ?_
  refine lv_iload hx hb dL_law_359 (lv_at hl 4 rfl) ?_
  refine q_iconst hx hb dL_law_361 ?_
  first | refine q_iadd hx hb dL_law_362 ⟨by omega, by omega⟩ (fun x_1 lx_1 ux_1 ex_1 => ?_) | refine q_iaddw hx hb dL_law_362 (fun x_1 lx_1 ux_1 ex_1 => ?_)
  refine q_sld hx hb hXs hbl hbA hwX.2.2 ⟨lx_1, ux_1⟩ (by omega) (by omega) dL_law_363 (fun x_2 lx_2 ux_2 ex_2 => ?_)
  refine q_cf_i hA hwX (va_runV (As := [.int (iI x_2)]) (rest := []) ⟨hx, hb, hml, hown, hts⟩ (c_X9_cancel_f zo l D cy X fx x x_2 lx_2 ux_2 m_x o_x hg rq (aI fm (ad 4)) (fI fm mo 5) cw.1 _) (cwV 1 hts (gT (inV (mr22 _ (List.mem_of_getElem? (i := 5) rfl)) (mr22 _ (List.mem_of_getElem? (i := 6) rfl)) (mr22 _ (List.mem_of_getElem? (i := 7) rfl)) (mr1 _ (List.mem_of_getElem? (i := 2) rfl)) (mr22 _ (List.mem_of_getElem? (i := 8) rfl)))) rfl rfl rfl (by decide +kernel) ⟨Nat.le_of_ble_eq_true rfl, Nat.le_of_ble_eq_true rfl⟩) (Wd.preV zo hA hZ hwX hKq m_x o_x rfl) rfl rfl hl.1 rfl (lv_room (Nat.le_of_ble_eq_true rfl)) dL_law_364 ⟨by show cells + 0 ≤ 601024; omega, by show slots + 0 ≤ 7293034; omega⟩) (fun x_3 L_5 f_4 H locs lx_3 ux_3 ex_3 hwX fr => ?_)
  obtain ⟨rfl, hg, hXc, ex_3⟩ := ex_3
  have o_x := hXc.1.1 _ _ o_x
  obtain ⟨hwM, apM⟩ := hwM.keep fr hwX.2.2 apM
  obtain ⟨hwO, apO⟩ := hwO.keep fr hwX.2.2 apO
  refine lv_pop hx hb dL_law_367 rfl ?_
  refine lv_aload_n hx hb dL_law_368 rfl (lv_at hl 2 rfl) ?_
  refine lv_aload_n hx hb dL_law_369 rfl (lv_at hl 0 rfl) ?_
  refine lv_iload hx hb dL_law_370 (lv_at hl 4 rfl) ?_
  refine q_iconst hx hb dL_law_372 ?_
  first | refine q_iadd hx hb dL_law_373 ⟨by omega, by omega⟩ (fun x_6 lx_6 ux_6 ex_6 => ?_) | refine q_iaddw hx hb dL_law_373 (fun x_6 lx_6 ux_6 ex_6 => ?_)
  refine q_sld hx hb hXs hbl hbA hwX.2.2 ⟨lx_6, ux_6⟩ (by omega) (by omega) dL_law_374 (fun x_7 lx_7 ux_7 ex_7 => ?_)
  refine q_cf_i hA hwM (va_runV (As := [.int (iI x_7)]) (rest := []) ⟨hx, hb, hml, hown, hts⟩ (c_X10_cancel_f zo l D cy Mm fm mo x_7 lx_7 ux_7 ad hs hv _) (cwV 1 hts (gT (inV (mr22 _ (List.mem_of_getElem? (i := 17) rfl)) (mr22 _ (List.mem_of_getElem? (i := 18) rfl)) (mr22 _ (List.mem_of_getElem? (i := 19) rfl)) (mr1 _ (List.mem_of_getElem? (i := 5) rfl)) (mr22 _ (List.mem_of_getElem? (i := 20) rfl)))) rfl rfl rfl (by decide +kernel) ⟨Nat.le_of_ble_eq_true rfl, Nat.le_of_ble_eq_true rfl⟩) (Wd.preV zo hA hZ hwM hKq hs.1 hs.2.1 rfl) rfl rfl hl.1 rfl (lv_room (Nat.le_of_ble_eq_true rfl)) dL_law_375 ⟨by show cells + 0 + 0 ≤ 601024; omega, by show slots + 0 + 0 ≤ 7293034; omega⟩) (fun x_8 L_10 f_9 H locs lx_8 ux_8 ex_8 hwM fr => ?_)
  obtain ⟨rfl, hs, hX, ex_8⟩ := ex_8
  obtain ⟨hwX, -⟩ := hwX.keep fr hwM.2.2 (fun y hy hm => apM y hm hy)
  obtain ⟨hwO, -⟩ := hwO.keep fr hwM.2.2 apOM
  have hd := hd.kp hX (by decide) (by decide) (by decide) (by decide)
  have hi := hi.kp hX (by decide) (by decide)
  obtain ⟨hv, ex_8⟩ := ex_8
  have q9 := hX.2 9 (by decide)
  have q15 := hX.2 15 (by decide)
  have qx_2 : x_2 = x_7 := by rw [ex_2, ex_7, show x_1 = x_6 by omega]
  obtain ⟨t1, eqr⟩ := CRO.cancel cw oxm bt hg0 mx0 ox0 hXc ex_3 hX ex_8 qx_2
  clear cw bt ex_8 ex_3 oxm
  have t9a : 0 ≤ fI f_9 mo 9 := by omega
  have t9b : fI f_9 mo 9 ≤ 168 := by omega
  have t15a : 0 ≤ fI f_9 mo 15 := by omega
  have t15b : fI f_9 mo 15 ≤ 168 := by omega
  refine lv_pop hx hb dL_law_378 rfl ?_
  refine lv_goto (tgt := 1454) hx hb dL_law_379 (by decide) ?_
  exact kk X f_4 f_9 fo _ _ _ _ _ (by omega) (by omega) ⟨hwX, hwM, hwO, apM, apO, apOM, m_x, o_x, hg, ⟨hs, hv, hi, hd, t9a, t9b, t15a, t15b⟩, ho, t1⟩ (lv_sub hl [0, 1, 2, 3, 4] rfl)
set_option maxHeartbeats 4000000 in
set_option maxRecDepth 100000 in
theorem wl_4 {Z : Zt} (zo : Zok Z) (zc : ∀ (A : Nat → Prop) (U : State) (H : Heap), Z A U H → ZE U) {p : Program} {l : Launch} {e : Env} {s : State} {m : MethodId} {below : List Frame} {meth : Method} {c : Code} {b Ln : Nat} {xs : Nat → Int32} {D : va_G} {cy : Cy} {cL : ClassId} {A : Nat → Prop} (hB : LB Z p l s m c b Ln xs D cy cL A) {Q : State → Prop} {x mo o : Nat} {ad : Nat → Nat} {Mm : List Nat} (y4 : Int) (ly4 : -2147483648 ≤ y4) (uy4 : y4 ≤ 2147483647) (i0 : 0 ≤ y4) (i1 : y4 + 7 ≤ (Ln : Int)) {X : List Nat} {fx fm fo : Nat → va_E} {H : Heap} {locs : List Loc} {ls : Array Slot} {cells slots : Nat} (hI : LI cy cL D A s.heap x mo o ad X fx Mm fm fo H locs) (hl : lv_has ls 7 [(0, .ref b), (1, .ref x), (2, .ref mo), (3, .ref o), (4, .int (iI y4))]) (hc : cells + 40 ≤ 601024) (hs0 : slots + 600 ≤ 7293034) (kk : ∀ (X1 : List Nat) (fx1 fm1 fo1 : Nat → va_E) (H1 : Heap) (locs1 : List Loc) (ls1 : Array Slot) (cells1 slots1 : Nat), cells1 ≤ cells + 40 → slots1 ≤ slots + 600 → LI cy cL D A s.heap x mo o ad X1 fx1 Mm fm1 fo1 H1 locs1 → lv_has ls1 7 [(0, .ref b), (1, .ref x), (2, .ref mo), (3, .ref o), (4, .int (iI y4))] → W p l e room_1 s m #[Value.ref b] below meth c H1 locs1 cells1 slots1 Q (F0 m 1454 ls1 [])) : W p l e room_1 s m #[Value.ref b] below meth c H locs cells slots Q (F0 m 382 ls []) := by
  obtain ⟨hx, hb, hml, hown, hts, hXs, hbl, hK, hA, hbA, hZ, hlt, hLn⟩ := hB
  obtain ⟨hwX, hwM, hwO, apM, apO, apOM, m_x, o_x, hg, ⟨hs, hv, hi, hd, t9a, t9b, t15a, t15b⟩, ho, t1⟩ := hI
  obtain ⟨⟨rq, rr, im, tp, cw, oxm⟩, bt⟩ := id t1
  have hg0 := hg
  have ox0 := o_x
  have mx0 := m_x
  have hKq : va_K D vwCl (tq cy) s := hK.sub [0, 1, 2, 3, 4] rfl
  refine lv_aload_n hx hb dL_law_382 rfl (lv_at hl 1 rfl) ?_
  refine lv_aload_n hx hb dL_law_383 rfl (lv_at hl 0 rfl) ?_
  refine lv_iload hx hb dL_law_384 (lv_at hl 4 rfl) ?_
  refine q_iconst hx hb dL_law_386 ?_
  first | refine q_iadd hx hb dL_law_387 ⟨by omega, by omega⟩ (fun x_1 lx_1 ux_1 ex_1 => ?_) | refine q_iaddw hx hb dL_law_387 (fun x_1 lx_1 ux_1 ex_1 => ?_)
  refine q_sld hx hb hXs hbl hbA hwX.2.2 ⟨lx_1, ux_1⟩ (by omega) (by omega) dL_law_388 (fun x_2 lx_2 ux_2 ex_2 => ?_)
  refine lv_aload_n hx hb dL_law_389 rfl (lv_at hl 0 rfl) ?_
  refine lv_iload hx hb dL_law_390 (lv_at hl 4 rfl) ?_
  refine q_iconst hx hb dL_law_392 ?_
  first | refine q_iadd hx hb dL_law_393 ⟨by omega, by omega⟩ (fun x_3 lx_3 ux_3 ex_3 => ?_) | refine q_iaddw hx hb dL_law_393 (fun x_3 lx_3 ux_3 ex_3 => ?_)
  refine q_sld hx hb hXs hbl hbA hwX.2.2 ⟨lx_3, ux_3⟩ (by omega) (by omega) dL_law_394 (fun x_4 lx_4 ux_4 ex_4 => ?_)
  refine lv_aload_n hx hb dL_law_395 rfl (lv_at hl 0 rfl) ?_
  refine lv_iload hx hb dL_law_396 (lv_at hl 4 rfl) ?_
  refine q_iconst hx hb dL_law_398 ?_
  first | refine q_iadd hx hb dL_law_399 ⟨by omega, by omega⟩ (fun x_5 lx_5 ux_5 ex_5 => ?_) | refine q_iaddw hx hb dL_law_399 (fun x_5 lx_5 ux_5 ex_5 => ?_)
  refine q_sld hx hb hXs hbl hbA hwX.2.2 ⟨lx_5, ux_5⟩ (by omega) (by omega) dL_law_400 (fun x_6 lx_6 ux_6 ex_6 => ?_)
  refine q_cf_i hA hwX (va_runV (As := [.int (iI x_2), .int (iI x_4), .int (iI x_6)]) (rest := []) ⟨hx, hb, hml, hown, hts⟩ (c_X9_day zo l D cy X fx x x_2 lx_2 ux_2 x_4 lx_4 ux_4 x_6 lx_6 ux_6 m_x o_x hg _) (cwV 3 hts (gT (inV (mr23 _ (List.mem_of_getElem? (i := 1) rfl)) (mr23 _ (List.mem_of_getElem? (i := 2) rfl)) (mr23 _ (List.mem_of_getElem? (i := 3) rfl)) (mr1 _ (List.mem_of_getElem? (i := 2) rfl)) (mr23 _ (List.mem_of_getElem? (i := 4) rfl)))) rfl rfl rfl (by decide +kernel) ⟨Nat.le_of_ble_eq_true rfl, Nat.le_of_ble_eq_true rfl⟩) (Wd.preV zo hA hZ hwX hKq m_x o_x rfl) rfl rfl hl.1 rfl (lv_room (Nat.le_of_ble_eq_true rfl)) dL_law_401 ⟨by show cells + 0 ≤ 601024; omega, by show slots + 0 ≤ 7293034; omega⟩) (fun x_7 L_9 f_8 H locs lx_7 ux_7 ex_7 hwX fr => ?_)
  obtain ⟨rfl, rfl, ex_7⟩ := ex_7
  obtain ⟨hwM, apM⟩ := hwM.keep fr hwX.2.2 apM
  obtain ⟨hwO, apO⟩ := hwO.keep fr hwX.2.2 apO
  refine lv_pop hx hb dL_law_404 rfl ?_
  refine lv_aload_n hx hb dL_law_405 rfl (lv_at hl 2 rfl) ?_
  refine lv_aload_n hx hb dL_law_406 rfl (lv_at hl 0 rfl) ?_
  refine lv_iload hx hb dL_law_407 (lv_at hl 4 rfl) ?_
  refine q_iconst hx hb dL_law_409 ?_
  first | refine q_iadd hx hb dL_law_410 ⟨by omega, by omega⟩ (fun x_10 lx_10 ux_10 ex_10 => ?_) | refine q_iaddw hx hb dL_law_410 (fun x_10 lx_10 ux_10 ex_10 => ?_)
  refine q_sld hx hb hXs hbl hbA hwX.2.2 ⟨lx_10, ux_10⟩ (by omega) (by omega) dL_law_411 (fun x_11 lx_11 ux_11 ex_11 => ?_)
  refine lv_aload_n hx hb dL_law_412 rfl (lv_at hl 0 rfl) ?_
  refine lv_iload hx hb dL_law_413 (lv_at hl 4 rfl) ?_
  refine q_iconst hx hb dL_law_415 ?_
  first | refine q_iadd hx hb dL_law_416 ⟨by omega, by omega⟩ (fun x_12 lx_12 ux_12 ex_12 => ?_) | refine q_iaddw hx hb dL_law_416 (fun x_12 lx_12 ux_12 ex_12 => ?_)
  refine q_sld hx hb hXs hbl hbA hwX.2.2 ⟨lx_12, ux_12⟩ (by omega) (by omega) dL_law_417 (fun x_13 lx_13 ux_13 ex_13 => ?_)
  refine lv_aload_n hx hb dL_law_418 rfl (lv_at hl 0 rfl) ?_
  refine lv_iload hx hb dL_law_419 (lv_at hl 4 rfl) ?_
  refine q_iconst hx hb dL_law_421 ?_
  first | refine q_iadd hx hb dL_law_422 ⟨by omega, by omega⟩ (fun x_14 lx_14 ux_14 ex_14 => ?_) | refine q_iaddw hx hb dL_law_422 (fun x_14 lx_14 ux_14 ex_14 => ?_)
  refine q_sld hx hb hXs hbl hbA hwX.2.2 ⟨lx_14, ux_14⟩ (by omega) (by omega) dL_law_423 (fun x_15 lx_15 ux_15 ex_15 => ?_)
  refine q_cf_i hA hwM (va_runV (As := [.int (iI x_11), .int (iI x_13), .int (iI x_15)]) (rest := []) ⟨hx, hb, hml, hown, hts⟩ (c_X10_day zo l D cy Mm fm mo x_11 lx_11 ux_11 x_13 lx_13 ux_13 x_15 lx_15 ux_15 ad hs _) (cwV 3 hts (gT (inV (mr23 _ (List.mem_of_getElem? (i := 5) rfl)) (mr23 _ (List.mem_of_getElem? (i := 6) rfl)) (mr23 _ (List.mem_of_getElem? (i := 7) rfl)) (mr1 _ (List.mem_of_getElem? (i := 5) rfl)) (mr23 _ (List.mem_of_getElem? (i := 8) rfl)))) rfl rfl rfl (by decide +kernel) ⟨Nat.le_of_ble_eq_true rfl, Nat.le_of_ble_eq_true rfl⟩) (Wd.preV zo hA hZ hwM hKq hs.1 hs.2.1 rfl) rfl rfl hl.1 rfl (lv_room (Nat.le_of_ble_eq_true rfl)) dL_law_424 ⟨by show cells + 0 + 0 ≤ 601024; omega, by show slots + 0 + 0 ≤ 7293034; omega⟩) (fun x_16 L_18 f_17 H locs lx_16 ux_16 ex_16 hwM fr => ?_)
  obtain ⟨rfl, hs, hX, ex_16⟩ := ex_16
  obtain ⟨hwX, -⟩ := hwX.keep fr hwM.2.2 (fun y hy hm => apM y hm hy)
  obtain ⟨hwO, -⟩ := hwO.keep fr hwM.2.2 apOM
  have hd := hd.kp hX (by decide) (by decide) (by decide) (by decide)
  have hi := hi.kp hX (by decide) (by decide)
  have hv := hv.kp hX (by decide) (by decide)
  have q9 := hX.2 9 (by decide)
  have q15 := hX.2 15 (by decide)
  have t1 := t1.kp hX (by decide) (by decide) (by decide) (by decide) (by decide) (by decide)
  clear cw bt ex_16 ex_7 oxm
  have t9a : 0 ≤ fI f_17 mo 9 := by omega
  have t9b : fI f_17 mo 9 ≤ 168 := by omega
  have t15a : 0 ≤ fI f_17 mo 15 := by omega
  have t15b : fI f_17 mo 15 ≤ 168 := by omega
  refine lv_pop hx hb dL_law_427 rfl ?_
  refine lv_goto (tgt := 1454) hx hb dL_law_428 (by decide) ?_
  exact kk X fx f_17 fo _ _ _ _ _ (by omega) (by omega) ⟨hwX, hwM, hwO, apM, apO, apOM, m_x, o_x, hg, ⟨hs, hv, hi, hd, t9a, t9b, t15a, t15b⟩, ho, t1⟩ (lv_sub hl [0, 1, 2, 3, 4] rfl)
set_option maxHeartbeats 4000000 in
set_option maxRecDepth 100000 in
theorem wl_5 {Z : Zt} (zo : Zok Z) (zc : ∀ (A : Nat → Prop) (U : State) (H : Heap), Z A U H → ZE U) {p : Program} {l : Launch} {e : Env} {s : State} {m : MethodId} {below : List Frame} {meth : Method} {c : Code} {b Ln : Nat} {xs : Nat → Int32} {D : va_G} {cy : Cy} {cL : ClassId} {A : Nat → Prop} (hB : LB Z p l s m c b Ln xs D cy cL A) {Q : State → Prop} {x mo o : Nat} {ad : Nat → Nat} {Mm : List Nat} (y4 : Int) (ly4 : -2147483648 ≤ y4) (uy4 : y4 ≤ 2147483647) (i0 : 0 ≤ y4) (i1 : y4 + 7 ≤ (Ln : Int)) {X : List Nat} {fx fm fo : Nat → va_E} {H : Heap} {locs : List Loc} {ls : Array Slot} {cells slots : Nat} (hI : LI cy cL D A s.heap x mo o ad X fx Mm fm fo H locs) (hl : lv_has ls 7 [(0, .ref b), (1, .ref x), (2, .ref mo), (3, .ref o), (4, .int (iI y4))]) (hc : cells + 40 ≤ 601024) (hs0 : slots + 600 ≤ 7293034) (kk : ∀ (X1 : List Nat) (fx1 fm1 fo1 : Nat → va_E) (H1 : Heap) (locs1 : List Loc) (ls1 : Array Slot) (cells1 slots1 : Nat), cells1 ≤ cells + 40 → slots1 ≤ slots + 600 → LI cy cL D A s.heap x mo o ad X1 fx1 Mm fm1 fo1 H1 locs1 → lv_has ls1 7 [(0, .ref b), (1, .ref x), (2, .ref mo), (3, .ref o), (4, .int (iI y4))] → W p l e room_1 s m #[Value.ref b] below meth c H1 locs1 cells1 slots1 Q (F0 m 1454 ls1 [])) : W p l e room_1 s m #[Value.ref b] below meth c H locs cells slots Q (F0 m 431 ls []) := by
  obtain ⟨hx, hb, hml, hown, hts, hXs, hbl, hK, hA, hbA, hZ, hlt, hLn⟩ := hB
  obtain ⟨hwX, hwM, hwO, apM, apO, apOM, m_x, o_x, hg, ⟨hs, hv, hi, hd, t9a, t9b, t15a, t15b⟩, ho, t1⟩ := hI
  obtain ⟨⟨rq, rr, im, tp, cw, oxm⟩, bt⟩ := id t1
  have hg0 := hg
  have ox0 := o_x
  have mx0 := m_x
  have hKq : va_K D vwCl (tq cy) s := hK.sub [0, 1, 2, 3, 4] rfl
  refine lv_aload_n hx hb dL_law_431 rfl (lv_at hl 1 rfl) ?_
  refine lv_aload_n hx hb dL_law_432 rfl (lv_at hl 0 rfl) ?_
  refine lv_iload hx hb dL_law_433 (lv_at hl 4 rfl) ?_
  refine q_iconst hx hb dL_law_435 ?_
  first | refine q_iadd hx hb dL_law_436 ⟨by omega, by omega⟩ (fun x_1 lx_1 ux_1 ex_1 => ?_) | refine q_iaddw hx hb dL_law_436 (fun x_1 lx_1 ux_1 ex_1 => ?_)
  refine q_sld hx hb hXs hbl hbA hwX.2.2 ⟨lx_1, ux_1⟩ (by omega) (by omega) dL_law_437 (fun x_2 lx_2 ux_2 ex_2 => ?_)
  refine lv_aload_n hx hb dL_law_438 rfl (lv_at hl 0 rfl) ?_
  refine lv_iload hx hb dL_law_439 (lv_at hl 4 rfl) ?_
  refine q_iconst hx hb dL_law_441 ?_
  first | refine q_iadd hx hb dL_law_442 ⟨by omega, by omega⟩ (fun x_3 lx_3 ux_3 ex_3 => ?_) | refine q_iaddw hx hb dL_law_442 (fun x_3 lx_3 ux_3 ex_3 => ?_)
  refine q_sld hx hb hXs hbl hbA hwX.2.2 ⟨lx_3, ux_3⟩ (by omega) (by omega) dL_law_443 (fun x_4 lx_4 ux_4 ex_4 => ?_)
  refine q_cf_i hA hwX (va_runV (As := [.int (iI x_2), .int (iI x_4)]) (rest := []) ⟨hx, hb, hml, hown, hts⟩ (c_X9_date zo l D cy X fx x x_2 lx_2 ux_2 x_4 lx_4 ux_4 m_x o_x hg _) (cwV 2 hts (gT (inV (mr23 _ (List.mem_of_getElem? (i := 9) rfl)) (mr23 _ (List.mem_of_getElem? (i := 10) rfl)) (mr23 _ (List.mem_of_getElem? (i := 11) rfl)) (mr1 _ (List.mem_of_getElem? (i := 2) rfl)) (mr23 _ (List.mem_of_getElem? (i := 12) rfl)))) rfl rfl rfl (by decide +kernel) ⟨Nat.le_of_ble_eq_true rfl, Nat.le_of_ble_eq_true rfl⟩) (Wd.preV zo hA hZ hwX hKq m_x o_x rfl) rfl rfl hl.1 rfl (lv_room (Nat.le_of_ble_eq_true rfl)) dL_law_444 ⟨by show cells + 0 ≤ 601024; omega, by show slots + 0 ≤ 7293034; omega⟩) (fun x_5 L_7 f_6 H locs lx_5 ux_5 ex_5 hwX fr => ?_)
  obtain ⟨rfl, rfl, ex_5⟩ := ex_5
  obtain ⟨hwM, apM⟩ := hwM.keep fr hwX.2.2 apM
  obtain ⟨hwO, apO⟩ := hwO.keep fr hwX.2.2 apO
  refine lv_pop hx hb dL_law_447 rfl ?_
  refine lv_aload_n hx hb dL_law_448 rfl (lv_at hl 2 rfl) ?_
  refine lv_aload_n hx hb dL_law_449 rfl (lv_at hl 0 rfl) ?_
  refine lv_iload hx hb dL_law_450 (lv_at hl 4 rfl) ?_
  refine q_iconst hx hb dL_law_452 ?_
  first | refine q_iadd hx hb dL_law_453 ⟨by omega, by omega⟩ (fun x_8 lx_8 ux_8 ex_8 => ?_) | refine q_iaddw hx hb dL_law_453 (fun x_8 lx_8 ux_8 ex_8 => ?_)
  refine q_sld hx hb hXs hbl hbA hwX.2.2 ⟨lx_8, ux_8⟩ (by omega) (by omega) dL_law_454 (fun x_9 lx_9 ux_9 ex_9 => ?_)
  refine lv_aload_n hx hb dL_law_455 rfl (lv_at hl 0 rfl) ?_
  refine lv_iload hx hb dL_law_456 (lv_at hl 4 rfl) ?_
  refine q_iconst hx hb dL_law_458 ?_
  first | refine q_iadd hx hb dL_law_459 ⟨by omega, by omega⟩ (fun x_10 lx_10 ux_10 ex_10 => ?_) | refine q_iaddw hx hb dL_law_459 (fun x_10 lx_10 ux_10 ex_10 => ?_)
  refine q_sld hx hb hXs hbl hbA hwX.2.2 ⟨lx_10, ux_10⟩ (by omega) (by omega) dL_law_460 (fun x_11 lx_11 ux_11 ex_11 => ?_)
  refine q_cf_i hA hwM (va_runV (As := [.int (iI x_9), .int (iI x_11)]) (rest := []) ⟨hx, hb, hml, hown, hts⟩ (c_X10_date zo l D cy Mm fm mo x_9 lx_9 ux_9 x_11 lx_11 ux_11 ad hs _) (cwV 2 hts (gT (inV (mr23 _ (List.mem_of_getElem? (i := 17) rfl)) (mr23 _ (List.mem_of_getElem? (i := 18) rfl)) (mr23 _ (List.mem_of_getElem? (i := 19) rfl)) (mr1 _ (List.mem_of_getElem? (i := 5) rfl)) (mr23 _ (List.mem_of_getElem? (i := 20) rfl)))) rfl rfl rfl (by decide +kernel) ⟨Nat.le_of_ble_eq_true rfl, Nat.le_of_ble_eq_true rfl⟩) (Wd.preV zo hA hZ hwM hKq hs.1 hs.2.1 rfl) rfl rfl hl.1 rfl (lv_room (Nat.le_of_ble_eq_true rfl)) dL_law_461 ⟨by show cells + 0 + 0 ≤ 601024; omega, by show slots + 0 + 0 ≤ 7293034; omega⟩) (fun x_12 L_14 f_13 H locs lx_12 ux_12 ex_12 hwM fr => ?_)
  obtain ⟨rfl, hs, hX, ex_12⟩ := ex_12
  obtain ⟨hwX, -⟩ := hwX.keep fr hwM.2.2 (fun y hy hm => apM y hm hy)
  obtain ⟨hwO, -⟩ := hwO.keep fr hwM.2.2 apOM
  have hd := hd.kp hX (by decide) (by decide) (by decide) (by decide)
  have hi := hi.kp hX (by decide) (by decide)
  have hv := hv.kp hX (by decide) (by decide)
  have q9 := hX.2 9 (by decide)
  have q15 := hX.2 15 (by decide)
  have t1 := t1.kp hX (by decide) (by decide) (by decide) (by decide) (by decide) (by decide)
  clear cw bt ex_12 ex_5 oxm
  have t9a : 0 ≤ fI f_13 mo 9 := by omega
  have t9b : fI f_13 mo 9 ≤ 168 := by omega
  have t15a : 0 ≤ fI f_13 mo 15 := by omega
  have t15b : fI f_13 mo 15 ≤ 168 := by omega
  refine lv_pop hx hb dL_law_464 rfl ?_
  refine lv_goto (tgt := 1454) hx hb dL_law_465 (by decide) ?_
  exact kk X fx f_13 fo _ _ _ _ _ (by omega) (by omega) ⟨hwX, hwM, hwO, apM, apO, apOM, m_x, o_x, hg, ⟨hs, hv, hi, hd, t9a, t9b, t15a, t15b⟩, ho, t1⟩ (lv_sub hl [0, 1, 2, 3, 4] rfl)
set_option maxHeartbeats 4000000 in
set_option maxRecDepth 100000 in
theorem wl_6 {Z : Zt} (zo : Zok Z) (zc : ∀ (A : Nat → Prop) (U : State) (H : Heap), Z A U H → ZE U) {p : Program} {l : Launch} {e : Env} {s : State} {m : MethodId} {below : List Frame} {meth : Method} {c : Code} {b Ln : Nat} {xs : Nat → Int32} {D : va_G} {cy : Cy} {cL : ClassId} {A : Nat → Prop} (hB : LB Z p l s m c b Ln xs D cy cL A) {Q : State → Prop} {x mo o : Nat} {ad : Nat → Nat} {Mm : List Nat} (y4 : Int) (ly4 : -2147483648 ≤ y4) (uy4 : y4 ≤ 2147483647) (i0 : 0 ≤ y4) (i1 : y4 + 7 ≤ (Ln : Int)) {X : List Nat} {fx fm fo : Nat → va_E} {H : Heap} {locs : List Loc} {ls : Array Slot} {cells slots : Nat} (hI : LI cy cL D A s.heap x mo o ad X fx Mm fm fo H locs) (hl : lv_has ls 7 [(0, .ref b), (1, .ref x), (2, .ref mo), (3, .ref o), (4, .int (iI y4))]) (hc : cells + 40 ≤ 601024) (hs0 : slots + 600 ≤ 7293034) (kk : ∀ (X1 : List Nat) (fx1 fm1 fo1 : Nat → va_E) (H1 : Heap) (locs1 : List Loc) (ls1 : Array Slot) (cells1 slots1 : Nat), cells1 ≤ cells + 40 → slots1 ≤ slots + 600 → LI cy cL D A s.heap x mo o ad X1 fx1 Mm fm1 fo1 H1 locs1 → lv_has ls1 7 [(0, .ref b), (1, .ref x), (2, .ref mo), (3, .ref o), (4, .int (iI y4))] → W p l e room_1 s m #[Value.ref b] below meth c H1 locs1 cells1 slots1 Q (F0 m 1454 ls1 [])) : W p l e room_1 s m #[Value.ref b] below meth c H locs cells slots Q (F0 m 468 ls []) := by
  obtain ⟨hx, hb, hml, hown, hts, hXs, hbl, hK, hA, hbA, hZ, hlt, hLn⟩ := hB
  obtain ⟨hwX, hwM, hwO, apM, apO, apOM, m_x, o_x, hg, ⟨hs, hv, hi, hd, t9a, t9b, t15a, t15b⟩, ho, t1⟩ := hI
  obtain ⟨⟨rq, rr, im, tp, cw, oxm⟩, bt⟩ := id t1
  have hg0 := hg
  have ox0 := o_x
  have mx0 := m_x
  have hKq : va_K D vwCl (tq cy) s := hK.sub [0, 1, 2, 3, 4] rfl
  refine lv_aload_n hx hb dL_law_468 rfl (lv_at hl 1 rfl) ?_
  refine lv_aload_n hx hb dL_law_469 rfl (lv_at hl 0 rfl) ?_
  refine lv_iload hx hb dL_law_470 (lv_at hl 4 rfl) ?_
  refine q_iconst hx hb dL_law_472 ?_
  first | refine q_iadd hx hb dL_law_473 ⟨by omega, by omega⟩ (fun x_1 lx_1 ux_1 ex_1 => ?_) | refine q_iaddw hx hb dL_law_473 (fun x_1 lx_1 ux_1 ex_1 => ?_)
  refine q_sld hx hb hXs hbl hbA hwX.2.2 ⟨lx_1, ux_1⟩ (by omega) (by omega) dL_law_474 (fun x_2 lx_2 ux_2 ex_2 => ?_)
  refine lv_aload_n hx hb dL_law_475 rfl (lv_at hl 0 rfl) ?_
  refine lv_iload hx hb dL_law_476 (lv_at hl 4 rfl) ?_
  refine q_iconst hx hb dL_law_478 ?_
  first | refine q_iadd hx hb dL_law_479 ⟨by omega, by omega⟩ (fun x_3 lx_3 ux_3 ex_3 => ?_) | refine q_iaddw hx hb dL_law_479 (fun x_3 lx_3 ux_3 ex_3 => ?_)
  refine q_sld hx hb hXs hbl hbA hwX.2.2 ⟨lx_3, ux_3⟩ (by omega) (by omega) dL_law_480 (fun x_4 lx_4 ux_4 ex_4 => ?_)
  refine q_cf_i hA hwX (va_runV (As := [.int (iI x_2), .int (iI x_4)]) (rest := []) ⟨hx, hb, hml, hown, hts⟩ (c_X9_key_f zo l D cy X fx x x_2 lx_2 ux_2 x_4 lx_4 ux_4 m_x o_x hg rq (aI fm (ad 4)) (fI fm mo 5) cw.1 _) (cwV 2 hts (gT (inV (mr24 _ (List.mem_of_getElem? (i := 4) rfl)) (mr24 _ (List.mem_of_getElem? (i := 5) rfl)) (mr24 _ (List.mem_of_getElem? (i := 6) rfl)) (mr1 _ (List.mem_of_getElem? (i := 2) rfl)) (mr24 _ (List.mem_of_getElem? (i := 7) rfl)))) rfl rfl rfl (by decide +kernel) ⟨Nat.le_of_ble_eq_true rfl, Nat.le_of_ble_eq_true rfl⟩) (Wd.preV zo hA hZ hwX hKq m_x o_x rfl) rfl rfl hl.1 rfl (lv_room (Nat.le_of_ble_eq_true rfl)) dL_law_481 ⟨by show cells + 0 ≤ 601024; omega, by show slots + 0 ≤ 7293034; omega⟩) (fun x_5 L_7 f_6 H locs lx_5 ux_5 ex_5 hwX fr => ?_)
  obtain ⟨rfl, rfl, ex_5⟩ := ex_5
  obtain ⟨hwM, apM⟩ := hwM.keep fr hwX.2.2 apM
  obtain ⟨hwO, apO⟩ := hwO.keep fr hwX.2.2 apO
  refine lv_pop hx hb dL_law_484 rfl ?_
  refine lv_aload_n hx hb dL_law_485 rfl (lv_at hl 2 rfl) ?_
  refine lv_aload_n hx hb dL_law_486 rfl (lv_at hl 0 rfl) ?_
  refine lv_iload hx hb dL_law_487 (lv_at hl 4 rfl) ?_
  refine q_iconst hx hb dL_law_489 ?_
  first | refine q_iadd hx hb dL_law_490 ⟨by omega, by omega⟩ (fun x_8 lx_8 ux_8 ex_8 => ?_) | refine q_iaddw hx hb dL_law_490 (fun x_8 lx_8 ux_8 ex_8 => ?_)
  refine q_sld hx hb hXs hbl hbA hwX.2.2 ⟨lx_8, ux_8⟩ (by omega) (by omega) dL_law_491 (fun x_9 lx_9 ux_9 ex_9 => ?_)
  refine lv_aload_n hx hb dL_law_492 rfl (lv_at hl 0 rfl) ?_
  refine lv_iload hx hb dL_law_493 (lv_at hl 4 rfl) ?_
  refine q_iconst hx hb dL_law_495 ?_
  first | refine q_iadd hx hb dL_law_496 ⟨by omega, by omega⟩ (fun x_10 lx_10 ux_10 ex_10 => ?_) | refine q_iaddw hx hb dL_law_496 (fun x_10 lx_10 ux_10 ex_10 => ?_)
  refine q_sld hx hb hXs hbl hbA hwX.2.2 ⟨lx_10, ux_10⟩ (by omega) (by omega) dL_law_497 (fun x_11 lx_11 ux_11 ex_11 => ?_)
  refine q_cf_i hA hwM (va_runV (As := [.int (iI x_9), .int (iI x_11)]) (rest := []) ⟨hx, hb, hml, hown, hts⟩ (c_X10_key_f zo l D cy Mm fm mo x_9 lx_9 ux_9 x_11 lx_11 ux_11 ad hs hv hd cw.mok _) (cwV 2 hts (gT (inV (mr24 _ (List.mem_of_getElem? (i := 16) rfl)) (mr24 _ (List.mem_of_getElem? (i := 17) rfl)) (mr24 _ (List.mem_of_getElem? (i := 18) rfl)) (mr1 _ (List.mem_of_getElem? (i := 5) rfl)) (mr24 _ (List.mem_of_getElem? (i := 19) rfl)))) rfl rfl rfl (by decide +kernel) ⟨Nat.le_of_ble_eq_true rfl, Nat.le_of_ble_eq_true rfl⟩) (Wd.preV zo hA hZ hwM hKq hs.1 hs.2.1 rfl) rfl rfl hl.1 rfl (lv_room (Nat.le_of_ble_eq_true rfl)) dL_law_498 ⟨by show cells + 0 + 0 ≤ 601024; omega, by show slots + 0 + 0 ≤ 7293034; omega⟩) (fun x_12 L_14 f_13 H locs lx_12 ux_12 ex_12 hwM fr => ?_)
  obtain ⟨rfl, hs, hX, ex_12⟩ := ex_12
  obtain ⟨hwX, -⟩ := hwX.keep fr hwM.2.2 (fun y hy hm => apM y hm hy)
  obtain ⟨hwO, -⟩ := hwO.keep fr hwM.2.2 apOM
  have hd := hd.kp hX (by decide) (by decide) (by decide) (by decide)
  have hi := hi.kp hX (by decide) (by decide)
  have hv := hv.kp hX (by decide) (by decide)
  have q9 := hX.2 9 (by decide)
  have q15 := hX.2 15 (by decide)
  have qx_2 : x_2 = x_9 := by rw [ex_2, ex_9, show x_1 = x_8 by omega]
  have qx_4 : x_4 = x_11 := by rw [ex_4, ex_11, show x_3 = x_10 by omega]
  have eqr := cw.key ex_5 ex_12 qx_2 qx_4
  have t1 := t1.kp hX (by decide) (by decide) (by decide) (by decide) (by decide) (by decide)
  clear cw bt ex_12 ex_5 oxm
  have t9a : 0 ≤ fI f_13 mo 9 := by omega
  have t9b : fI f_13 mo 9 ≤ 168 := by omega
  have t15a : 0 ≤ fI f_13 mo 15 := by omega
  have t15b : fI f_13 mo 15 ≤ 168 := by omega
  refine lv_pop hx hb dL_law_501 rfl ?_
  refine lv_goto (tgt := 1454) hx hb dL_law_502 (by decide) ?_
  exact kk X fx f_13 fo _ _ _ _ _ (by omega) (by omega) ⟨hwX, hwM, hwO, apM, apO, apOM, m_x, o_x, hg, ⟨hs, hv, hi, hd, t9a, t9b, t15a, t15b⟩, ho, t1⟩ (lv_sub hl [0, 1, 2, 3, 4] rfl)
set_option maxHeartbeats 4000000 in
set_option maxRecDepth 100000 in
theorem wl_7 {Z : Zt} (zo : Zok Z) (zc : ∀ (A : Nat → Prop) (U : State) (H : Heap), Z A U H → ZE U) {p : Program} {l : Launch} {e : Env} {s : State} {m : MethodId} {below : List Frame} {meth : Method} {c : Code} {b Ln : Nat} {xs : Nat → Int32} {D : va_G} {cy : Cy} {cL : ClassId} {A : Nat → Prop} (hB : LB Z p l s m c b Ln xs D cy cL A) {Q : State → Prop} {x mo o : Nat} {ad : Nat → Nat} {Mm : List Nat} (y4 : Int) (ly4 : -2147483648 ≤ y4) (uy4 : y4 ≤ 2147483647) (i0 : 0 ≤ y4) (i1 : y4 + 7 ≤ (Ln : Int)) {X : List Nat} {fx fm fo : Nat → va_E} {H : Heap} {locs : List Loc} {ls : Array Slot} {cells slots : Nat} (hI : LI cy cL D A s.heap x mo o ad X fx Mm fm fo H locs) (hl : lv_has ls 7 [(0, .ref b), (1, .ref x), (2, .ref mo), (3, .ref o), (4, .int (iI y4))]) (hc : cells + 40 ≤ 601024) (hs0 : slots + 600 ≤ 7293034) (kk : ∀ (X1 : List Nat) (fx1 fm1 fo1 : Nat → va_E) (H1 : Heap) (locs1 : List Loc) (ls1 : Array Slot) (cells1 slots1 : Nat), cells1 ≤ cells + 40 → slots1 ≤ slots + 600 → LI cy cL D A s.heap x mo o ad X1 fx1 Mm fm1 fo1 H1 locs1 → lv_has ls1 7 [(0, .ref b), (1, .ref x), (2, .ref mo), (3, .ref o), (4, .int (iI y4))] → W p l e room_1 s m #[Value.ref b] below meth c H1 locs1 cells1 slots1 Q (F0 m 1454 ls1 [])) : W p l e room_1 s m #[Value.ref b] below meth c H locs cells slots Q (F0 m 505 ls []) := by
  obtain ⟨hx, hb, hml, hown, hts, hXs, hbl, hK, hA, hbA, hZ, hlt, hLn⟩ := hB
  obtain ⟨hwX, hwM, hwO, apM, apO, apOM, m_x, o_x, hg, ⟨hs, hv, hi, hd, t9a, t9b, t15a, t15b⟩, ho, t1⟩ := hI
  obtain ⟨⟨rq, rr, im, tp, cw, oxm⟩, bt⟩ := id t1
  have hg0 := hg
  have ox0 := o_x
  have mx0 := m_x
  have hKq : va_K D vwCl (tq cy) s := hK.sub [0, 1, 2, 3, 4] rfl
  refine lv_aload_n hx hb dL_law_505 rfl (lv_at hl 1 rfl) ?_
  refine lv_aload_n hx hb dL_law_506 rfl (lv_at hl 0 rfl) ?_
  refine lv_iload hx hb dL_law_507 (lv_at hl 4 rfl) ?_
  refine q_iconst hx hb dL_law_509 ?_
  first | refine q_iadd hx hb dL_law_510 ⟨by omega, by omega⟩ (fun x_1 lx_1 ux_1 ex_1 => ?_) | refine q_iaddw hx hb dL_law_510 (fun x_1 lx_1 ux_1 ex_1 => ?_)
  refine q_sld hx hb hXs hbl hbA hwX.2.2 ⟨lx_1, ux_1⟩ (by omega) (by omega) dL_law_511 (fun x_2 lx_2 ux_2 ex_2 => ?_)
  refine lv_aload_n hx hb dL_law_512 rfl (lv_at hl 0 rfl) ?_
  refine lv_iload hx hb dL_law_513 (lv_at hl 4 rfl) ?_
  refine q_iconst hx hb dL_law_515 ?_
  first | refine q_iadd hx hb dL_law_516 ⟨by omega, by omega⟩ (fun x_3 lx_3 ux_3 ex_3 => ?_) | refine q_iaddw hx hb dL_law_516 (fun x_3 lx_3 ux_3 ex_3 => ?_)
  refine q_sld hx hb hXs hbl hbA hwX.2.2 ⟨lx_3, ux_3⟩ (by omega) (by omega) dL_law_517 (fun x_4 lx_4 ux_4 ex_4 => ?_)
  refine lv_aload_n hx hb dL_law_518 rfl (lv_at hl 0 rfl) ?_
  refine lv_iload hx hb dL_law_519 (lv_at hl 4 rfl) ?_
  refine q_iconst hx hb dL_law_521 ?_
  first | refine q_iadd hx hb dL_law_522 ⟨by omega, by omega⟩ (fun x_5 lx_5 ux_5 ex_5 => ?_) | refine q_iaddw hx hb dL_law_522 (fun x_5 lx_5 ux_5 ex_5 => ?_)
  refine q_sld hx hb hXs hbl hbA hwX.2.2 ⟨lx_5, ux_5⟩ (by omega) (by omega) dL_law_523 (fun x_6 lx_6 ux_6 ex_6 => ?_)
  refine q_cf_i hA hwX (va_runV (As := [.int (iI x_2), .int (iI x_4), .int (iI x_6)]) (rest := []) ⟨hx, hb, hml, hown, hts⟩ (c_X9_keys_f zo l D cy X fx x x_2 lx_2 ux_2 x_4 lx_4 ux_4 x_6 lx_6 ux_6 m_x o_x hg rq (aI fm (ad 4)) (fI fm mo 5) cw.1 _) (cwV 3 hts (gT (inV (mr25 _ (List.mem_of_getElem? (i := 8) rfl)) (mr25 _ (List.mem_of_getElem? (i := 9) rfl)) (mr25 _ (List.mem_of_getElem? (i := 10) rfl)) (mr1 _ (List.mem_of_getElem? (i := 2) rfl)) (mr25 _ (List.mem_of_getElem? (i := 11) rfl)))) rfl rfl rfl (by decide +kernel) ⟨Nat.le_of_ble_eq_true rfl, Nat.le_of_ble_eq_true rfl⟩) (Wd.preV zo hA hZ hwX hKq m_x o_x rfl) rfl rfl hl.1 rfl (lv_room (Nat.le_of_ble_eq_true rfl)) dL_law_524 ⟨by show cells + 0 ≤ 601024; omega, by show slots + 0 ≤ 7293034; omega⟩) (fun x_7 L_9 f_8 H locs lx_7 ux_7 ex_7 hwX fr => ?_)
  obtain ⟨rfl, rfl, ex_7⟩ := ex_7
  obtain ⟨hwM, apM⟩ := hwM.keep fr hwX.2.2 apM
  obtain ⟨hwO, apO⟩ := hwO.keep fr hwX.2.2 apO
  refine lv_pop hx hb dL_law_527 rfl ?_
  refine lv_aload_n hx hb dL_law_528 rfl (lv_at hl 2 rfl) ?_
  refine lv_aload_n hx hb dL_law_529 rfl (lv_at hl 0 rfl) ?_
  refine lv_iload hx hb dL_law_530 (lv_at hl 4 rfl) ?_
  refine q_iconst hx hb dL_law_532 ?_
  first | refine q_iadd hx hb dL_law_533 ⟨by omega, by omega⟩ (fun x_10 lx_10 ux_10 ex_10 => ?_) | refine q_iaddw hx hb dL_law_533 (fun x_10 lx_10 ux_10 ex_10 => ?_)
  refine q_sld hx hb hXs hbl hbA hwX.2.2 ⟨lx_10, ux_10⟩ (by omega) (by omega) dL_law_534 (fun x_11 lx_11 ux_11 ex_11 => ?_)
  refine lv_aload_n hx hb dL_law_535 rfl (lv_at hl 0 rfl) ?_
  refine lv_iload hx hb dL_law_536 (lv_at hl 4 rfl) ?_
  refine q_iconst hx hb dL_law_538 ?_
  first | refine q_iadd hx hb dL_law_539 ⟨by omega, by omega⟩ (fun x_12 lx_12 ux_12 ex_12 => ?_) | refine q_iaddw hx hb dL_law_539 (fun x_12 lx_12 ux_12 ex_12 => ?_)
  refine q_sld hx hb hXs hbl hbA hwX.2.2 ⟨lx_12, ux_12⟩ (by omega) (by omega) dL_law_540 (fun x_13 lx_13 ux_13 ex_13 => ?_)
  refine lv_aload_n hx hb dL_law_541 rfl (lv_at hl 0 rfl) ?_
  refine lv_iload hx hb dL_law_542 (lv_at hl 4 rfl) ?_
  refine q_iconst hx hb dL_law_544 ?_
  first | refine q_iadd hx hb dL_law_545 ⟨by omega, by omega⟩ (fun x_14 lx_14 ux_14 ex_14 => ?_) | refine q_iaddw hx hb dL_law_545 (fun x_14 lx_14 ux_14 ex_14 => ?_)
  refine q_sld hx hb hXs hbl hbA hwX.2.2 ⟨lx_14, ux_14⟩ (by omega) (by omega) dL_law_546 (fun x_15 lx_15 ux_15 ex_15 => ?_)
  refine q_cf_i hA hwM (va_runV (As := [.int (iI x_11), .int (iI x_13), .int (iI x_15)]) (rest := []) ⟨hx, hb, hml, hown, hts⟩ (c_X10_keys_f zo l D cy Mm fm mo x_11 lx_11 ux_11 x_13 lx_13 ux_13 x_15 lx_15 ux_15 ad hs hv hd cw.mok _) (cwV 3 hts (gT (inV (mr25 _ (List.mem_of_getElem? (i := 22) rfl)) (mr25 _ (List.mem_of_getElem? (i := 23) rfl)) (mr26 _ (List.mem_of_getElem? (i := 0) rfl)) (mr1 _ (List.mem_of_getElem? (i := 5) rfl)) (mr26 _ (List.mem_of_getElem? (i := 1) rfl)))) rfl rfl rfl (by decide +kernel) ⟨Nat.le_of_ble_eq_true rfl, Nat.le_of_ble_eq_true rfl⟩) (Wd.preV zo hA hZ hwM hKq hs.1 hs.2.1 rfl) rfl rfl hl.1 rfl (lv_room (Nat.le_of_ble_eq_true rfl)) dL_law_547 ⟨by show cells + 0 + 0 ≤ 601024; omega, by show slots + 0 + 0 ≤ 7293034; omega⟩) (fun x_16 L_18 f_17 H locs lx_16 ux_16 ex_16 hwM fr => ?_)
  obtain ⟨rfl, hs, hX, ex_16⟩ := ex_16
  obtain ⟨hwX, -⟩ := hwX.keep fr hwM.2.2 (fun y hy hm => apM y hm hy)
  obtain ⟨hwO, -⟩ := hwO.keep fr hwM.2.2 apOM
  have hd := hd.kp hX (by decide) (by decide) (by decide) (by decide)
  have hi := hi.kp hX (by decide) (by decide)
  have hv := hv.kp hX (by decide) (by decide)
  have q9 := hX.2 9 (by decide)
  have q15 := hX.2 15 (by decide)
  have qx_2 : x_2 = x_11 := by rw [ex_2, ex_11, show x_1 = x_10 by omega]
  have qx_4 : x_4 = x_13 := by rw [ex_4, ex_13, show x_3 = x_12 by omega]
  have qx_6 : x_6 = x_15 := by rw [ex_6, ex_15, show x_5 = x_14 by omega]
  have eqr := cw.keys ex_7 ex_16 qx_2 qx_4 qx_6
  have t1 := t1.kp hX (by decide) (by decide) (by decide) (by decide) (by decide) (by decide)
  clear cw bt ex_16 ex_7 oxm
  have t9a : 0 ≤ fI f_17 mo 9 := by omega
  have t9b : fI f_17 mo 9 ≤ 168 := by omega
  have t15a : 0 ≤ fI f_17 mo 15 := by omega
  have t15b : fI f_17 mo 15 ≤ 168 := by omega
  refine lv_pop hx hb dL_law_550 rfl ?_
  refine lv_goto (tgt := 1454) hx hb dL_law_551 (by decide) ?_
  exact kk X fx f_17 fo _ _ _ _ _ (by omega) (by omega) ⟨hwX, hwM, hwO, apM, apO, apOM, m_x, o_x, hg, ⟨hs, hv, hi, hd, t9a, t9b, t15a, t15b⟩, ho, t1⟩ (lv_sub hl [0, 1, 2, 3, 4] rfl)
set_option maxHeartbeats 4000000 in
set_option maxRecDepth 100000 in
theorem wl_8 {Z : Zt} (zo : Zok Z) (zc : ∀ (A : Nat → Prop) (U : State) (H : Heap), Z A U H → ZE U) {p : Program} {l : Launch} {e : Env} {s : State} {m : MethodId} {below : List Frame} {meth : Method} {c : Code} {b Ln : Nat} {xs : Nat → Int32} {D : va_G} {cy : Cy} {cL : ClassId} {A : Nat → Prop} (hB : LB Z p l s m c b Ln xs D cy cL A) {Q : State → Prop} {x mo o : Nat} {ad : Nat → Nat} {Mm : List Nat} (y4 : Int) (ly4 : -2147483648 ≤ y4) (uy4 : y4 ≤ 2147483647) (i0 : 0 ≤ y4) (i1 : y4 + 7 ≤ (Ln : Int)) {X : List Nat} {fx fm fo : Nat → va_E} {H : Heap} {locs : List Loc} {ls : Array Slot} {cells slots : Nat} (hI : LI cy cL D A s.heap x mo o ad X fx Mm fm fo H locs) (hl : lv_has ls 7 [(0, .ref b), (1, .ref x), (2, .ref mo), (3, .ref o), (4, .int (iI y4))]) (hc : cells + 40 ≤ 601024) (hs0 : slots + 600 ≤ 7293034) (kk : ∀ (X1 : List Nat) (fx1 fm1 fo1 : Nat → va_E) (H1 : Heap) (locs1 : List Loc) (ls1 : Array Slot) (cells1 slots1 : Nat), cells1 ≤ cells + 40 → slots1 ≤ slots + 600 → LI cy cL D A s.heap x mo o ad X1 fx1 Mm fm1 fo1 H1 locs1 → lv_has ls1 7 [(0, .ref b), (1, .ref x), (2, .ref mo), (3, .ref o), (4, .int (iI y4))] → W p l e room_1 s m #[Value.ref b] below meth c H1 locs1 cells1 slots1 Q (F0 m 1454 ls1 [])) : W p l e room_1 s m #[Value.ref b] below meth c H locs cells slots Q (F0 m 554 ls []) := by
  obtain ⟨hx, hb, hml, hown, hts, hXs, hbl, hK, hA, hbA, hZ, hlt, hLn⟩ := hB
  obtain ⟨hwX, hwM, hwO, apM, apO, apOM, m_x, o_x, hg, ⟨hs, hv, hi, hd, t9a, t9b, t15a, t15b⟩, ho, t1⟩ := hI
  obtain ⟨⟨rq, rr, im, tp, cw, oxm⟩, bt⟩ := id t1
  have hg0 := hg
  have ox0 := o_x
  have mx0 := m_x
  have hKq : va_K D vwCl (tq cy) s := hK.sub [0, 1, 2, 3, 4] rfl
  refine lv_aload_n hx hb dL_law_554 rfl (lv_at hl 1 rfl) ?_
  refine lv_aload_n hx hb dL_law_555 rfl (lv_at hl 0 rfl) ?_
  refine lv_iload hx hb dL_law_556 (lv_at hl 4 rfl) ?_
  refine q_iconst hx hb dL_law_558 ?_
  first | refine q_iadd hx hb dL_law_559 ⟨by omega, by omega⟩ (fun x_1 lx_1 ux_1 ex_1 => ?_) | refine q_iaddw hx hb dL_law_559 (fun x_1 lx_1 ux_1 ex_1 => ?_)
  refine q_sld hx hb hXs hbl hbA hwX.2.2 ⟨lx_1, ux_1⟩ (by omega) (by omega) dL_law_560 (fun x_2 lx_2 ux_2 ex_2 => ?_)
  refine lv_aload_n hx hb dL_law_561 rfl (lv_at hl 0 rfl) ?_
  refine lv_iload hx hb dL_law_562 (lv_at hl 4 rfl) ?_
  refine q_iconst hx hb dL_law_564 ?_
  first | refine q_iadd hx hb dL_law_565 ⟨by omega, by omega⟩ (fun x_3 lx_3 ux_3 ex_3 => ?_) | refine q_iaddw hx hb dL_law_565 (fun x_3 lx_3 ux_3 ex_3 => ?_)
  refine q_sld hx hb hXs hbl hbA hwX.2.2 ⟨lx_3, ux_3⟩ (by omega) (by omega) dL_law_566 (fun x_4 lx_4 ux_4 ex_4 => ?_)
  obtain ⟨O, hO⟩ := OX.pick oxm x_2
  refine q_cf_i hA hwX (va_runV (As := [.int (iI x_2), .int (iI x_4)]) (rest := []) ⟨hx, hb, hml, hown, hts⟩ (c_X9_drop_o zo l D cy X fx x x_2 lx_2 ux_2 x_4 lx_4 ux_4 m_x o_x hg rq (aI fm (ad 4)) (fI fm mo 5) cw.1 O (fun z => (hO z).1) (fun z => oxm.1.1.1 _ z.1 (by have := hv.2.1; omega)) _) (cwV 2 hts (gT (inV (mr26 _ (List.mem_of_getElem? (i := 2) rfl)) (mr26 _ (List.mem_of_getElem? (i := 3) rfl)) (mr26 _ (List.mem_of_getElem? (i := 4) rfl)) (mr1 _ (List.mem_of_getElem? (i := 2) rfl)) (mr26 _ (List.mem_of_getElem? (i := 5) rfl)))) rfl rfl rfl (by decide +kernel) ⟨Nat.le_of_ble_eq_true rfl, Nat.le_of_ble_eq_true rfl⟩) (Wd.preV zo hA hZ hwX hKq m_x o_x rfl) rfl rfl hl.1 rfl (lv_room (Nat.le_of_ble_eq_true rfl)) dL_law_567 ⟨by show cells + 0 ≤ 601024; omega, by show slots + 0 ≤ 7293034; omega⟩) (fun x_5 L_7 f_6 H locs lx_5 ux_5 ex_5 hwX fr => ?_)
  obtain ⟨rfl, hg, hXc, ex_5⟩ := ex_5
  have o_x := hXc.1.1 _ _ o_x
  obtain ⟨hwM, apM⟩ := hwM.keep fr hwX.2.2 apM
  obtain ⟨hwO, apO⟩ := hwO.keep fr hwX.2.2 apO
  refine lv_pop hx hb dL_law_570 rfl ?_
  refine lv_aload_n hx hb dL_law_571 rfl (lv_at hl 2 rfl) ?_
  refine lv_aload_n hx hb dL_law_572 rfl (lv_at hl 0 rfl) ?_
  refine lv_iload hx hb dL_law_573 (lv_at hl 4 rfl) ?_
  refine q_iconst hx hb dL_law_575 ?_
  first | refine q_iadd hx hb dL_law_576 ⟨by omega, by omega⟩ (fun x_8 lx_8 ux_8 ex_8 => ?_) | refine q_iaddw hx hb dL_law_576 (fun x_8 lx_8 ux_8 ex_8 => ?_)
  refine q_sld hx hb hXs hbl hbA hwX.2.2 ⟨lx_8, ux_8⟩ (by omega) (by omega) dL_law_577 (fun x_9 lx_9 ux_9 ex_9 => ?_)
  refine lv_aload_n hx hb dL_law_578 rfl (lv_at hl 0 rfl) ?_
  refine lv_iload hx hb dL_law_579 (lv_at hl 4 rfl) ?_
  refine q_iconst hx hb dL_law_581 ?_
  first | refine q_iadd hx hb dL_law_582 ⟨by omega, by omega⟩ (fun x_10 lx_10 ux_10 ex_10 => ?_) | refine q_iaddw hx hb dL_law_582 (fun x_10 lx_10 ux_10 ex_10 => ?_)
  refine q_sld hx hb hXs hbl hbA hwX.2.2 ⟨lx_10, ux_10⟩ (by omega) (by omega) dL_law_583 (fun x_11 lx_11 ux_11 ex_11 => ?_)
  have qx_2 : x_2 = x_9 := by rw [ex_2, ex_9, show x_1 = x_8 by omega]
  have hv0 := hv
  refine q_cf_i hA hwM (va_runV (As := [.int (iI x_9), .int (iI x_11)]) (rest := []) ⟨hx, hb, hml, hown, hts⟩ (c_X10_drop_o zo l D cy Mm fm mo x_9 lx_9 ux_9 x_11 lx_11 ux_11 ad hs hv hd cw.mok O (fun z => by rw [← qx_2]; exact (hO (by rw [qx_2]; exact z)).2.1) _) (cwV 2 hts (gT (inV (mr26 _ (List.mem_of_getElem? (i := 23) rfl)) (mr27 _ (List.mem_of_getElem? (i := 0) rfl)) (mr27 _ (List.mem_of_getElem? (i := 1) rfl)) (mr1 _ (List.mem_of_getElem? (i := 5) rfl)) (mr27 _ (List.mem_of_getElem? (i := 2) rfl)))) rfl rfl rfl (by decide +kernel) ⟨Nat.le_of_ble_eq_true rfl, Nat.le_of_ble_eq_true rfl⟩) (Wd.preV zo hA hZ hwM hKq hs.1 hs.2.1 rfl) rfl rfl hl.1 rfl (lv_room (Nat.le_of_ble_eq_true rfl)) dL_law_584 ⟨by show cells + 0 + 0 ≤ 601024; omega, by show slots + 0 + 0 ≤ 7293034; omega⟩) (fun x_12 L_14 f_13 H locs lx_12 ux_12 ex_12 hwM fr => ?_)
  obtain ⟨rfl, hs, hX, ex_12⟩ := ex_12
  obtain ⟨hwX, -⟩ := hwX.keep fr hwM.2.2 (fun y hy hm => apM y hm hy)
  obtain ⟨hwO, -⟩ := hwO.keep fr hwM.2.2 apOM
  have hd := hd.kp hX (by decide) (by decide) (by decide) (by decide)
  have hi := hi.kp hX (by decide) (by decide)
  obtain ⟨hv, ex_12⟩ := ex_12
  have q9 := hX.2 9 (by decide)
  have q15 := hX.2 15 (by decide)
  have qx_2 : x_2 = x_9 := by rw [ex_2, ex_9, show x_1 = x_8 by omega]
  have qx_4 : x_4 = x_11 := by rw [ex_4, ex_11, show x_3 = x_10 by omega]
  obtain ⟨t1, eqr⟩ := CRO.drop cw oxm bt hg0 mx0 ox0 hv hO ex_5 hX ex_12 qx_2 qx_4
  clear cw bt ex_12 ex_5 oxm
  have t9a : 0 ≤ fI f_13 mo 9 := by omega
  have t9b : fI f_13 mo 9 ≤ 168 := by omega
  have t15a : 0 ≤ fI f_13 mo 15 := by omega
  have t15b : fI f_13 mo 15 ≤ 168 := by omega
  refine lv_pop hx hb dL_law_587 rfl ?_
  refine lv_goto (tgt := 1454) hx hb dL_law_588 (by decide) ?_
  exact kk X f_6 f_13 fo _ _ _ _ _ (by omega) (by omega) ⟨hwX, hwM, hwO, apM, apO, apOM, m_x, o_x, hg, ⟨hs, hv, hi, hd, t9a, t9b, t15a, t15b⟩, ho, t1⟩ (lv_sub hl [0, 1, 2, 3, 4] rfl)
set_option maxHeartbeats 4000000 in
set_option maxRecDepth 100000 in
theorem wl_9 {Z : Zt} (zo : Zok Z) (zc : ∀ (A : Nat → Prop) (U : State) (H : Heap), Z A U H → ZE U) {p : Program} {l : Launch} {e : Env} {s : State} {m : MethodId} {below : List Frame} {meth : Method} {c : Code} {b Ln : Nat} {xs : Nat → Int32} {D : va_G} {cy : Cy} {cL : ClassId} {A : Nat → Prop} (hB : LB Z p l s m c b Ln xs D cy cL A) {Q : State → Prop} {x mo o : Nat} {ad : Nat → Nat} {Mm : List Nat} (y4 : Int) (ly4 : -2147483648 ≤ y4) (uy4 : y4 ≤ 2147483647) (i0 : 0 ≤ y4) (i1 : y4 + 7 ≤ (Ln : Int)) {X : List Nat} {fx fm fo : Nat → va_E} {H : Heap} {locs : List Loc} {ls : Array Slot} {cells slots : Nat} (hI : LI cy cL D A s.heap x mo o ad X fx Mm fm fo H locs) (hl : lv_has ls 7 [(0, .ref b), (1, .ref x), (2, .ref mo), (3, .ref o), (4, .int (iI y4))]) (hc : cells + 40 ≤ 601024) (hs0 : slots + 600 ≤ 7293034) (kk : ∀ (X1 : List Nat) (fx1 fm1 fo1 : Nat → va_E) (H1 : Heap) (locs1 : List Loc) (ls1 : Array Slot) (cells1 slots1 : Nat), cells1 ≤ cells + 40 → slots1 ≤ slots + 600 → LI cy cL D A s.heap x mo o ad X1 fx1 Mm fm1 fo1 H1 locs1 → lv_has ls1 7 [(0, .ref b), (1, .ref x), (2, .ref mo), (3, .ref o), (4, .int (iI y4))] → W p l e room_1 s m #[Value.ref b] below meth c H1 locs1 cells1 slots1 Q (F0 m 1454 ls1 [])) : W p l e room_1 s m #[Value.ref b] below meth c H locs cells slots Q (F0 m 591 ls []) := by
  obtain ⟨hx, hb, hml, hown, hts, hXs, hbl, hK, hA, hbA, hZ, hlt, hLn⟩ := hB
  obtain ⟨hwX, hwM, hwO, apM, apO, apOM, m_x, o_x, hg, ⟨hs, hv, hi, hd, t9a, t9b, t15a, t15b⟩, ho, t1⟩ := hI
  obtain ⟨⟨rq, rr, im, tp, cw, oxm⟩, bt⟩ := id t1
  have hg0 := hg
  have ox0 := o_x
  have mx0 := m_x
  have hKq : va_K D vwCl (tq cy) s := hK.sub [0, 1, 2, 3, 4] rfl
  refine lv_aload_n hx hb dL_law_591 rfl (lv_at hl 1 rfl) ?_
  refine lv_aload_n hx hb dL_law_592 rfl (lv_at hl 0 rfl) ?_
  refine lv_iload hx hb dL_law_593 (lv_at hl 4 rfl) ?_
  refine q_iconst hx hb dL_law_595 ?_
  first | refine q_iadd hx hb dL_law_596 ⟨by omega, by omega⟩ (fun x_1 lx_1 ux_1 ex_1 => ?_) | refine q_iaddw hx hb dL_law_596 (fun x_1 lx_1 ux_1 ex_1 => ?_)
  refine q_sld hx hb hXs hbl hbA hwX.2.2 ⟨lx_1, ux_1⟩ (by omega) (by omega) dL_law_597 (fun x_2 lx_2 ux_2 ex_2 => ?_)
  refine lv_aload_n hx hb dL_law_598 rfl (lv_at hl 0 rfl) ?_
  refine lv_iload hx hb dL_law_599 (lv_at hl 4 rfl) ?_
  refine q_iconst hx hb dL_law_601 ?_
  first | refine q_iadd hx hb dL_law_602 ⟨by omega, by omega⟩ (fun x_3 lx_3 ux_3 ex_3 => ?_) | refine q_iaddw hx hb dL_law_602 (fun x_3 lx_3 ux_3 ex_3 => ?_)
  refine q_sld hx hb hXs hbl hbA hwX.2.2 ⟨lx_3, ux_3⟩ (by omega) (by omega) dL_law_603 (fun x_4 lx_4 ux_4 ex_4 => ?_)
  refine lv_aload_n hx hb dL_law_604 rfl (lv_at hl 0 rfl) ?_
  refine lv_iload hx hb dL_law_605 (lv_at hl 4 rfl) ?_
  refine q_iconst hx hb dL_law_607 ?_
  first | refine q_iadd hx hb dL_law_608 ⟨by omega, by omega⟩ (fun x_5 lx_5 ux_5 ex_5 => ?_) | refine q_iaddw hx hb dL_law_608 (fun x_5 lx_5 ux_5 ex_5 => ?_)
  refine q_sld hx hb hXs hbl hbA hwX.2.2 ⟨lx_5, ux_5⟩ (by omega) (by omega) dL_law_609 (fun x_6 lx_6 ux_6 ex_6 => ?_)
  obtain ⟨O, hO⟩ := OX.pick oxm x_2
  refine q_cf_i hA hwX (va_runV (As := [.int (iI x_2), .int (iI x_4), .int (iI x_6)]) (rest := []) ⟨hx, hb, hml, hown, hts⟩ (c_X9_move_o zo l D cy X fx x x_2 lx_2 ux_2 x_4 lx_4 ux_4 x_6 lx_6 ux_6 m_x o_x hg rq (aI fm (ad 4)) (fI fm mo 5) cw.1 O (fun z => (hO z).1) (fun z => oxm.1.1.1 _ z.1 (by have := hv.2.1; omega)) _) (cwV 3 hts (gT (inV (mr27 _ (List.mem_of_getElem? (i := 15) rfl)) (mr27 _ (List.mem_of_getElem? (i := 16) rfl)) (mr27 _ (List.mem_of_getElem? (i := 17) rfl)) (mr1 _ (List.mem_of_getElem? (i := 2) rfl)) (mr27 _ (List.mem_of_getElem? (i := 18) rfl)))) rfl rfl rfl (by decide +kernel) ⟨Nat.le_of_ble_eq_true rfl, Nat.le_of_ble_eq_true rfl⟩) (Wd.preV zo hA hZ hwX hKq m_x o_x rfl) rfl rfl hl.1 rfl (lv_room (Nat.le_of_ble_eq_true rfl)) dL_law_610 ⟨by show cells + 0 ≤ 601024; omega, by show slots + 0 ≤ 7293034; omega⟩) (fun x_7 L_9 f_8 H locs lx_7 ux_7 ex_7 hwX fr => ?_)
  obtain ⟨rfl, hg, hXc, ex_7⟩ := ex_7
  have o_x := hXc.1.1 _ _ o_x
  obtain ⟨hwM, apM⟩ := hwM.keep fr hwX.2.2 apM
  obtain ⟨hwO, apO⟩ := hwO.keep fr hwX.2.2 apO
  refine lv_pop hx hb dL_law_613 rfl ?_
  refine lv_aload_n hx hb dL_law_614 rfl (lv_at hl 2 rfl) ?_
  refine lv_aload_n hx hb dL_law_615 rfl (lv_at hl 0 rfl) ?_
  refine lv_iload hx hb dL_law_616 (lv_at hl 4 rfl) ?_
  refine q_iconst hx hb dL_law_618 ?_
  first | refine q_iadd hx hb dL_law_619 ⟨by omega, by omega⟩ (fun x_10 lx_10 ux_10 ex_10 => ?_) | refine q_iaddw hx hb dL_law_619 (fun x_10 lx_10 ux_10 ex_10 => ?_)
  refine q_sld hx hb hXs hbl hbA hwX.2.2 ⟨lx_10, ux_10⟩ (by omega) (by omega) dL_law_620 (fun x_11 lx_11 ux_11 ex_11 => ?_)
  refine lv_aload_n hx hb dL_law_621 rfl (lv_at hl 0 rfl) ?_
  refine lv_iload hx hb dL_law_622 (lv_at hl 4 rfl) ?_
  refine q_iconst hx hb dL_law_624 ?_
  first | refine q_iadd hx hb dL_law_625 ⟨by omega, by omega⟩ (fun x_12 lx_12 ux_12 ex_12 => ?_) | refine q_iaddw hx hb dL_law_625 (fun x_12 lx_12 ux_12 ex_12 => ?_)
  refine q_sld hx hb hXs hbl hbA hwX.2.2 ⟨lx_12, ux_12⟩ (by omega) (by omega) dL_law_626 (fun x_13 lx_13 ux_13 ex_13 => ?_)
  refine lv_aload_n hx hb dL_law_627 rfl (lv_at hl 0 rfl) ?_
  refine lv_iload hx hb dL_law_628 (lv_at hl 4 rfl) ?_
  refine q_iconst hx hb dL_law_630 ?_
  first | refine q_iadd hx hb dL_law_631 ⟨by omega, by omega⟩ (fun x_14 lx_14 ux_14 ex_14 => ?_) | refine q_iaddw hx hb dL_law_631 (fun x_14 lx_14 ux_14 ex_14 => ?_)
  refine q_sld hx hb hXs hbl hbA hwX.2.2 ⟨lx_14, ux_14⟩ (by omega) (by omega) dL_law_632 (fun x_15 lx_15 ux_15 ex_15 => ?_)
  have qx_2 : x_2 = x_11 := by rw [ex_2, ex_11, show x_1 = x_10 by omega]
  have hv0 := hv
  refine q_cf_i hA hwM (va_runV (As := [.int (iI x_11), .int (iI x_13), .int (iI x_15)]) (rest := []) ⟨hx, hb, hml, hown, hts⟩ (c_X10_move_o zo l D cy Mm fm mo x_11 lx_11 ux_11 x_13 lx_13 ux_13 x_15 lx_15 ux_15 ad hs hv hd cw.mok O (fun z => by rw [← qx_2]; exact (hO (by rw [qx_2]; exact z)).2.1) _) (cwV 3 hts (gT (inV (mr27 _ (List.mem_of_getElem? (i := 23) rfl)) (mr28 _ (List.mem_of_getElem? (i := 0) rfl)) (mr28 _ (List.mem_of_getElem? (i := 1) rfl)) (mr1 _ (List.mem_of_getElem? (i := 5) rfl)) (mr28 _ (List.mem_of_getElem? (i := 2) rfl)))) rfl rfl rfl (by decide +kernel) ⟨Nat.le_of_ble_eq_true rfl, Nat.le_of_ble_eq_true rfl⟩) (Wd.preV zo hA hZ hwM hKq hs.1 hs.2.1 rfl) rfl rfl hl.1 rfl (lv_room (Nat.le_of_ble_eq_true rfl)) dL_law_633 ⟨by show cells + 0 + 0 ≤ 601024; omega, by show slots + 0 + 0 ≤ 7293034; omega⟩) (fun x_16 L_18 f_17 H locs lx_16 ux_16 ex_16 hwM fr => ?_)
  obtain ⟨rfl, hs, hX, ex_16⟩ := ex_16
  obtain ⟨hwX, -⟩ := hwX.keep fr hwM.2.2 (fun y hy hm => apM y hm hy)
  obtain ⟨hwO, -⟩ := hwO.keep fr hwM.2.2 apOM
  have hd := hd.kp hX (by decide) (by decide) (by decide) (by decide)
  have hi := hi.kp hX (by decide) (by decide)
  obtain ⟨hv, ex_16⟩ := ex_16
  have q9 := hX.2 9 (by decide)
  have q15 := hX.2 15 (by decide)
  have qx_2 : x_2 = x_11 := by rw [ex_2, ex_11, show x_1 = x_10 by omega]
  have qx_4 : x_4 = x_13 := by rw [ex_4, ex_13, show x_3 = x_12 by omega]
  have qx_6 : x_6 = x_15 := by rw [ex_6, ex_15, show x_5 = x_14 by omega]
  obtain ⟨t1, eqr⟩ := CRO.move cw oxm bt hg0 mx0 ox0 hv hO ex_7 hX ex_16 qx_2 qx_4 qx_6
  clear cw bt ex_16 ex_7 oxm
  have t9a : 0 ≤ fI f_17 mo 9 := by omega
  have t9b : fI f_17 mo 9 ≤ 168 := by omega
  have t15a : 0 ≤ fI f_17 mo 15 := by omega
  have t15b : fI f_17 mo 15 ≤ 168 := by omega
  refine lv_pop hx hb dL_law_636 rfl ?_
  refine lv_goto (tgt := 1454) hx hb dL_law_637 (by decide) ?_
  exact kk X f_8 f_17 fo _ _ _ _ _ (by omega) (by omega) ⟨hwX, hwM, hwO, apM, apO, apOM, m_x, o_x, hg, ⟨hs, hv, hi, hd, t9a, t9b, t15a, t15b⟩, ho, t1⟩ (lv_sub hl [0, 1, 2, 3, 4] rfl)
