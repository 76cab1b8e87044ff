set_option maxHeartbeats 4000000 in
set_option maxRecDepth 100000 in
theorem wl_20 {Z : Zt} (zo : Zok Z) (zc : ∀ (A : Nat → Prop) (U : State) (H : Heap), Z A U H → ZE U) {p : Program} {l : Launch} {e : Env} {s : State} {m : MethodId} {below : List Frame} {meth : Method} {c : Code} {b Ln : Nat} {xs : Nat → Int32} {D : va_G} {cy : Cy} {cL : ClassId} {A : Nat → Prop} (hB : LB Z p l s m c b Ln xs D cy cL A) {Q : State → Prop} {x mo o : Nat} {ad : Nat → Nat} {Mm : List Nat} (y4 : Int) (ly4 : -2147483648 ≤ y4) (uy4 : y4 ≤ 2147483647) (i0 : 0 ≤ y4) (i1 : y4 + 7 ≤ (Ln : Int)) {X : List Nat} {fx fm fo : Nat → va_E} {H : Heap} {locs : List Loc} {ls : Array Slot} {cells slots : Nat} (hI : LI cy cL D A s.heap x mo o ad X fx Mm fm fo H locs) (hl : lv_has ls 7 [(0, .ref b), (1, .ref x), (2, .ref mo), (3, .ref o), (4, .int (iI y4))]) (hc : cells + 40 ≤ 601024) (hs0 : slots + 600 ≤ 7293034) (kk : ∀ (X1 : List Nat) (fx1 fm1 fo1 : Nat → va_E) (H1 : Heap) (locs1 : List Loc) (ls1 : Array Slot) (cells1 slots1 : Nat), cells1 ≤ cells + 40 → slots1 ≤ slots + 600 → LI cy cL D A s.heap x mo o ad X1 fx1 Mm fm1 fo1 H1 locs1 → lv_has ls1 7 [(0, .ref b), (1, .ref x), (2, .ref mo), (3, .ref o), (4, .int (iI y4))] → W p l e room_1 s m #[Value.ref b] below meth c H1 locs1 cells1 slots1 Q (F0 m 1454 ls1 [])) : W p l e room_1 s m #[Value.ref b] below meth c H locs cells slots Q (F0 m 1157 ls []) := by
  obtain ⟨hx, hb, hml, hown, hts, hXs, hbl, hK, hA, hbA, hZ, hlt, hLn⟩ := hB
  obtain ⟨hwX, hwM, hwO, apM, apO, apOM, m_x, o_x, hg, ⟨hs, hv, hi, hd, t9a, t9b, t15a, t15b⟩, ho, t1⟩ := hI
  obtain ⟨⟨rq, rr, im, tp, cw, oxm⟩, bt⟩ := id t1
  have hg0 := hg
  have ox0 := o_x
  have mx0 := m_x
  have hKq : va_K D vwCl (tq cy) s := hK.sub [0, 1, 2, 3, 4] rfl
  refine lv_aload_n hx hb dL_law_1157 rfl (lv_at hl 1 rfl) ?_
  refine lv_aload_n hx hb dL_law_1158 rfl (lv_at hl 0 rfl) ?_
  refine lv_iload hx hb dL_law_1159 (lv_at hl 4 rfl) ?_
  refine q_iconst hx hb dL_law_1161 ?_
  first | refine q_iadd hx hb dL_law_1162 ⟨by omega, by omega⟩ (fun x_1 lx_1 ux_1 ex_1 => ?_) | refine q_iaddw hx hb dL_law_1162 (fun x_1 lx_1 ux_1 ex_1 => ?_)
  refine q_sld hx hb hXs hbl hbA hwX.2.2 ⟨lx_1, ux_1⟩ (by omega) (by omega) dL_law_1163 (fun x_2 lx_2 ux_2 ex_2 => ?_)
  refine lv_aload_n hx hb dL_law_1164 rfl (lv_at hl 0 rfl) ?_
  refine lv_iload hx hb dL_law_1165 (lv_at hl 4 rfl) ?_
  refine q_iconst hx hb dL_law_1167 ?_
  first | refine q_iadd hx hb dL_law_1168 ⟨by omega, by omega⟩ (fun x_3 lx_3 ux_3 ex_3 => ?_) | refine q_iaddw hx hb dL_law_1168 (fun x_3 lx_3 ux_3 ex_3 => ?_)
  refine q_sld hx hb hXs hbl hbA hwX.2.2 ⟨lx_3, ux_3⟩ (by omega) (by omega) dL_law_1169 (fun x_4 lx_4 ux_4 ex_4 => ?_)
  refine q_cf_i hA hwX (va_runV (As := [.int (iI x_2), .int (iI x_4)]) (rest := []) ⟨hx, hb, hml, hown, hts⟩ (c_X9_busy_h zo l D cy X fx x x_2 lx_2 ux_2 x_4 lx_4 ux_4 m_x o_x hg _) (cwV 2 hts (gT (inV (mr39 _ (List.mem_of_getElem? (i := 3) rfl)) (mr39 _ (List.mem_of_getElem? (i := 4) rfl)) (mr39 _ (List.mem_of_getElem? (i := 5) rfl)) (mr1 _ (List.mem_of_getElem? (i := 2) rfl)) (mr39 _ (List.mem_of_getElem? (i := 6) rfl)))) rfl rfl rfl (by decide +kernel) ⟨Nat.le_of_ble_eq_true rfl, Nat.le_of_ble_eq_true rfl⟩) (Wd.preV zo hA hZ hwX hKq m_x o_x rfl) rfl rfl hl.1 rfl (lv_room (Nat.le_of_ble_eq_true rfl)) dL_law_1170 ⟨by show cells + 0 ≤ 601024; omega, by show slots + 0 ≤ 7293034; omega⟩) (fun x_5 L_7 f_6 H locs lx_5 ux_5 ex_5 hwX fr => ?_)
  obtain ⟨rfl, hg, hXc, ex_5⟩ := ex_5
  have t1 := t1.eh hg0 mx0 ox0 hXc
  have o_x := hXc.1.1.1 _ _ o_x
  obtain ⟨hwM, apM⟩ := hwM.keep fr hwX.2.2 apM
  obtain ⟨hwO, apO⟩ := hwO.keep fr hwX.2.2 apO
  refine lv_pop hx hb dL_law_1173 rfl ?_
  refine lv_aload_n hx hb dL_law_1174 rfl (lv_at hl 2 rfl) ?_
  refine lv_aload_n hx hb dL_law_1175 rfl (lv_at hl 0 rfl) ?_
  refine lv_iload hx hb dL_law_1176 (lv_at hl 4 rfl) ?_
  refine q_iconst hx hb dL_law_1178 ?_
  first | refine q_iadd hx hb dL_law_1179 ⟨by omega, by omega⟩ (fun x_8 lx_8 ux_8 ex_8 => ?_) | refine q_iaddw hx hb dL_law_1179 (fun x_8 lx_8 ux_8 ex_8 => ?_)
  refine q_sld hx hb hXs hbl hbA hwX.2.2 ⟨lx_8, ux_8⟩ (by omega) (by omega) dL_law_1180 (fun x_9 lx_9 ux_9 ex_9 => ?_)
  refine lv_aload_n hx hb dL_law_1181 rfl (lv_at hl 0 rfl) ?_
  refine lv_iload hx hb dL_law_1182 (lv_at hl 4 rfl) ?_
  refine q_iconst hx hb dL_law_1184 ?_
  first | refine q_iadd hx hb dL_law_1185 ⟨by omega, by omega⟩ (fun x_10 lx_10 ux_10 ex_10 => ?_) | refine q_iaddw hx hb dL_law_1185 (fun x_10 lx_10 ux_10 ex_10 => ?_)
  refine q_sld hx hb hXs hbl hbA hwX.2.2 ⟨lx_10, ux_10⟩ (by omega) (by omega) dL_law_1186 (fun x_11 lx_11 ux_11 ex_11 => ?_)
  refine q_cf_i hA hwM (va_runV (As := [.int (iI x_9), .int (iI x_11)]) (rest := []) ⟨hx, hb, hml, hown, hts⟩ (c_X10_busy zo l D cy Mm fm mo x_9 lx_9 ux_9 x_11 lx_11 ux_11 ad hs hv _) (cwV 2 hts (gT (inV (mr39 _ (List.mem_of_getElem? (i := 15) rfl)) (mr39 _ (List.mem_of_getElem? (i := 16) rfl)) (mr39 _ (List.mem_of_getElem? (i := 17) rfl)) (mr1 _ (List.mem_of_getElem? (i := 5) rfl)) (mr39 _ (List.mem_of_getElem? (i := 18) rfl)))) rfl rfl rfl (by decide +kernel) ⟨Nat.le_of_ble_eq_true rfl, Nat.le_of_ble_eq_true rfl⟩) (Wd.preV zo hA hZ hwM hKq hs.1 hs.2.1 rfl) rfl rfl hl.1 rfl (lv_room (Nat.le_of_ble_eq_true rfl)) dL_law_1187 ⟨by show cells + 0 + 0 ≤ 601024; omega, by show slots + 0 + 0 ≤ 7293034; omega⟩) (fun x_12 L_14 f_13 H locs lx_12 ux_12 ex_12 hwM fr => ?_)
  obtain ⟨rfl, hs, hX, ex_12⟩ := ex_12
  obtain ⟨hwX, -⟩ := hwX.keep fr hwM.2.2 (fun y hy hm => apM y hm hy)
  obtain ⟨hwO, -⟩ := hwO.keep fr hwM.2.2 apOM
  have hd := hd.kp hX (by decide) (by decide) (by decide) (by decide)
  have hi := hi.kp hX (by decide) (by decide)
  have hv := hv.kp hX (by decide) (by decide)
  have q9 := hX.2 9 (by decide)
  have q15 := hX.2 15 (by decide)
  have t1 := t1.kp hX (by decide) (by decide) (by decide) (by decide) (by decide) (by decide)
  clear cw bt ex_12 ex_5 oxm
  have t9a : 0 ≤ fI f_13 mo 9 := by omega
  have t9b : fI f_13 mo 9 ≤ 168 := by omega
  have t15a : 0 ≤ fI f_13 mo 15 := by omega
  have t15b : fI f_13 mo 15 ≤ 168 := by omega
  refine lv_pop hx hb dL_law_1190 rfl ?_
  refine lv_goto (tgt := 1454) hx hb dL_law_1191 (by decide) ?_
  exact kk X f_6 f_13 fo _ _ _ _ _ (by omega) (by omega) ⟨hwX, hwM, hwO, apM, apO, apOM, m_x, o_x, hg, ⟨hs, hv, hi, hd, t9a, t9b, t15a, t15b⟩, ho, t1⟩ (lv_sub hl [0, 1, 2, 3, 4] rfl)
set_option maxHeartbeats 4000000 in
set_option maxRecDepth 100000 in
theorem wl_21 {Z : Zt} (zo : Zok Z) (zc : ∀ (A : Nat → Prop) (U : State) (H : Heap), Z A U H → ZE U) {p : Program} {l : Launch} {e : Env} {s : State} {m : MethodId} {below : List Frame} {meth : Method} {c : Code} {b Ln : Nat} {xs : Nat → Int32} {D : va_G} {cy : Cy} {cL : ClassId} {A : Nat → Prop} (hB : LB Z p l s m c b Ln xs D cy cL A) {Q : State → Prop} {x mo o : Nat} {ad : Nat → Nat} {Mm : List Nat} (y4 : Int) (ly4 : -2147483648 ≤ y4) (uy4 : y4 ≤ 2147483647) (i0 : 0 ≤ y4) (i1 : y4 + 7 ≤ (Ln : Int)) {X : List Nat} {fx fm fo : Nat → va_E} {H : Heap} {locs : List Loc} {ls : Array Slot} {cells slots : Nat} (hI : LI cy cL D A s.heap x mo o ad X fx Mm fm fo H locs) (hl : lv_has ls 7 [(0, .ref b), (1, .ref x), (2, .ref mo), (3, .ref o), (4, .int (iI y4))]) (hc : cells + 40 ≤ 601024) (hs0 : slots + 600 ≤ 7293034) (kk : ∀ (X1 : List Nat) (fx1 fm1 fo1 : Nat → va_E) (H1 : Heap) (locs1 : List Loc) (ls1 : Array Slot) (cells1 slots1 : Nat), cells1 ≤ cells + 40 → slots1 ≤ slots + 600 → LI cy cL D A s.heap x mo o ad X1 fx1 Mm fm1 fo1 H1 locs1 → lv_has ls1 7 [(0, .ref b), (1, .ref x), (2, .ref mo), (3, .ref o), (4, .int (iI y4))] → W p l e room_1 s m #[Value.ref b] below meth c H1 locs1 cells1 slots1 Q (F0 m 1454 ls1 [])) : W p l e room_1 s m #[Value.ref b] below meth c H locs cells slots Q (F0 m 1194 ls []) := by
  obtain ⟨hx, hb, hml, hown, hts, hXs, hbl, hK, hA, hbA, hZ, hlt, hLn⟩ := hB
  obtain ⟨hwX, hwM, hwO, apM, apO, apOM, m_x, o_x, hg, ⟨hs, hv, hi, hd, t9a, t9b, t15a, t15b⟩, ho, t1⟩ := hI
  obtain ⟨⟨rq, rr, im, tp, cw, oxm⟩, bt⟩ := id t1
  have hg0 := hg
  have ox0 := o_x
  have mx0 := m_x
  have hKq : va_K D vwCl (tq cy) s := hK.sub [0, 1, 2, 3, 4] rfl
  refine lv_aload_n hx hb dL_law_1194 rfl (lv_at hl 1 rfl) ?_
  refine lv_aload_n hx hb dL_law_1195 rfl (lv_at hl 0 rfl) ?_
  refine lv_iload hx hb dL_law_1196 (lv_at hl 4 rfl) ?_
  refine q_iconst hx hb dL_law_1198 ?_
  first | refine q_iadd hx hb dL_law_1199 ⟨by omega, by omega⟩ (fun x_1 lx_1 ux_1 ex_1 => ?_) | refine q_iaddw hx hb dL_law_1199 (fun x_1 lx_1 ux_1 ex_1 => ?_)
  refine q_sld hx hb hXs hbl hbA hwX.2.2 ⟨lx_1, ux_1⟩ (by omega) (by omega) dL_law_1200 (fun x_2 lx_2 ux_2 ex_2 => ?_)
  refine lv_aload_n hx hb dL_law_1201 rfl (lv_at hl 0 rfl) ?_
  refine lv_iload hx hb dL_law_1202 (lv_at hl 4 rfl) ?_
  refine q_iconst hx hb dL_law_1204 ?_
  first | refine q_iadd hx hb dL_law_1205 ⟨by omega, by omega⟩ (fun x_3 lx_3 ux_3 ex_3 => ?_) | refine q_iaddw hx hb dL_law_1205 (fun x_3 lx_3 ux_3 ex_3 => ?_)
  refine q_sld hx hb hXs hbl hbA hwX.2.2 ⟨lx_3, ux_3⟩ (by omega) (by omega) dL_law_1206 (fun x_4 lx_4 ux_4 ex_4 => ?_)
  refine lv_aload_n hx hb dL_law_1207 rfl (lv_at hl 0 rfl) ?_
  refine lv_iload hx hb dL_law_1208 (lv_at hl 4 rfl) ?_
  refine q_iconst hx hb dL_law_1210 ?_
  first | refine q_iadd hx hb dL_law_1211 ⟨by omega, by omega⟩ (fun x_5 lx_5 ux_5 ex_5 => ?_) | refine q_iaddw hx hb dL_law_1211 (fun x_5 lx_5 ux_5 ex_5 => ?_)
  refine q_sld hx hb hXs hbl hbA hwX.2.2 ⟨lx_5, ux_5⟩ (by omega) (by omega) dL_law_1212 (fun x_6 lx_6 ux_6 ex_6 => ?_)
  obtain ⟨Os, hOs⟩ := OX.all oxm
  refine q_cf_i hA hwX (va_runV (As := [.int (iI x_2), .int (iI x_4), .int (iI x_6)]) (rest := []) ⟨hx, hb, hml, hown, hts⟩ (c_X9_busiest_o zo l D cy X fx x x_2 lx_2 ux_2 x_4 lx_4 ux_4 x_6 lx_6 ux_6 m_x o_x hg rq (aI fm (ad 4)) (fI fm mo 5) cw.1 Os hOs (fun i i0 i1 => by have := hv.row i i0 i1; omega) (fun i i0 i1 => by have := hv.row i i0 i1; omega) _) (cwV 3 hts (gT (inV (mr39 _ (List.mem_of_getElem? (i := 23) rfl)) (mr40 _ (List.mem_of_getElem? (i := 0) rfl)) (mr40 _ (List.mem_of_getElem? (i := 1) rfl)) (mr1 _ (List.mem_of_getElem? (i := 2) rfl)) (mr40 _ (List.mem_of_getElem? (i := 2) rfl)))) rfl rfl rfl (by decide +kernel) ⟨Nat.le_of_ble_eq_true rfl, Nat.le_of_ble_eq_true rfl⟩) (Wd.preV zo hA hZ hwX hKq m_x o_x rfl) rfl rfl hl.1 rfl (lv_room (Nat.le_of_ble_eq_true rfl)) dL_law_1213 ⟨by show cells + 0 ≤ 601024; omega, by show slots + 0 ≤ 7293034; omega⟩) (fun x_7 L_9 f_8 H locs lx_7 ux_7 ex_7 hwX fr => ?_)
  obtain ⟨rfl, hg, hXc, ex_7⟩ := ex_7
  have t1 := t1.eh hg0 mx0 ox0 hXc
  have o_x := hXc.1.1.1 _ _ o_x
  obtain ⟨hwM, apM⟩ := hwM.keep fr hwX.2.2 apM
  obtain ⟨hwO, apO⟩ := hwO.keep fr hwX.2.2 apO
  refine lv_aload_n hx hb dL_law_1216 rfl (lv_at hl 2 rfl) ?_
  refine lv_aload_n hx hb dL_law_1217 rfl (lv_at hl 0 rfl) ?_
  refine lv_iload hx hb dL_law_1218 (lv_at hl 4 rfl) ?_
  refine q_iconst hx hb dL_law_1220 ?_
  first | refine q_iadd hx hb dL_law_1221 ⟨by omega, by omega⟩ (fun x_10 lx_10 ux_10 ex_10 => ?_) | refine q_iaddw hx hb dL_law_1221 (fun x_10 lx_10 ux_10 ex_10 => ?_)
  refine q_sld hx hb hXs hbl hbA hwX.2.2 ⟨lx_10, ux_10⟩ (by omega) (by omega) dL_law_1222 (fun x_11 lx_11 ux_11 ex_11 => ?_)
  refine lv_aload_n hx hb dL_law_1223 rfl (lv_at hl 0 rfl) ?_
  refine lv_iload hx hb dL_law_1224 (lv_at hl 4 rfl) ?_
  refine q_iconst hx hb dL_law_1226 ?_
  first | refine q_iadd hx hb dL_law_1227 ⟨by omega, by omega⟩ (fun x_12 lx_12 ux_12 ex_12 => ?_) | refine q_iaddw hx hb dL_law_1227 (fun x_12 lx_12 ux_12 ex_12 => ?_)
  refine q_sld hx hb hXs hbl hbA hwX.2.2 ⟨lx_12, ux_12⟩ (by omega) (by omega) dL_law_1228 (fun x_13 lx_13 ux_13 ex_13 => ?_)
  refine lv_aload_n hx hb dL_law_1229 rfl (lv_at hl 0 rfl) ?_
  refine lv_iload hx hb dL_law_1230 (lv_at hl 4 rfl) ?_
  refine q_iconst hx hb dL_law_1232 ?_
  first | refine q_iadd hx hb dL_law_1233 ⟨by omega, by omega⟩ (fun x_14 lx_14 ux_14 ex_14 => ?_) | refine q_iaddw hx hb dL_law_1233 (fun x_14 lx_14 ux_14 ex_14 => ?_)
  refine q_sld hx hb hXs hbl hbA hwX.2.2 ⟨lx_14, ux_14⟩ (by omega) (by omega) dL_law_1234 (fun x_15 lx_15 ux_15 ex_15 => ?_)
  refine q_cf_i hA hwM (va_runV (As := [.int (iI x_11), .int (iI x_13), .int (iI x_15)]) (rest := [.int (iI x_7)]) ⟨hx, hb, hml, hown, hts⟩ (c_X10_busiest_o zo l D cy Mm fm mo x_11 lx_11 ux_11 x_13 lx_13 ux_13 x_15 lx_15 ux_15 ad hs hv hd cw.mok Os (fun i hi => ⟨(hOs i hi).2.1, (hOs i hi).2.2.1⟩) _) (cwV 3 hts (gT (inV (mr40 _ (List.mem_of_getElem? (i := 3) rfl)) (mr40 _ (List.mem_of_getElem? (i := 4) rfl)) (mr40 _ (List.mem_of_getElem? (i := 5) rfl)) (mr1 _ (List.mem_of_getElem? (i := 5) rfl)) (mr40 _ (List.mem_of_getElem? (i := 6) rfl)))) rfl rfl rfl (by decide +kernel) ⟨Nat.le_of_ble_eq_true rfl, Nat.le_of_ble_eq_true rfl⟩) (Wd.preV zo hA hZ hwM hKq hs.1 hs.2.1 rfl) rfl rfl hl.1 rfl (lv_room (Nat.le_of_ble_eq_true rfl)) dL_law_1235 ⟨by show cells + 0 + 0 ≤ 601024; omega, by show slots + 0 + 0 ≤ 7293034; omega⟩) (fun x_16 L_18 f_17 H locs lx_16 ux_16 ex_16 hwM fr => ?_)
  obtain ⟨rfl, hs, hX, ex_16⟩ := ex_16
  obtain ⟨hwX, -⟩ := hwX.keep fr hwM.2.2 (fun y hy hm => apM y hm hy)
  obtain ⟨hwO, -⟩ := hwO.keep fr hwM.2.2 apOM
  have hd := hd.kp hX (by decide) (by decide) (by decide) (by decide)
  have hi := hi.kp hX (by decide) (by decide)
  have hv := hv.kp hX (by decide) (by decide)
  have q9 := hX.2 9 (by decide)
  have q15 := hX.2 15 (by decide)
  have qx_2 : x_2 = x_11 := by rw [ex_2, ex_11, show x_1 = x_10 by omega]
  have qx_4 : x_4 = x_13 := by rw [ex_4, ex_13, show x_3 = x_12 by omega]
  have qx_6 : x_6 = x_15 := by rw [ex_6, ex_15, show x_5 = x_14 by omega]
  have eqr := busiest_eq ex_7 ex_16 qx_2 qx_4 qx_6
  have t1 := t1.kp hX (by decide) (by decide) (by decide) (by decide) (by decide) (by decide)
  clear cw bt ex_16 ex_7 oxm
  have t9a : 0 ≤ fI f_17 mo 9 := by omega
  have t9b : fI f_17 mo 9 ≤ 168 := by omega
  have t15a : 0 ≤ fI f_17 mo 15 := by omega
  have t15b : fI f_17 mo 15 ≤ 168 := by omega
  refine q_icmp_eq (tgt := 1454) hx hb dL_law_1238 (by decide) ⟨lx_7, ux_7⟩ ⟨lx_16, ux_16⟩ (fun c1238 => ?_) (fun c1238 => ?_)
  · exact kk X f_8 f_17 fo _ _ _ _ _ (by omega) (by omega) ⟨hwX, hwM, hwO, apM, apO, apOM, m_x, o_x, hg, ⟨hs, hv, hi, hd, t9a, t9b, t15a, t15b⟩, ho, t1⟩ (lv_sub hl [0, 1, 2, 3, 4] rfl)
  · exact absurd eqr c1238
set_option maxHeartbeats 4000000 in
set_option maxRecDepth 100000 in
theorem wl_22 {Z : Zt} (zo : Zok Z) (zc : ∀ (A : Nat → Prop) (U : State) (H : Heap), Z A U H → ZE U) {p : Program} {l : Launch} {e : Env} {s : State} {m : MethodId} {below : List Frame} {meth : Method} {c : Code} {b Ln : Nat} {xs : Nat → Int32} {D : va_G} {cy : Cy} {cL : ClassId} {A : Nat → Prop} (hB : LB Z p l s m c b Ln xs D cy cL A) {Q : State → Prop} {x mo o : Nat} {ad : Nat → Nat} {Mm : List Nat} (y4 : Int) (ly4 : -2147483648 ≤ y4) (uy4 : y4 ≤ 2147483647) (i0 : 0 ≤ y4) (i1 : y4 + 7 ≤ (Ln : Int)) {X : List Nat} {fx fm fo : Nat → va_E} {H : Heap} {locs : List Loc} {ls : Array Slot} {cells slots : Nat} (hI : LI cy cL D A s.heap x mo o ad X fx Mm fm fo H locs) (hl : lv_has ls 7 [(0, .ref b), (1, .ref x), (2, .ref mo), (3, .ref o), (4, .int (iI y4))]) (hc : cells + 40 ≤ 601024) (hs0 : slots + 600 ≤ 7293034) (kk : ∀ (X1 : List Nat) (fx1 fm1 fo1 : Nat → va_E) (H1 : Heap) (locs1 : List Loc) (ls1 : Array Slot) (cells1 slots1 : Nat), cells1 ≤ cells + 40 → slots1 ≤ slots + 600 → LI cy cL D A s.heap x mo o ad X1 fx1 Mm fm1 fo1 H1 locs1 → lv_has ls1 7 [(0, .ref b), (1, .ref x), (2, .ref mo), (3, .ref o), (4, .int (iI y4))] → W p l e room_1 s m #[Value.ref b] below meth c H1 locs1 cells1 slots1 Q (F0 m 1454 ls1 [])) : W p l e room_1 s m #[Value.ref b] below meth c H locs cells slots Q (F0 m 1243 ls []) := by
  obtain ⟨hx, hb, hml, hown, hts, hXs, hbl, hK, hA, hbA, hZ, hlt, hLn⟩ := hB
  obtain ⟨hwX, hwM, hwO, apM, apO, apOM, m_x, o_x, hg, ⟨hs, hv, hi, hd, t9a, t9b, t15a, t15b⟩, ho, t1⟩ := hI
  obtain ⟨⟨rq, rr, im, tp, cw, oxm⟩, bt⟩ := id t1
  have hg0 := hg
  have ox0 := o_x
  have mx0 := m_x
  have hKq : va_K D vwCl (tq cy) s := hK.sub [0, 1, 2, 3, 4] rfl
  refine lv_aload_n hx hb dL_law_1243 rfl (lv_at hl 1 rfl) ?_
  refine lv_aload_n hx hb dL_law_1244 rfl (lv_at hl 0 rfl) ?_
  refine lv_iload hx hb dL_law_1245 (lv_at hl 4 rfl) ?_
  refine q_iconst hx hb dL_law_1247 ?_
  first | refine q_iadd hx hb dL_law_1248 ⟨by omega, by omega⟩ (fun x_1 lx_1 ux_1 ex_1 => ?_) | refine q_iaddw hx hb dL_law_1248 (fun x_1 lx_1 ux_1 ex_1 => ?_)
  refine q_sld hx hb hXs hbl hbA hwX.2.2 ⟨lx_1, ux_1⟩ (by omega) (by omega) dL_law_1249 (fun x_2 lx_2 ux_2 ex_2 => ?_)
  refine lv_aload_n hx hb dL_law_1250 rfl (lv_at hl 0 rfl) ?_
  refine lv_iload hx hb dL_law_1251 (lv_at hl 4 rfl) ?_
  refine q_iconst hx hb dL_law_1253 ?_
  first | refine q_iadd hx hb dL_law_1254 ⟨by omega, by omega⟩ (fun x_3 lx_3 ux_3 ex_3 => ?_) | refine q_iaddw hx hb dL_law_1254 (fun x_3 lx_3 ux_3 ex_3 => ?_)
  refine q_sld hx hb hXs hbl hbA hwX.2.2 ⟨lx_3, ux_3⟩ (by omega) (by omega) dL_law_1255 (fun x_4 lx_4 ux_4 ex_4 => ?_)
  obtain ⟨O, hO⟩ := OX.pick oxm x_2
  refine q_cf_i hA hwX (va_runV (As := [.int (iI x_2), .int (iI x_4)]) (rest := []) ⟨hx, hb, hml, hown, hts⟩ (c_X9_split_o zo l D cy X fx x x_2 lx_2 ux_2 x_4 lx_4 ux_4 m_x o_x hg rq (aI fm (ad 4)) (fI fm mo 5) cw.1 O (fun z => (hO z).1) (fun i j i0 i1 j0 j1 n => oxm.1.1.2 i j i0 i1 j0 j1 n) (fun i i0 i1 => oxm.1.1.1 i i0 i1) _) (cwV 2 hts (gT (inV (mr40 _ (List.mem_of_getElem? (i := 7) rfl)) (mr40 _ (List.mem_of_getElem? (i := 8) rfl)) (mr40 _ (List.mem_of_getElem? (i := 9) rfl)) (mr1 _ (List.mem_of_getElem? (i := 2) rfl)) (mr40 _ (List.mem_of_getElem? (i := 10) rfl)))) rfl rfl rfl (by decide +kernel) ⟨Nat.le_of_ble_eq_true rfl, Nat.le_of_ble_eq_true rfl⟩) (Wd.preV zo hA hZ hwX hKq m_x o_x rfl) rfl rfl hl.1 rfl (lv_room (Nat.le_of_ble_eq_true rfl)) dL_law_1256 ⟨by show cells + 0 ≤ 601024; omega, by show slots + 0 ≤ 7293034; omega⟩) (fun x_5 L_7 f_6 H locs lx_5 ux_5 ex_5 hwX fr => ?_)
  obtain ⟨rfl, hg, hXc, ex_5⟩ := ex_5
  have o_x := hXc.1.1 _ _ o_x
  obtain ⟨hwM, apM⟩ := hwM.keep fr hwX.2.2 apM
  obtain ⟨hwO, apO⟩ := hwO.keep fr hwX.2.2 apO
  refine lv_pop hx hb dL_law_1259 rfl ?_
  refine lv_aload_n hx hb dL_law_1260 rfl (lv_at hl 2 rfl) ?_
  refine lv_aload_n hx hb dL_law_1261 rfl (lv_at hl 0 rfl) ?_
  refine lv_iload hx hb dL_law_1262 (lv_at hl 4 rfl) ?_
  refine q_iconst hx hb dL_law_1264 ?_
  first | refine q_iadd hx hb dL_law_1265 ⟨by omega, by omega⟩ (fun x_8 lx_8 ux_8 ex_8 => ?_) | refine q_iaddw hx hb dL_law_1265 (fun x_8 lx_8 ux_8 ex_8 => ?_)
  refine q_sld hx hb hXs hbl hbA hwX.2.2 ⟨lx_8, ux_8⟩ (by omega) (by omega) dL_law_1266 (fun x_9 lx_9 ux_9 ex_9 => ?_)
  refine lv_aload_n hx hb dL_law_1267 rfl (lv_at hl 0 rfl) ?_
  refine lv_iload hx hb dL_law_1268 (lv_at hl 4 rfl) ?_
  refine q_iconst hx hb dL_law_1270 ?_
  first | refine q_iadd hx hb dL_law_1271 ⟨by omega, by omega⟩ (fun x_10 lx_10 ux_10 ex_10 => ?_) | refine q_iaddw hx hb dL_law_1271 (fun x_10 lx_10 ux_10 ex_10 => ?_)
  refine q_sld hx hb hXs hbl hbA hwX.2.2 ⟨lx_10, ux_10⟩ (by omega) (by omega) dL_law_1272 (fun x_11 lx_11 ux_11 ex_11 => ?_)
  have qx_2 : x_2 = x_9 := by rw [ex_2, ex_9, show x_1 = x_8 by omega]
  have hv0 := hv
  refine q_cf_i hA hwM (va_runV (As := [.int (iI x_9), .int (iI x_11)]) (rest := []) ⟨hx, hb, hml, hown, hts⟩ (c_X10_split_o zo l D cy Mm fm mo x_9 lx_9 ux_9 x_11 lx_11 ux_11 ad hs hv hd cw.mok O (fun z => by rw [← qx_2]; exact (hO (by rw [qx_2]; exact z)).2.1) _) (cwV 2 hts (gT (inV (mr41 _ (List.mem_of_getElem? (i := 1) rfl)) (mr41 _ (List.mem_of_getElem? (i := 2) rfl)) (mr41 _ (List.mem_of_getElem? (i := 3) rfl)) (mr1 _ (List.mem_of_getElem? (i := 5) rfl)) (mr41 _ (List.mem_of_getElem? (i := 4) rfl)))) rfl rfl rfl (by decide +kernel) ⟨Nat.le_of_ble_eq_true rfl, Nat.le_of_ble_eq_true rfl⟩) (Wd.preV zo hA hZ hwM hKq hs.1 hs.2.1 rfl) rfl rfl hl.1 rfl (lv_room (Nat.le_of_ble_eq_true rfl)) dL_law_1273 ⟨by show cells + 0 + 0 ≤ 601024; omega, by show slots + 0 + 0 ≤ 7293034; omega⟩) (fun x_12 L_14 f_13 H locs lx_12 ux_12 ex_12 hwM fr => ?_)
  obtain ⟨rfl, hs, hX, ex_12⟩ := ex_12
  obtain ⟨hwX, -⟩ := hwX.keep fr hwM.2.2 (fun y hy hm => apM y hm hy)
  obtain ⟨hwO, -⟩ := hwO.keep fr hwM.2.2 apOM
  have hd := hd.kp hX (by decide) (by decide) (by decide) (by decide)
  have hi := hi.kp hX (by decide) (by decide)
  obtain ⟨hv, ex_12⟩ := ex_12
  have q9 := hX.2 9 (by decide)
  have q15 := hX.2 15 (by decide)
  have qx_2 : x_2 = x_9 := by rw [ex_2, ex_9, show x_1 = x_8 by omega]
  have qx_4 : x_4 = x_11 := by rw [ex_4, ex_11, show x_3 = x_10 by omega]
  obtain ⟨t1, eqr⟩ := CRO.split cw oxm bt hg0 mx0 ox0 hg hXc hv0 hv hO ex_5 hX ex_12 qx_2 qx_4
  clear cw bt ex_12 ex_5 oxm
  have t9a : 0 ≤ fI f_13 mo 9 := by omega
  have t9b : fI f_13 mo 9 ≤ 168 := by omega
  have t15a : 0 ≤ fI f_13 mo 15 := by omega
  have t15b : fI f_13 mo 15 ≤ 168 := by omega
  refine lv_pop hx hb dL_law_1276 rfl ?_
  refine lv_goto (tgt := 1454) hx hb dL_law_1277 (by decide) ?_
  exact kk X f_6 f_13 fo _ _ _ _ _ (by omega) (by omega) ⟨hwX, hwM, hwO, apM, apO, apOM, m_x, o_x, hg, ⟨hs, hv, hi, hd, t9a, t9b, t15a, t15b⟩, ho, t1⟩ (lv_sub hl [0, 1, 2, 3, 4] rfl)
set_option maxHeartbeats 4000000 in
set_option maxRecDepth 100000 in
theorem wl_23 {Z : Zt} (zo : Zok Z) (zc : ∀ (A : Nat → Prop) (U : State) (H : Heap), Z A U H → ZE U) {p : Program} {l : Launch} {e : Env} {s : State} {m : MethodId} {below : List Frame} {meth : Method} {c : Code} {b Ln : Nat} {xs : Nat → Int32} {D : va_G} {cy : Cy} {cL : ClassId} {A : Nat → Prop} (hB : LB Z p l s m c b Ln xs D cy cL A) {Q : State → Prop} {x mo o : Nat} {ad : Nat → Nat} {Mm : List Nat} (y4 : Int) (ly4 : -2147483648 ≤ y4) (uy4 : y4 ≤ 2147483647) (i0 : 0 ≤ y4) (i1 : y4 + 7 ≤ (Ln : Int)) {X : List Nat} {fx fm fo : Nat → va_E} {H : Heap} {locs : List Loc} {ls : Array Slot} {cells slots : Nat} (hI : LI cy cL D A s.heap x mo o ad X fx Mm fm fo H locs) (hl : lv_has ls 7 [(0, .ref b), (1, .ref x), (2, .ref mo), (3, .ref o), (4, .int (iI y4))]) (hc : cells + 40 ≤ 601024) (hs0 : slots + 600 ≤ 7293034) (kk : ∀ (X1 : List Nat) (fx1 fm1 fo1 : Nat → va_E) (H1 : Heap) (locs1 : List Loc) (ls1 : Array Slot) (cells1 slots1 : Nat), cells1 ≤ cells + 40 → slots1 ≤ slots + 600 → LI cy cL D A s.heap x mo o ad X1 fx1 Mm fm1 fo1 H1 locs1 → lv_has ls1 7 [(0, .ref b), (1, .ref x), (2, .ref mo), (3, .ref o), (4, .int (iI y4))] → W p l e room_1 s m #[Value.ref b] below meth c H1 locs1 cells1 slots1 Q (F0 m 1454 ls1 [])) : W p l e room_1 s m #[Value.ref b] below meth c H locs cells slots Q (F0 m 1280 ls []) := by
  obtain ⟨hx, hb, hml, hown, hts, hXs, hbl, hK, hA, hbA, hZ, hlt, hLn⟩ := hB
  obtain ⟨hwX, hwM, hwO, apM, apO, apOM, m_x, o_x, hg, ⟨hs, hv, hi, hd, t9a, t9b, t15a, t15b⟩, ho, t1⟩ := hI
  obtain ⟨⟨rq, rr, im, tp, cw, oxm⟩, bt⟩ := id t1
  have hg0 := hg
  have ox0 := o_x
  have mx0 := m_x
  have hKq : va_K D vwCl (tq cy) s := hK.sub [0, 1, 2, 3, 4] rfl
  refine lv_aload_n hx hb dL_law_1280 rfl (lv_at hl 1 rfl) ?_
  refine lv_aload_n hx hb dL_law_1281 rfl (lv_at hl 0 rfl) ?_
  refine lv_iload hx hb dL_law_1282 (lv_at hl 4 rfl) ?_
  refine q_iconst hx hb dL_law_1284 ?_
  first | refine q_iadd hx hb dL_law_1285 ⟨by omega, by omega⟩ (fun x_1 lx_1 ux_1 ex_1 => ?_) | refine q_iaddw hx hb dL_law_1285 (fun x_1 lx_1 ux_1 ex_1 => ?_)
  refine q_sld hx hb hXs hbl hbA hwX.2.2 ⟨lx_1, ux_1⟩ (by omega) (by omega) dL_law_1286 (fun x_2 lx_2 ux_2 ex_2 => ?_)
  refine q_cf_i hA hwX (va_runV (As := [.int (iI x_2)]) (rest := []) ⟨hx, hb, hml, hown, hts⟩ (c_X9_period zo l D cy X fx x x_2 lx_2 ux_2 m_x o_x hg _) (cwV 1 hts (gT (inV (mr41 _ (List.mem_of_getElem? (i := 5) rfl)) (mr41 _ (List.mem_of_getElem? (i := 6) rfl)) (mr41 _ (List.mem_of_getElem? (i := 7) rfl)) (mr1 _ (List.mem_of_getElem? (i := 2) rfl)) (mr41 _ (List.mem_of_getElem? (i := 8) rfl)))) rfl rfl rfl (by decide +kernel) ⟨Nat.le_of_ble_eq_true rfl, Nat.le_of_ble_eq_true rfl⟩) (Wd.preV zo hA hZ hwX hKq m_x o_x rfl) rfl rfl hl.1 rfl (lv_room (Nat.le_of_ble_eq_true rfl)) dL_law_1287 ⟨by show cells + 0 ≤ 601024; omega, by show slots + 0 ≤ 7293034; omega⟩) (fun x_3 L_5 f_4 H locs lx_3 ux_3 ex_3 hwX fr => ?_)
  obtain ⟨rfl, rfl, ex_3⟩ := ex_3
  obtain ⟨hwM, apM⟩ := hwM.keep fr hwX.2.2 apM
  obtain ⟨hwO, apO⟩ := hwO.keep fr hwX.2.2 apO
  refine lv_pop hx hb dL_law_1290 rfl ?_
  refine lv_aload_n hx hb dL_law_1291 rfl (lv_at hl 2 rfl) ?_
  refine lv_aload_n hx hb dL_law_1292 rfl (lv_at hl 0 rfl) ?_
  refine lv_iload hx hb dL_law_1293 (lv_at hl 4 rfl) ?_
  refine q_iconst hx hb dL_law_1295 ?_
  first | refine q_iadd hx hb dL_law_1296 ⟨by omega, by omega⟩ (fun x_6 lx_6 ux_6 ex_6 => ?_) | refine q_iaddw hx hb dL_law_1296 (fun x_6 lx_6 ux_6 ex_6 => ?_)
  refine q_sld hx hb hXs hbl hbA hwX.2.2 ⟨lx_6, ux_6⟩ (by omega) (by omega) dL_law_1297 (fun x_7 lx_7 ux_7 ex_7 => ?_)
  refine q_cf_i hA hwM (va_runV (As := [.int (iI x_7)]) (rest := []) ⟨hx, hb, hml, hown, hts⟩ (c_X10_period zo l D cy Mm fm mo x_7 lx_7 ux_7 ad hs hv _) (cwV 1 hts (gT (inV (mr41 _ (List.mem_of_getElem? (i := 13) rfl)) (mr41 _ (List.mem_of_getElem? (i := 14) rfl)) (mr41 _ (List.mem_of_getElem? (i := 15) rfl)) (mr1 _ (List.mem_of_getElem? (i := 5) rfl)) (mr41 _ (List.mem_of_getElem? (i := 16) rfl)))) rfl rfl rfl (by decide +kernel) ⟨Nat.le_of_ble_eq_true rfl, Nat.le_of_ble_eq_true rfl⟩) (Wd.preV zo hA hZ hwM hKq hs.1 hs.2.1 rfl) rfl rfl hl.1 rfl (lv_room (Nat.le_of_ble_eq_true rfl)) dL_law_1298 ⟨by show cells + 0 + 0 ≤ 601024; omega, by show slots + 0 + 0 ≤ 7293034; omega⟩) (fun x_8 L_10 f_9 H locs lx_8 ux_8 ex_8 hwM fr => ?_)
  obtain ⟨rfl, hs, hX, ex_8⟩ := ex_8
  obtain ⟨hwX, -⟩ := hwX.keep fr hwM.2.2 (fun y hy hm => apM y hm hy)
  obtain ⟨hwO, -⟩ := hwO.keep fr hwM.2.2 apOM
  have hd := hd.kp hX (by decide) (by decide) (by decide) (by decide)
  have hi := hi.kp hX (by decide) (by decide)
  have hv := hv.kp hX (by decide) (by decide)
  have q9 := hX.2 9 (by decide)
  have q15 := hX.2 15 (by decide)
  have t1 := t1.kp hX (by decide) (by decide) (by decide) (by decide) (by decide) (by decide)
  clear cw bt ex_8 ex_3 oxm
  have t9a : 0 ≤ fI f_9 mo 9 := by omega
  have t9b : fI f_9 mo 9 ≤ 168 := by omega
  have t15a : 0 ≤ fI f_9 mo 15 := by omega
  have t15b : fI f_9 mo 15 ≤ 168 := by omega
  refine lv_pop hx hb dL_law_1301 rfl ?_
  refine lv_goto (tgt := 1454) hx hb dL_law_1302 (by decide) ?_
  exact kk X fx f_9 fo _ _ _ _ _ (by omega) (by omega) ⟨hwX, hwM, hwO, apM, apO, apOM, m_x, o_x, hg, ⟨hs, hv, hi, hd, t9a, t9b, t15a, t15b⟩, ho, t1⟩ (lv_sub hl [0, 1, 2, 3, 4] rfl)
set_option maxHeartbeats 4000000 in
set_option maxRecDepth 100000 in
theorem wl_24 {Z : Zt} (zo : Zok Z) (zc : ∀ (A : Nat → Prop) (U : State) (H : Heap), Z A U H → ZE U) {p : Program} {l : Launch} {e : Env} {s : State} {m : MethodId} {below : List Frame} {meth : Method} {c : Code} {b Ln : Nat} {xs : Nat → Int32} {D : va_G} {cy : Cy} {cL : ClassId} {A : Nat → Prop} (hB : LB Z p l s m c b Ln xs D cy cL A) {Q : State → Prop} {x mo o : Nat} {ad : Nat → Nat} {Mm : List Nat} (y4 : Int) (ly4 : -2147483648 ≤ y4) (uy4 : y4 ≤ 2147483647) (i0 : 0 ≤ y4) (i1 : y4 + 7 ≤ (Ln : Int)) {X : List Nat} {fx fm fo : Nat → va_E} {H : Heap} {locs : List Loc} {ls : Array Slot} {cells slots : Nat} (hI : LI cy cL D A s.heap x mo o ad X fx Mm fm fo H locs) (hl : lv_has ls 7 [(0, .ref b), (1, .ref x), (2, .ref mo), (3, .ref o), (4, .int (iI y4))]) (hc : cells + 40 ≤ 601024) (hs0 : slots + 600 ≤ 7293034) (kk : ∀ (X1 : List Nat) (fx1 fm1 fo1 : Nat → va_E) (H1 : Heap) (locs1 : List Loc) (ls1 : Array Slot) (cells1 slots1 : Nat), cells1 ≤ cells + 40 → slots1 ≤ slots + 600 → LI cy cL D A s.heap x mo o ad X1 fx1 Mm fm1 fo1 H1 locs1 → lv_has ls1 7 [(0, .ref b), (1, .ref x), (2, .ref mo), (3, .ref o), (4, .int (iI y4))] → W p l e room_1 s m #[Value.ref b] below meth c H1 locs1 cells1 slots1 Q (F0 m 1454 ls1 [])) : W p l e room_1 s m #[Value.ref b] below meth c H locs cells slots Q (F0 m 1305 ls []) := by
  obtain ⟨hx, hb, hml, hown, hts, hXs, hbl, hK, hA, hbA, hZ, hlt, hLn⟩ := hB
  obtain ⟨hwX, hwM, hwO, apM, apO, apOM, m_x, o_x, hg, ⟨hs, hv, hi, hd, t9a, t9b, t15a, t15b⟩, ho, t1⟩ := hI
  obtain ⟨⟨rq, rr, im, tp, cw, oxm⟩, bt⟩ := id t1
  have hg0 := hg
  have ox0 := o_x
  have mx0 := m_x
  have hKq : va_K D vwCl (tq cy) s := hK.sub [0, 1, 2, 3, 4] rfl
  refine lv_aload_n hx hb dL_law_1305 rfl (lv_at hl 1 rfl) ?_
  refine lv_aload_n hx hb dL_law_1306 rfl (lv_at hl 0 rfl) ?_
  refine lv_iload hx hb dL_law_1307 (lv_at hl 4 rfl) ?_
  refine q_iconst hx hb dL_law_1309 ?_
  first | refine q_iadd hx hb dL_law_1310 ⟨by omega, by omega⟩ (fun x_1 lx_1 ux_1 ex_1 => ?_) | refine q_iaddw hx hb dL_law_1310 (fun x_1 lx_1 ux_1 ex_1 => ?_)
  refine q_sld hx hb hXs hbl hbA hwX.2.2 ⟨lx_1, ux_1⟩ (by omega) (by omega) dL_law_1311 (fun x_2 lx_2 ux_2 ex_2 => ?_)
  refine lv_aload_n hx hb dL_law_1312 rfl (lv_at hl 0 rfl) ?_
  refine lv_iload hx hb dL_law_1313 (lv_at hl 4 rfl) ?_
  refine q_iconst hx hb dL_law_1315 ?_
  first | refine q_iadd hx hb dL_law_1316 ⟨by omega, by omega⟩ (fun x_3 lx_3 ux_3 ex_3 => ?_) | refine q_iaddw hx hb dL_law_1316 (fun x_3 lx_3 ux_3 ex_3 => ?_)
  refine q_sld hx hb hXs hbl hbA hwX.2.2 ⟨lx_3, ux_3⟩ (by omega) (by omega) dL_law_1317 (fun x_4 lx_4 ux_4 ex_4 => ?_)
  refine q_cf_i hA hwX (va_runV (As := [.int (iI x_2), .int (iI x_4)]) (rest := []) ⟨hx, hb, hml, hown, hts⟩ (c_X9_periodOf zo l D cy X fx x x_2 lx_2 ux_2 x_4 lx_4 ux_4 m_x o_x hg _) (cwV 2 hts (gT (inV (mr42 _ (List.mem_of_getElem? (i := 8) rfl)) (mr42 _ (List.mem_of_getElem? (i := 9) rfl)) (mr42 _ (List.mem_of_getElem? (i := 10) rfl)) (mr1 _ (List.mem_of_getElem? (i := 2) rfl)) (mr42 _ (List.mem_of_getElem? (i := 11) rfl)))) rfl rfl rfl (by decide +kernel) ⟨Nat.le_of_ble_eq_true rfl, Nat.le_of_ble_eq_true rfl⟩) (Wd.preV zo hA hZ hwX hKq m_x o_x rfl) rfl rfl hl.1 rfl (lv_room (Nat.le_of_ble_eq_true rfl)) dL_law_1318 ⟨by show cells + 0 ≤ 601024; omega, by show slots + 0 ≤ 7293034; omega⟩) (fun x_5 L_7 f_6 H locs lx_5 ux_5 ex_5 hwX fr => ?_)
  obtain ⟨rfl, rfl, ex_5⟩ := ex_5
  obtain ⟨hwM, apM⟩ := hwM.keep fr hwX.2.2 apM
  obtain ⟨hwO, apO⟩ := hwO.keep fr hwX.2.2 apO
  refine lv_pop hx hb dL_law_1321 rfl ?_
  refine lv_aload_n hx hb dL_law_1322 rfl (lv_at hl 2 rfl) ?_
  refine lv_aload_n hx hb dL_law_1323 rfl (lv_at hl 0 rfl) ?_
  refine lv_iload hx hb dL_law_1324 (lv_at hl 4 rfl) ?_
  refine q_iconst hx hb dL_law_1326 ?_
  first | refine q_iadd hx hb dL_law_1327 ⟨by omega, by omega⟩ (fun x_8 lx_8 ux_8 ex_8 => ?_) | refine q_iaddw hx hb dL_law_1327 (fun x_8 lx_8 ux_8 ex_8 => ?_)
  refine q_sld hx hb hXs hbl hbA hwX.2.2 ⟨lx_8, ux_8⟩ (by omega) (by omega) dL_law_1328 (fun x_9 lx_9 ux_9 ex_9 => ?_)
  refine lv_aload_n hx hb dL_law_1329 rfl (lv_at hl 0 rfl) ?_
  refine lv_iload hx hb dL_law_1330 (lv_at hl 4 rfl) ?_
  refine q_iconst hx hb dL_law_1332 ?_
  first | refine q_iadd hx hb dL_law_1333 ⟨by omega, by omega⟩ (fun x_10 lx_10 ux_10 ex_10 => ?_) | refine q_iaddw hx hb dL_law_1333 (fun x_10 lx_10 ux_10 ex_10 => ?_)
  refine q_sld hx hb hXs hbl hbA hwX.2.2 ⟨lx_10, ux_10⟩ (by omega) (by omega) dL_law_1334 (fun x_11 lx_11 ux_11 ex_11 => ?_)
  refine q_cf_i hA hwM (va_runV (As := [.int (iI x_9), .int (iI x_11)]) (rest := []) ⟨hx, hb, hml, hown, hts⟩ (c_X10_periodOf zo l D cy Mm fm mo x_9 lx_9 ux_9 x_11 lx_11 ux_11 ad hs hv _) (cwV 2 hts (gT (inV (mr42 _ (List.mem_of_getElem? (i := 12) rfl)) (mr42 _ (List.mem_of_getElem? (i := 13) rfl)) (mr42 _ (List.mem_of_getElem? (i := 14) rfl)) (mr1 _ (List.mem_of_getElem? (i := 5) rfl)) (mr42 _ (List.mem_of_getElem? (i := 15) rfl)))) rfl rfl rfl (by decide +kernel) ⟨Nat.le_of_ble_eq_true rfl, Nat.le_of_ble_eq_true rfl⟩) (Wd.preV zo hA hZ hwM hKq hs.1 hs.2.1 rfl) rfl rfl hl.1 rfl (lv_room (Nat.le_of_ble_eq_true rfl)) dL_law_1335 ⟨by show cells + 0 + 0 ≤ 601024; omega, by show slots + 0 + 0 ≤ 7293034; omega⟩) (fun x_12 L_14 f_13 H locs lx_12 ux_12 ex_12 hwM fr => ?_)
  obtain ⟨rfl, hs, hX, ex_12⟩ := ex_12
  obtain ⟨hwX, -⟩ := hwX.keep fr hwM.2.2 (fun y hy hm => apM y hm hy)
  obtain ⟨hwO, -⟩ := hwO.keep fr hwM.2.2 apOM
  have hd := hd.kp hX (by decide) (by decide) (by decide) (by decide)
  have hi := hi.kp hX (by decide) (by decide)
  have hv := hv.kp hX (by decide) (by decide)
  have q9 := hX.2 9 (by decide)
  have q15 := hX.2 15 (by decide)
  have t1 := t1.kp hX (by decide) (by decide) (by decide) (by decide) (by decide) (by decide)
  clear cw bt ex_12 ex_5 oxm
  have t9a : 0 ≤ fI f_13 mo 9 := by omega
  have t9b : fI f_13 mo 9 ≤ 168 := by omega
  have t15a : 0 ≤ fI f_13 mo 15 := by omega
  have t15b : fI f_13 mo 15 ≤ 168 := by omega
  refine lv_pop hx hb dL_law_1338 rfl ?_
  refine lv_goto (tgt := 1454) hx hb dL_law_1339 (by decide) ?_
  exact kk X fx f_13 fo _ _ _ _ _ (by omega) (by omega) ⟨hwX, hwM, hwO, apM, apO, apOM, m_x, o_x, hg, ⟨hs, hv, hi, hd, t9a, t9b, t15a, t15b⟩, ho, t1⟩ (lv_sub hl [0, 1, 2, 3, 4] rfl)
set_option maxHeartbeats 4000000 in
set_option maxRecDepth 100000 in
theorem wl_25 {Z : Zt} (zo : Zok Z) (zc : ∀ (A : Nat → Prop) (U : State) (H : Heap), Z A U H → ZE U) {p : Program} {l : Launch} {e : Env} {s : State} {m : MethodId} {below : List Frame} {meth : Method} {c : Code} {b Ln : Nat} {xs : Nat → Int32} {D : va_G} {cy : Cy} {cL : ClassId} {A : Nat → Prop} (hB : LB Z p l s m c b Ln xs D cy cL A) {Q : State → Prop} {x mo o : Nat} {ad : Nat → Nat} {Mm : List Nat} (y4 : Int) (ly4 : -2147483648 ≤ y4) (uy4 : y4 ≤ 2147483647) (i0 : 0 ≤ y4) (i1 : y4 + 7 ≤ (Ln : Int)) {X : List Nat} {fx fm fo : Nat → va_E} {H : Heap} {locs : List Loc} {ls : Array Slot} {cells slots : Nat} (hI : LI cy cL D A s.heap x mo o ad X fx Mm fm fo H locs) (hl : lv_has ls 7 [(0, .ref b), (1, .ref x), (2, .ref mo), (3, .ref o), (4, .int (iI y4))]) (hc : cells + 40 ≤ 601024) (hs0 : slots + 600 ≤ 7293034) (kk : ∀ (X1 : List Nat) (fx1 fm1 fo1 : Nat → va_E) (H1 : Heap) (locs1 : List Loc) (ls1 : Array Slot) (cells1 slots1 : Nat), cells1 ≤ cells + 40 → slots1 ≤ slots + 600 → LI cy cL D A s.heap x mo o ad X1 fx1 Mm fm1 fo1 H1 locs1 → lv_has ls1 7 [(0, .ref b), (1, .ref x), (2, .ref mo), (3, .ref o), (4, .int (iI y4))] → W p l e room_1 s m #[Value.ref b] below meth c H1 locs1 cells1 slots1 Q (F0 m 1454 ls1 [])) : W p l e room_1 s m #[Value.ref b] below meth c H locs cells slots Q (F0 m 1342 ls []) := by
  obtain ⟨hx, hb, hml, hown, hts, hXs, hbl, hK, hA, hbA, hZ, hlt, hLn⟩ := hB
  obtain ⟨hwX, hwM, hwO, apM, apO, apOM, m_x, o_x, hg, ⟨hs, hv, hi, hd, t9a, t9b, t15a, t15b⟩, ho, t1⟩ := hI
  obtain ⟨⟨rq, rr, im, tp, cw, oxm⟩, bt⟩ := id t1
  have hg0 := hg
  have ox0 := o_x
  have mx0 := m_x
  have hKq : va_K D vwCl (tq cy) s := hK.sub [0, 1, 2, 3, 4] rfl
  refine lv_aload_n hx hb dL_law_1342 rfl (lv_at hl 1 rfl) ?_
  refine lv_aload_n hx hb dL_law_1343 rfl (lv_at hl 0 rfl) ?_
  refine lv_iload hx hb dL_law_1344 (lv_at hl 4 rfl) ?_
  refine q_iconst hx hb dL_law_1346 ?_
  first | refine q_iadd hx hb dL_law_1347 ⟨by omega, by omega⟩ (fun x_1 lx_1 ux_1 ex_1 => ?_) | refine q_iaddw hx hb dL_law_1347 (fun x_1 lx_1 ux_1 ex_1 => ?_)
  refine q_sld hx hb hXs hbl hbA hwX.2.2 ⟨lx_1, ux_1⟩ (by omega) (by omega) dL_law_1348 (fun x_2 lx_2 ux_2 ex_2 => ?_)
  refine lv_aload_n hx hb dL_law_1349 rfl (lv_at hl 0 rfl) ?_
  refine lv_iload hx hb dL_law_1350 (lv_at hl 4 rfl) ?_
  refine q_iconst hx hb dL_law_1352 ?_
  first | refine q_iadd hx hb dL_law_1353 ⟨by omega, by omega⟩ (fun x_3 lx_3 ux_3 ex_3 => ?_) | refine q_iaddw hx hb dL_law_1353 (fun x_3 lx_3 ux_3 ex_3 => ?_)
  refine q_sld hx hb hXs hbl hbA hwX.2.2 ⟨lx_3, ux_3⟩ (by omega) (by omega) dL_law_1354 (fun x_4 lx_4 ux_4 ex_4 => ?_)
  obtain ⟨O, hO⟩ := OX.pick oxm x_2
  refine q_cf_i hA hwX (va_runV (As := [.int (iI x_2), .int (iI x_4)]) (rest := []) ⟨hx, hb, hml, hown, hts⟩ (c_X9_of zo l D cy X fx x x_2 lx_2 ux_2 x_4 lx_4 ux_4 m_x o_x hg _) (cwV 2 hts (gT (inV (mr42 _ (List.mem_of_getElem? (i := 16) rfl)) (mr42 _ (List.mem_of_getElem? (i := 17) rfl)) (mr42 _ (List.mem_of_getElem? (i := 18) rfl)) (mr1 _ (List.mem_of_getElem? (i := 2) rfl)) (mr42 _ (List.mem_of_getElem? (i := 19) rfl)))) rfl rfl rfl (by decide +kernel) ⟨Nat.le_of_ble_eq_true rfl, Nat.le_of_ble_eq_true rfl⟩) (Wd.preV zo hA hZ hwX hKq m_x o_x rfl) rfl rfl hl.1 rfl (lv_room (Nat.le_of_ble_eq_true rfl)) dL_law_1355 ⟨by show cells + 0 ≤ 601024; omega, by show slots + 0 ≤ 7293034; omega⟩) (fun x_5 L_7 f_6 H locs lx_5 ux_5 ex_5 hwX fr => ?_)
  obtain ⟨rfl, rfl, ex_5⟩ := ex_5
  obtain ⟨hwM, apM⟩ := hwM.keep fr hwX.2.2 apM
  obtain ⟨hwO, apO⟩ := hwO.keep fr hwX.2.2 apO
  refine lv_pop hx hb dL_law_1358 rfl ?_
  refine lv_aload_n hx hb dL_law_1359 rfl (lv_at hl 2 rfl) ?_
  refine lv_aload_n hx hb dL_law_1360 rfl (lv_at hl 0 rfl) ?_
  refine lv_iload hx hb dL_law_1361 (lv_at hl 4 rfl) ?_
  refine q_iconst hx hb dL_law_1363 ?_
  first | refine q_iadd hx hb dL_law_1364 ⟨by omega, by omega⟩ (fun x_8 lx_8 ux_8 ex_8 => ?_) | refine q_iaddw hx hb dL_law_1364 (fun x_8 lx_8 ux_8 ex_8 => ?_)
  refine q_sld hx hb hXs hbl hbA hwX.2.2 ⟨lx_8, ux_8⟩ (by omega) (by omega) dL_law_1365 (fun x_9 lx_9 ux_9 ex_9 => ?_)
  refine lv_aload_n hx hb dL_law_1366 rfl (lv_at hl 0 rfl) ?_
  refine lv_iload hx hb dL_law_1367 (lv_at hl 4 rfl) ?_
  refine q_iconst hx hb dL_law_1369 ?_
  first | refine q_iadd hx hb dL_law_1370 ⟨by omega, by omega⟩ (fun x_10 lx_10 ux_10 ex_10 => ?_) | refine q_iaddw hx hb dL_law_1370 (fun x_10 lx_10 ux_10 ex_10 => ?_)
  refine q_sld hx hb hXs hbl hbA hwX.2.2 ⟨lx_10, ux_10⟩ (by omega) (by omega) dL_law_1371 (fun x_11 lx_11 ux_11 ex_11 => ?_)
  have qx_2 : x_2 = x_9 := by rw [ex_2, ex_9, show x_1 = x_8 by omega]
  have hv0 := hv
  refine q_cf_i hA hwM (va_runV (As := [.int (iI x_9), .int (iI x_11)]) (rest := []) ⟨hx, hb, hml, hown, hts⟩ (c_X10_of zo l D cy Mm fm mo x_9 lx_9 ux_9 x_11 lx_11 ux_11 ad hs hv _) (cwV 2 hts (gT (inV (mr44 _ (List.mem_of_getElem? (i := 6) rfl)) (mr44 _ (List.mem_of_getElem? (i := 7) rfl)) (mr44 _ (List.mem_of_getElem? (i := 8) rfl)) (mr1 _ (List.mem_of_getElem? (i := 5) rfl)) (mr44 _ (List.mem_of_getElem? (i := 9) rfl)))) rfl rfl rfl (by decide +kernel) ⟨Nat.le_of_ble_eq_true rfl, Nat.le_of_ble_eq_true rfl⟩) (Wd.preV zo hA hZ hwM hKq hs.1 hs.2.1 rfl) rfl rfl hl.1 rfl (lv_room (Nat.le_of_ble_eq_true rfl)) dL_law_1372 ⟨by show cells + 0 + 0 ≤ 601024; omega, by show slots + 0 + 0 ≤ 7293034; omega⟩) (fun x_12 L_14 f_13 H locs lx_12 ux_12 ex_12 hwM fr => ?_)
  obtain ⟨rfl, hs, hX, ex_12⟩ := ex_12
  obtain ⟨hwX, -⟩ := hwX.keep fr hwM.2.2 (fun y hy hm => apM y hm hy)
  obtain ⟨hwO, -⟩ := hwO.keep fr hwM.2.2 apOM
  have hd := hd.kp hX (by decide) (by decide) (by decide) (by decide)
  have hi := hi.kp hX (by decide) (by decide)
  have hv := hv.kp hX (by decide) (by decide)
  have q9 := hX.2 9 (by decide)
  have q15 := hX.2 15 (by decide)
  have t1 := t1.kp hX (by decide) (by decide) (by decide) (by decide) (by decide) (by decide)
  clear cw bt ex_12 ex_5 oxm
  have t9a : 0 ≤ fI f_13 mo 9 := by omega
  have t9b : fI f_13 mo 9 ≤ 168 := by omega
  have t15a : 0 ≤ fI f_13 mo 15 := by omega
  have t15b : fI f_13 mo 15 ≤ 168 := by omega
  refine lv_pop hx hb dL_law_1375 rfl ?_
  refine lv_goto (tgt := 1454) hx hb dL_law_1376 (by decide) ?_
  exact kk X fx f_13 fo _ _ _ _ _ (by omega) (by omega) ⟨hwX, hwM, hwO, apM, apO, apOM, m_x, o_x, hg, ⟨hs, hv, hi, hd, t9a, t9b, t15a, t15b⟩, ho, t1⟩ (lv_sub hl [0, 1, 2, 3, 4] rfl)
set_option maxHeartbeats 4000000 in
set_option maxRecDepth 100000 in
theorem wl_26 {Z : Zt} (zo : Zok Z) (zc : ∀ (A : Nat → Prop) (U : State) (H : Heap), Z A U H → ZE U) {p : Program} {l : Launch} {e : Env} {s : State} {m : MethodId} {below : List Frame} {meth : Method} {c : Code} {b Ln : Nat} {xs : Nat → Int32} {D : va_G} {cy : Cy} {cL : ClassId} {A : Nat → Prop} (hB : LB Z p l s m c b Ln xs D cy cL A) {Q : State → Prop} {x mo o : Nat} {ad : Nat → Nat} {Mm : List Nat} (y4 : Int) (ly4 : -2147483648 ≤ y4) (uy4 : y4 ≤ 2147483647) (i0 : 0 ≤ y4) (i1 : y4 + 7 ≤ (Ln : Int)) {X : List Nat} {fx fm fo : Nat → va_E} {H : Heap} {locs : List Loc} {ls : Array Slot} {cells slots : Nat} (hI : LI cy cL D A s.heap x mo o ad X fx Mm fm fo H locs) (hl : lv_has ls 7 [(0, .ref b), (1, .ref x), (2, .ref mo), (3, .ref o), (4, .int (iI y4))]) (hc : cells + 40 ≤ 601024) (hs0 : slots + 600 ≤ 7293034) (kk : ∀ (X1 : List Nat) (fx1 fm1 fo1 : Nat → va_E) (H1 : Heap) (locs1 : List Loc) (ls1 : Array Slot) (cells1 slots1 : Nat), cells1 ≤ cells + 40 → slots1 ≤ slots + 600 → LI cy cL D A s.heap x mo o ad X1 fx1 Mm fm1 fo1 H1 locs1 → lv_has ls1 7 [(0, .ref b), (1, .ref x), (2, .ref mo), (3, .ref o), (4, .int (iI y4))] → W p l e room_1 s m #[Value.ref b] below meth c H1 locs1 cells1 slots1 Q (F0 m 1454 ls1 [])) : W p l e room_1 s m #[Value.ref b] below meth c H locs cells slots Q (F0 m 1379 ls []) := by
  obtain ⟨hx, hb, hml, hown, hts, hXs, hbl, hK, hA, hbA, hZ, hlt, hLn⟩ := hB
  obtain ⟨hwX, hwM, hwO, apM, apO, apOM, m_x, o_x, hg, ⟨hs, hv, hi, hd, t9a, t9b, t15a, t15b⟩, ho, t1⟩ := hI
  obtain ⟨⟨rq, rr, im, tp, cw, oxm⟩, bt⟩ := id t1
  have hg0 := hg
  have ox0 := o_x
  have mx0 := m_x
  have hKq : va_K D vwCl (tq cy) s := hK.sub [0, 1, 2, 3, 4] rfl
  refine lv_aload_n hx hb dL_law_1379 rfl (lv_at hl 1 rfl) ?_
  refine lv_aload_n hx hb dL_law_1380 rfl (lv_at hl 0 rfl) ?_
  refine lv_iload hx hb dL_law_1381 (lv_at hl 4 rfl) ?_
  refine q_iconst hx hb dL_law_1383 ?_
  first | refine q_iadd hx hb dL_law_1384 ⟨by omega, by omega⟩ (fun x_1 lx_1 ux_1 ex_1 => ?_) | refine q_iaddw hx hb dL_law_1384 (fun x_1 lx_1 ux_1 ex_1 => ?_)
  refine q_sld hx hb hXs hbl hbA hwX.2.2 ⟨lx_1, ux_1⟩ (by omega) (by omega) dL_law_1385 (fun x_2 lx_2 ux_2 ex_2 => ?_)
  refine q_cf_i hA hwX (va_runV (As := [.int (iI x_2)]) (rest := []) ⟨hx, hb, hml, hown, hts⟩ (c_X9_image_o zo l D cy X fx x x_2 lx_2 ux_2 m_x o_x hg rq (aI fm (ad 4)) (fI fm mo 5) cw.1 im cw.2.1 (rr x_2) (gIm fm ad x_2) (aI fm (ad 7) x_2) (fun h => cw.2.2.1 x_2 h.1 h.2) (fun h n => (AX.adr oxm.1 h.1 h.2 n).2) _) (cwV 1 hts (gT (inV (mr44 _ (List.mem_of_getElem? (i := 14) rfl)) (mr44 _ (List.mem_of_getElem? (i := 15) rfl)) (mr44 _ (List.mem_of_getElem? (i := 16) rfl)) (mr1 _ (List.mem_of_getElem? (i := 2) rfl)) (mr44 _ (List.mem_of_getElem? (i := 17) rfl)))) rfl rfl rfl (by decide +kernel) ⟨Nat.le_of_ble_eq_true rfl, Nat.le_of_ble_eq_true rfl⟩) (Wd.preV zo hA hZ hwX hKq m_x o_x rfl) rfl rfl hl.1 rfl (lv_room (Nat.le_of_ble_eq_true rfl)) dL_law_1386 ⟨by show cells + 39 ≤ 601024; omega, by show slots + 581 ≤ 7293034; omega⟩) (fun x_3 L_5 f_4 H locs lx_3 ux_3 ex_3 hwX fr => ?_)
  obtain ⟨hs1, hg, hXc, ex_3⟩ := ex_3
  have o_x := hXc _ m_x _ o_x
  have m_x := hs1 _ m_x
  obtain ⟨hwM, apM⟩ := hwM.keep fr hwX.2.2 apM
  obtain ⟨hwO, apO⟩ := hwO.keep fr hwX.2.2 apO
  refine lv_pop hx hb dL_law_1389 rfl ?_
  refine lv_aload_n hx hb dL_law_1390 rfl (lv_at hl 2 rfl) ?_
  refine lv_aload_n hx hb dL_law_1391 rfl (lv_at hl 0 rfl) ?_
  refine lv_iload hx hb dL_law_1392 (lv_at hl 4 rfl) ?_
  refine q_iconst hx hb dL_law_1394 ?_
  first | refine q_iadd hx hb dL_law_1395 ⟨by omega, by omega⟩ (fun x_6 lx_6 ux_6 ex_6 => ?_) | refine q_iaddw hx hb dL_law_1395 (fun x_6 lx_6 ux_6 ex_6 => ?_)
  refine q_sld hx hb hXs hbl hbA hwX.2.2 ⟨lx_6, ux_6⟩ (by omega) (by omega) dL_law_1396 (fun x_7 lx_7 ux_7 ex_7 => ?_)
  refine q_cf_i hA hwM (va_runV (As := [.int (iI x_7)]) (rest := []) ⟨hx, hb, hml, hown, hts⟩ (c_X10_image_f zo l D cy Mm fm mo x_7 lx_7 ux_7 ad hs hv hi _) (cwV 1 hts (gT (inV (mr44 _ (List.mem_of_getElem? (i := 23) rfl)) (mr45 _ (List.mem_of_getElem? (i := 0) rfl)) (mr45 _ (List.mem_of_getElem? (i := 1) rfl)) (mr1 _ (List.mem_of_getElem? (i := 5) rfl)) (mr45 _ (List.mem_of_getElem? (i := 2) rfl)))) rfl rfl rfl (by decide +kernel) ⟨Nat.le_of_ble_eq_true rfl, Nat.le_of_ble_eq_true rfl⟩) (Wd.preV zo hA hZ hwM hKq hs.1 hs.2.1 rfl) rfl rfl hl.1 rfl (lv_room (Nat.le_of_ble_eq_true rfl)) dL_law_1397 ⟨by show cells + 39 + 0 ≤ 601024; omega, by show slots + 581 + 0 ≤ 7293034; omega⟩) (fun x_8 L_10 f_9 H locs lx_8 ux_8 ex_8 hwM fr => ?_)
  obtain ⟨rfl, hs, hX, ex_8⟩ := ex_8
  obtain ⟨hwX, -⟩ := hwX.keep fr hwM.2.2 (fun y hy hm => apM y hm hy)
  obtain ⟨hwO, -⟩ := hwO.keep fr hwM.2.2 apOM
  have hd := hd.kp hX (by decide) (by decide) (by decide) (by decide)
  obtain ⟨hi, ex_8⟩ := ex_8
  have hv := hv.kp hX (by decide) (by decide)
  have q9 := hX.2 9 (by decide)
  have q15 := hX.2 15 (by decide)
  have qx_2 : x_2 = x_7 := by rw [ex_2, ex_7, show x_1 = x_6 by omega]
  obtain ⟨t1, eqr⟩ := CRO.image cw oxm bt hg0 mx0 ox0 ex_3 hX ex_8 qx_2
  clear cw bt ex_8 ex_3 oxm
  have t9a : 0 ≤ fI f_9 mo 9 := by omega
  have t9b : fI f_9 mo 9 ≤ 168 := by omega
  have t15a : 0 ≤ fI f_9 mo 15 := by omega
  have t15b : fI f_9 mo 15 ≤ 168 := by omega
  refine lv_pop hx hb dL_law_1400 rfl ?_
  refine lv_goto (tgt := 1454) hx hb dL_law_1401 (by decide) ?_
  exact kk L_5 f_4 f_9 fo _ _ _ _ _ (by omega) (by omega) ⟨hwX, hwM, hwO, apM, apO, apOM, m_x, o_x, hg, ⟨hs, hv, hi, hd, t9a, t9b, t15a, t15b⟩, ho, t1⟩ (lv_sub hl [0, 1, 2, 3, 4] rfl)
set_option maxHeartbeats 4000000 in
set_option maxRecDepth 100000 in
theorem wl_27 {Z : Zt} (zo : Zok Z) (zc : ∀ (A : Nat → Prop) (U : State) (H : Heap), Z A U H → ZE U) {p : Program} {l : Launch} {e : Env} {s : State} {m : MethodId} {below : List Frame} {meth : Method} {c : Code} {b Ln : Nat} {xs : Nat → Int32} {D : va_G} {cy : Cy} {cL : ClassId} {A : Nat → Prop} (hB : LB Z p l s m c b Ln xs D cy cL A) {Q : State → Prop} {x mo o : Nat} {ad : Nat → Nat} {Mm : List Nat} (y4 : Int) (ly4 : -2147483648 ≤ y4) (uy4 : y4 ≤ 2147483647) (i0 : 0 ≤ y4) (i1 : y4 + 7 ≤ (Ln : Int)) {X : List Nat} {fx fm fo : Nat → va_E} {H : Heap} {locs : List Loc} {ls : Array Slot} {cells slots : Nat} (hI : LI cy cL D A s.heap x mo o ad X fx Mm fm fo H locs) (hl : lv_has ls 7 [(0, .ref b), (1, .ref x), (2, .ref mo), (3, .ref o), (4, .int (iI y4))]) (hc : cells + 40 ≤ 601024) (hs0 : slots + 600 ≤ 7293034) (kk : ∀ (X1 : List Nat) (fx1 fm1 fo1 : Nat → va_E) (H1 : Heap) (locs1 : List Loc) (ls1 : Array Slot) (cells1 slots1 : Nat), cells1 ≤ cells + 40 → slots1 ≤ slots + 600 → LI cy cL D A s.heap x mo o ad X1 fx1 Mm fm1 fo1 H1 locs1 → lv_has ls1 7 [(0, .ref b), (1, .ref x), (2, .ref mo), (3, .ref o), (4, .int (iI y4))] → W p l e room_1 s m #[Value.ref b] below meth c H1 locs1 cells1 slots1 Q (F0 m 1454 ls1 [])) : W p l e room_1 s m #[Value.ref b] below meth c H locs cells slots Q (F0 m 1404 ls []) := by
  obtain ⟨hx, hb, hml, hown, hts, hXs, hbl, hK, hA, hbA, hZ, hlt, hLn⟩ := hB
  obtain ⟨hwX, hwM, hwO, apM, apO, apOM, m_x, o_x, hg, ⟨hs, hv, hi, hd, t9a, t9b, t15a, t15b⟩, ho, t1⟩ := hI
  obtain ⟨⟨rq, rr, im, tp, cw, oxm⟩, bt⟩ := id t1
  have hg0 := hg
  have ox0 := o_x
  have mx0 := m_x
  have hKq : va_K D vwCl (tq cy) s := hK.sub [0, 1, 2, 3, 4] rfl
  refine lv_aload_n hx hb dL_law_1404 rfl (lv_at hl 1 rfl) ?_
  refine lv_aload_n hx hb dL_law_1405 rfl (lv_at hl 0 rfl) ?_
  refine lv_iload hx hb dL_law_1406 (lv_at hl 4 rfl) ?_
  refine q_iconst hx hb dL_law_1408 ?_
  first | refine q_iadd hx hb dL_law_1409 ⟨by omega, by omega⟩ (fun x_1 lx_1 ux_1 ex_1 => ?_) | refine q_iaddw hx hb dL_law_1409 (fun x_1 lx_1 ux_1 ex_1 => ?_)
  refine q_sld hx hb hXs hbl hbA hwX.2.2 ⟨lx_1, ux_1⟩ (by omega) (by omega) dL_law_1410 (fun x_2 lx_2 ux_2 ex_2 => ?_)
  refine q_cf_i hA hwX (va_runV (As := [.int (iI x_2)]) (rest := []) ⟨hx, hb, hml, hown, hts⟩ (c_X9_back_o zo l D cy X fx x x_2 lx_2 ux_2 m_x o_x hg rq (aI fm (ad 4)) (fI fm mo 5) cw.1 im cw.2.1 (rr x_2) (gIm fm ad x_2) (aI fm (ad 7) x_2) (fun h => cw.2.2.1 x_2 h.1 h.2) (fun h n => (AX.adr oxm.1 h.1 h.2 n).1) _) (cwV 1 hts (gT (inV (mr45 _ (List.mem_of_getElem? (i := 3) rfl)) (mr45 _ (List.mem_of_getElem? (i := 4) rfl)) (mr45 _ (List.mem_of_getElem? (i := 5) rfl)) (mr1 _ (List.mem_of_getElem? (i := 2) rfl)) (mr45 _ (List.mem_of_getElem? (i := 6) rfl)))) rfl rfl rfl (by decide +kernel) ⟨Nat.le_of_ble_eq_true rfl, Nat.le_of_ble_eq_true rfl⟩) (Wd.preV zo hA hZ hwX hKq m_x o_x rfl) rfl rfl hl.1 rfl (lv_room (Nat.le_of_ble_eq_true rfl)) dL_law_1411 ⟨by show cells + 0 ≤ 601024; omega, by show slots + 0 ≤ 7293034; omega⟩) (fun x_3 L_5 f_4 H locs lx_3 ux_3 ex_3 hwX fr => ?_)
  obtain ⟨rfl, hg, hXc, ex_3⟩ := ex_3
  have o_x := hXc.1.1 _ _ o_x
  obtain ⟨hwM, apM⟩ := hwM.keep fr hwX.2.2 apM
  obtain ⟨hwO, apO⟩ := hwO.keep fr hwX.2.2 apO
  refine lv_pop hx hb dL_law_1414 rfl ?_
  refine lv_aload_n hx hb dL_law_1415 rfl (lv_at hl 2 rfl) ?_
  refine lv_aload_n hx hb dL_law_1416 rfl (lv_at hl 0 rfl) ?_
  refine lv_iload hx hb dL_law_1417 (lv_at hl 4 rfl) ?_
  refine q_iconst hx hb dL_law_1419 ?_
  first | refine q_iadd hx hb dL_law_1420 ⟨by omega, by omega⟩ (fun x_6 lx_6 ux_6 ex_6 => ?_) | refine q_iaddw hx hb dL_law_1420 (fun x_6 lx_6 ux_6 ex_6 => ?_)
  refine q_sld hx hb hXs hbl hbA hwX.2.2 ⟨lx_6, ux_6⟩ (by omega) (by omega) dL_law_1421 (fun x_7 lx_7 ux_7 ex_7 => ?_)
  refine q_cf_i hA hwM (va_runV (As := [.int (iI x_7)]) (rest := []) ⟨hx, hb, hml, hown, hts⟩ (c_X10_back_f zo l D cy Mm fm mo x_7 lx_7 ux_7 ad hs hv hi _) (cwV 1 hts (gT (inV (mr45 _ (List.mem_of_getElem? (i := 7) rfl)) (mr45 _ (List.mem_of_getElem? (i := 8) rfl)) (mr45 _ (List.mem_of_getElem? (i := 9) rfl)) (mr1 _ (List.mem_of_getElem? (i := 5) rfl)) (mr45 _ (List.mem_of_getElem? (i := 10) rfl)))) rfl rfl rfl (by decide +kernel) ⟨Nat.le_of_ble_eq_true rfl, Nat.le_of_ble_eq_true rfl⟩) (Wd.preV zo hA hZ hwM hKq hs.1 hs.2.1 rfl) rfl rfl hl.1 rfl (lv_room (Nat.le_of_ble_eq_true rfl)) dL_law_1422 ⟨by show cells + 0 + 0 ≤ 601024; omega, by show slots + 0 + 0 ≤ 7293034; omega⟩) (fun x_8 L_10 f_9 H locs lx_8 ux_8 ex_8 hwM fr => ?_)
  obtain ⟨rfl, hs, hX, ex_8⟩ := ex_8
  obtain ⟨hwX, -⟩ := hwX.keep fr hwM.2.2 (fun y hy hm => apM y hm hy)
  obtain ⟨hwO, -⟩ := hwO.keep fr hwM.2.2 apOM
  have hd := hd.kp hX (by decide) (by decide) (by decide) (by decide)
  have hi := hi.kp hX (by decide) (by decide)
  obtain ⟨hv, ex_8⟩ := ex_8
  have q9 := hX.2 9 (by decide)
  have q15 := hX.2 15 (by decide)
  have qx_2 : x_2 = x_7 := by rw [ex_2, ex_7, show x_1 = x_6 by omega]
  obtain ⟨t1, eqr⟩ := CRO.back cw oxm bt hg0 mx0 ox0 ex_3 hX ex_8 qx_2
  clear cw bt ex_8 ex_3 oxm
  have t9a : 0 ≤ fI f_9 mo 9 := by omega
  have t9b : fI f_9 mo 9 ≤ 168 := by omega
  have t15a : 0 ≤ fI f_9 mo 15 := by omega
  have t15b : fI f_9 mo 15 ≤ 168 := by omega
  refine lv_pop hx hb dL_law_1425 rfl ?_
  refine lv_goto (tgt := 1454) hx hb dL_law_1426 (by decide) ?_
  exact kk X f_4 f_9 fo _ _ _ _ _ (by omega) (by omega) ⟨hwX, hwM, hwO, apM, apO, apOM, m_x, o_x, hg, ⟨hs, hv, hi, hd, t9a, t9b, t15a, t15b⟩, ho, t1⟩ (lv_sub hl [0, 1, 2, 3, 4] rfl)
set_option maxHeartbeats 4000000 in
set_option maxRecDepth 100000 in
theorem wl_28 {Z : Zt} (zo : Zok Z) (zc : ∀ (A : Nat → Prop) (U : State) (H : Heap), Z A U H → ZE U) {p : Program} {l : Launch} {e : Env} {s : State} {m : MethodId} {below : List Frame} {meth : Method} {c : Code} {b Ln : Nat} {xs : Nat → Int32} {D : va_G} {cy : Cy} {cL : ClassId} {A : Nat → Prop} (hB : LB Z p l s m c b Ln xs D cy cL A) {Q : State → Prop} {x mo o : Nat} {ad : Nat → Nat} {Mm : List Nat} (y4 : Int) (ly4 : -2147483648 ≤ y4) (uy4 : y4 ≤ 2147483647) (i0 : 0 ≤ y4) (i1 : y4 + 7 ≤ (Ln : Int)) {X : List Nat} {fx fm fo : Nat → va_E} {H : Heap} {locs : List Loc} {ls : Array Slot} {cells slots : Nat} (hI : LI cy cL D A s.heap x mo o ad X fx Mm fm fo H locs) (hl : lv_has ls 7 [(0, .ref b), (1, .ref x), (2, .ref mo), (3, .ref o), (4, .int (iI y4))]) (hc : cells + 40 ≤ 601024) (hs0 : slots + 600 ≤ 7293034) (kk : ∀ (X1 : List Nat) (fx1 fm1 fo1 : Nat → va_E) (H1 : Heap) (locs1 : List Loc) (ls1 : Array Slot) (cells1 slots1 : Nat), cells1 ≤ cells + 40 → slots1 ≤ slots + 600 → LI cy cL D A s.heap x mo o ad X1 fx1 Mm fm1 fo1 H1 locs1 → lv_has ls1 7 [(0, .ref b), (1, .ref x), (2, .ref mo), (3, .ref o), (4, .int (iI y4))] → W p l e room_1 s m #[Value.ref b] below meth c H1 locs1 cells1 slots1 Q (F0 m 1454 ls1 [])) : W p l e room_1 s m #[Value.ref b] below meth c H locs cells slots Q (F0 m 1429 ls []) := by
  obtain ⟨hx, hb, hml, hown, hts, hXs, hbl, hK, hA, hbA, hZ, hlt, hLn⟩ := hB
  obtain ⟨hwX, hwM, hwO, apM, apO, apOM, m_x, o_x, hg, ⟨hs, hv, hi, hd, t9a, t9b, t15a, t15b⟩, ho, t1⟩ := hI
  obtain ⟨⟨rq, rr, im, tp, cw, oxm⟩, bt⟩ := id t1
  have hg0 := hg
  have ox0 := o_x
  have mx0 := m_x
  have hKq : va_K D vwCl (tq cy) s := hK.sub [0, 1, 2, 3, 4] rfl
  refine lv_aload_n hx hb dL_law_1429 rfl (lv_at hl 1 rfl) ?_
  refine lv_aload_n hx hb dL_law_1430 rfl (lv_at hl 0 rfl) ?_
  refine lv_iload hx hb dL_law_1431 (lv_at hl 4 rfl) ?_
  refine q_iconst hx hb dL_law_1433 ?_
  first | refine q_iadd hx hb dL_law_1434 ⟨by omega, by omega⟩ (fun x_1 lx_1 ux_1 ex_1 => ?_) | refine q_iaddw hx hb dL_law_1434 (fun x_1 lx_1 ux_1 ex_1 => ?_)
  refine q_sld hx hb hXs hbl hbA hwX.2.2 ⟨lx_1, ux_1⟩ (by omega) (by omega) dL_law_1435 (fun x_2 lx_2 ux_2 ex_2 => ?_)
  refine q_cf_i hA hwX (va_runV (As := [.int (iI x_2)]) (rest := []) ⟨hx, hb, hml, hown, hts⟩ (c_X9_told zo l D cy X fx x x_2 lx_2 ux_2 m_x o_x hg _) (cwV 1 hts (gT (inV (mr45 _ (List.mem_of_getElem? (i := 11) rfl)) (mr45 _ (List.mem_of_getElem? (i := 12) rfl)) (mr45 _ (List.mem_of_getElem? (i := 13) rfl)) (mr1 _ (List.mem_of_getElem? (i := 2) rfl)) (mr45 _ (List.mem_of_getElem? (i := 14) rfl)))) rfl rfl rfl (by decide +kernel) ⟨Nat.le_of_ble_eq_true rfl, Nat.le_of_ble_eq_true rfl⟩) (Wd.preV zo hA hZ hwX hKq m_x o_x rfl) rfl rfl hl.1 rfl (lv_room (Nat.le_of_ble_eq_true rfl)) dL_law_1436 ⟨by show cells + 0 ≤ 601024; omega, by show slots + 0 ≤ 7293034; omega⟩) (fun x_3 L_5 f_4 H locs lx_3 ux_3 ex_3 hwX fr => ?_)
  obtain ⟨rfl, rfl, ex_3⟩ := ex_3
  obtain ⟨hwM, apM⟩ := hwM.keep fr hwX.2.2 apM
  obtain ⟨hwO, apO⟩ := hwO.keep fr hwX.2.2 apO
  refine lv_pop hx hb dL_law_1439 rfl ?_
  refine lv_aload_n hx hb dL_law_1440 rfl (lv_at hl 2 rfl) ?_
  refine lv_aload_n hx hb dL_law_1441 rfl (lv_at hl 0 rfl) ?_
  refine lv_iload hx hb dL_law_1442 (lv_at hl 4 rfl) ?_
  refine q_iconst hx hb dL_law_1444 ?_
  first | refine q_iadd hx hb dL_law_1445 ⟨by omega, by omega⟩ (fun x_6 lx_6 ux_6 ex_6 => ?_) | refine q_iaddw hx hb dL_law_1445 (fun x_6 lx_6 ux_6 ex_6 => ?_)
  refine q_sld hx hb hXs hbl hbA hwX.2.2 ⟨lx_6, ux_6⟩ (by omega) (by omega) dL_law_1446 (fun x_7 lx_7 ux_7 ex_7 => ?_)
  refine q_cf_i hA hwM (va_runV (As := [.int (iI x_7)]) (rest := []) ⟨hx, hb, hml, hown, hts⟩ (c_X10_told zo l D cy Mm fm mo x_7 lx_7 ux_7 ad hs hv _) (cwV 1 hts (gT (inV (mr45 _ (List.mem_of_getElem? (i := 23) rfl)) (mr46 _ (List.mem_of_getElem? (i := 0) rfl)) (mr46 _ (List.mem_of_getElem? (i := 1) rfl)) (mr1 _ (List.mem_of_getElem? (i := 5) rfl)) (mr46 _ (List.mem_of_getElem? (i := 2) rfl)))) rfl rfl rfl (by decide +kernel) ⟨Nat.le_of_ble_eq_true rfl, Nat.le_of_ble_eq_true rfl⟩) (Wd.preV zo hA hZ hwM hKq hs.1 hs.2.1 rfl) rfl rfl hl.1 rfl (lv_room (Nat.le_of_ble_eq_true rfl)) dL_law_1447 ⟨by show cells + 0 + 0 ≤ 601024; omega, by show slots + 0 + 0 ≤ 7293034; omega⟩) (fun x_8 L_10 f_9 H locs lx_8 ux_8 ex_8 hwM fr => ?_)
  obtain ⟨rfl, hs, hX, ex_8⟩ := ex_8
  obtain ⟨hwX, -⟩ := hwX.keep fr hwM.2.2 (fun y hy hm => apM y hm hy)
  obtain ⟨hwO, -⟩ := hwO.keep fr hwM.2.2 apOM
  have hd := hd.kp hX (by decide) (by decide) (by decide) (by decide)
  have hi := hi.kp hX (by decide) (by decide)
  have hv := hv.kp hX (by decide) (by decide)
  have q9 := hX.2 9 (by decide)
  have q15 := hX.2 15 (by decide)
  have t1 := t1.kp hX (by decide) (by decide) (by decide) (by decide) (by decide) (by decide)
  clear cw bt ex_8 ex_3 oxm
  have t9a : 0 ≤ fI f_9 mo 9 := by omega
  have t9b : fI f_9 mo 9 ≤ 168 := by omega
  have t15a : 0 ≤ fI f_9 mo 15 := by omega
  have t15b : fI f_9 mo 15 ≤ 168 := by omega
  refine lv_pop hx hb dL_law_1450 rfl ?_
  refine lv_goto (tgt := 1454) hx hb dL_law_1451 (by decide) ?_
  exact kk X fx f_9 fo _ _ _ _ _ (by omega) (by omega) ⟨hwX, hwM, hwO, apM, apO, apOM, m_x, o_x, hg, ⟨hs, hv, hi, hd, t9a, t9b, t15a, t15b⟩, ho, t1⟩ (lv_sub hl [0, 1, 2, 3, 4] rfl)
