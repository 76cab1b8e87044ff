set_option maxHeartbeats 4000000 in
set_option maxRecDepth 100000 in
theorem wl_10 {Z : Zt} (zo : Zok Z) (zc : ∀ (A : Nat → Prop) (U : State) (H : Heap), Z A U H → ZE U) {p : Program} {l : Launch} {e : Env} {s : State} {m : MethodId} {below : List Frame} {meth : Method} {c : Code} {b Ln : Nat} {xs : Nat → Int32} {D : va_G} {cy : Cy} {cL : ClassId} {A : Nat → Prop} (hB : LB Z p l s m c b Ln xs D cy cL A) {Q : State → Prop} {x mo o : Nat} {ad : Nat → Nat} {Mm : List Nat} (y4 : Int) (ly4 : -2147483648 ≤ y4) (uy4 : y4 ≤ 2147483647) (i0 : 0 ≤ y4) (i1 : y4 + 7 ≤ (Ln : Int)) {X : List Nat} {fx fm fo : Nat → va_E} {H : Heap} {locs : List Loc} {ls : Array Slot} {cells slots : Nat} (hI : LI cy cL D A s.heap x mo o ad X fx Mm fm fo H locs) (hl : lv_has ls 7 [(0, .ref b), (1, .ref x), (2, .ref mo), (3, .ref o), (4, .int (iI y4))]) (hc : cells + 40 ≤ 601024) (hs0 : slots + 600 ≤ 7293034) (kk : ∀ (X1 : List Nat) (fx1 fm1 fo1 : Nat → va_E) (H1 : Heap) (locs1 : List Loc) (ls1 : Array Slot) (cells1 slots1 : Nat), cells1 ≤ cells + 40 → slots1 ≤ slots + 600 → LI cy cL D A s.heap x mo o ad X1 fx1 Mm fm1 fo1 H1 locs1 → lv_has ls1 7 [(0, .ref b), (1, .ref x), (2, .ref mo), (3, .ref o), (4, .int (iI y4))] → W p l e room_1 s m #[Value.ref b] below meth c H1 locs1 cells1 slots1 Q (F0 m 1454 ls1 [])) : W p l e room_1 s m #[Value.ref b] below meth c H locs cells slots Q (F0 m 640 ls []) := by
  obtain ⟨hx, hb, hml, hown, hts, hXs, hbl, hK, hA, hbA, hZ, hlt, hLn⟩ := hB
  obtain ⟨hwX, hwM, hwO, apM, apO, apOM, m_x, o_x, hg, ⟨hs, hv, hi, hd, t9a, t9b, t15a, t15b⟩, ho, t1⟩ := hI
  obtain ⟨⟨rq, rr, im, tp, cw, oxm⟩, bt⟩ := id t1
  have hg0 := hg
  have ox0 := o_x
  have mx0 := m_x
  have hKq : va_K D vwCl (tq cy) s := hK.sub [0, 1, 2, 3, 4] rfl
  refine lv_aload_n hx hb dL_law_640 rfl (lv_at hl 1 rfl) ?_
  refine lv_aload_n hx hb dL_law_641 rfl (lv_at hl 0 rfl) ?_
  refine lv_iload hx hb dL_law_642 (lv_at hl 4 rfl) ?_
  refine q_iconst hx hb dL_law_644 ?_
  first | refine q_iadd hx hb dL_law_645 ⟨by omega, by omega⟩ (fun x_1 lx_1 ux_1 ex_1 => ?_) | refine q_iaddw hx hb dL_law_645 (fun x_1 lx_1 ux_1 ex_1 => ?_)
  refine q_sld hx hb hXs hbl hbA hwX.2.2 ⟨lx_1, ux_1⟩ (by omega) (by omega) dL_law_646 (fun x_2 lx_2 ux_2 ex_2 => ?_)
  refine lv_aload_n hx hb dL_law_647 rfl (lv_at hl 0 rfl) ?_
  refine lv_iload hx hb dL_law_648 (lv_at hl 4 rfl) ?_
  refine q_iconst hx hb dL_law_650 ?_
  first | refine q_iadd hx hb dL_law_651 ⟨by omega, by omega⟩ (fun x_3 lx_3 ux_3 ex_3 => ?_) | refine q_iaddw hx hb dL_law_651 (fun x_3 lx_3 ux_3 ex_3 => ?_)
  refine q_sld hx hb hXs hbl hbA hwX.2.2 ⟨lx_3, ux_3⟩ (by omega) (by omega) dL_law_652 (fun x_4 lx_4 ux_4 ex_4 => ?_)
  obtain ⟨O, hO⟩ := OX.pick oxm x_2
  refine q_cf_i hA hwX (va_runV (As := [.int (iI x_2), .int (iI x_4)]) (rest := []) ⟨hx, hb, hml, hown, hts⟩ (c_X9_restore_o zo l D cy X fx x x_2 lx_2 ux_2 x_4 lx_4 ux_4 m_x o_x hg rq (aI fm (ad 4)) (fI fm mo 5) cw.1 O (fun z => (hO z).1) (fun z => oxm.1.1.1 _ z.1 (by have := hv.2.1; omega)) _) (cwV 2 hts (gT (inV (mr28 _ (List.mem_of_getElem? (i := 7) rfl)) (mr28 _ (List.mem_of_getElem? (i := 8) rfl)) (mr28 _ (List.mem_of_getElem? (i := 9) rfl)) (mr1 _ (List.mem_of_getElem? (i := 2) rfl)) (mr28 _ (List.mem_of_getElem? (i := 10) rfl)))) rfl rfl rfl (by decide +kernel) ⟨Nat.le_of_ble_eq_true rfl, Nat.le_of_ble_eq_true rfl⟩) (Wd.preV zo hA hZ hwX hKq m_x o_x rfl) rfl rfl hl.1 rfl (lv_room (Nat.le_of_ble_eq_true rfl)) dL_law_653 ⟨by show cells + 0 ≤ 601024; omega, by show slots + 0 ≤ 7293034; omega⟩) (fun x_5 L_7 f_6 H locs lx_5 ux_5 ex_5 hwX fr => ?_)
  obtain ⟨rfl, hg, hXc, ex_5⟩ := ex_5
  have o_x := hXc.1.1 _ _ o_x
  obtain ⟨hwM, apM⟩ := hwM.keep fr hwX.2.2 apM
  obtain ⟨hwO, apO⟩ := hwO.keep fr hwX.2.2 apO
  refine lv_pop hx hb dL_law_656 rfl ?_
  refine lv_aload_n hx hb dL_law_657 rfl (lv_at hl 2 rfl) ?_
  refine lv_aload_n hx hb dL_law_658 rfl (lv_at hl 0 rfl) ?_
  refine lv_iload hx hb dL_law_659 (lv_at hl 4 rfl) ?_
  refine q_iconst hx hb dL_law_661 ?_
  first | refine q_iadd hx hb dL_law_662 ⟨by omega, by omega⟩ (fun x_8 lx_8 ux_8 ex_8 => ?_) | refine q_iaddw hx hb dL_law_662 (fun x_8 lx_8 ux_8 ex_8 => ?_)
  refine q_sld hx hb hXs hbl hbA hwX.2.2 ⟨lx_8, ux_8⟩ (by omega) (by omega) dL_law_663 (fun x_9 lx_9 ux_9 ex_9 => ?_)
  refine lv_aload_n hx hb dL_law_664 rfl (lv_at hl 0 rfl) ?_
  refine lv_iload hx hb dL_law_665 (lv_at hl 4 rfl) ?_
  refine q_iconst hx hb dL_law_667 ?_
  first | refine q_iadd hx hb dL_law_668 ⟨by omega, by omega⟩ (fun x_10 lx_10 ux_10 ex_10 => ?_) | refine q_iaddw hx hb dL_law_668 (fun x_10 lx_10 ux_10 ex_10 => ?_)
  refine q_sld hx hb hXs hbl hbA hwX.2.2 ⟨lx_10, ux_10⟩ (by omega) (by omega) dL_law_669 (fun x_11 lx_11 ux_11 ex_11 => ?_)
  have qx_2 : x_2 = x_9 := by rw [ex_2, ex_9, show x_1 = x_8 by omega]
  have hv0 := hv
  refine q_cf_i hA hwM (va_runV (As := [.int (iI x_9), .int (iI x_11)]) (rest := []) ⟨hx, hb, hml, hown, hts⟩ (c_X10_restore_o zo l D cy Mm fm mo x_9 lx_9 ux_9 x_11 lx_11 ux_11 ad hs hv hd cw.mok O (fun z => by rw [← qx_2]; exact (hO (by rw [qx_2]; exact z)).2.1) _) (cwV 2 hts (gT (inV (mr28 _ (List.mem_of_getElem? (i := 19) rfl)) (mr28 _ (List.mem_of_getElem? (i := 20) rfl)) (mr28 _ (List.mem_of_getElem? (i := 21) rfl)) (mr1 _ (List.mem_of_getElem? (i := 5) rfl)) (mr28 _ (List.mem_of_getElem? (i := 22) rfl)))) rfl rfl rfl (by decide +kernel) ⟨Nat.le_of_ble_eq_true rfl, Nat.le_of_ble_eq_true rfl⟩) (Wd.preV zo hA hZ hwM hKq hs.1 hs.2.1 rfl) rfl rfl hl.1 rfl (lv_room (Nat.le_of_ble_eq_true rfl)) dL_law_670 ⟨by show cells + 0 + 0 ≤ 601024; omega, by show slots + 0 + 0 ≤ 7293034; omega⟩) (fun x_12 L_14 f_13 H locs lx_12 ux_12 ex_12 hwM fr => ?_)
  obtain ⟨rfl, hs, hX, ex_12⟩ := ex_12
  obtain ⟨hwX, -⟩ := hwX.keep fr hwM.2.2 (fun y hy hm => apM y hm hy)
  obtain ⟨hwO, -⟩ := hwO.keep fr hwM.2.2 apOM
  have hd := hd.kp hX (by decide) (by decide) (by decide) (by decide)
  have hi := hi.kp hX (by decide) (by decide)
  obtain ⟨hv, ex_12⟩ := ex_12
  have q9 := hX.2 9 (by decide)
  have q15 := hX.2 15 (by decide)
  have qx_2 : x_2 = x_9 := by rw [ex_2, ex_9, show x_1 = x_8 by omega]
  have qx_4 : x_4 = x_11 := by rw [ex_4, ex_11, show x_3 = x_10 by omega]
  obtain ⟨t1, eqr⟩ := CRO.restore cw oxm bt hg0 mx0 ox0 hv hO ex_5 hX ex_12 qx_2 qx_4
  clear cw bt ex_12 ex_5 oxm
  have t9a : 0 ≤ fI f_13 mo 9 := by omega
  have t9b : fI f_13 mo 9 ≤ 168 := by omega
  have t15a : 0 ≤ fI f_13 mo 15 := by omega
  have t15b : fI f_13 mo 15 ≤ 168 := by omega
  refine lv_pop hx hb dL_law_673 rfl ?_
  refine lv_goto (tgt := 1454) hx hb dL_law_674 (by decide) ?_
  exact kk X f_6 f_13 fo _ _ _ _ _ (by omega) (by omega) ⟨hwX, hwM, hwO, apM, apO, apOM, m_x, o_x, hg, ⟨hs, hv, hi, hd, t9a, t9b, t15a, t15b⟩, ho, t1⟩ (lv_sub hl [0, 1, 2, 3, 4] rfl)
set_option maxHeartbeats 4000000 in
set_option maxRecDepth 100000 in
theorem wl_11 {Z : Zt} (zo : Zok Z) (zc : ∀ (A : Nat → Prop) (U : State) (H : Heap), Z A U H → ZE U) {p : Program} {l : Launch} {e : Env} {s : State} {m : MethodId} {below : List Frame} {meth : Method} {c : Code} {b Ln : Nat} {xs : Nat → Int32} {D : va_G} {cy : Cy} {cL : ClassId} {A : Nat → Prop} (hB : LB Z p l s m c b Ln xs D cy cL A) {Q : State → Prop} {x mo o : Nat} {ad : Nat → Nat} {Mm : List Nat} (y4 : Int) (ly4 : -2147483648 ≤ y4) (uy4 : y4 ≤ 2147483647) (i0 : 0 ≤ y4) (i1 : y4 + 7 ≤ (Ln : Int)) {X : List Nat} {fx fm fo : Nat → va_E} {H : Heap} {locs : List Loc} {ls : Array Slot} {cells slots : Nat} (hI : LI cy cL D A s.heap x mo o ad X fx Mm fm fo H locs) (hl : lv_has ls 7 [(0, .ref b), (1, .ref x), (2, .ref mo), (3, .ref o), (4, .int (iI y4))]) (hc : cells + 40 ≤ 601024) (hs0 : slots + 600 ≤ 7293034) (kk : ∀ (X1 : List Nat) (fx1 fm1 fo1 : Nat → va_E) (H1 : Heap) (locs1 : List Loc) (ls1 : Array Slot) (cells1 slots1 : Nat), cells1 ≤ cells + 40 → slots1 ≤ slots + 600 → LI cy cL D A s.heap x mo o ad X1 fx1 Mm fm1 fo1 H1 locs1 → lv_has ls1 7 [(0, .ref b), (1, .ref x), (2, .ref mo), (3, .ref o), (4, .int (iI y4))] → W p l e room_1 s m #[Value.ref b] below meth c H1 locs1 cells1 slots1 Q (F0 m 1454 ls1 [])) : W p l e room_1 s m #[Value.ref b] below meth c H locs cells slots Q (F0 m 677 ls []) := by
  obtain ⟨hx, hb, hml, hown, hts, hXs, hbl, hK, hA, hbA, hZ, hlt, hLn⟩ := hB
  obtain ⟨hwX, hwM, hwO, apM, apO, apOM, m_x, o_x, hg, ⟨hs, hv, hi, hd, t9a, t9b, t15a, t15b⟩, ho, t1⟩ := hI
  obtain ⟨⟨rq, rr, im, tp, cw, oxm⟩, bt⟩ := id t1
  have hg0 := hg
  have ox0 := o_x
  have mx0 := m_x
  have hKq : va_K D vwCl (tq cy) s := hK.sub [0, 1, 2, 3, 4] rfl
  refine lv_aload_n hx hb dL_law_677 rfl (lv_at hl 1 rfl) ?_
  refine lv_aload_n hx hb dL_law_678 rfl (lv_at hl 0 rfl) ?_
  refine lv_iload hx hb dL_law_679 (lv_at hl 4 rfl) ?_
  refine q_iconst hx hb dL_law_681 ?_
  first | refine q_iadd hx hb dL_law_682 ⟨by omega, by omega⟩ (fun x_1 lx_1 ux_1 ex_1 => ?_) | refine q_iaddw hx hb dL_law_682 (fun x_1 lx_1 ux_1 ex_1 => ?_)
  refine q_sld hx hb hXs hbl hbA hwX.2.2 ⟨lx_1, ux_1⟩ (by omega) (by omega) dL_law_683 (fun x_2 lx_2 ux_2 ex_2 => ?_)
  refine lv_aload_n hx hb dL_law_684 rfl (lv_at hl 0 rfl) ?_
  refine lv_iload hx hb dL_law_685 (lv_at hl 4 rfl) ?_
  refine q_iconst hx hb dL_law_687 ?_
  first | refine q_iadd hx hb dL_law_688 ⟨by omega, by omega⟩ (fun x_3 lx_3 ux_3 ex_3 => ?_) | refine q_iaddw hx hb dL_law_688 (fun x_3 lx_3 ux_3 ex_3 => ?_)
  refine q_sld hx hb hXs hbl hbA hwX.2.2 ⟨lx_3, ux_3⟩ (by omega) (by omega) dL_law_689 (fun x_4 lx_4 ux_4 ex_4 => ?_)
  refine lv_aload_n hx hb dL_law_690 rfl (lv_at hl 0 rfl) ?_
  refine lv_iload hx hb dL_law_691 (lv_at hl 4 rfl) ?_
  refine q_iconst hx hb dL_law_693 ?_
  first | refine q_iadd hx hb dL_law_694 ⟨by omega, by omega⟩ (fun x_5 lx_5 ux_5 ex_5 => ?_) | refine q_iaddw hx hb dL_law_694 (fun x_5 lx_5 ux_5 ex_5 => ?_)
  refine q_sld hx hb hXs hbl hbA hwX.2.2 ⟨lx_5, ux_5⟩ (by omega) (by omega) dL_law_695 (fun x_6 lx_6 ux_6 ex_6 => ?_)
  refine q_cf_i hA hwX (va_runV (As := [.int (iI x_2), .int (iI x_4), .int (iI x_6)]) (rest := []) ⟨hx, hb, hml, hown, hts⟩ (c_X9_next_h zo l D cy X fx x x_2 lx_2 ux_2 x_4 lx_4 ux_4 x_6 lx_6 ux_6 m_x o_x hg _) (cwV 3 hts (gT (inV (mr29 _ (List.mem_of_getElem? (i := 3) rfl)) (mr29 _ (List.mem_of_getElem? (i := 4) rfl)) (mr29 _ (List.mem_of_getElem? (i := 5) rfl)) (mr1 _ (List.mem_of_getElem? (i := 2) rfl)) (mr29 _ (List.mem_of_getElem? (i := 6) rfl)))) rfl rfl rfl (by decide +kernel) ⟨Nat.le_of_ble_eq_true rfl, Nat.le_of_ble_eq_true rfl⟩) (Wd.preV zo hA hZ hwX hKq m_x o_x rfl) rfl rfl hl.1 rfl (lv_room (Nat.le_of_ble_eq_true rfl)) dL_law_696 ⟨by show cells + 0 ≤ 601024; omega, by show slots + 0 ≤ 7293034; omega⟩) (fun x_7 L_9 f_8 H locs lx_7 ux_7 ex_7 hwX fr => ?_)
  obtain ⟨rfl, hg, hXc, ex_7⟩ := ex_7
  have t1 := t1.eh hg0 mx0 ox0 hXc
  have o_x := hXc.1.1.1 _ _ o_x
  obtain ⟨hwM, apM⟩ := hwM.keep fr hwX.2.2 apM
  obtain ⟨hwO, apO⟩ := hwO.keep fr hwX.2.2 apO
  refine lv_pop hx hb dL_law_699 rfl ?_
  refine lv_aload_n hx hb dL_law_700 rfl (lv_at hl 2 rfl) ?_
  refine lv_aload_n hx hb dL_law_701 rfl (lv_at hl 0 rfl) ?_
  refine lv_iload hx hb dL_law_702 (lv_at hl 4 rfl) ?_
  refine q_iconst hx hb dL_law_704 ?_
  first | refine q_iadd hx hb dL_law_705 ⟨by omega, by omega⟩ (fun x_10 lx_10 ux_10 ex_10 => ?_) | refine q_iaddw hx hb dL_law_705 (fun x_10 lx_10 ux_10 ex_10 => ?_)
  refine q_sld hx hb hXs hbl hbA hwX.2.2 ⟨lx_10, ux_10⟩ (by omega) (by omega) dL_law_706 (fun x_11 lx_11 ux_11 ex_11 => ?_)
  refine lv_aload_n hx hb dL_law_707 rfl (lv_at hl 0 rfl) ?_
  refine lv_iload hx hb dL_law_708 (lv_at hl 4 rfl) ?_
  refine q_iconst hx hb dL_law_710 ?_
  first | refine q_iadd hx hb dL_law_711 ⟨by omega, by omega⟩ (fun x_12 lx_12 ux_12 ex_12 => ?_) | refine q_iaddw hx hb dL_law_711 (fun x_12 lx_12 ux_12 ex_12 => ?_)
  refine q_sld hx hb hXs hbl hbA hwX.2.2 ⟨lx_12, ux_12⟩ (by omega) (by omega) dL_law_712 (fun x_13 lx_13 ux_13 ex_13 => ?_)
  refine lv_aload_n hx hb dL_law_713 rfl (lv_at hl 0 rfl) ?_
  refine lv_iload hx hb dL_law_714 (lv_at hl 4 rfl) ?_
  refine q_iconst hx hb dL_law_716 ?_
  first | refine q_iadd hx hb dL_law_717 ⟨by omega, by omega⟩ (fun x_14 lx_14 ux_14 ex_14 => ?_) | refine q_iaddw hx hb dL_law_717 (fun x_14 lx_14 ux_14 ex_14 => ?_)
  refine q_sld hx hb hXs hbl hbA hwX.2.2 ⟨lx_14, ux_14⟩ (by omega) (by omega) dL_law_718 (fun x_15 lx_15 ux_15 ex_15 => ?_)
  refine q_cf_i hA hwM (va_runV (As := [.int (iI x_11), .int (iI x_13), .int (iI x_15)]) (rest := []) ⟨hx, hb, hml, hown, hts⟩ (c_X10_next_ zo l D cy Mm fm mo x_11 lx_11 ux_11 x_13 lx_13 ux_13 x_15 lx_15 ux_15 ad hs hv _) (cwV 3 hts (gT (inV (mr30 _ (List.mem_of_getElem? (i := 7) rfl)) (mr30 _ (List.mem_of_getElem? (i := 8) rfl)) (mr30 _ (List.mem_of_getElem? (i := 9) rfl)) (mr1 _ (List.mem_of_getElem? (i := 5) rfl)) (mr30 _ (List.mem_of_getElem? (i := 10) rfl)))) rfl rfl rfl (by decide +kernel) ⟨Nat.le_of_ble_eq_true rfl, Nat.le_of_ble_eq_true rfl⟩) (Wd.preV zo hA hZ hwM hKq hs.1 hs.2.1 rfl) rfl rfl hl.1 rfl (lv_room (Nat.le_of_ble_eq_true rfl)) dL_law_719 ⟨by show cells + 0 + 0 ≤ 601024; omega, by show slots + 0 + 0 ≤ 7293034; omega⟩) (fun x_16 L_18 f_17 H locs lx_16 ux_16 ex_16 hwM fr => ?_)
  obtain ⟨rfl, hs, hX, ex_16⟩ := ex_16
  obtain ⟨hwX, -⟩ := hwX.keep fr hwM.2.2 (fun y hy hm => apM y hm hy)
  obtain ⟨hwO, -⟩ := hwO.keep fr hwM.2.2 apOM
  have hd := hd.kp hX (by decide) (by decide) (by decide) (by decide)
  have hi := hi.kp hX (by decide) (by decide)
  have hv := hv.kp hX (by decide) (by decide)
  have q9 := hX.2 9 (by decide)
  have q15 := hX.2 15 (by decide)
  have t1 := t1.kp hX (by decide) (by decide) (by decide) (by decide) (by decide) (by decide)
  clear cw bt ex_16 ex_7 oxm
  have t9a : 0 ≤ fI f_17 mo 9 := by omega
  have t9b : fI f_17 mo 9 ≤ 168 := by omega
  have t15a : 0 ≤ fI f_17 mo 15 := by omega
  have t15b : fI f_17 mo 15 ≤ 168 := by omega
  refine lv_pop hx hb dL_law_722 rfl ?_
  refine lv_goto (tgt := 1454) hx hb dL_law_723 (by decide) ?_
  exact kk X f_8 f_17 fo _ _ _ _ _ (by omega) (by omega) ⟨hwX, hwM, hwO, apM, apO, apOM, m_x, o_x, hg, ⟨hs, hv, hi, hd, t9a, t9b, t15a, t15b⟩, ho, t1⟩ (lv_sub hl [0, 1, 2, 3, 4] rfl)
set_option maxHeartbeats 4000000 in
set_option maxRecDepth 100000 in
theorem wl_12 {Z : Zt} (zo : Zok Z) (zc : ∀ (A : Nat → Prop) (U : State) (H : Heap), Z A U H → ZE U) {p : Program} {l : Launch} {e : Env} {s : State} {m : MethodId} {below : List Frame} {meth : Method} {c : Code} {b Ln : Nat} {xs : Nat → Int32} {D : va_G} {cy : Cy} {cL : ClassId} {A : Nat → Prop} (hB : LB Z p l s m c b Ln xs D cy cL A) {Q : State → Prop} {x mo o : Nat} {ad : Nat → Nat} {Mm : List Nat} (y4 : Int) (ly4 : -2147483648 ≤ y4) (uy4 : y4 ≤ 2147483647) (i0 : 0 ≤ y4) (i1 : y4 + 7 ≤ (Ln : Int)) {X : List Nat} {fx fm fo : Nat → va_E} {H : Heap} {locs : List Loc} {ls : Array Slot} {cells slots : Nat} (hI : LI cy cL D A s.heap x mo o ad X fx Mm fm fo H locs) (hl : lv_has ls 7 [(0, .ref b), (1, .ref x), (2, .ref mo), (3, .ref o), (4, .int (iI y4))]) (hc : cells + 40 ≤ 601024) (hs0 : slots + 600 ≤ 7293034) (kk : ∀ (X1 : List Nat) (fx1 fm1 fo1 : Nat → va_E) (H1 : Heap) (locs1 : List Loc) (ls1 : Array Slot) (cells1 slots1 : Nat), cells1 ≤ cells + 40 → slots1 ≤ slots + 600 → LI cy cL D A s.heap x mo o ad X1 fx1 Mm fm1 fo1 H1 locs1 → lv_has ls1 7 [(0, .ref b), (1, .ref x), (2, .ref mo), (3, .ref o), (4, .int (iI y4))] → W p l e room_1 s m #[Value.ref b] below meth c H1 locs1 cells1 slots1 Q (F0 m 1454 ls1 [])) : W p l e room_1 s m #[Value.ref b] below meth c H locs cells slots Q (F0 m 726 ls []) := by
  obtain ⟨hx, hb, hml, hown, hts, hXs, hbl, hK, hA, hbA, hZ, hlt, hLn⟩ := hB
  obtain ⟨hwX, hwM, hwO, apM, apO, apOM, m_x, o_x, hg, ⟨hs, hv, hi, hd, t9a, t9b, t15a, t15b⟩, ho, t1⟩ := hI
  obtain ⟨⟨rq, rr, im, tp, cw, oxm⟩, bt⟩ := id t1
  have hg0 := hg
  have ox0 := o_x
  have mx0 := m_x
  have hKq : va_K D vwCl (tq cy) s := hK.sub [0, 1, 2, 3, 4] rfl
  refine lv_aload_n hx hb dL_law_726 rfl (lv_at hl 1 rfl) ?_
  refine lv_aload_n hx hb dL_law_727 rfl (lv_at hl 0 rfl) ?_
  refine lv_iload hx hb dL_law_728 (lv_at hl 4 rfl) ?_
  refine q_iconst hx hb dL_law_730 ?_
  first | refine q_iadd hx hb dL_law_731 ⟨by omega, by omega⟩ (fun x_1 lx_1 ux_1 ex_1 => ?_) | refine q_iaddw hx hb dL_law_731 (fun x_1 lx_1 ux_1 ex_1 => ?_)
  refine q_sld hx hb hXs hbl hbA hwX.2.2 ⟨lx_1, ux_1⟩ (by omega) (by omega) dL_law_732 (fun x_2 lx_2 ux_2 ex_2 => ?_)
  refine lv_aload_n hx hb dL_law_733 rfl (lv_at hl 0 rfl) ?_
  refine lv_iload hx hb dL_law_734 (lv_at hl 4 rfl) ?_
  refine q_iconst hx hb dL_law_736 ?_
  first | refine q_iadd hx hb dL_law_737 ⟨by omega, by omega⟩ (fun x_3 lx_3 ux_3 ex_3 => ?_) | refine q_iaddw hx hb dL_law_737 (fun x_3 lx_3 ux_3 ex_3 => ?_)
  refine q_sld hx hb hXs hbl hbA hwX.2.2 ⟨lx_3, ux_3⟩ (by omega) (by omega) dL_law_738 (fun x_4 lx_4 ux_4 ex_4 => ?_)
  refine lv_aload_n hx hb dL_law_739 rfl (lv_at hl 0 rfl) ?_
  refine lv_iload hx hb dL_law_740 (lv_at hl 4 rfl) ?_
  refine q_iconst hx hb dL_law_742 ?_
  first | refine q_iadd hx hb dL_law_743 ⟨by omega, by omega⟩ (fun x_5 lx_5 ux_5 ex_5 => ?_) | refine q_iaddw hx hb dL_law_743 (fun x_5 lx_5 ux_5 ex_5 => ?_)
  refine q_sld hx hb hXs hbl hbA hwX.2.2 ⟨lx_5, ux_5⟩ (by omega) (by omega) dL_law_744 (fun x_6 lx_6 ux_6 ex_6 => ?_)
  refine q_cf_i hA hwX (va_runV (As := [.int (iI x_2), .int (iI x_4), .int (iI x_6)]) (rest := []) ⟨hx, hb, hml, hown, hts⟩ (c_X9_ahead_h zo l D cy X fx x x_2 lx_2 ux_2 x_4 lx_4 ux_4 x_6 lx_6 ux_6 m_x o_x hg _) (cwV 3 hts (gT (inV (mr30 _ (List.mem_of_getElem? (i := 15) rfl)) (mr30 _ (List.mem_of_getElem? (i := 16) rfl)) (mr30 _ (List.mem_of_getElem? (i := 17) rfl)) (mr1 _ (List.mem_of_getElem? (i := 2) rfl)) (mr30 _ (List.mem_of_getElem? (i := 18) rfl)))) rfl rfl rfl (by decide +kernel) ⟨Nat.le_of_ble_eq_true rfl, Nat.le_of_ble_eq_true rfl⟩) (Wd.preV zo hA hZ hwX hKq m_x o_x rfl) rfl rfl hl.1 rfl (lv_room (Nat.le_of_ble_eq_true rfl)) dL_law_745 ⟨by show cells + 0 ≤ 601024; omega, by show slots + 0 ≤ 7293034; omega⟩) (fun x_7 L_9 f_8 H locs lx_7 ux_7 ex_7 hwX fr => ?_)
  obtain ⟨rfl, hg, hXc, ex_7⟩ := ex_7
  have t1 := t1.eh hg0 mx0 ox0 hXc
  have o_x := hXc.1.1.1 _ _ o_x
  obtain ⟨hwM, apM⟩ := hwM.keep fr hwX.2.2 apM
  obtain ⟨hwO, apO⟩ := hwO.keep fr hwX.2.2 apO
  refine lv_pop hx hb dL_law_748 rfl ?_
  refine lv_aload_n hx hb dL_law_749 rfl (lv_at hl 2 rfl) ?_
  refine lv_aload_n hx hb dL_law_750 rfl (lv_at hl 0 rfl) ?_
  refine lv_iload hx hb dL_law_751 (lv_at hl 4 rfl) ?_
  refine q_iconst hx hb dL_law_753 ?_
  first | refine q_iadd hx hb dL_law_754 ⟨by omega, by omega⟩ (fun x_10 lx_10 ux_10 ex_10 => ?_) | refine q_iaddw hx hb dL_law_754 (fun x_10 lx_10 ux_10 ex_10 => ?_)
  refine q_sld hx hb hXs hbl hbA hwX.2.2 ⟨lx_10, ux_10⟩ (by omega) (by omega) dL_law_755 (fun x_11 lx_11 ux_11 ex_11 => ?_)
  refine lv_aload_n hx hb dL_law_756 rfl (lv_at hl 0 rfl) ?_
  refine lv_iload hx hb dL_law_757 (lv_at hl 4 rfl) ?_
  refine q_iconst hx hb dL_law_759 ?_
  first | refine q_iadd hx hb dL_law_760 ⟨by omega, by omega⟩ (fun x_12 lx_12 ux_12 ex_12 => ?_) | refine q_iaddw hx hb dL_law_760 (fun x_12 lx_12 ux_12 ex_12 => ?_)
  refine q_sld hx hb hXs hbl hbA hwX.2.2 ⟨lx_12, ux_12⟩ (by omega) (by omega) dL_law_761 (fun x_13 lx_13 ux_13 ex_13 => ?_)
  refine lv_aload_n hx hb dL_law_762 rfl (lv_at hl 0 rfl) ?_
  refine lv_iload hx hb dL_law_763 (lv_at hl 4 rfl) ?_
  refine q_iconst hx hb dL_law_765 ?_
  first | refine q_iadd hx hb dL_law_766 ⟨by omega, by omega⟩ (fun x_14 lx_14 ux_14 ex_14 => ?_) | refine q_iaddw hx hb dL_law_766 (fun x_14 lx_14 ux_14 ex_14 => ?_)
  refine q_sld hx hb hXs hbl hbA hwX.2.2 ⟨lx_14, ux_14⟩ (by omega) (by omega) dL_law_767 (fun x_15 lx_15 ux_15 ex_15 => ?_)
  refine q_cf_i hA hwM (va_runV (As := [.int (iI x_11), .int (iI x_13), .int (iI x_15)]) (rest := []) ⟨hx, hb, hml, hown, hts⟩ (c_X10_ahead zo l D cy Mm fm mo x_11 lx_11 ux_11 x_13 lx_13 ux_13 x_15 lx_15 ux_15 ad hs hv _) (cwV 3 hts (gT (inV (mr31 _ (List.mem_of_getElem? (i := 7) rfl)) (mr31 _ (List.mem_of_getElem? (i := 8) rfl)) (mr31 _ (List.mem_of_getElem? (i := 9) rfl)) (mr1 _ (List.mem_of_getElem? (i := 5) rfl)) (mr31 _ (List.mem_of_getElem? (i := 10) rfl)))) rfl rfl rfl (by decide +kernel) ⟨Nat.le_of_ble_eq_true rfl, Nat.le_of_ble_eq_true rfl⟩) (Wd.preV zo hA hZ hwM hKq hs.1 hs.2.1 rfl) rfl rfl hl.1 rfl (lv_room (Nat.le_of_ble_eq_true rfl)) dL_law_768 ⟨by show cells + 0 + 0 ≤ 601024; omega, by show slots + 0 + 0 ≤ 7293034; omega⟩) (fun x_16 L_18 f_17 H locs lx_16 ux_16 ex_16 hwM fr => ?_)
  obtain ⟨rfl, hs, hX, ex_16⟩ := ex_16
  obtain ⟨hwX, -⟩ := hwX.keep fr hwM.2.2 (fun y hy hm => apM y hm hy)
  obtain ⟨hwO, -⟩ := hwO.keep fr hwM.2.2 apOM
  have hd := hd.kp hX (by decide) (by decide) (by decide) (by decide)
  have hi := hi.kp hX (by decide) (by decide)
  have hv := hv.kp hX (by decide) (by decide)
  have q9 := hX.2 9 (by decide)
  have q15 := hX.2 15 (by decide)
  have t1 := t1.kp hX (by decide) (by decide) (by decide) (by decide) (by decide) (by decide)
  clear cw bt ex_16 ex_7 oxm
  have t9a : 0 ≤ fI f_17 mo 9 := by omega
  have t9b : fI f_17 mo 9 ≤ 168 := by omega
  have t15a : 0 ≤ fI f_17 mo 15 := by omega
  have t15b : fI f_17 mo 15 ≤ 168 := by omega
  refine lv_pop hx hb dL_law_771 rfl ?_
  refine lv_goto (tgt := 1454) hx hb dL_law_772 (by decide) ?_
  exact kk X f_8 f_17 fo _ _ _ _ _ (by omega) (by omega) ⟨hwX, hwM, hwO, apM, apO, apOM, m_x, o_x, hg, ⟨hs, hv, hi, hd, t9a, t9b, t15a, t15b⟩, ho, t1⟩ (lv_sub hl [0, 1, 2, 3, 4] rfl)
set_option maxHeartbeats 4000000 in
set_option maxRecDepth 100000 in
theorem wl_13 {Z : Zt} (zo : Zok Z) (zc : ∀ (A : Nat → Prop) (U : State) (H : Heap), Z A U H → ZE U) {p : Program} {l : Launch} {e : Env} {s : State} {m : MethodId} {below : List Frame} {meth : Method} {c : Code} {b Ln : Nat} {xs : Nat → Int32} {D : va_G} {cy : Cy} {cL : ClassId} {A : Nat → Prop} (hB : LB Z p l s m c b Ln xs D cy cL A) {Q : State → Prop} {x mo o : Nat} {ad : Nat → Nat} {Mm : List Nat} (y4 : Int) (ly4 : -2147483648 ≤ y4) (uy4 : y4 ≤ 2147483647) (i0 : 0 ≤ y4) (i1 : y4 + 7 ≤ (Ln : Int)) {X : List Nat} {fx fm fo : Nat → va_E} {H : Heap} {locs : List Loc} {ls : Array Slot} {cells slots : Nat} (hI : LI cy cL D A s.heap x mo o ad X fx Mm fm fo H locs) (hl : lv_has ls 7 [(0, .ref b), (1, .ref x), (2, .ref mo), (3, .ref o), (4, .int (iI y4))]) (hc : cells + 40 ≤ 601024) (hs0 : slots + 600 ≤ 7293034) (kk : ∀ (X1 : List Nat) (fx1 fm1 fo1 : Nat → va_E) (H1 : Heap) (locs1 : List Loc) (ls1 : Array Slot) (cells1 slots1 : Nat), cells1 ≤ cells + 40 → slots1 ≤ slots + 600 → LI cy cL D A s.heap x mo o ad X1 fx1 Mm fm1 fo1 H1 locs1 → lv_has ls1 7 [(0, .ref b), (1, .ref x), (2, .ref mo), (3, .ref o), (4, .int (iI y4))] → W p l e room_1 s m #[Value.ref b] below meth c H1 locs1 cells1 slots1 Q (F0 m 1454 ls1 [])) : W p l e room_1 s m #[Value.ref b] below meth c H locs cells slots Q (F0 m 775 ls []) := by
  obtain ⟨hx, hb, hml, hown, hts, hXs, hbl, hK, hA, hbA, hZ, hlt, hLn⟩ := hB
  obtain ⟨hwX, hwM, hwO, apM, apO, apOM, m_x, o_x, hg, ⟨hs, hv, hi, hd, t9a, t9b, t15a, t15b⟩, ho, t1⟩ := hI
  obtain ⟨⟨rq, rr, im, tp, cw, oxm⟩, bt⟩ := id t1
  have hg0 := hg
  have ox0 := o_x
  have mx0 := m_x
  have hKq : va_K D vwCl (tq cy) s := hK.sub [0, 1, 2, 3, 4] rfl
  refine lv_aload_n hx hb dL_law_775 rfl (lv_at hl 1 rfl) ?_
  refine lv_aload_n hx hb dL_law_776 rfl (lv_at hl 0 rfl) ?_
  refine lv_iload hx hb dL_law_777 (lv_at hl 4 rfl) ?_
  refine q_iconst hx hb dL_law_779 ?_
  first | refine q_iadd hx hb dL_law_780 ⟨by omega, by omega⟩ (fun x_1 lx_1 ux_1 ex_1 => ?_) | refine q_iaddw hx hb dL_law_780 (fun x_1 lx_1 ux_1 ex_1 => ?_)
  refine q_sld hx hb hXs hbl hbA hwX.2.2 ⟨lx_1, ux_1⟩ (by omega) (by omega) dL_law_781 (fun x_2 lx_2 ux_2 ex_2 => ?_)
  refine lv_aload_n hx hb dL_law_782 rfl (lv_at hl 0 rfl) ?_
  refine lv_iload hx hb dL_law_783 (lv_at hl 4 rfl) ?_
  refine q_iconst hx hb dL_law_785 ?_
  first | refine q_iadd hx hb dL_law_786 ⟨by omega, by omega⟩ (fun x_3 lx_3 ux_3 ex_3 => ?_) | refine q_iaddw hx hb dL_law_786 (fun x_3 lx_3 ux_3 ex_3 => ?_)
  refine q_sld hx hb hXs hbl hbA hwX.2.2 ⟨lx_3, ux_3⟩ (by omega) (by omega) dL_law_787 (fun x_4 lx_4 ux_4 ex_4 => ?_)
  refine lv_aload_n hx hb dL_law_788 rfl (lv_at hl 0 rfl) ?_
  refine lv_iload hx hb dL_law_789 (lv_at hl 4 rfl) ?_
  refine q_iconst hx hb dL_law_791 ?_
  first | refine q_iadd hx hb dL_law_792 ⟨by omega, by omega⟩ (fun x_5 lx_5 ux_5 ex_5 => ?_) | refine q_iaddw hx hb dL_law_792 (fun x_5 lx_5 ux_5 ex_5 => ?_)
  refine q_sld hx hb hXs hbl hbA hwX.2.2 ⟨lx_5, ux_5⟩ (by omega) (by omega) dL_law_793 (fun x_6 lx_6 ux_6 ex_6 => ?_)
  refine q_cf_i hA hwX (va_runV (As := [.int (iI x_2), .int (iI x_4), .int (iI x_6)]) (rest := []) ⟨hx, hb, hml, hown, hts⟩ (c_X9_count zo l D cy X fx x x_2 lx_2 ux_2 x_4 lx_4 ux_4 x_6 lx_6 ux_6 m_x o_x hg _) (cwV 3 hts (gT (inV (mr31 _ (List.mem_of_getElem? (i := 11) rfl)) (mr31 _ (List.mem_of_getElem? (i := 12) rfl)) (mr31 _ (List.mem_of_getElem? (i := 13) rfl)) (mr1 _ (List.mem_of_getElem? (i := 2) rfl)) (mr31 _ (List.mem_of_getElem? (i := 14) rfl)))) rfl rfl rfl (by decide +kernel) ⟨Nat.le_of_ble_eq_true rfl, Nat.le_of_ble_eq_true rfl⟩) (Wd.preV zo hA hZ hwX hKq m_x o_x rfl) rfl rfl hl.1 rfl (lv_room (Nat.le_of_ble_eq_true rfl)) dL_law_794 ⟨by show cells + 0 ≤ 601024; omega, by show slots + 0 ≤ 7293034; omega⟩) (fun x_7 L_9 f_8 H locs lx_7 ux_7 ex_7 hwX fr => ?_)
  obtain ⟨rfl, rfl, ex_7⟩ := ex_7
  obtain ⟨hwM, apM⟩ := hwM.keep fr hwX.2.2 apM
  obtain ⟨hwO, apO⟩ := hwO.keep fr hwX.2.2 apO
  refine lv_pop hx hb dL_law_797 rfl ?_
  refine lv_aload_n hx hb dL_law_798 rfl (lv_at hl 2 rfl) ?_
  refine lv_aload_n hx hb dL_law_799 rfl (lv_at hl 0 rfl) ?_
  refine lv_iload hx hb dL_law_800 (lv_at hl 4 rfl) ?_
  refine q_iconst hx hb dL_law_802 ?_
  first | refine q_iadd hx hb dL_law_803 ⟨by omega, by omega⟩ (fun x_10 lx_10 ux_10 ex_10 => ?_) | refine q_iaddw hx hb dL_law_803 (fun x_10 lx_10 ux_10 ex_10 => ?_)
  refine q_sld hx hb hXs hbl hbA hwX.2.2 ⟨lx_10, ux_10⟩ (by omega) (by omega) dL_law_804 (fun x_11 lx_11 ux_11 ex_11 => ?_)
  refine lv_aload_n hx hb dL_law_805 rfl (lv_at hl 0 rfl) ?_
  refine lv_iload hx hb dL_law_806 (lv_at hl 4 rfl) ?_
  refine q_iconst hx hb dL_law_808 ?_
  first | refine q_iadd hx hb dL_law_809 ⟨by omega, by omega⟩ (fun x_12 lx_12 ux_12 ex_12 => ?_) | refine q_iaddw hx hb dL_law_809 (fun x_12 lx_12 ux_12 ex_12 => ?_)
  refine q_sld hx hb hXs hbl hbA hwX.2.2 ⟨lx_12, ux_12⟩ (by omega) (by omega) dL_law_810 (fun x_13 lx_13 ux_13 ex_13 => ?_)
  refine lv_aload_n hx hb dL_law_811 rfl (lv_at hl 0 rfl) ?_
  refine lv_iload hx hb dL_law_812 (lv_at hl 4 rfl) ?_
  refine q_iconst hx hb dL_law_814 ?_
  first | refine q_iadd hx hb dL_law_815 ⟨by omega, by omega⟩ (fun x_14 lx_14 ux_14 ex_14 => ?_) | refine q_iaddw hx hb dL_law_815 (fun x_14 lx_14 ux_14 ex_14 => ?_)
  refine q_sld hx hb hXs hbl hbA hwX.2.2 ⟨lx_14, ux_14⟩ (by omega) (by omega) dL_law_816 (fun x_15 lx_15 ux_15 ex_15 => ?_)
  refine q_cf_i hA hwM (va_runV (As := [.int (iI x_11), .int (iI x_13), .int (iI x_15)]) (rest := []) ⟨hx, hb, hml, hown, hts⟩ (c_X10_count zo l D cy Mm fm mo x_11 lx_11 ux_11 x_13 lx_13 ux_13 x_15 lx_15 ux_15 ad hs hv _) (cwV 3 hts (gT (inV (mr31 _ (List.mem_of_getElem? (i := 20) rfl)) (mr31 _ (List.mem_of_getElem? (i := 21) rfl)) (mr31 _ (List.mem_of_getElem? (i := 22) rfl)) (mr1 _ (List.mem_of_getElem? (i := 5) rfl)) (mr31 _ (List.mem_of_getElem? (i := 23) rfl)))) rfl rfl rfl (by decide +kernel) ⟨Nat.le_of_ble_eq_true rfl, Nat.le_of_ble_eq_true rfl⟩) (Wd.preV zo hA hZ hwM hKq hs.1 hs.2.1 rfl) rfl rfl hl.1 rfl (lv_room (Nat.le_of_ble_eq_true rfl)) dL_law_817 ⟨by show cells + 0 + 0 ≤ 601024; omega, by show slots + 0 + 0 ≤ 7293034; omega⟩) (fun x_16 L_18 f_17 H locs lx_16 ux_16 ex_16 hwM fr => ?_)
  obtain ⟨rfl, hs, hX, ex_16⟩ := ex_16
  obtain ⟨hwX, -⟩ := hwX.keep fr hwM.2.2 (fun y hy hm => apM y hm hy)
  obtain ⟨hwO, -⟩ := hwO.keep fr hwM.2.2 apOM
  have hd := hd.kp hX (by decide) (by decide) (by decide) (by decide)
  have hi := hi.kp hX (by decide) (by decide)
  have hv := hv.kp hX (by decide) (by decide)
  have q9 := hX.2 9 (by decide)
  have q15 := hX.2 15 (by decide)
  have t1 := t1.kp hX (by decide) (by decide) (by decide) (by decide) (by decide) (by decide)
  clear cw bt ex_16 ex_7 oxm
  have t9a : 0 ≤ fI f_17 mo 9 := by omega
  have t9b : fI f_17 mo 9 ≤ 168 := by omega
  have t15a : 0 ≤ fI f_17 mo 15 := by omega
  have t15b : fI f_17 mo 15 ≤ 168 := by omega
  refine lv_pop hx hb dL_law_820 rfl ?_
  refine lv_goto (tgt := 1454) hx hb dL_law_821 (by decide) ?_
  exact kk X fx f_17 fo _ _ _ _ _ (by omega) (by omega) ⟨hwX, hwM, hwO, apM, apO, apOM, m_x, o_x, hg, ⟨hs, hv, hi, hd, t9a, t9b, t15a, t15b⟩, ho, t1⟩ (lv_sub hl [0, 1, 2, 3, 4] rfl)
set_option maxHeartbeats 4000000 in
set_option maxRecDepth 100000 in
theorem wl_14 {Z : Zt} (zo : Zok Z) (zc : ∀ (A : Nat → Prop) (U : State) (H : Heap), Z A U H → ZE U) {p : Program} {l : Launch} {e : Env} {s : State} {m : MethodId} {below : List Frame} {meth : Method} {c : Code} {b Ln : Nat} {xs : Nat → Int32} {D : va_G} {cy : Cy} {cL : ClassId} {A : Nat → Prop} (hB : LB Z p l s m c b Ln xs D cy cL A) {Q : State → Prop} {x mo o : Nat} {ad : Nat → Nat} {Mm : List Nat} (y4 : Int) (ly4 : -2147483648 ≤ y4) (uy4 : y4 ≤ 2147483647) (i0 : 0 ≤ y4) (i1 : y4 + 7 ≤ (Ln : Int)) {X : List Nat} {fx fm fo : Nat → va_E} {H : Heap} {locs : List Loc} {ls : Array Slot} {cells slots : Nat} (hI : LI cy cL D A s.heap x mo o ad X fx Mm fm fo H locs) (hl : lv_has ls 7 [(0, .ref b), (1, .ref x), (2, .ref mo), (3, .ref o), (4, .int (iI y4))]) (hc : cells + 40 ≤ 601024) (hs0 : slots + 600 ≤ 7293034) (kk : ∀ (X1 : List Nat) (fx1 fm1 fo1 : Nat → va_E) (H1 : Heap) (locs1 : List Loc) (ls1 : Array Slot) (cells1 slots1 : Nat), cells1 ≤ cells + 40 → slots1 ≤ slots + 600 → LI cy cL D A s.heap x mo o ad X1 fx1 Mm fm1 fo1 H1 locs1 → lv_has ls1 7 [(0, .ref b), (1, .ref x), (2, .ref mo), (3, .ref o), (4, .int (iI y4))] → W p l e room_1 s m #[Value.ref b] below meth c H1 locs1 cells1 slots1 Q (F0 m 1454 ls1 [])) : W p l e room_1 s m #[Value.ref b] below meth c H locs cells slots Q (F0 m 824 ls []) := by
  obtain ⟨hx, hb, hml, hown, hts, hXs, hbl, hK, hA, hbA, hZ, hlt, hLn⟩ := hB
  obtain ⟨hwX, hwM, hwO, apM, apO, apOM, m_x, o_x, hg, ⟨hs, hv, hi, hd, t9a, t9b, t15a, t15b⟩, ho, t1⟩ := hI
  obtain ⟨⟨rq, rr, im, tp, cw, oxm⟩, bt⟩ := id t1
  have hg0 := hg
  have ox0 := o_x
  have mx0 := m_x
  have hKq : va_K D vwCl (tq cy) s := hK.sub [0, 1, 2, 3, 4] rfl
  refine lv_aload_n hx hb dL_law_824 rfl (lv_at hl 1 rfl) ?_
  refine lv_aload_n hx hb dL_law_825 rfl (lv_at hl 0 rfl) ?_
  refine lv_iload hx hb dL_law_826 (lv_at hl 4 rfl) ?_
  refine q_iconst hx hb dL_law_828 ?_
  first | refine q_iadd hx hb dL_law_829 ⟨by omega, by omega⟩ (fun x_1 lx_1 ux_1 ex_1 => ?_) | refine q_iaddw hx hb dL_law_829 (fun x_1 lx_1 ux_1 ex_1 => ?_)
  refine q_sld hx hb hXs hbl hbA hwX.2.2 ⟨lx_1, ux_1⟩ (by omega) (by omega) dL_law_830 (fun x_2 lx_2 ux_2 ex_2 => ?_)
  refine lv_aload_n hx hb dL_law_831 rfl (lv_at hl 0 rfl) ?_
  refine lv_iload hx hb dL_law_832 (lv_at hl 4 rfl) ?_
  refine q_iconst hx hb dL_law_834 ?_
  first | refine q_iadd hx hb dL_law_835 ⟨by omega, by omega⟩ (fun x_3 lx_3 ux_3 ex_3 => ?_) | refine q_iaddw hx hb dL_law_835 (fun x_3 lx_3 ux_3 ex_3 => ?_)
  refine q_sld hx hb hXs hbl hbA hwX.2.2 ⟨lx_3, ux_3⟩ (by omega) (by omega) dL_law_836 (fun x_4 lx_4 ux_4 ex_4 => ?_)
  refine lv_aload_n hx hb dL_law_837 rfl (lv_at hl 0 rfl) ?_
  refine lv_iload hx hb dL_law_838 (lv_at hl 4 rfl) ?_
  refine q_iconst hx hb dL_law_840 ?_
  first | refine q_iadd hx hb dL_law_841 ⟨by omega, by omega⟩ (fun x_5 lx_5 ux_5 ex_5 => ?_) | refine q_iaddw hx hb dL_law_841 (fun x_5 lx_5 ux_5 ex_5 => ?_)
  refine q_sld hx hb hXs hbl hbA hwX.2.2 ⟨lx_5, ux_5⟩ (by omega) (by omega) dL_law_842 (fun x_6 lx_6 ux_6 ex_6 => ?_)
  refine q_cf_i hA hwX (va_runV (As := [.int (iI x_2), .int (iI x_4), .int (iI x_6)]) (rest := []) ⟨hx, hb, hml, hown, hts⟩ (c_X9_on zo l D cy X fx x x_2 lx_2 ux_2 x_4 lx_4 ux_4 x_6 lx_6 ux_6 m_x o_x hg _) (cwV 3 hts (gT (inV (mr32 _ (List.mem_of_getElem? (i := 0) rfl)) (mr32 _ (List.mem_of_getElem? (i := 1) rfl)) (mr32 _ (List.mem_of_getElem? (i := 2) rfl)) (mr1 _ (List.mem_of_getElem? (i := 2) rfl)) (mr32 _ (List.mem_of_getElem? (i := 3) rfl)))) rfl rfl rfl (by decide +kernel) ⟨Nat.le_of_ble_eq_true rfl, Nat.le_of_ble_eq_true rfl⟩) (Wd.preV zo hA hZ hwX hKq m_x o_x rfl) rfl rfl hl.1 rfl (lv_room (Nat.le_of_ble_eq_true rfl)) dL_law_843 ⟨by show cells + 0 ≤ 601024; omega, by show slots + 0 ≤ 7293034; omega⟩) (fun x_7 L_9 f_8 H locs lx_7 ux_7 ex_7 hwX fr => ?_)
  obtain ⟨rfl, rfl, ex_7⟩ := ex_7
  obtain ⟨hwM, apM⟩ := hwM.keep fr hwX.2.2 apM
  obtain ⟨hwO, apO⟩ := hwO.keep fr hwX.2.2 apO
  refine lv_pop hx hb dL_law_846 rfl ?_
  refine lv_aload_n hx hb dL_law_847 rfl (lv_at hl 2 rfl) ?_
  refine lv_aload_n hx hb dL_law_848 rfl (lv_at hl 0 rfl) ?_
  refine lv_iload hx hb dL_law_849 (lv_at hl 4 rfl) ?_
  refine q_iconst hx hb dL_law_851 ?_
  first | refine q_iadd hx hb dL_law_852 ⟨by omega, by omega⟩ (fun x_10 lx_10 ux_10 ex_10 => ?_) | refine q_iaddw hx hb dL_law_852 (fun x_10 lx_10 ux_10 ex_10 => ?_)
  refine q_sld hx hb hXs hbl hbA hwX.2.2 ⟨lx_10, ux_10⟩ (by omega) (by omega) dL_law_853 (fun x_11 lx_11 ux_11 ex_11 => ?_)
  refine lv_aload_n hx hb dL_law_854 rfl (lv_at hl 0 rfl) ?_
  refine lv_iload hx hb dL_law_855 (lv_at hl 4 rfl) ?_
  refine q_iconst hx hb dL_law_857 ?_
  first | refine q_iadd hx hb dL_law_858 ⟨by omega, by omega⟩ (fun x_12 lx_12 ux_12 ex_12 => ?_) | refine q_iaddw hx hb dL_law_858 (fun x_12 lx_12 ux_12 ex_12 => ?_)
  refine q_sld hx hb hXs hbl hbA hwX.2.2 ⟨lx_12, ux_12⟩ (by omega) (by omega) dL_law_859 (fun x_13 lx_13 ux_13 ex_13 => ?_)
  refine lv_aload_n hx hb dL_law_860 rfl (lv_at hl 0 rfl) ?_
  refine lv_iload hx hb dL_law_861 (lv_at hl 4 rfl) ?_
  refine q_iconst hx hb dL_law_863 ?_
  first | refine q_iadd hx hb dL_law_864 ⟨by omega, by omega⟩ (fun x_14 lx_14 ux_14 ex_14 => ?_) | refine q_iaddw hx hb dL_law_864 (fun x_14 lx_14 ux_14 ex_14 => ?_)
  refine q_sld hx hb hXs hbl hbA hwX.2.2 ⟨lx_14, ux_14⟩ (by omega) (by omega) dL_law_865 (fun x_15 lx_15 ux_15 ex_15 => ?_)
  refine q_cf_i hA hwM (va_runV (As := [.int (iI x_11), .int (iI x_13), .int (iI x_15)]) (rest := []) ⟨hx, hb, hml, hown, hts⟩ (c_X10_on zo l D cy Mm fm mo x_11 lx_11 ux_11 x_13 lx_13 ux_13 x_15 lx_15 ux_15 ad hs hv _) (cwV 3 hts (gT (inV (mr32 _ (List.mem_of_getElem? (i := 18) rfl)) (mr32 _ (List.mem_of_getElem? (i := 19) rfl)) (mr32 _ (List.mem_of_getElem? (i := 20) rfl)) (mr1 _ (List.mem_of_getElem? (i := 5) rfl)) (mr32 _ (List.mem_of_getElem? (i := 21) rfl)))) rfl rfl rfl (by decide +kernel) ⟨Nat.le_of_ble_eq_true rfl, Nat.le_of_ble_eq_true rfl⟩) (Wd.preV zo hA hZ hwM hKq hs.1 hs.2.1 rfl) rfl rfl hl.1 rfl (lv_room (Nat.le_of_ble_eq_true rfl)) dL_law_866 ⟨by show cells + 0 + 0 ≤ 601024; omega, by show slots + 0 + 0 ≤ 7293034; omega⟩) (fun x_16 L_18 f_17 H locs lx_16 ux_16 ex_16 hwM fr => ?_)
  obtain ⟨rfl, hs, hX, ex_16⟩ := ex_16
  obtain ⟨hwX, -⟩ := hwX.keep fr hwM.2.2 (fun y hy hm => apM y hm hy)
  obtain ⟨hwO, -⟩ := hwO.keep fr hwM.2.2 apOM
  have hd := hd.kp hX (by decide) (by decide) (by decide) (by decide)
  have hi := hi.kp hX (by decide) (by decide)
  have hv := hv.kp hX (by decide) (by decide)
  have q9 := hX.2 9 (by decide)
  have q15 := hX.2 15 (by decide)
  have t1 := t1.kp hX (by decide) (by decide) (by decide) (by decide) (by decide) (by decide)
  clear cw bt ex_16 ex_7 oxm
  have t9a : 0 ≤ fI f_17 mo 9 := by omega
  have t9b : fI f_17 mo 9 ≤ 168 := by omega
  have t15a : 0 ≤ fI f_17 mo 15 := by omega
  have t15b : fI f_17 mo 15 ≤ 168 := by omega
  refine lv_pop hx hb dL_law_869 rfl ?_
  refine lv_goto (tgt := 1454) hx hb dL_law_870 (by decide) ?_
  exact kk X fx f_17 fo _ _ _ _ _ (by omega) (by omega) ⟨hwX, hwM, hwO, apM, apO, apOM, m_x, o_x, hg, ⟨hs, hv, hi, hd, t9a, t9b, t15a, t15b⟩, ho, t1⟩ (lv_sub hl [0, 1, 2, 3, 4] rfl)
set_option maxHeartbeats 4000000 in
set_option maxRecDepth 100000 in
theorem wl_15 {Z : Zt} (zo : Zok Z) (zc : ∀ (A : Nat → Prop) (U : State) (H : Heap), Z A U H → ZE U) {p : Program} {l : Launch} {e : Env} {s : State} {m : MethodId} {below : List Frame} {meth : Method} {c : Code} {b Ln : Nat} {xs : Nat → Int32} {D : va_G} {cy : Cy} {cL : ClassId} {A : Nat → Prop} (hB : LB Z p l s m c b Ln xs D cy cL A) {Q : State → Prop} {x mo o : Nat} {ad : Nat → Nat} {Mm : List Nat} (y4 : Int) (ly4 : -2147483648 ≤ y4) (uy4 : y4 ≤ 2147483647) (i0 : 0 ≤ y4) (i1 : y4 + 7 ≤ (Ln : Int)) {X : List Nat} {fx fm fo : Nat → va_E} {H : Heap} {locs : List Loc} {ls : Array Slot} {cells slots : Nat} (hI : LI cy cL D A s.heap x mo o ad X fx Mm fm fo H locs) (hl : lv_has ls 7 [(0, .ref b), (1, .ref x), (2, .ref mo), (3, .ref o), (4, .int (iI y4))]) (hc : cells + 40 ≤ 601024) (hs0 : slots + 600 ≤ 7293034) (kk : ∀ (X1 : List Nat) (fx1 fm1 fo1 : Nat → va_E) (H1 : Heap) (locs1 : List Loc) (ls1 : Array Slot) (cells1 slots1 : Nat), cells1 ≤ cells + 40 → slots1 ≤ slots + 600 → LI cy cL D A s.heap x mo o ad X1 fx1 Mm fm1 fo1 H1 locs1 → lv_has ls1 7 [(0, .ref b), (1, .ref x), (2, .ref mo), (3, .ref o), (4, .int (iI y4))] → W p l e room_1 s m #[Value.ref b] below meth c H1 locs1 cells1 slots1 Q (F0 m 1454 ls1 [])) : W p l e room_1 s m #[Value.ref b] below meth c H locs cells slots Q (F0 m 873 ls []) := by
  obtain ⟨hx, hb, hml, hown, hts, hXs, hbl, hK, hA, hbA, hZ, hlt, hLn⟩ := hB
  obtain ⟨hwX, hwM, hwO, apM, apO, apOM, m_x, o_x, hg, ⟨hs, hv, hi, hd, t9a, t9b, t15a, t15b⟩, ho, t1⟩ := hI
  obtain ⟨⟨rq, rr, im, tp, cw, oxm⟩, bt⟩ := id t1
  have hg0 := hg
  have ox0 := o_x
  have mx0 := m_x
  have hKq : va_K D vwCl (tq cy) s := hK.sub [0, 1, 2, 3, 4] rfl
  refine lv_aload_n hx hb dL_law_873 rfl (lv_at hl 1 rfl) ?_
  refine lv_aload_n hx hb dL_law_874 rfl (lv_at hl 0 rfl) ?_
  refine lv_iload hx hb dL_law_875 (lv_at hl 4 rfl) ?_
  refine q_iconst hx hb dL_law_877 ?_
  first | refine q_iadd hx hb dL_law_878 ⟨by omega, by omega⟩ (fun x_1 lx_1 ux_1 ex_1 => ?_) | refine q_iaddw hx hb dL_law_878 (fun x_1 lx_1 ux_1 ex_1 => ?_)
  refine q_sld hx hb hXs hbl hbA hwX.2.2 ⟨lx_1, ux_1⟩ (by omega) (by omega) dL_law_879 (fun x_2 lx_2 ux_2 ex_2 => ?_)
  refine lv_aload_n hx hb dL_law_880 rfl (lv_at hl 0 rfl) ?_
  refine lv_iload hx hb dL_law_881 (lv_at hl 4 rfl) ?_
  refine q_iconst hx hb dL_law_883 ?_
  first | refine q_iadd hx hb dL_law_884 ⟨by omega, by omega⟩ (fun x_3 lx_3 ux_3 ex_3 => ?_) | refine q_iaddw hx hb dL_law_884 (fun x_3 lx_3 ux_3 ex_3 => ?_)
  refine q_sld hx hb hXs hbl hbA hwX.2.2 ⟨lx_3, ux_3⟩ (by omega) (by omega) dL_law_885 (fun x_4 lx_4 ux_4 ex_4 => ?_)
  refine lv_aload_n hx hb dL_law_886 rfl (lv_at hl 0 rfl) ?_
  refine lv_iload hx hb dL_law_887 (lv_at hl 4 rfl) ?_
  refine q_iconst hx hb dL_law_889 ?_
  first | refine q_iadd hx hb dL_law_890 ⟨by omega, by omega⟩ (fun x_5 lx_5 ux_5 ex_5 => ?_) | refine q_iaddw hx hb dL_law_890 (fun x_5 lx_5 ux_5 ex_5 => ?_)
  refine q_sld hx hb hXs hbl hbA hwX.2.2 ⟨lx_5, ux_5⟩ (by omega) (by omega) dL_law_891 (fun x_6 lx_6 ux_6 ex_6 => ?_)
  refine lv_aload_n hx hb dL_law_892 rfl (lv_at hl 0 rfl) ?_
  refine lv_iload hx hb dL_law_893 (lv_at hl 4 rfl) ?_
  refine q_iconst hx hb dL_law_895 ?_
  first | refine q_iadd hx hb dL_law_896 ⟨by omega, by omega⟩ (fun x_7 lx_7 ux_7 ex_7 => ?_) | refine q_iaddw hx hb dL_law_896 (fun x_7 lx_7 ux_7 ex_7 => ?_)
  refine q_sld hx hb hXs hbl hbA hwX.2.2 ⟨lx_7, ux_7⟩ (by omega) (by omega) dL_law_897 (fun x_8 lx_8 ux_8 ex_8 => ?_)
  refine lv_aload_n hx hb dL_law_898 rfl (lv_at hl 0 rfl) ?_
  refine lv_iload hx hb dL_law_899 (lv_at hl 4 rfl) ?_
  refine q_iconst hx hb dL_law_901 ?_
  first | refine q_iadd hx hb dL_law_902 ⟨by omega, by omega⟩ (fun x_9 lx_9 ux_9 ex_9 => ?_) | refine q_iaddw hx hb dL_law_902 (fun x_9 lx_9 ux_9 ex_9 => ?_)
  refine q_sld hx hb hXs hbl hbA hwX.2.2 ⟨lx_9, ux_9⟩ (by omega) (by omega) dL_law_903 (fun x_10 lx_10 ux_10 ex_10 => ?_)
  refine lv_aload_n hx hb dL_law_904 rfl (lv_at hl 3 rfl) ?_
  have hwL := hwX.glue hwO apO
  have e1 : ∀ y ∈ X, gl [o] fo fx y = fx y := fun y hy => gl_out (fun z => apO y z hy)
  have ho1 : ArL (gl [o] fo fx) o cL := by obtain ⟨g, hgo⟩ := ho; exact ⟨g, (gl_in (List.mem_singleton.mpr rfl)).trans hgo⟩
  refine q_cf_i hA hwL (vx_runSW (hh := [(0, 16, 19, 13)]) (As := [.ref x, .int (iI x_2), .int (iI x_4), .int (iI x_6), .int (iI x_8), .int (iI x_10), .ref o]) (rest := []) ⟨hx, hb, hml, hown, hts⟩ (c_L_onAt_h zo zc l hlt D cy cL X o (gl [o] fo fx) x x_2 lx_2 ux_2 x_4 lx_4 ux_4 x_6 lx_6 ux_6 x_8 lx_8 ux_8 x_10 lx_10 ux_10 m_x (Ob_of (e1 x m_x) o_x) (hg.off e1) ho1 _) (vx_cwSW (hh := [(0, 16, 19, 13)]) 7 hts (gT (inSW (mr33 _ (List.mem_of_getElem? (i := 16) rfl)) (mr33 _ (List.mem_of_getElem? (i := 17) rfl)) (mr33 _ (List.mem_of_getElem? (i := 18) rfl)) (mr33 _ (List.mem_of_getElem? (i := 19) rfl)))) rfl rfl rfl (by decide +kernel) ⟨Nat.le_of_ble_eq_true rfl, Nat.le_of_ble_eq_true rfl⟩) (Wd.preS zo hA hZ hwL hK) rfl rfl hl.1 rfl (lv_room (Nat.le_of_ble_eq_true rfl)) dL_law_905 ⟨by show cells + 1 ≤ 601024; omega, by show slots + 6 ≤ 7293034; omega⟩) (fun x_11 L1 f_12 H locs lx_11 ux_11 ex_11 hwL fr => ?_)
  obtain ⟨h1, hg, o_x, ho, u1, z1, z2, z3⟩ := ex_11
  have t1 := ((t1.off hg0 m_x ox0 e1).eh (hg0.off e1) m_x (Ob_of (e1 x m_x) ox0) z2).off z1 m_x (z2.1.1.1 _ _ (Ob_of (e1 x m_x) ox0)) z3
  subst h1
  obtain ⟨hwM, -⟩ := hwM.keep fr hwL.2.2 (fun y hy h => (List.mem_append.mp h).elim (apM y hy) (fun h => apOM y h hy))
  have hwX := hwL.left
  have hwO := hwL.right
  have apO := hwL.apart
  refine lv_istore (lv' := [(5, .int (iI x_11)), (0, .ref b), (1, .ref x), (2, .ref mo), (3, .ref o), (4, .int (iI y4))]) hx hb dL_law_908 hl (by decide) rfl (fun ls hl => ?_)
  refine lv_aload_n hx hb dL_law_910 rfl (lv_at hl 3 rfl) ?_
  refine lv_aload_n hx hb dL_law_911 rfl (lv_at hl 1 rfl) ?_
  refine lv_iload hx hb dL_law_912 (lv_at hl 5 rfl) ?_
  refine q_iconst hx hb dL_law_914 ?_
  first | refine q_iadd hx hb dL_law_915 ⟨by omega, by omega⟩ (fun x_13 lx_13 ux_13 ex_13 => ?_) | refine q_iaddw hx hb dL_law_915 (fun x_13 lx_13 ux_13 ex_13 => ?_)
  refine q_sld hx hb hXs hbl hbA hwX.2.2 ⟨lx_13, ux_13⟩ (by omega) (by omega) dL_law_916 (fun x_14 lx_14 ux_14 ex_14 => ?_)
  refine lv_aload_n hx hb dL_law_917 rfl (lv_at hl 1 rfl) ?_
  refine lv_iload hx hb dL_law_918 (lv_at hl 5 rfl) ?_
  refine q_iconst hx hb dL_law_920 ?_
  first | refine q_iadd hx hb dL_law_921 ⟨by omega, by omega⟩ (fun x_15 lx_15 ux_15 ex_15 => ?_) | refine q_iaddw hx hb dL_law_921 (fun x_15 lx_15 ux_15 ex_15 => ?_)
  refine q_sld hx hb hXs hbl hbA hwX.2.2 ⟨lx_15, ux_15⟩ (by omega) (by omega) dL_law_922 (fun x_16 lx_16 ux_16 ex_16 => ?_)
  refine lv_aload_n hx hb dL_law_923 rfl (lv_at hl 1 rfl) ?_
  refine lv_iload hx hb dL_law_924 (lv_at hl 5 rfl) ?_
  refine q_iconst hx hb dL_law_926 ?_
  first | refine q_iadd hx hb dL_law_927 ⟨by omega, by omega⟩ (fun x_17 lx_17 ux_17 ex_17 => ?_) | refine q_iaddw hx hb dL_law_927 (fun x_17 lx_17 ux_17 ex_17 => ?_)
  refine q_sld hx hb hXs hbl hbA hwX.2.2 ⟨lx_17, ux_17⟩ (by omega) (by omega) dL_law_928 (fun x_18 lx_18 ux_18 ex_18 => ?_)
  refine lv_aload_n hx hb dL_law_929 rfl (lv_at hl 1 rfl) ?_
  refine lv_iload hx hb dL_law_930 (lv_at hl 5 rfl) ?_
  refine q_iconst hx hb dL_law_932 ?_
  first | refine q_iadd hx hb dL_law_933 ⟨by omega, by omega⟩ (fun x_19 lx_19 ux_19 ex_19 => ?_) | refine q_iaddw hx hb dL_law_933 (fun x_19 lx_19 ux_19 ex_19 => ?_)
  refine q_sld hx hb hXs hbl hbA hwX.2.2 ⟨lx_19, ux_19⟩ (by omega) (by omega) dL_law_934 (fun x_20 lx_20 ux_20 ex_20 => ?_)
  refine lv_aload_n hx hb dL_law_935 rfl (lv_at hl 1 rfl) ?_
  refine lv_iload hx hb dL_law_936 (lv_at hl 5 rfl) ?_
  refine q_iconst hx hb dL_law_938 ?_
  first | refine q_iadd hx hb dL_law_939 ⟨by omega, by omega⟩ (fun x_21 lx_21 ux_21 ex_21 => ?_) | refine q_iaddw hx hb dL_law_939 (fun x_21 lx_21 ux_21 ex_21 => ?_)
  refine q_sld hx hb hXs hbl hbA hwX.2.2 ⟨lx_21, ux_21⟩ (by omega) (by omega) dL_law_940 (fun x_22 lx_22 ux_22 ex_22 => ?_)
  refine q_cf_i hA hwM (va_runV (As := [.int (iI x_14), .int (iI x_16), .int (iI x_18), .int (iI x_20), .int (iI x_22)]) (rest := []) ⟨hx, hb, hml, hown, hts⟩ (c_X10_onAt zo l D cy Mm fm mo x_14 lx_14 ux_14 x_16 lx_16 ux_16 x_18 lx_18 ux_18 x_20 lx_20 ux_20 x_22 lx_22 ux_22 ad hs hv _) (cwV 5 hts (gT (inV (mr34 _ (List.mem_of_getElem? (i := 14) rfl)) (mr34 _ (List.mem_of_getElem? (i := 15) rfl)) (mr34 _ (List.mem_of_getElem? (i := 16) rfl)) (mr1 _ (List.mem_of_getElem? (i := 5) rfl)) (mr34 _ (List.mem_of_getElem? (i := 17) rfl)))) rfl rfl rfl (by decide +kernel) ⟨Nat.le_of_ble_eq_true rfl, Nat.le_of_ble_eq_true rfl⟩) (Wd.preV zo hA hZ hwM hKq hs.1 hs.2.1 rfl) rfl rfl hl.1 rfl (lv_room (Nat.le_of_ble_eq_true rfl)) dL_law_941 ⟨by show cells + 1 + 0 ≤ 601024; omega, by show slots + 6 + 0 ≤ 7293034; omega⟩) (fun x_23 L_25 f_24 H locs lx_23 ux_23 ex_23 hwM fr => ?_)
  obtain ⟨rfl, hs, hX, ex_23⟩ := ex_23
  obtain ⟨hwX, -⟩ := hwX.keep fr hwM.2.2 (fun y hy hm => apM y hm hy)
  obtain ⟨hwO, -⟩ := hwO.keep fr hwM.2.2 apOM
  have hd := hd.kp hX (by decide) (by decide) (by decide) (by decide)
  have hi := hi.kp hX (by decide) (by decide)
  have hv := hv.kp hX (by decide) (by decide)
  have q9 := hX.2 9 (by decide)
  have q15 := hX.2 15 (by decide)
  have t1 := t1.kp hX (by decide) (by decide) (by decide) (by decide) (by decide) (by decide)
  clear cw bt ex_23 oxm
  have t9a : 0 ≤ fI f_24 mo 9 := by omega
  have t9b : fI f_24 mo 9 ≤ 168 := by omega
  have t15a : 0 ≤ fI f_24 mo 15 := by omega
  have t15b : fI f_24 mo 15 ≤ 168 := by omega
  refine lv_istore (lv' := [(6, .int (iI x_23)), (5, .int (iI x_11)), (0, .ref b), (1, .ref x), (2, .ref mo), (3, .ref o), (4, .int (iI y4))]) hx hb dL_law_944 hl (by decide) rfl (fun ls hl => ?_)
  refine lv_goto (tgt := 1454) hx hb dL_law_946 (by decide) ?_
  exact kk X f_12 f_24 f_12 _ _ _ _ _ (by omega) (by omega) ⟨hwX, hwM, hwO, apM, apO, apOM, m_x, o_x, hg, ⟨hs, hv, hi, hd, t9a, t9b, t15a, t15b⟩, ho, t1⟩ (lv_sub hl [2, 3, 4, 5, 6] rfl)
set_option maxHeartbeats 4000000 in
set_option maxRecDepth 100000 in
theorem wl_16 {Z : Zt} (zo : Zok Z) (zc : ∀ (A : Nat → Prop) (U : State) (H : Heap), Z A U H → ZE U) {p : Program} {l : Launch} {e : Env} {s : State} {m : MethodId} {below : List Frame} {meth : Method} {c : Code} {b Ln : Nat} {xs : Nat → Int32} {D : va_G} {cy : Cy} {cL : ClassId} {A : Nat → Prop} (hB : LB Z p l s m c b Ln xs D cy cL A) {Q : State → Prop} {x mo o : Nat} {ad : Nat → Nat} {Mm : List Nat} (y4 : Int) (ly4 : -2147483648 ≤ y4) (uy4 : y4 ≤ 2147483647) (i0 : 0 ≤ y4) (i1 : y4 + 7 ≤ (Ln : Int)) {X : List Nat} {fx fm fo : Nat → va_E} {H : Heap} {locs : List Loc} {ls : Array Slot} {cells slots : Nat} (hI : LI cy cL D A s.heap x mo o ad X fx Mm fm fo H locs) (hl : lv_has ls 7 [(0, .ref b), (1, .ref x), (2, .ref mo), (3, .ref o), (4, .int (iI y4))]) (hc : cells + 40 ≤ 601024) (hs0 : slots + 600 ≤ 7293034) (kk : ∀ (X1 : List Nat) (fx1 fm1 fo1 : Nat → va_E) (H1 : Heap) (locs1 : List Loc) (ls1 : Array Slot) (cells1 slots1 : Nat), cells1 ≤ cells + 40 → slots1 ≤ slots + 600 → LI cy cL D A s.heap x mo o ad X1 fx1 Mm fm1 fo1 H1 locs1 → lv_has ls1 7 [(0, .ref b), (1, .ref x), (2, .ref mo), (3, .ref o), (4, .int (iI y4))] → W p l e room_1 s m #[Value.ref b] below meth c H1 locs1 cells1 slots1 Q (F0 m 1454 ls1 [])) : W p l e room_1 s m #[Value.ref b] below meth c H locs cells slots Q (F0 m 949 ls []) := by
  obtain ⟨hx, hb, hml, hown, hts, hXs, hbl, hK, hA, hbA, hZ, hlt, hLn⟩ := hB
  obtain ⟨hwX, hwM, hwO, apM, apO, apOM, m_x, o_x, hg, ⟨hs, hv, hi, hd, t9a, t9b, t15a, t15b⟩, ho, t1⟩ := hI
  obtain ⟨⟨rq, rr, im, tp, cw, oxm⟩, bt⟩ := id t1
  have hg0 := hg
  have ox0 := o_x
  have mx0 := m_x
  have hKq : va_K D vwCl (tq cy) s := hK.sub [0, 1, 2, 3, 4] rfl
  refine lv_aload_n hx hb dL_law_949 rfl (lv_at hl 1 rfl) ?_
  refine lv_aload_n hx hb dL_law_950 rfl (lv_at hl 0 rfl) ?_
  refine lv_iload hx hb dL_law_951 (lv_at hl 4 rfl) ?_
  refine q_iconst hx hb dL_law_953 ?_
  first | refine q_iadd hx hb dL_law_954 ⟨by omega, by omega⟩ (fun x_1 lx_1 ux_1 ex_1 => ?_) | refine q_iaddw hx hb dL_law_954 (fun x_1 lx_1 ux_1 ex_1 => ?_)
  refine q_sld hx hb hXs hbl hbA hwX.2.2 ⟨lx_1, ux_1⟩ (by omega) (by omega) dL_law_955 (fun x_2 lx_2 ux_2 ex_2 => ?_)
  refine lv_aload_n hx hb dL_law_956 rfl (lv_at hl 0 rfl) ?_
  refine lv_iload hx hb dL_law_957 (lv_at hl 4 rfl) ?_
  refine q_iconst hx hb dL_law_959 ?_
  first | refine q_iadd hx hb dL_law_960 ⟨by omega, by omega⟩ (fun x_3 lx_3 ux_3 ex_3 => ?_) | refine q_iaddw hx hb dL_law_960 (fun x_3 lx_3 ux_3 ex_3 => ?_)
  refine q_sld hx hb hXs hbl hbA hwX.2.2 ⟨lx_3, ux_3⟩ (by omega) (by omega) dL_law_961 (fun x_4 lx_4 ux_4 ex_4 => ?_)
  refine lv_aload_n hx hb dL_law_962 rfl (lv_at hl 0 rfl) ?_
  refine lv_iload hx hb dL_law_963 (lv_at hl 4 rfl) ?_
  refine q_iconst hx hb dL_law_965 ?_
  first | refine q_iadd hx hb dL_law_966 ⟨by omega, by omega⟩ (fun x_5 lx_5 ux_5 ex_5 => ?_) | refine q_iaddw hx hb dL_law_966 (fun x_5 lx_5 ux_5 ex_5 => ?_)
  refine q_sld hx hb hXs hbl hbA hwX.2.2 ⟨lx_5, ux_5⟩ (by omega) (by omega) dL_law_967 (fun x_6 lx_6 ux_6 ex_6 => ?_)
  refine q_cf_i hA hwX (va_runV (As := [.int (iI x_2), .int (iI x_4), .int (iI x_6)]) (rest := []) ⟨hx, hb, hml, hown, hts⟩ (c_X9_clash_h zo l D cy X fx x x_2 lx_2 ux_2 x_4 lx_4 ux_4 x_6 lx_6 ux_6 m_x o_x hg _) (cwV 3 hts (gT (inV (mr34 _ (List.mem_of_getElem? (i := 18) rfl)) (mr34 _ (List.mem_of_getElem? (i := 19) rfl)) (mr34 _ (List.mem_of_getElem? (i := 20) rfl)) (mr1 _ (List.mem_of_getElem? (i := 2) rfl)) (mr34 _ (List.mem_of_getElem? (i := 21) rfl)))) rfl rfl rfl (by decide +kernel) ⟨Nat.le_of_ble_eq_true rfl, Nat.le_of_ble_eq_true rfl⟩) (Wd.preV zo hA hZ hwX hKq m_x o_x rfl) rfl rfl hl.1 rfl (lv_room (Nat.le_of_ble_eq_true rfl)) dL_law_968 ⟨by show cells + 0 ≤ 601024; omega, by show slots + 0 ≤ 7293034; omega⟩) (fun x_7 L_9 f_8 H locs lx_7 ux_7 ex_7 hwX fr => ?_)
  obtain ⟨rfl, hg, hXc, ex_7⟩ := ex_7
  have t1 := t1.eh hg0 mx0 ox0 hXc
  have o_x := hXc.1.1.1 _ _ o_x
  obtain ⟨hwM, apM⟩ := hwM.keep fr hwX.2.2 apM
  obtain ⟨hwO, apO⟩ := hwO.keep fr hwX.2.2 apO
  refine lv_pop hx hb dL_law_971 rfl ?_
  refine lv_aload_n hx hb dL_law_972 rfl (lv_at hl 2 rfl) ?_
  refine lv_aload_n hx hb dL_law_973 rfl (lv_at hl 0 rfl) ?_
  refine lv_iload hx hb dL_law_974 (lv_at hl 4 rfl) ?_
  refine q_iconst hx hb dL_law_976 ?_
  first | refine q_iadd hx hb dL_law_977 ⟨by omega, by omega⟩ (fun x_10 lx_10 ux_10 ex_10 => ?_) | refine q_iaddw hx hb dL_law_977 (fun x_10 lx_10 ux_10 ex_10 => ?_)
  refine q_sld hx hb hXs hbl hbA hwX.2.2 ⟨lx_10, ux_10⟩ (by omega) (by omega) dL_law_978 (fun x_11 lx_11 ux_11 ex_11 => ?_)
  refine lv_aload_n hx hb dL_law_979 rfl (lv_at hl 0 rfl) ?_
  refine lv_iload hx hb dL_law_980 (lv_at hl 4 rfl) ?_
  refine q_iconst hx hb dL_law_982 ?_
  first | refine q_iadd hx hb dL_law_983 ⟨by omega, by omega⟩ (fun x_12 lx_12 ux_12 ex_12 => ?_) | refine q_iaddw hx hb dL_law_983 (fun x_12 lx_12 ux_12 ex_12 => ?_)
  refine q_sld hx hb hXs hbl hbA hwX.2.2 ⟨lx_12, ux_12⟩ (by omega) (by omega) dL_law_984 (fun x_13 lx_13 ux_13 ex_13 => ?_)
  refine lv_aload_n hx hb dL_law_985 rfl (lv_at hl 0 rfl) ?_
  refine lv_iload hx hb dL_law_986 (lv_at hl 4 rfl) ?_
  refine q_iconst hx hb dL_law_988 ?_
  first | refine q_iadd hx hb dL_law_989 ⟨by omega, by omega⟩ (fun x_14 lx_14 ux_14 ex_14 => ?_) | refine q_iaddw hx hb dL_law_989 (fun x_14 lx_14 ux_14 ex_14 => ?_)
  refine q_sld hx hb hXs hbl hbA hwX.2.2 ⟨lx_14, ux_14⟩ (by omega) (by omega) dL_law_990 (fun x_15 lx_15 ux_15 ex_15 => ?_)
  refine q_cf_i hA hwM (va_runV (As := [.int (iI x_11), .int (iI x_13), .int (iI x_15)]) (rest := []) ⟨hx, hb, hml, hown, hts⟩ (c_X10_clash zo l D cy Mm fm mo x_11 lx_11 ux_11 x_13 lx_13 ux_13 x_15 lx_15 ux_15 ad hs hv _) (cwV 3 hts (gT (inV (mr37 _ (List.mem_of_getElem? (i := 7) rfl)) (mr37 _ (List.mem_of_getElem? (i := 8) rfl)) (mr37 _ (List.mem_of_getElem? (i := 9) rfl)) (mr1 _ (List.mem_of_getElem? (i := 5) rfl)) (mr37 _ (List.mem_of_getElem? (i := 10) rfl)))) rfl rfl rfl (by decide +kernel) ⟨Nat.le_of_ble_eq_true rfl, Nat.le_of_ble_eq_true rfl⟩) (Wd.preV zo hA hZ hwM hKq hs.1 hs.2.1 rfl) rfl rfl hl.1 rfl (lv_room (Nat.le_of_ble_eq_true rfl)) dL_law_991 ⟨by show cells + 0 + 0 ≤ 601024; omega, by show slots + 0 + 0 ≤ 7293034; omega⟩) (fun x_16 L_18 f_17 H locs lx_16 ux_16 ex_16 hwM fr => ?_)
  obtain ⟨rfl, hs, hX, ex_16⟩ := ex_16
  obtain ⟨hwX, -⟩ := hwX.keep fr hwM.2.2 (fun y hy hm => apM y hm hy)
  obtain ⟨hwO, -⟩ := hwO.keep fr hwM.2.2 apOM
  have hd := hd.kp hX (by decide) (by decide) (by decide) (by decide)
  have hi := hi.kp hX (by decide) (by decide)
  have hv := hv.kp hX (by decide) (by decide)
  have q9 := hX.2 9 (by decide)
  have q15 := hX.2 15 (by decide)
  have t1 := t1.kp hX (by decide) (by decide) (by decide) (by decide) (by decide) (by decide)
  clear cw bt ex_16 ex_7 oxm
  have t9a : 0 ≤ fI f_17 mo 9 := by omega
  have t9b : fI f_17 mo 9 ≤ 168 := by omega
  have t15a : 0 ≤ fI f_17 mo 15 := by omega
  have t15b : fI f_17 mo 15 ≤ 168 := by omega
  refine lv_pop hx hb dL_law_994 rfl ?_
  refine lv_goto (tgt := 1454) hx hb dL_law_995 (by decide) ?_
  exact kk X f_8 f_17 fo _ _ _ _ _ (by omega) (by omega) ⟨hwX, hwM, hwO, apM, apO, apOM, m_x, o_x, hg, ⟨hs, hv, hi, hd, t9a, t9b, t15a, t15b⟩, ho, t1⟩ (lv_sub hl [0, 1, 2, 3, 4] rfl)
set_option maxHeartbeats 4000000 in
set_option maxRecDepth 100000 in
theorem wl_17 {Z : Zt} (zo : Zok Z) (zc : ∀ (A : Nat → Prop) (U : State) (H : Heap), Z A U H → ZE U) {p : Program} {l : Launch} {e : Env} {s : State} {m : MethodId} {below : List Frame} {meth : Method} {c : Code} {b Ln : Nat} {xs : Nat → Int32} {D : va_G} {cy : Cy} {cL : ClassId} {A : Nat → Prop} (hB : LB Z p l s m c b Ln xs D cy cL A) {Q : State → Prop} {x mo o : Nat} {ad : Nat → Nat} {Mm : List Nat} (y4 : Int) (ly4 : -2147483648 ≤ y4) (uy4 : y4 ≤ 2147483647) (i0 : 0 ≤ y4) (i1 : y4 + 7 ≤ (Ln : Int)) {X : List Nat} {fx fm fo : Nat → va_E} {H : Heap} {locs : List Loc} {ls : Array Slot} {cells slots : Nat} (hI : LI cy cL D A s.heap x mo o ad X fx Mm fm fo H locs) (hl : lv_has ls 7 [(0, .ref b), (1, .ref x), (2, .ref mo), (3, .ref o), (4, .int (iI y4))]) (hc : cells + 40 ≤ 601024) (hs0 : slots + 600 ≤ 7293034) (kk : ∀ (X1 : List Nat) (fx1 fm1 fo1 : Nat → va_E) (H1 : Heap) (locs1 : List Loc) (ls1 : Array Slot) (cells1 slots1 : Nat), cells1 ≤ cells + 40 → slots1 ≤ slots + 600 → LI cy cL D A s.heap x mo o ad X1 fx1 Mm fm1 fo1 H1 locs1 → lv_has ls1 7 [(0, .ref b), (1, .ref x), (2, .ref mo), (3, .ref o), (4, .int (iI y4))] → W p l e room_1 s m #[Value.ref b] below meth c H1 locs1 cells1 slots1 Q (F0 m 1454 ls1 [])) : W p l e room_1 s m #[Value.ref b] below meth c H locs cells slots Q (F0 m 998 ls []) := by
  obtain ⟨hx, hb, hml, hown, hts, hXs, hbl, hK, hA, hbA, hZ, hlt, hLn⟩ := hB
  obtain ⟨hwX, hwM, hwO, apM, apO, apOM, m_x, o_x, hg, ⟨hs, hv, hi, hd, t9a, t9b, t15a, t15b⟩, ho, t1⟩ := hI
  obtain ⟨⟨rq, rr, im, tp, cw, oxm⟩, bt⟩ := id t1
  have hg0 := hg
  have ox0 := o_x
  have mx0 := m_x
  have hKq : va_K D vwCl (tq cy) s := hK.sub [0, 1, 2, 3, 4] rfl
  refine lv_aload_n hx hb dL_law_998 rfl (lv_at hl 1 rfl) ?_
  refine lv_aload_n hx hb dL_law_999 rfl (lv_at hl 0 rfl) ?_
  refine lv_iload hx hb dL_law_1000 (lv_at hl 4 rfl) ?_
  refine q_iconst hx hb dL_law_1002 ?_
  first | refine q_iadd hx hb dL_law_1003 ⟨by omega, by omega⟩ (fun x_1 lx_1 ux_1 ex_1 => ?_) | refine q_iaddw hx hb dL_law_1003 (fun x_1 lx_1 ux_1 ex_1 => ?_)
  refine q_sld hx hb hXs hbl hbA hwX.2.2 ⟨lx_1, ux_1⟩ (by omega) (by omega) dL_law_1004 (fun x_2 lx_2 ux_2 ex_2 => ?_)
  refine lv_aload_n hx hb dL_law_1005 rfl (lv_at hl 0 rfl) ?_
  refine lv_iload hx hb dL_law_1006 (lv_at hl 4 rfl) ?_
  refine q_iconst hx hb dL_law_1008 ?_
  first | refine q_iadd hx hb dL_law_1009 ⟨by omega, by omega⟩ (fun x_3 lx_3 ux_3 ex_3 => ?_) | refine q_iaddw hx hb dL_law_1009 (fun x_3 lx_3 ux_3 ex_3 => ?_)
  refine q_sld hx hb hXs hbl hbA hwX.2.2 ⟨lx_3, ux_3⟩ (by omega) (by omega) dL_law_1010 (fun x_4 lx_4 ux_4 ex_4 => ?_)
  refine lv_aload_n hx hb dL_law_1011 rfl (lv_at hl 0 rfl) ?_
  refine lv_iload hx hb dL_law_1012 (lv_at hl 4 rfl) ?_
  refine q_iconst hx hb dL_law_1014 ?_
  first | refine q_iadd hx hb dL_law_1015 ⟨by omega, by omega⟩ (fun x_5 lx_5 ux_5 ex_5 => ?_) | refine q_iaddw hx hb dL_law_1015 (fun x_5 lx_5 ux_5 ex_5 => ?_)
  refine q_sld hx hb hXs hbl hbA hwX.2.2 ⟨lx_5, ux_5⟩ (by omega) (by omega) dL_law_1016 (fun x_6 lx_6 ux_6 ex_6 => ?_)
  refine lv_aload_n hx hb dL_law_1017 rfl (lv_at hl 0 rfl) ?_
  refine lv_iload hx hb dL_law_1018 (lv_at hl 4 rfl) ?_
  refine q_iconst hx hb dL_law_1020 ?_
  first | refine q_iadd hx hb dL_law_1021 ⟨by omega, by omega⟩ (fun x_7 lx_7 ux_7 ex_7 => ?_) | refine q_iaddw hx hb dL_law_1021 (fun x_7 lx_7 ux_7 ex_7 => ?_)
  refine q_sld hx hb hXs hbl hbA hwX.2.2 ⟨lx_7, ux_7⟩ (by omega) (by omega) dL_law_1022 (fun x_8 lx_8 ux_8 ex_8 => ?_)
  refine q_cf_i hA hwX (va_runV (As := [.int (iI x_2), .int (iI x_4), .int (iI x_6), .int (iI x_8)]) (rest := []) ⟨hx, hb, hml, hown, hts⟩ (c_X9_clashes_h zo l D cy X fx x x_2 lx_2 ux_2 x_4 lx_4 ux_4 x_6 lx_6 ux_6 x_8 lx_8 ux_8 m_x o_x hg _) (cwV 4 hts (gT (inV (mr37 _ (List.mem_of_getElem? (i := 15) rfl)) (mr37 _ (List.mem_of_getElem? (i := 16) rfl)) (mr37 _ (List.mem_of_getElem? (i := 17) rfl)) (mr1 _ (List.mem_of_getElem? (i := 2) rfl)) (mr37 _ (List.mem_of_getElem? (i := 18) rfl)))) rfl rfl rfl (by decide +kernel) ⟨Nat.le_of_ble_eq_true rfl, Nat.le_of_ble_eq_true rfl⟩) (Wd.preV zo hA hZ hwX hKq m_x o_x rfl) rfl rfl hl.1 rfl (lv_room (Nat.le_of_ble_eq_true rfl)) dL_law_1023 ⟨by show cells + 0 ≤ 601024; omega, by show slots + 0 ≤ 7293034; omega⟩) (fun x_9 L_11 f_10 H locs lx_9 ux_9 ex_9 hwX fr => ?_)
  obtain ⟨rfl, hg, hXc, ex_9⟩ := ex_9
  have t1 := t1.eh hg0 mx0 ox0 hXc
  have o_x := hXc.1.1.1 _ _ o_x
  obtain ⟨hwM, apM⟩ := hwM.keep fr hwX.2.2 apM
  obtain ⟨hwO, apO⟩ := hwO.keep fr hwX.2.2 apO
  refine lv_pop hx hb dL_law_1026 rfl ?_
  refine lv_aload_n hx hb dL_law_1027 rfl (lv_at hl 2 rfl) ?_
  refine lv_aload_n hx hb dL_law_1028 rfl (lv_at hl 0 rfl) ?_
  refine lv_iload hx hb dL_law_1029 (lv_at hl 4 rfl) ?_
  refine q_iconst hx hb dL_law_1031 ?_
  first | refine q_iadd hx hb dL_law_1032 ⟨by omega, by omega⟩ (fun x_12 lx_12 ux_12 ex_12 => ?_) | refine q_iaddw hx hb dL_law_1032 (fun x_12 lx_12 ux_12 ex_12 => ?_)
  refine q_sld hx hb hXs hbl hbA hwX.2.2 ⟨lx_12, ux_12⟩ (by omega) (by omega) dL_law_1033 (fun x_13 lx_13 ux_13 ex_13 => ?_)
  refine lv_aload_n hx hb dL_law_1034 rfl (lv_at hl 0 rfl) ?_
  refine lv_iload hx hb dL_law_1035 (lv_at hl 4 rfl) ?_
  refine q_iconst hx hb dL_law_1037 ?_
  first | refine q_iadd hx hb dL_law_1038 ⟨by omega, by omega⟩ (fun x_14 lx_14 ux_14 ex_14 => ?_) | refine q_iaddw hx hb dL_law_1038 (fun x_14 lx_14 ux_14 ex_14 => ?_)
  refine q_sld hx hb hXs hbl hbA hwX.2.2 ⟨lx_14, ux_14⟩ (by omega) (by omega) dL_law_1039 (fun x_15 lx_15 ux_15 ex_15 => ?_)
  refine lv_aload_n hx hb dL_law_1040 rfl (lv_at hl 0 rfl) ?_
  refine lv_iload hx hb dL_law_1041 (lv_at hl 4 rfl) ?_
  refine q_iconst hx hb dL_law_1043 ?_
  first | refine q_iadd hx hb dL_law_1044 ⟨by omega, by omega⟩ (fun x_16 lx_16 ux_16 ex_16 => ?_) | refine q_iaddw hx hb dL_law_1044 (fun x_16 lx_16 ux_16 ex_16 => ?_)
  refine q_sld hx hb hXs hbl hbA hwX.2.2 ⟨lx_16, ux_16⟩ (by omega) (by omega) dL_law_1045 (fun x_17 lx_17 ux_17 ex_17 => ?_)
  refine lv_aload_n hx hb dL_law_1046 rfl (lv_at hl 0 rfl) ?_
  refine lv_iload hx hb dL_law_1047 (lv_at hl 4 rfl) ?_
  refine q_iconst hx hb dL_law_1049 ?_
  first | refine q_iadd hx hb dL_law_1050 ⟨by omega, by omega⟩ (fun x_18 lx_18 ux_18 ex_18 => ?_) | refine q_iaddw hx hb dL_law_1050 (fun x_18 lx_18 ux_18 ex_18 => ?_)
  refine q_sld hx hb hXs hbl hbA hwX.2.2 ⟨lx_18, ux_18⟩ (by omega) (by omega) dL_law_1051 (fun x_19 lx_19 ux_19 ex_19 => ?_)
  refine q_cf_i hA hwM (va_runV (As := [.int (iI x_13), .int (iI x_15), .int (iI x_17), .int (iI x_19)]) (rest := []) ⟨hx, hb, hml, hown, hts⟩ (c_X10_clashes zo l D cy Mm fm mo x_13 lx_13 ux_13 x_15 lx_15 ux_15 x_17 lx_17 ux_17 x_19 lx_19 ux_19 ad hs hv _) (cwV 4 hts (gT (inV (mr37 _ (List.mem_of_getElem? (i := 22) rfl)) (mr37 _ (List.mem_of_getElem? (i := 23) rfl)) (mr38 _ (List.mem_of_getElem? (i := 0) rfl)) (mr1 _ (List.mem_of_getElem? (i := 5) rfl)) (mr38 _ (List.mem_of_getElem? (i := 1) rfl)))) rfl rfl rfl (by decide +kernel) ⟨Nat.le_of_ble_eq_true rfl, Nat.le_of_ble_eq_true rfl⟩) (Wd.preV zo hA hZ hwM hKq hs.1 hs.2.1 rfl) rfl rfl hl.1 rfl (lv_room (Nat.le_of_ble_eq_true rfl)) dL_law_1052 ⟨by show cells + 0 + 0 ≤ 601024; omega, by show slots + 0 + 0 ≤ 7293034; omega⟩) (fun x_20 L_22 f_21 H locs lx_20 ux_20 ex_20 hwM fr => ?_)
  obtain ⟨rfl, hs, hX, ex_20⟩ := ex_20
  obtain ⟨hwX, -⟩ := hwX.keep fr hwM.2.2 (fun y hy hm => apM y hm hy)
  obtain ⟨hwO, -⟩ := hwO.keep fr hwM.2.2 apOM
  have hd := hd.kp hX (by decide) (by decide) (by decide) (by decide)
  have hi := hi.kp hX (by decide) (by decide)
  have hv := hv.kp hX (by decide) (by decide)
  have q9 := hX.2 9 (by decide)
  have q15 := hX.2 15 (by decide)
  have t1 := t1.kp hX (by decide) (by decide) (by decide) (by decide) (by decide) (by decide)
  clear cw bt ex_20 ex_9 oxm
  have t9a : 0 ≤ fI f_21 mo 9 := by omega
  have t9b : fI f_21 mo 9 ≤ 168 := by omega
  have t15a : 0 ≤ fI f_21 mo 15 := by omega
  have t15b : fI f_21 mo 15 ≤ 168 := by omega
  refine lv_pop hx hb dL_law_1055 rfl ?_
  refine lv_goto (tgt := 1454) hx hb dL_law_1056 (by decide) ?_
  exact kk X f_10 f_21 fo _ _ _ _ _ (by omega) (by omega) ⟨hwX, hwM, hwO, apM, apO, apOM, m_x, o_x, hg, ⟨hs, hv, hi, hd, t9a, t9b, t15a, t15b⟩, ho, t1⟩ (lv_sub hl [0, 1, 2, 3, 4] rfl)
set_option maxHeartbeats 4000000 in
set_option maxRecDepth 100000 in
theorem wl_18 {Z : Zt} (zo : Zok Z) (zc : ∀ (A : Nat → Prop) (U : State) (H : Heap), Z A U H → ZE U) {p : Program} {l : Launch} {e : Env} {s : State} {m : MethodId} {below : List Frame} {meth : Method} {c : Code} {b Ln : Nat} {xs : Nat → Int32} {D : va_G} {cy : Cy} {cL : ClassId} {A : Nat → Prop} (hB : LB Z p l s m c b Ln xs D cy cL A) {Q : State → Prop} {x mo o : Nat} {ad : Nat → Nat} {Mm : List Nat} (y4 : Int) (ly4 : -2147483648 ≤ y4) (uy4 : y4 ≤ 2147483647) (i0 : 0 ≤ y4) (i1 : y4 + 7 ≤ (Ln : Int)) {X : List Nat} {fx fm fo : Nat → va_E} {H : Heap} {locs : List Loc} {ls : Array Slot} {cells slots : Nat} (hI : LI cy cL D A s.heap x mo o ad X fx Mm fm fo H locs) (hl : lv_has ls 7 [(0, .ref b), (1, .ref x), (2, .ref mo), (3, .ref o), (4, .int (iI y4))]) (hc : cells + 40 ≤ 601024) (hs0 : slots + 600 ≤ 7293034) (kk : ∀ (X1 : List Nat) (fx1 fm1 fo1 : Nat → va_E) (H1 : Heap) (locs1 : List Loc) (ls1 : Array Slot) (cells1 slots1 : Nat), cells1 ≤ cells + 40 → slots1 ≤ slots + 600 → LI cy cL D A s.heap x mo o ad X1 fx1 Mm fm1 fo1 H1 locs1 → lv_has ls1 7 [(0, .ref b), (1, .ref x), (2, .ref mo), (3, .ref o), (4, .int (iI y4))] → W p l e room_1 s m #[Value.ref b] below meth c H1 locs1 cells1 slots1 Q (F0 m 1454 ls1 [])) : W p l e room_1 s m #[Value.ref b] below meth c H locs cells slots Q (F0 m 1059 ls []) := by
  obtain ⟨hx, hb, hml, hown, hts, hXs, hbl, hK, hA, hbA, hZ, hlt, hLn⟩ := hB
  obtain ⟨hwX, hwM, hwO, apM, apO, apOM, m_x, o_x, hg, ⟨hs, hv, hi, hd, t9a, t9b, t15a, t15b⟩, ho, t1⟩ := hI
  obtain ⟨⟨rq, rr, im, tp, cw, oxm⟩, bt⟩ := id t1
  have hg0 := hg
  have ox0 := o_x
  have mx0 := m_x
  have hKq : va_K D vwCl (tq cy) s := hK.sub [0, 1, 2, 3, 4] rfl
  refine lv_aload_n hx hb dL_law_1059 rfl (lv_at hl 1 rfl) ?_
  refine lv_aload_n hx hb dL_law_1060 rfl (lv_at hl 0 rfl) ?_
  refine lv_iload hx hb dL_law_1061 (lv_at hl 4 rfl) ?_
  refine q_iconst hx hb dL_law_1063 ?_
  first | refine q_iadd hx hb dL_law_1064 ⟨by omega, by omega⟩ (fun x_1 lx_1 ux_1 ex_1 => ?_) | refine q_iaddw hx hb dL_law_1064 (fun x_1 lx_1 ux_1 ex_1 => ?_)
  refine q_sld hx hb hXs hbl hbA hwX.2.2 ⟨lx_1, ux_1⟩ (by omega) (by omega) dL_law_1065 (fun x_2 lx_2 ux_2 ex_2 => ?_)
  refine lv_aload_n hx hb dL_law_1066 rfl (lv_at hl 0 rfl) ?_
  refine lv_iload hx hb dL_law_1067 (lv_at hl 4 rfl) ?_
  refine q_iconst hx hb dL_law_1069 ?_
  first | refine q_iadd hx hb dL_law_1070 ⟨by omega, by omega⟩ (fun x_3 lx_3 ux_3 ex_3 => ?_) | refine q_iaddw hx hb dL_law_1070 (fun x_3 lx_3 ux_3 ex_3 => ?_)
  refine q_sld hx hb hXs hbl hbA hwX.2.2 ⟨lx_3, ux_3⟩ (by omega) (by omega) dL_law_1071 (fun x_4 lx_4 ux_4 ex_4 => ?_)
  refine lv_aload_n hx hb dL_law_1072 rfl (lv_at hl 0 rfl) ?_
  refine lv_iload hx hb dL_law_1073 (lv_at hl 4 rfl) ?_
  refine q_iconst hx hb dL_law_1075 ?_
  first | refine q_iadd hx hb dL_law_1076 ⟨by omega, by omega⟩ (fun x_5 lx_5 ux_5 ex_5 => ?_) | refine q_iaddw hx hb dL_law_1076 (fun x_5 lx_5 ux_5 ex_5 => ?_)
  refine q_sld hx hb hXs hbl hbA hwX.2.2 ⟨lx_5, ux_5⟩ (by omega) (by omega) dL_law_1077 (fun x_6 lx_6 ux_6 ex_6 => ?_)
  refine q_cf_i hA hwX (va_runV (As := [.int (iI x_2), .int (iI x_4), .int (iI x_6)]) (rest := []) ⟨hx, hb, hml, hown, hts⟩ (c_X9_roomClash_h zo l D cy X fx x x_2 lx_2 ux_2 x_4 lx_4 ux_4 x_6 lx_6 ux_6 m_x o_x hg _) (cwV 3 hts (gT (inV (mr38 _ (List.mem_of_getElem? (i := 2) rfl)) (mr38 _ (List.mem_of_getElem? (i := 3) rfl)) (mr38 _ (List.mem_of_getElem? (i := 4) rfl)) (mr1 _ (List.mem_of_getElem? (i := 2) rfl)) (mr38 _ (List.mem_of_getElem? (i := 5) rfl)))) rfl rfl rfl (by decide +kernel) ⟨Nat.le_of_ble_eq_true rfl, Nat.le_of_ble_eq_true rfl⟩) (Wd.preV zo hA hZ hwX hKq m_x o_x rfl) rfl rfl hl.1 rfl (lv_room (Nat.le_of_ble_eq_true rfl)) dL_law_1078 ⟨by show cells + 0 ≤ 601024; omega, by show slots + 0 ≤ 7293034; omega⟩) (fun x_7 L_9 f_8 H locs lx_7 ux_7 ex_7 hwX fr => ?_)
  obtain ⟨rfl, hg, hXc, ex_7⟩ := ex_7
  have t1 := t1.eh hg0 mx0 ox0 hXc
  have o_x := hXc.1.1.1 _ _ o_x
  obtain ⟨hwM, apM⟩ := hwM.keep fr hwX.2.2 apM
  obtain ⟨hwO, apO⟩ := hwO.keep fr hwX.2.2 apO
  refine lv_pop hx hb dL_law_1081 rfl ?_
  refine lv_aload_n hx hb dL_law_1082 rfl (lv_at hl 2 rfl) ?_
  refine lv_aload_n hx hb dL_law_1083 rfl (lv_at hl 0 rfl) ?_
  refine lv_iload hx hb dL_law_1084 (lv_at hl 4 rfl) ?_
  refine q_iconst hx hb dL_law_1086 ?_
  first | refine q_iadd hx hb dL_law_1087 ⟨by omega, by omega⟩ (fun x_10 lx_10 ux_10 ex_10 => ?_) | refine q_iaddw hx hb dL_law_1087 (fun x_10 lx_10 ux_10 ex_10 => ?_)
  refine q_sld hx hb hXs hbl hbA hwX.2.2 ⟨lx_10, ux_10⟩ (by omega) (by omega) dL_law_1088 (fun x_11 lx_11 ux_11 ex_11 => ?_)
  refine lv_aload_n hx hb dL_law_1089 rfl (lv_at hl 0 rfl) ?_
  refine lv_iload hx hb dL_law_1090 (lv_at hl 4 rfl) ?_
  refine q_iconst hx hb dL_law_1092 ?_
  first | refine q_iadd hx hb dL_law_1093 ⟨by omega, by omega⟩ (fun x_12 lx_12 ux_12 ex_12 => ?_) | refine q_iaddw hx hb dL_law_1093 (fun x_12 lx_12 ux_12 ex_12 => ?_)
  refine q_sld hx hb hXs hbl hbA hwX.2.2 ⟨lx_12, ux_12⟩ (by omega) (by omega) dL_law_1094 (fun x_13 lx_13 ux_13 ex_13 => ?_)
  refine lv_aload_n hx hb dL_law_1095 rfl (lv_at hl 0 rfl) ?_
  refine lv_iload hx hb dL_law_1096 (lv_at hl 4 rfl) ?_
  refine q_iconst hx hb dL_law_1098 ?_
  first | refine q_iadd hx hb dL_law_1099 ⟨by omega, by omega⟩ (fun x_14 lx_14 ux_14 ex_14 => ?_) | refine q_iaddw hx hb dL_law_1099 (fun x_14 lx_14 ux_14 ex_14 => ?_)
  refine q_sld hx hb hXs hbl hbA hwX.2.2 ⟨lx_14, ux_14⟩ (by omega) (by omega) dL_law_1100 (fun x_15 lx_15 ux_15 ex_15 => ?_)
  refine q_cf_i hA hwM (va_runV (As := [.int (iI x_11), .int (iI x_13), .int (iI x_15)]) (rest := []) ⟨hx, hb, hml, hown, hts⟩ (c_X10_roomClash zo l D cy Mm fm mo x_11 lx_11 ux_11 x_13 lx_13 ux_13 x_15 lx_15 ux_15 ad hs hv _) (cwV 3 hts (gT (inV (mr38 _ (List.mem_of_getElem? (i := 6) rfl)) (mr38 _ (List.mem_of_getElem? (i := 7) rfl)) (mr38 _ (List.mem_of_getElem? (i := 8) rfl)) (mr1 _ (List.mem_of_getElem? (i := 5) rfl)) (mr38 _ (List.mem_of_getElem? (i := 9) rfl)))) rfl rfl rfl (by decide +kernel) ⟨Nat.le_of_ble_eq_true rfl, Nat.le_of_ble_eq_true rfl⟩) (Wd.preV zo hA hZ hwM hKq hs.1 hs.2.1 rfl) rfl rfl hl.1 rfl (lv_room (Nat.le_of_ble_eq_true rfl)) dL_law_1101 ⟨by show cells + 0 + 0 ≤ 601024; omega, by show slots + 0 + 0 ≤ 7293034; omega⟩) (fun x_16 L_18 f_17 H locs lx_16 ux_16 ex_16 hwM fr => ?_)
  obtain ⟨rfl, hs, hX, ex_16⟩ := ex_16
  obtain ⟨hwX, -⟩ := hwX.keep fr hwM.2.2 (fun y hy hm => apM y hm hy)
  obtain ⟨hwO, -⟩ := hwO.keep fr hwM.2.2 apOM
  have hd := hd.kp hX (by decide) (by decide) (by decide) (by decide)
  have hi := hi.kp hX (by decide) (by decide)
  have hv := hv.kp hX (by decide) (by decide)
  have q9 := hX.2 9 (by decide)
  have q15 := hX.2 15 (by decide)
  have t1 := t1.kp hX (by decide) (by decide) (by decide) (by decide) (by decide) (by decide)
  clear cw bt ex_16 ex_7 oxm
  have t9a : 0 ≤ fI f_17 mo 9 := by omega
  have t9b : fI f_17 mo 9 ≤ 168 := by omega
  have t15a : 0 ≤ fI f_17 mo 15 := by omega
  have t15b : fI f_17 mo 15 ≤ 168 := by omega
  refine lv_pop hx hb dL_law_1104 rfl ?_
  refine lv_goto (tgt := 1454) hx hb dL_law_1105 (by decide) ?_
  exact kk X f_8 f_17 fo _ _ _ _ _ (by omega) (by omega) ⟨hwX, hwM, hwO, apM, apO, apOM, m_x, o_x, hg, ⟨hs, hv, hi, hd, t9a, t9b, t15a, t15b⟩, ho, t1⟩ (lv_sub hl [0, 1, 2, 3, 4] rfl)
set_option maxHeartbeats 4000000 in
set_option maxRecDepth 100000 in
theorem wl_19 {Z : Zt} (zo : Zok Z) (zc : ∀ (A : Nat → Prop) (U : State) (H : Heap), Z A U H → ZE U) {p : Program} {l : Launch} {e : Env} {s : State} {m : MethodId} {below : List Frame} {meth : Method} {c : Code} {b Ln : Nat} {xs : Nat → Int32} {D : va_G} {cy : Cy} {cL : ClassId} {A : Nat → Prop} (hB : LB Z p l s m c b Ln xs D cy cL A) {Q : State → Prop} {x mo o : Nat} {ad : Nat → Nat} {Mm : List Nat} (y4 : Int) (ly4 : -2147483648 ≤ y4) (uy4 : y4 ≤ 2147483647) (i0 : 0 ≤ y4) (i1 : y4 + 7 ≤ (Ln : Int)) {X : List Nat} {fx fm fo : Nat → va_E} {H : Heap} {locs : List Loc} {ls : Array Slot} {cells slots : Nat} (hI : LI cy cL D A s.heap x mo o ad X fx Mm fm fo H locs) (hl : lv_has ls 7 [(0, .ref b), (1, .ref x), (2, .ref mo), (3, .ref o), (4, .int (iI y4))]) (hc : cells + 40 ≤ 601024) (hs0 : slots + 600 ≤ 7293034) (kk : ∀ (X1 : List Nat) (fx1 fm1 fo1 : Nat → va_E) (H1 : Heap) (locs1 : List Loc) (ls1 : Array Slot) (cells1 slots1 : Nat), cells1 ≤ cells + 40 → slots1 ≤ slots + 600 → LI cy cL D A s.heap x mo o ad X1 fx1 Mm fm1 fo1 H1 locs1 → lv_has ls1 7 [(0, .ref b), (1, .ref x), (2, .ref mo), (3, .ref o), (4, .int (iI y4))] → W p l e room_1 s m #[Value.ref b] below meth c H1 locs1 cells1 slots1 Q (F0 m 1454 ls1 [])) : W p l e room_1 s m #[Value.ref b] below meth c H locs cells slots Q (F0 m 1108 ls []) := by
  obtain ⟨hx, hb, hml, hown, hts, hXs, hbl, hK, hA, hbA, hZ, hlt, hLn⟩ := hB
  obtain ⟨hwX, hwM, hwO, apM, apO, apOM, m_x, o_x, hg, ⟨hs, hv, hi, hd, t9a, t9b, t15a, t15b⟩, ho, t1⟩ := hI
  obtain ⟨⟨rq, rr, im, tp, cw, oxm⟩, bt⟩ := id t1
  have hg0 := hg
  have ox0 := o_x
  have mx0 := m_x
  have hKq : va_K D vwCl (tq cy) s := hK.sub [0, 1, 2, 3, 4] rfl
  refine lv_aload_n hx hb dL_law_1108 rfl (lv_at hl 1 rfl) ?_
  refine lv_aload_n hx hb dL_law_1109 rfl (lv_at hl 0 rfl) ?_
  refine lv_iload hx hb dL_law_1110 (lv_at hl 4 rfl) ?_
  refine q_iconst hx hb dL_law_1112 ?_
  first | refine q_iadd hx hb dL_law_1113 ⟨by omega, by omega⟩ (fun x_1 lx_1 ux_1 ex_1 => ?_) | refine q_iaddw hx hb dL_law_1113 (fun x_1 lx_1 ux_1 ex_1 => ?_)
  refine q_sld hx hb hXs hbl hbA hwX.2.2 ⟨lx_1, ux_1⟩ (by omega) (by omega) dL_law_1114 (fun x_2 lx_2 ux_2 ex_2 => ?_)
  refine lv_aload_n hx hb dL_law_1115 rfl (lv_at hl 0 rfl) ?_
  refine lv_iload hx hb dL_law_1116 (lv_at hl 4 rfl) ?_
  refine q_iconst hx hb dL_law_1118 ?_
  first | refine q_iadd hx hb dL_law_1119 ⟨by omega, by omega⟩ (fun x_3 lx_3 ux_3 ex_3 => ?_) | refine q_iaddw hx hb dL_law_1119 (fun x_3 lx_3 ux_3 ex_3 => ?_)
  refine q_sld hx hb hXs hbl hbA hwX.2.2 ⟨lx_3, ux_3⟩ (by omega) (by omega) dL_law_1120 (fun x_4 lx_4 ux_4 ex_4 => ?_)
  refine lv_aload_n hx hb dL_law_1121 rfl (lv_at hl 0 rfl) ?_
  refine lv_iload hx hb dL_law_1122 (lv_at hl 4 rfl) ?_
  refine q_iconst hx hb dL_law_1124 ?_
  first | refine q_iadd hx hb dL_law_1125 ⟨by omega, by omega⟩ (fun x_5 lx_5 ux_5 ex_5 => ?_) | refine q_iaddw hx hb dL_law_1125 (fun x_5 lx_5 ux_5 ex_5 => ?_)
  refine q_sld hx hb hXs hbl hbA hwX.2.2 ⟨lx_5, ux_5⟩ (by omega) (by omega) dL_law_1126 (fun x_6 lx_6 ux_6 ex_6 => ?_)
  refine q_cf_i hA hwX (va_runV (As := [.int (iI x_2), .int (iI x_4), .int (iI x_6)]) (rest := []) ⟨hx, hb, hml, hown, hts⟩ (c_X9_free_h zo l D cy X fx x x_2 lx_2 ux_2 x_4 lx_4 ux_4 x_6 lx_6 ux_6 m_x o_x hg _) (cwV 3 hts (gT (inV (mr38 _ (List.mem_of_getElem? (i := 10) rfl)) (mr38 _ (List.mem_of_getElem? (i := 11) rfl)) (mr38 _ (List.mem_of_getElem? (i := 12) rfl)) (mr1 _ (List.mem_of_getElem? (i := 2) rfl)) (mr38 _ (List.mem_of_getElem? (i := 13) rfl)))) rfl rfl rfl (by decide +kernel) ⟨Nat.le_of_ble_eq_true rfl, Nat.le_of_ble_eq_true rfl⟩) (Wd.preV zo hA hZ hwX hKq m_x o_x rfl) rfl rfl hl.1 rfl (lv_room (Nat.le_of_ble_eq_true rfl)) dL_law_1127 ⟨by show cells + 0 ≤ 601024; omega, by show slots + 0 ≤ 7293034; omega⟩) (fun x_7 L_9 f_8 H locs lx_7 ux_7 ex_7 hwX fr => ?_)
  obtain ⟨rfl, hg, hXc, ex_7⟩ := ex_7
  have t1 := t1.eh hg0 mx0 ox0 hXc
  have o_x := hXc.1.1.1 _ _ o_x
  obtain ⟨hwM, apM⟩ := hwM.keep fr hwX.2.2 apM
  obtain ⟨hwO, apO⟩ := hwO.keep fr hwX.2.2 apO
  refine lv_pop hx hb dL_law_1130 rfl ?_
  refine lv_aload_n hx hb dL_law_1131 rfl (lv_at hl 2 rfl) ?_
  refine lv_aload_n hx hb dL_law_1132 rfl (lv_at hl 0 rfl) ?_
  refine lv_iload hx hb dL_law_1133 (lv_at hl 4 rfl) ?_
  refine q_iconst hx hb dL_law_1135 ?_
  first | refine q_iadd hx hb dL_law_1136 ⟨by omega, by omega⟩ (fun x_10 lx_10 ux_10 ex_10 => ?_) | refine q_iaddw hx hb dL_law_1136 (fun x_10 lx_10 ux_10 ex_10 => ?_)
  refine q_sld hx hb hXs hbl hbA hwX.2.2 ⟨lx_10, ux_10⟩ (by omega) (by omega) dL_law_1137 (fun x_11 lx_11 ux_11 ex_11 => ?_)
  refine lv_aload_n hx hb dL_law_1138 rfl (lv_at hl 0 rfl) ?_
  refine lv_iload hx hb dL_law_1139 (lv_at hl 4 rfl) ?_
  refine q_iconst hx hb dL_law_1141 ?_
  first | refine q_iadd hx hb dL_law_1142 ⟨by omega, by omega⟩ (fun x_12 lx_12 ux_12 ex_12 => ?_) | refine q_iaddw hx hb dL_law_1142 (fun x_12 lx_12 ux_12 ex_12 => ?_)
  refine q_sld hx hb hXs hbl hbA hwX.2.2 ⟨lx_12, ux_12⟩ (by omega) (by omega) dL_law_1143 (fun x_13 lx_13 ux_13 ex_13 => ?_)
  refine lv_aload_n hx hb dL_law_1144 rfl (lv_at hl 0 rfl) ?_
  refine lv_iload hx hb dL_law_1145 (lv_at hl 4 rfl) ?_
  refine q_iconst hx hb dL_law_1147 ?_
  first | refine q_iadd hx hb dL_law_1148 ⟨by omega, by omega⟩ (fun x_14 lx_14 ux_14 ex_14 => ?_) | refine q_iaddw hx hb dL_law_1148 (fun x_14 lx_14 ux_14 ex_14 => ?_)
  refine q_sld hx hb hXs hbl hbA hwX.2.2 ⟨lx_14, ux_14⟩ (by omega) (by omega) dL_law_1149 (fun x_15 lx_15 ux_15 ex_15 => ?_)
  refine q_cf_i hA hwM (va_runV (As := [.int (iI x_11), .int (iI x_13), .int (iI x_15)]) (rest := []) ⟨hx, hb, hml, hown, hts⟩ (c_X10_free zo l D cy Mm fm mo x_11 lx_11 ux_11 x_13 lx_13 ux_13 x_15 lx_15 ux_15 ad hs hv _) (cwV 3 hts (gT (inV (mr38 _ (List.mem_of_getElem? (i := 18) rfl)) (mr38 _ (List.mem_of_getElem? (i := 19) rfl)) (mr38 _ (List.mem_of_getElem? (i := 20) rfl)) (mr1 _ (List.mem_of_getElem? (i := 5) rfl)) (mr38 _ (List.mem_of_getElem? (i := 21) rfl)))) rfl rfl rfl (by decide +kernel) ⟨Nat.le_of_ble_eq_true rfl, Nat.le_of_ble_eq_true rfl⟩) (Wd.preV zo hA hZ hwM hKq hs.1 hs.2.1 rfl) rfl rfl hl.1 rfl (lv_room (Nat.le_of_ble_eq_true rfl)) dL_law_1150 ⟨by show cells + 0 + 0 ≤ 601024; omega, by show slots + 0 + 0 ≤ 7293034; omega⟩) (fun x_16 L_18 f_17 H locs lx_16 ux_16 ex_16 hwM fr => ?_)
  obtain ⟨rfl, hs, hX, ex_16⟩ := ex_16
  obtain ⟨hwX, -⟩ := hwX.keep fr hwM.2.2 (fun y hy hm => apM y hm hy)
  obtain ⟨hwO, -⟩ := hwO.keep fr hwM.2.2 apOM
  have hd := hd.kp hX (by decide) (by decide) (by decide) (by decide)
  have hi := hi.kp hX (by decide) (by decide)
  have hv := hv.kp hX (by decide) (by decide)
  have q9 := hX.2 9 (by decide)
  have q15 := hX.2 15 (by decide)
  have t1 := t1.kp hX (by decide) (by decide) (by decide) (by decide) (by decide) (by decide)
  clear cw bt ex_16 ex_7 oxm
  have t9a : 0 ≤ fI f_17 mo 9 := by omega
  have t9b : fI f_17 mo 9 ≤ 168 := by omega
  have t15a : 0 ≤ fI f_17 mo 15 := by omega
  have t15b : fI f_17 mo 15 ≤ 168 := by omega
  refine lv_pop hx hb dL_law_1153 rfl ?_
  refine lv_goto (tgt := 1454) hx hb dL_law_1154 (by decide) ?_
  exact kk X f_8 f_17 fo _ _ _ _ _ (by omega) (by omega) ⟨hwX, hwM, hwO, apM, apO, apOM, m_x, o_x, hg, ⟨hs, hv, hi, hd, t9a, t9b, t15a, t15b⟩, ho, t1⟩ (lv_sub hl [0, 1, 2, 3, 4] rfl)
