set_option maxHeartbeats 4000000 in
set_option maxRecDepth 100000 in
theorem c_X1_daysOfMonth_c {Z : Zt} (zo : Zok Z) (l : Launch) (D : va_G) (cy : Cy) (L0 : List Nat) (f0 : Nat → va_E) (x0 : Int) (lx0 : -2147483648 ≤ x0) (ux0 : x0 ≤ 2147483647) (x1 : Int) (lx1 : -2147483648 ≤ x1) (ux1 : x1 ≤ 2147483647) : Ci Z l yX1_daysOfMonth (Cond.code yX1_daysOfMonth cX1_daysOfMonth 3 (some .int) :: TB) ({ frames := 1, cells := 0, slots := 0, locals := 21 } : Room) 0 0 D (tq cy) [.int (iI x0), .int (iI x1)] L0 f0 (fun (r : Int) (L1 : List Nat) (f1 : Nat → va_E) => L0 = L1 ∧ f0 = f1 ∧ ((2000 ≤ x0 ∧ x0 ≤ 2099 ∧ 1 ≤ x1 ∧ x1 ≤ 12 ∧ r = dI x0 x1) ∨ ((x0 < 2000 ∨ 2099 < x0 ∨ x1 < 1 ∨ 12 < x1) ∧ r = 0))) := by
  refine Ci.enter (cc := cX1_daysOfMonth) (n := 3) rfl (plainFor_of_name (by decide)) (Nat.le_of_ble_eq_true rfl) ?_
  intro p e s m below meth c ls A hx hb hr hts hown hlocks hnm hml hK hA hAe hw hZ hl
  have hown : s.vm.findClass RX1 = some m.cls := hown
  have hl : lv_has ls 3 [(0, .int (iI x0)), (1, .int (iI x1))] := hl
  have hN : ZN s := (zo.2.2.2.2 _ _ _ hZ).2
  refine lv_iload_n hx hb dX1_daysOfMonth_0 rfl (lv_at hl 0 rfl) ?_
  refine q_sipush hx hb dX1_daysOfMonth_1 rfl ?_
  refine q_icmp_lt (tgt := 25) hx hb dX1_daysOfMonth_4 (by decide) ⟨lx0, ux0⟩ ⟨by decide, by decide⟩ (fun c4 => ?_) (fun c4 => ?_)
  · refine q_iconst hx hb dX1_daysOfMonth_25 ?_
    exact q_ret_i hx hb hr hlocks hK hAe hw ⟨by decide, by decide⟩ (Nat.le_of_ble_eq_true rfl) (Nat.le_of_ble_eq_true rfl) dX1_daysOfMonth_26 ⟨rfl, rfl, by omega⟩
  · refine lv_iload_n hx hb dX1_daysOfMonth_7 rfl (lv_at hl 0 rfl) ?_
    refine q_sipush hx hb dX1_daysOfMonth_8 rfl ?_
    refine q_icmp_gt (tgt := 25) hx hb dX1_daysOfMonth_11 (by decide) ⟨lx0, ux0⟩ ⟨by decide, by decide⟩ (fun c11 => ?_) (fun c11 => ?_)
    · refine q_iconst hx hb dX1_daysOfMonth_25 ?_
      exact q_ret_i hx hb hr hlocks hK hAe hw ⟨by decide, by decide⟩ (Nat.le_of_ble_eq_true rfl) (Nat.le_of_ble_eq_true rfl) dX1_daysOfMonth_26 ⟨rfl, rfl, by omega⟩
    · refine lv_iload_n hx hb dX1_daysOfMonth_14 rfl (lv_at hl 1 rfl) ?_
      refine q_iconst hx hb dX1_daysOfMonth_15 ?_
      refine q_icmp_lt (tgt := 25) hx hb dX1_daysOfMonth_16 (by decide) ⟨lx1, ux1⟩ ⟨by decide, by decide⟩ (fun c16 => ?_) (fun c16 => ?_)
      · refine q_iconst hx hb dX1_daysOfMonth_25 ?_
        exact q_ret_i hx hb hr hlocks hK hAe hw ⟨by decide, by decide⟩ (Nat.le_of_ble_eq_true rfl) (Nat.le_of_ble_eq_true rfl) dX1_daysOfMonth_26 ⟨rfl, rfl, by omega⟩
      · refine lv_iload_n hx hb dX1_daysOfMonth_19 rfl (lv_at hl 1 rfl) ?_
        refine q_bipush hx hb dX1_daysOfMonth_20 rfl ?_
        refine q_icmp_le (tgt := 27) hx hb dX1_daysOfMonth_22 (by decide) ⟨lx1, ux1⟩ ⟨by decide, by decide⟩ (fun c22 => ?_) (fun c22 => ?_)
        · refine lv_iload_n hx hb dX1_daysOfMonth_27 rfl (lv_at hl 0 rfl) ?_
          refine lv_iload_n hx hb dX1_daysOfMonth_28 rfl (lv_at hl 1 rfl) ?_
          refine q_call_i hA hK hw (va_runS (As := [.int (iI x0), .int (iI x1)]) (rest := []) ⟨hx, hb, hml, hown, hts⟩ (c_X1_monthNumber zo l D cy L0 f0 x0 lx0 ux0 x1 lx1 ux1 _) (va_cwS 2 hts (gT (inS (mr11 _ (List.mem_of_getElem? (i := 22) rfl)) (mr11 _ (List.mem_of_getElem? (i := 23) rfl)) (mr11 _ (List.mem_of_getElem? (i := 20) rfl)) (mr12 _ (List.mem_of_getElem? (i := 0) rfl)))) rfl rfl rfl (by decide +kernel) ⟨Nat.le_of_ble_eq_true rfl, Nat.le_of_ble_eq_true rfl⟩) (Wd.preS zo hA hZ hw hK) rfl rfl hl.1 rfl (lv_room (Nat.le_of_ble_eq_true rfl)) dX1_daysOfMonth_29 ⟨Nat.le_of_ble_eq_true rfl, Nat.le_of_ble_eq_true rfl⟩) (fun x_1 L1 f1 H locs lx_1 ux_1 ex_1 hw => ?_)
          obtain ⟨rfl, rfl, ex_1⟩ := ex_1
          have n29 := ex_1 ⟨by omega, by omega, by omega, by omega⟩
          have mb := mst_b (y := x0) (m := x1) (by omega) (by omega) (by omega) (by omega)
          have db := dI_b x0 x1
          clear ex_1
          refine lv_istore_n (lv' := [(2, .int (iI x_1)), (0, .int (iI x0)), (1, .int (iI x1))]) hx hb dX1_daysOfMonth_32 rfl hl (by decide) rfl (fun ls hl => ?_)
          refine lv_iload_n hx hb dX1_daysOfMonth_33 rfl (lv_at hl 0 rfl) ?_
          refine q_iconst hx hb dX1_daysOfMonth_34 ?_
          first | refine q_iadd hx hb dX1_daysOfMonth_35 ⟨by omega, by omega⟩ (fun x_2 lx_2 ux_2 ex_2 => ?_) | refine q_iaddw hx hb dX1_daysOfMonth_35 (fun x_2 lx_2 ux_2 _ => ?_)
          refine q_call_i hA hK hw (va_runS (As := [.int (iI x_2)]) (rest := []) ⟨hx, hb, hml, hown, hts⟩ (c_X1_monthStart zo l D cy L0 f0 x_2 lx_2 ux_2 _) (va_cwS 1 hts (gT (inS (mr12 _ (List.mem_of_getElem? (i := 1) rfl)) (mr12 _ (List.mem_of_getElem? (i := 2) rfl)) (mr11 _ (List.mem_of_getElem? (i := 20) rfl)) (mr12 _ (List.mem_of_getElem? (i := 3) rfl)))) rfl rfl rfl (by decide +kernel) ⟨Nat.le_of_ble_eq_true rfl, Nat.le_of_ble_eq_true rfl⟩) (Wd.preS zo hA hZ hw hK) rfl rfl hl.1 rfl (lv_room (Nat.le_of_ble_eq_true rfl)) dX1_daysOfMonth_36 ⟨Nat.le_of_ble_eq_true rfl, Nat.le_of_ble_eq_true rfl⟩) (fun x_3 L1 f1 H locs lx_3 ux_3 ex_3 hw => ?_)
          obtain ⟨rfl, rfl, ex_3⟩ := ex_3
          have s36 : x_3 = mst x0 x1 + dI x0 x1 := (ex_3.2 ⟨by omega, by omega⟩).trans (Eq.trans (show cyS x_2 = cyS ((x0 - 2000) * 12 + x1) by rw [show x_2 = (x0 - 2000) * 12 + x1 by omega]) (cyS_nx (by omega) (by omega) (by omega)))
          clear ex_3
          refine lv_iload_n hx hb dX1_daysOfMonth_39 rfl (lv_at hl 0 rfl) ?_
          refine q_call_i hA hK hw (va_runS (As := [.int (iI x_1)]) (rest := [.int (iI x_3)]) ⟨hx, hb, hml, hown, hts⟩ (c_X1_monthStart zo l D cy L0 f0 x_1 lx_1 ux_1 _) (va_cwS 1 hts (gT (inS (mr12 _ (List.mem_of_getElem? (i := 1) rfl)) (mr12 _ (List.mem_of_getElem? (i := 2) rfl)) (mr11 _ (List.mem_of_getElem? (i := 20) rfl)) (mr12 _ (List.mem_of_getElem? (i := 3) rfl)))) rfl rfl rfl (by decide +kernel) ⟨Nat.le_of_ble_eq_true rfl, Nat.le_of_ble_eq_true rfl⟩) (Wd.preS zo hA hZ hw hK) rfl rfl hl.1 rfl (lv_room (Nat.le_of_ble_eq_true rfl)) dX1_daysOfMonth_40 ⟨Nat.le_of_ble_eq_true rfl, Nat.le_of_ble_eq_true rfl⟩) (fun x_4 L1 f1 H locs lx_4 ux_4 ex_4 hw => ?_)
          obtain ⟨rfl, rfl, ex_4⟩ := ex_4
          have s40 : x_4 = mst x0 x1 := (ex_4.2 ⟨by omega, by omega⟩).trans (Eq.trans (show cyS x_1 = cyS ((x0 - 2000) * 12 + x1 - 1) by rw [show x_1 = (x0 - 2000) * 12 + x1 - 1 by omega]) (cyS_mst (by omega) (by omega) (by omega)))
          clear ex_4
          first | refine q_isub hx hb dX1_daysOfMonth_43 ⟨by omega, by omega⟩ (fun x_5 lx_5 ux_5 ex_5 => ?_) | refine q_isubw hx hb dX1_daysOfMonth_43 (fun x_5 lx_5 ux_5 _ => ?_)
          exact q_ret_i hx hb hr hlocks hK hAe hw ⟨lx_5, ux_5⟩ (Nat.le_of_ble_eq_true rfl) (Nat.le_of_ble_eq_true rfl) dX1_daysOfMonth_44 ⟨rfl, rfl, by omega⟩
        · refine q_iconst hx hb dX1_daysOfMonth_25 ?_
          exact q_ret_i hx hb hr hlocks hK hAe hw ⟨by decide, by decide⟩ (Nat.le_of_ble_eq_true rfl) (Nat.le_of_ble_eq_true rfl) dX1_daysOfMonth_26 ⟨rfl, rfl, by omega⟩
set_option maxHeartbeats 4000000 in
set_option maxRecDepth 100000 in
theorem c_X9_day_c {Z : Zt} (zo : Zok Z) (l : Launch) (D : va_G) (cy : Cy) (L0 : List Nat) (f0 : Nat → va_E) (a0 : Nat) (x1 : Int) (lx1 : -2147483648 ≤ x1) (ux1 : x1 ≤ 2147483647) (x2 : Int) (lx2 : -2147483648 ≤ x2) (ux2 : x2 ≤ 2147483647) (x3 : Int) (lx3 : -2147483648 ≤ x3) (ux3 : x3 ≤ 2147483647) (m_a0 : a0 ∈ L0) (o_a0 : Ob f0 a0 7) (hg : GI cy L0 f0) : Ci Z l yX9_day (Cond.code yX9_day cX9_day 4 (some .int) :: TB) ({ frames := 2, cells := 0, slots := 0, locals := 43 } : Room) 0 0 D (tq cy) [.ref a0, .int (iI x1), .int (iI x2), .int (iI x3)] L0 f0 (fun (r : Int) (L1 : List Nat) (f1 : Nat → va_E) => L0 = L1 ∧ f0 = f1 ∧ ((2000 ≤ x1 ∧ x1 ≤ 2099 ∧ 1 ≤ x2 ∧ x2 ≤ 12 ∧ 1 ≤ x3 ∧ x3 ≤ dI x1 x2 ∧ r = mst x1 x2 + x3 - 1) ∨ ((x1 < 2000 ∨ 2099 < x1 ∨ x2 < 1 ∨ 12 < x2 ∨ x3 < 1 ∨ dI x1 x2 < x3) ∧ r = -1))) := by
  refine Ci.enter (cc := cX9_day) (n := 4) rfl (plainFor_of_name (by decide)) (Nat.le_of_ble_eq_true rfl) ?_
  intro p e s m below meth c ls A hx hb hr hts hown hlocks hnm hml hK hA hAe hw hZ hl
  have hown : s.vm.findClass RX9 = some m.cls := hown
  have hl : lv_has ls 4 [(0, .ref a0), (1, .int (iI x1)), (2, .int (iI x2)), (3, .int (iI x3))] := hl
  have hN : ZN s := (zo.2.2.2.2 _ _ _ hZ).2
  refine lv_iload_n hx hb dX9_day_0 rfl (lv_at hl 3 rfl) ?_
  refine q_iconst hx hb dX9_day_1 ?_
  refine q_icmp_lt (tgt := 14) hx hb dX9_day_2 (by decide) ⟨lx3, ux3⟩ ⟨by decide, by decide⟩ (fun c2 => ?_) (fun c2 => ?_)
  · refine q_iconst hx hb dX9_day_14 ?_
    exact q_ret_i hx hb hr hlocks hK hAe hw ⟨by decide, by decide⟩ (Nat.le_of_ble_eq_true rfl) (Nat.le_of_ble_eq_true rfl) dX9_day_15 ⟨rfl, rfl, by omega⟩
  · refine lv_iload_n hx hb dX9_day_5 rfl (lv_at hl 3 rfl) ?_
    refine lv_iload_n hx hb dX9_day_6 rfl (lv_at hl 1 rfl) ?_
    refine lv_iload_n hx hb dX9_day_7 rfl (lv_at hl 2 rfl) ?_
    refine q_call_i hA hK hw (va_runSN (As := [.int (iI x1), .int (iI x2)]) (rest := [.int (iI x3)]) ⟨hx, hb, hml, hown, hts⟩ (c_X1_daysOfMonth_c zo l D cy L0 f0 x1 lx1 ux1 x2 lx2 ux2 _) ⟨va_cnB 2 hts (gT (inC (mr11 _ (List.mem_of_getElem? (i := 21) rfl)))) rfl rfl rfl (hN _ (List.mem_of_getElem? (i := 8) rfl)) (hts _ (List.mem_cons_of_mem _ (mr11 _ (List.mem_of_getElem? (i := 20) rfl)))) (by decide +kernel) ⟨Nat.le_of_ble_eq_true rfl, Nat.le_of_ble_eq_true rfl⟩, (hts _ (List.mem_cons_of_mem _ (mr11 _ (List.mem_of_getElem? (i := 19) rfl)))), trivial⟩ (Wd.preS zo hA hZ hw hK) rfl rfl hl.1 rfl (lv_room (Nat.le_of_ble_eq_true rfl)) dX9_day_8 ⟨Nat.le_of_ble_eq_true rfl, Nat.le_of_ble_eq_true rfl⟩) (fun x_1 L1 f1 H locs lx_1 ux_1 ex_1 hw => ?_)
    obtain ⟨rfl, rfl, ex_1⟩ := ex_1
    refine q_icmp_le (tgt := 16) hx hb dX9_day_11 (by decide) ⟨lx3, ux3⟩ ⟨lx_1, ux_1⟩ (fun c11 => ?_) (fun c11 => ?_)
    · refine lv_iload_n hx hb dX9_day_16 rfl (lv_at hl 1 rfl) ?_
      refine lv_iload_n hx hb dX9_day_17 rfl (lv_at hl 2 rfl) ?_
      refine q_call_i hA hK hw (va_runSN (As := [.int (iI x1), .int (iI x2)]) (rest := []) ⟨hx, hb, hml, hown, hts⟩ (c_X1_monthNumber zo l D cy L0 f0 x1 lx1 ux1 x2 lx2 ux2 _) ⟨va_cnB 2 hts (gT (inC (mr12 _ (List.mem_of_getElem? (i := 0) rfl)))) rfl rfl rfl (hN _ (List.mem_of_getElem? (i := 9) rfl)) (hts _ (List.mem_cons_of_mem _ (mr11 _ (List.mem_of_getElem? (i := 20) rfl)))) (by decide +kernel) ⟨Nat.le_of_ble_eq_true rfl, Nat.le_of_ble_eq_true rfl⟩, (hts _ (List.mem_cons_of_mem _ (mr11 _ (List.mem_of_getElem? (i := 23) rfl)))), trivial⟩ (Wd.preS zo hA hZ hw hK) rfl rfl hl.1 rfl (lv_room (Nat.le_of_ble_eq_true rfl)) dX9_day_18 ⟨Nat.le_of_ble_eq_true rfl, Nat.le_of_ble_eq_true rfl⟩) (fun x_2 L1 f1 H locs lx_2 ux_2 ex_2 hw => ?_)
      obtain ⟨rfl, rfl, ex_2⟩ := ex_2
      have n18 := ex_2 ⟨by omega, by omega, by omega, by omega⟩
      have mb := mst_b (y := x1) (m := x2) (by omega) (by omega) (by omega) (by omega)
      have db := dI_b x1 x2
      clear ex_2
      refine q_call_i hA hK hw (va_runSN (As := [.int (iI x_2)]) (rest := []) ⟨hx, hb, hml, hown, hts⟩ (c_X1_monthStart zo l D cy L0 f0 x_2 lx_2 ux_2 _) ⟨va_cnB 1 hts (gT (inC (mr12 _ (List.mem_of_getElem? (i := 3) rfl)))) rfl rfl rfl (hN _ (List.mem_of_getElem? (i := 10) rfl)) (hts _ (List.mem_cons_of_mem _ (mr11 _ (List.mem_of_getElem? (i := 20) rfl)))) (by decide +kernel) ⟨Nat.le_of_ble_eq_true rfl, Nat.le_of_ble_eq_true rfl⟩, (hts _ (List.mem_cons_of_mem _ (mr12 _ (List.mem_of_getElem? (i := 2) rfl)))), trivial⟩ (Wd.preS zo hA hZ hw hK) rfl rfl hl.1 rfl (lv_room (Nat.le_of_ble_eq_true rfl)) dX9_day_21 ⟨Nat.le_of_ble_eq_true rfl, Nat.le_of_ble_eq_true rfl⟩) (fun x_3 L1 f1 H locs lx_3 ux_3 ex_3 hw => ?_)
      obtain ⟨rfl, rfl, ex_3⟩ := ex_3
      have s21 : x_3 = mst x1 x2 := (ex_3.2 ⟨by omega, by omega⟩).trans (Eq.trans (show cyS x_2 = cyS ((x1 - 2000) * 12 + x2 - 1) by rw [show x_2 = (x1 - 2000) * 12 + x2 - 1 by omega]) (cyS_mst (by omega) (by omega) (by omega)))
      clear ex_3
      refine lv_iload_n hx hb dX9_day_24 rfl (lv_at hl 3 rfl) ?_
      first | refine q_iadd hx hb dX9_day_25 ⟨by omega, by omega⟩ (fun x_4 lx_4 ux_4 ex_4 => ?_) | refine q_iaddw hx hb dX9_day_25 (fun x_4 lx_4 ux_4 _ => ?_)
      refine q_iconst hx hb dX9_day_26 ?_
      first | refine q_isub hx hb dX9_day_27 ⟨by omega, by omega⟩ (fun x_5 lx_5 ux_5 ex_5 => ?_) | refine q_isubw hx hb dX9_day_27 (fun x_5 lx_5 ux_5 _ => ?_)
      exact q_ret_i hx hb hr hlocks hK hAe hw ⟨lx_5, ux_5⟩ (Nat.le_of_ble_eq_true rfl) (Nat.le_of_ble_eq_true rfl) dX9_day_28 ⟨rfl, rfl, by omega⟩
    · refine q_iconst hx hb dX9_day_14 ?_
      exact q_ret_i hx hb hr hlocks hK hAe hw ⟨by decide, by decide⟩ (Nat.le_of_ble_eq_true rfl) (Nat.le_of_ble_eq_true rfl) dX9_day_15 ⟨rfl, rfl, by omega⟩
set_option maxHeartbeats 4000000 in
set_option maxRecDepth 100000 in
theorem c_X10_dayOf_3 {Z : Zt} (zo : Zok Z) (l : Launch) (D : va_G) (cy : Cy) (L0 : List Nat) (f0 : Nat → va_E) (a0 : Nat) (x1 : Int) (lx1 : -2147483648 ≤ x1) (ux1 : x1 ≤ 2147483647) (x2 : Int) (lx2 : -2147483648 ≤ x2) (ux2 : x2 ≤ 2147483647) (x3 : Int) (lx3 : -2147483648 ≤ x3) (ux3 : x3 ≤ 2147483647) (ad : Nat → Nat) (hs : MS cy L0 f0 a0 ad) (y1 : 2000 ≤ x1) (y2 : x1 ≤ 2099) (hd : DT f0 ad 36525) : Ci Z l yX10_dayOf (Cond.code yX10_dayOf cX10_dayOf 5 (some .int) :: TB) ({ frames := 0, cells := 0, slots := 0, locals := 0 } : Room) 0 0 D (tq cy) [.ref a0, .int (iI x1), .int (iI x2), .int (iI x3)] L0 f0 (fun (r : Int) (L1 : List Nat) (f1 : Nat → va_E) => L0 = L1 ∧ f0 = f1 ∧ (-1 ≤ r ∧ r ≤ 36524 ∧ ((2000 ≤ x1 ∧ x1 ≤ 2099 ∧ 1 ≤ x2 ∧ x2 ≤ 12 ∧ 1 ≤ x3 ∧ x3 ≤ dI x1 x2) → r = mst x1 x2 + x3 - 1))) := by
  refine Ci.enter (cc := cX10_dayOf) (n := 5) rfl (plainFor_of_name (by decide)) (Nat.le_of_ble_eq_true rfl) ?_
  intro p e s m below meth c ls A hx hb hr hts hown hlocks hnm hml hK hA hAe hw hZ hl
  have hown : s.vm.findClass RX10 = some m.cls := hown
  have hl : lv_has ls 5 [(0, .ref a0), (1, .int (iI x1)), (2, .int (iI x2)), (3, .int (iI x3))] := hl
  have hN : ZN s := (zo.2.2.2.2 _ _ _ hZ).2
  have hr9 : (2000 ≤ x1 ∧ x1 ≤ 2099 ∧ 1 ≤ x2 ∧ x2 ≤ 12 ∧ 1 ≤ x3 ∧ x3 ≤ dI x1 x2) → 365 * (x1 - 2000) ≤ mst x1 x2 + x3 - 1 ∧ mst x1 x2 + x3 - 1 < 36525 := fun ⟨p1, p2, p3, p4, p5, p6⟩ => mst_rg p1 p2 p3 p4 p5 p6
  refine lv_iload_n hx hb dX10_dayOf_0 rfl (lv_at hl 1 rfl) ?_
  refine q_sipush hx hb dX10_dayOf_1 rfl ?_
  first | refine q_isub hx hb dX10_dayOf_4 ⟨by omega, by omega⟩ (fun x_1 lx_1 ux_1 ex_1 => ?_) | refine q_isubw hx hb dX10_dayOf_4 (fun x_1 lx_1 ux_1 ex_1 => ?_)
  refine q_sipush hx hb dX10_dayOf_5 rfl ?_
  first | refine q_imul hx hb dX10_dayOf_8 ⟨by omega, by omega⟩ (fun x_2 lx_2 ux_2 ex_2 => ?_) | refine q_imulw hx hb dX10_dayOf_8 (fun x_2 lx_2 ux_2 ex_2 => ?_)
  refine lv_istore (lv' := [(4, .int (iI x_2)), (0, .ref a0), (1, .int (iI x1)), (2, .int (iI x2)), (3, .int (iI x3))]) hx hb dX10_dayOf_9 hl (by decide) rfl (fun ls hl => ?_)
  have J11 : ∀ (n11 : Nat) (y4_11 : Int) (ly4_11 : -2147483648 ≤ y4_11) (uy4_11 : y4_11 ≤ 2147483647) (i1 : 0 ≤ y4_11) (i2 : (2000 ≤ x1 ∧ x1 ≤ 2099 ∧ 1 ≤ x2 ∧ x2 ≤ 12 ∧ 1 ≤ x3 ∧ x3 ≤ dI x1 x2) → y4_11 ≤ mst x1 x2 + x3 - 1) (hn11 : ((2147483647 : Int) - y4_11).toNat < n11) (H : Heap) (locs : List Loc) (ls : Array Slot) (hw : Wd D A s.heap L0 f0 H locs) (hl : lv_has ls 5 [(0, .ref a0), (1, .int (iI x1)), (2, .int (iI x2)), (3, .int (iI x3)), (4, .int (iI y4_11))]), W p l e ({ frames := 0, cells := 0, slots := 0, locals := 0 } : Room) s m ([.ref a0, .int (iI x1), .int (iI x2), .int (iI x3)] : List Value).toArray below meth c H locs (0) (0) (MQ below (Qi D (tq cy) L0 f0 s.heap.size (fun (r : Int) (L1 : List Nat) (f1 : Nat → va_E) => L0 = L1 ∧ f0 = f1 ∧ (-1 ≤ r ∧ r ≤ 36524 ∧ ((2000 ≤ x1 ∧ x1 ≤ 2099 ∧ 1 ≤ x2 ∧ x2 ≤ 12 ∧ 1 ≤ x3 ∧ x3 ≤ dI x1 x2) → r = mst x1 x2 + x3 - 1)))) ([.ref a0, .int (iI x1), .int (iI x2), .int (iI x3)] : List Value).toArray s 0 0 A) (F0 m 11 ls []) := by
    intro n11
    induction n11 with
    | zero => intro y4_11 ly4_11 uy4_11 i1 i2 hn11; exact absurd hn11 (Nat.not_lt_zero _)
    | succ n11 ih11 =>
      intro y4_11 ly4_11 uy4_11 i1 i2 hn11 H locs ls hw hl
      have hd9 := hd.at x1 x2 x3 y4_11
      refine lv_iload hx hb dX10_dayOf_11 (lv_at hl 4 rfl) ?_
      refine q_ldc (n := 36525) hx hb hown (hts _ (List.mem_cons_of_mem _ (mr3 _ (List.mem_of_getElem? (i := 9) rfl)))) rfl dX10_dayOf_13 ?_
      refine q_icmp_ge (tgt := 60) hx hb dX10_dayOf_15 (by decide) ⟨ly4_11, uy4_11⟩ ⟨by decide, by decide⟩ (fun c15 => ?_) (fun c15 => ?_)
      · refine q_iconst hx hb dX10_dayOf_60 ?_
        exact q_ret_i hx hb hr hlocks hK hAe hw ⟨by decide, by decide⟩ (Nat.le_of_ble_eq_true rfl) (Nat.le_of_ble_eq_true rfl) dX10_dayOf_61 ⟨rfl, rfl, by (refine ⟨by omega, by omega, fun v => ?_⟩; have w1 := i2 v; have w2 := hr9 v; omega)⟩
      · refine lv_aload_n hx hb dX10_dayOf_18 rfl (lv_at hl 0 rfl) ?_
        refine q_getr (ci := 8) (C := RX10) (T := TX10) (N := 26) hx hb hts (fun w h => List.mem_cons_of_mem _ (mfX100 w h)) hown hK hw hs.1 hs.2.1 rfl 0 (by decide) (hts _ (List.mem_cons_of_mem _ (mr3 _ (List.mem_of_getElem? (i := 10) rfl)))) (fun _ h => h) rfl (hs.2.2.1 0 rfl).1 dX10_dayOf_19 ?_
        refine lv_iload hx hb dX10_dayOf_22 (lv_at hl 4 rfl) ?_
        refine q_iald hx hb hK hw (hs.2.2.1 0 rfl).2.1 1 (hs.2.2.1 0 rfl).2.2 rfl ⟨ly4_11, uy4_11⟩ (by omega) (by show _ < ((36525 : Nat) : Int); omega) dX10_dayOf_24 (fun x_3 lx_3 ux_3 ex_3 => ?_)
        refine lv_iload_n hx hb dX10_dayOf_25 rfl (lv_at hl 1 rfl) ?_
        have J54 : ∀ (k1 : (2000 ≤ x1 ∧ x1 ≤ 2099 ∧ 1 ≤ x2 ∧ x2 ≤ 12 ∧ 1 ≤ x3 ∧ x3 ≤ dI x1 x2) → y4_11 + 1 ≤ mst x1 x2 + x3 - 1) (H : Heap) (locs : List Loc) (ls : Array Slot) (hw : Wd D A s.heap L0 f0 H locs) (hl : lv_has ls 5 [(0, .ref a0), (1, .int (iI x1)), (2, .int (iI x2)), (3, .int (iI x3)), (4, .int (iI y4_11))]), W p l e ({ frames := 0, cells := 0, slots := 0, locals := 0 } : Room) s m ([.ref a0, .int (iI x1), .int (iI x2), .int (iI x3)] : List Value).toArray below meth c H locs (0) (0) (MQ below (Qi D (tq cy) L0 f0 s.heap.size (fun (r : Int) (L1 : List Nat) (f1 : Nat → va_E) => L0 = L1 ∧ f0 = f1 ∧ (-1 ≤ r ∧ r ≤ 36524 ∧ ((2000 ≤ x1 ∧ x1 ≤ 2099 ∧ 1 ≤ x2 ∧ x2 ≤ 12 ∧ 1 ≤ x3 ∧ x3 ≤ dI x1 x2) → r = mst x1 x2 + x3 - 1)))) ([.ref a0, .int (iI x1), .int (iI x2), .int (iI x3)] : List Value).toArray s 0 0 A) (F0 m 54 ls []) := by
          intro k1 H locs ls hw hl
          obtain ⟨x_4, lx_4, ux_4, hx_4, ex_4⟩ := q_inc y4_11 (1)
          try (replace ex_4 : x_4 = y4_11 + (1) := by omega)
          refine lv_iinc (v := iI x_4) (lv' := [(4, .int (iI x_4)), (0, .ref a0), (1, .int (iI x1)), (2, .int (iI x2)), (3, .int (iI x3))]) hx hb dX10_dayOf_54 hl (k := 4) rfl hx_4 (by decide) rfl (fun ls hl => ?_)
          refine lv_goto (tgt := 11) hx hb dX10_dayOf_57 (by decide) ?_
          exact ih11 x_4 lx_4 ux_4 (by omega) (by omega) (by omega) _ _ _ hw (lv_sub hl [1, 2, 3, 4, 0] rfl)
        refine q_icmp_ne (tgt := 54) hx hb dX10_dayOf_26 (by decide) ⟨lx_3, ux_3⟩ ⟨lx1, ux1⟩ (fun c26 => ?_) (fun c26 => ?_)
        · exact J54 (by omega) _ _ _ hw (lv_sub hl [0, 1, 2, 3, 4] rfl)
        · refine lv_aload_n hx hb dX10_dayOf_29 rfl (lv_at hl 0 rfl) ?_
          refine q_getr (ci := 8) (C := RX10) (T := TX10) (N := 26) hx hb hts (fun w h => List.mem_cons_of_mem _ (mfX100 w h)) hown hK hw hs.1 hs.2.1 rfl 1 (by decide) (hts _ (List.mem_cons_of_mem _ (mr3 _ (List.mem_of_getElem? (i := 11) rfl)))) (fun _ h => h) rfl (hs.2.2.1 1 rfl).1 dX10_dayOf_30 ?_
          refine lv_iload hx hb dX10_dayOf_33 (lv_at hl 4 rfl) ?_
          refine q_iald hx hb hK hw (hs.2.2.1 1 rfl).2.1 1 (hs.2.2.1 1 rfl).2.2 rfl ⟨ly4_11, uy4_11⟩ (by omega) (by show _ < ((36525 : Nat) : Int); omega) dX10_dayOf_35 (fun x_5 lx_5 ux_5 ex_5 => ?_)
          refine lv_iload_n hx hb dX10_dayOf_36 rfl (lv_at hl 2 rfl) ?_
          refine q_icmp_ne (tgt := 54) hx hb dX10_dayOf_37 (by decide) ⟨lx_5, ux_5⟩ ⟨lx2, ux2⟩ (fun c37 => ?_) (fun c37 => ?_)
          · exact J54 (by omega) _ _ _ hw (lv_sub hl [0, 1, 2, 3, 4] rfl)
          · refine lv_aload_n hx hb dX10_dayOf_40 rfl (lv_at hl 0 rfl) ?_
            refine q_getr (ci := 8) (C := RX10) (T := TX10) (N := 26) hx hb hts (fun w h => List.mem_cons_of_mem _ (mfX100 w h)) hown hK hw hs.1 hs.2.1 rfl 2 (by decide) (hts _ (List.mem_cons_of_mem _ (mr3 _ (List.mem_of_getElem? (i := 12) rfl)))) (fun _ h => h) rfl (hs.2.2.1 2 rfl).1 dX10_dayOf_41 ?_
            refine lv_iload hx hb dX10_dayOf_44 (lv_at hl 4 rfl) ?_
            refine q_iald hx hb hK hw (hs.2.2.1 2 rfl).2.1 1 (hs.2.2.1 2 rfl).2.2 rfl ⟨ly4_11, uy4_11⟩ (by omega) (by show _ < ((36525 : Nat) : Int); omega) dX10_dayOf_46 (fun x_6 lx_6 ux_6 ex_6 => ?_)
            refine lv_iload_n hx hb dX10_dayOf_47 rfl (lv_at hl 3 rfl) ?_
            refine q_icmp_ne (tgt := 54) hx hb dX10_dayOf_48 (by decide) ⟨lx_6, ux_6⟩ ⟨lx3, ux3⟩ (fun c48 => ?_) (fun c48 => ?_)
            · exact J54 (by omega) _ _ _ hw (lv_sub hl [0, 1, 2, 3, 4] rfl)
            · refine lv_iload hx hb dX10_dayOf_51 (lv_at hl 4 rfl) ?_
              exact q_ret_i hx hb hr hlocks hK hAe hw ⟨ly4_11, uy4_11⟩ (Nat.le_of_ble_eq_true rfl) (Nat.le_of_ble_eq_true rfl) dX10_dayOf_53 ⟨rfl, rfl, by (refine ⟨by omega, by omega, fun v => ?_⟩; obtain ⟨y, mm, j, g⟩ := DV.of (d := y4_11) (by omega) (by omega); have q := hd.day g; have e1 : y = x1 := (by omega); have e2 : mm = x2 := (by omega); have e3 : j = x3 := (by omega); have g7 := g.2.2.2.2.2.2; rw [e1, e2, e3] at g7; exact g7)⟩
  exact J11 ((((2147483647 : Int) - x_2).toNat) + 1) x_2 lx_2 ux_2 (by omega) (by omega) (by omega) _ _ _ hw (lv_sub hl [1, 2, 3, 4, 0] rfl)
set_option maxHeartbeats 4000000 in
set_option maxRecDepth 100000 in
theorem c_X10_day_3 {Z : Zt} (zo : Zok Z) (l : Launch) (D : va_G) (cy : Cy) (L0 : List Nat) (f0 : Nat → va_E) (a0 : Nat) (x1 : Int) (lx1 : -2147483648 ≤ x1) (ux1 : x1 ≤ 2147483647) (x2 : Int) (lx2 : -2147483648 ≤ x2) (ux2 : x2 ≤ 2147483647) (x3 : Int) (lx3 : -2147483648 ≤ x3) (ux3 : x3 ≤ 2147483647) (ad : Nat → Nat) (hs : MS cy L0 f0 a0 ad) (hd : DT f0 ad 36525) : Ci Z l yX10_day (Cond.code yX10_day cX10_day 4 (some .int) :: TB) ({ frames := 1, cells := 0, slots := 0, locals := 24 } : Room) 0 0 D (tq cy) [.ref a0, .int (iI x1), .int (iI x2), .int (iI x3)] L0 f0 (fun (r : Int) (L1 : List Nat) (f1 : Nat → va_E) => L0 = L1 ∧ MS cy L0 f1 a0 ad ∧ Kp a0 ad [] [10] f0 f1 ∧ ((2000 ≤ x1 ∧ x1 ≤ 2099 ∧ 1 ≤ x2 ∧ x2 ≤ 12 ∧ 1 ≤ x3 ∧ x3 ≤ dI x1 x2 ∧ r = mst x1 x2 + x3 - 1) ∨ ((x1 < 2000 ∨ 2099 < x1 ∨ x2 < 1 ∨ 12 < x2 ∨ x3 < 1 ∨ dI x1 x2 < x3) ∧ r = -1))) := by
  refine Ci.enter (cc := cX10_day) (n := 4) rfl (plainFor_of_name (by decide)) (Nat.le_of_ble_eq_true rfl) ?_
  intro p e s m below meth c ls A hx hb hr hts hown hlocks hnm hml hK hA hAe hw hZ hl
  have hown : s.vm.findClass RX10 = some m.cls := hown
  have hl : lv_has ls 4 [(0, .ref a0), (1, .int (iI x1)), (2, .int (iI x2)), (3, .int (iI x3))] := hl
  have hN : ZN s := (zo.2.2.2.2 _ _ _ hZ).2
  have hE : Kp a0 ad [] [10] f0 f0 := Kp.refl _ _ _ _ _
  refine lv_aload_n hx hb dX10_day_0 rfl (lv_at hl 0 rfl) ?_
  refine q_iconst hx hb dX10_day_1 ?_
  refine q_puti (ci := 8) (C := RX10) (T := TX10) (N := 26) hx hb hts (fun w h => List.mem_cons_of_mem _ (mfX100 w h)) hown hK hw hs.1 hs.2.1 rfl 10 (by decide) (hts _ (List.mem_cons_of_mem _ (mr4 _ (List.mem_of_getElem? (i := 19) rfl)))) (fun _ h => h) tyX10 tyX10_ok nmX10 rfl (ty := .int) (by decide +kernel) rfl rfl dX10_day_2 (fun H locs hw => ?_)
  obtain ⟨f_1, ef_1⟩ : ∃ g : Nat → va_E, g = pU f0 a0 10 (.int (iI 0)) := ⟨_, rfl⟩
  have v10_f_1 : fI f_1 a0 10 = 0 := by rw [ef_1]; exact fI_pU_self hs.2.1 rfl ⟨by decide, by decide⟩
  have hE := hE.trans (show Kp a0 ad [] [10] f0 f_1 by rw [ef_1]; exact Kp_pU hs (by decide))
  have hs : MS cy L0 f_1 a0 ad := by rw [ef_1]; exact MS_pU hs rfl
  rw [← ef_1] at hw
  refine lv_iload_n hx hb dX10_day_5 rfl (lv_at hl 1 rfl) ?_
  refine q_sipush hx hb dX10_day_6 rfl ?_
  refine q_sipush hx hb dX10_day_9 rfl ?_
  refine q_call_i hA hK hw (va_runS (As := [.int (iI x1), .int (iI 2000), .int (iI 2099)]) (rest := []) ⟨hx, hb, hml, hown, hts⟩ (c_X10_within zo l D cy L0 f_1 x1 lx1 ux1 2000 (by decide) (by decide) 2099 (by decide) (by decide) _) (va_cwS 3 hts (gT (inS (mr5 _ (List.mem_of_getElem? (i := 9) rfl)) (mr5 _ (List.mem_of_getElem? (i := 10) rfl)) (mr1 _ (List.mem_of_getElem? (i := 5) rfl)) (mr5 _ (List.mem_of_getElem? (i := 11) rfl)))) rfl rfl rfl (by decide +kernel) ⟨Nat.le_of_ble_eq_true rfl, Nat.le_of_ble_eq_true rfl⟩) (Wd.preS zo hA hZ hw hK) rfl rfl hl.1 rfl (lv_room (Nat.le_of_ble_eq_true rfl)) dX10_day_12 ⟨Nat.le_of_ble_eq_true rfl, Nat.le_of_ble_eq_true rfl⟩) (fun x_2 L1 f1 H locs lx_2 ux_2 ex_2 hw => ?_)
  obtain ⟨rfl, rfl, ex_2⟩ := ex_2
  refine q_if_eq (tgt := 51) hx hb dX10_day_15 (by decide) ⟨lx_2, ux_2⟩ (fun c15 => ?_) (fun c15 => ?_)
  · refine q_iconst hx hb dX10_day_51 ?_
    exact q_ret_i hx hb hr hlocks hK hAe hw ⟨by decide, by decide⟩ (Nat.le_of_ble_eq_true rfl) (Nat.le_of_ble_eq_true rfl) dX10_day_52 (by exact ⟨rfl, hs, hE, by first | trivial | omega⟩)
  · refine lv_iload_n hx hb dX10_day_18 rfl (lv_at hl 2 rfl) ?_
    refine q_iconst hx hb dX10_day_19 ?_
    refine q_bipush hx hb dX10_day_20 rfl ?_
    refine q_call_i hA hK hw (va_runS (As := [.int (iI x2), .int (iI 1), .int (iI 12)]) (rest := []) ⟨hx, hb, hml, hown, hts⟩ (c_X10_within zo l D cy L0 f_1 x2 lx2 ux2 1 (by decide) (by decide) 12 (by decide) (by decide) _) (va_cwS 3 hts (gT (inS (mr5 _ (List.mem_of_getElem? (i := 9) rfl)) (mr5 _ (List.mem_of_getElem? (i := 10) rfl)) (mr1 _ (List.mem_of_getElem? (i := 5) rfl)) (mr5 _ (List.mem_of_getElem? (i := 11) rfl)))) rfl rfl rfl (by decide +kernel) ⟨Nat.le_of_ble_eq_true rfl, Nat.le_of_ble_eq_true rfl⟩) (Wd.preS zo hA hZ hw hK) rfl rfl hl.1 rfl (lv_room (Nat.le_of_ble_eq_true rfl)) dX10_day_22 ⟨Nat.le_of_ble_eq_true rfl, Nat.le_of_ble_eq_true rfl⟩) (fun x_3 L1 f1 H locs lx_3 ux_3 ex_3 hw => ?_)
    obtain ⟨rfl, rfl, ex_3⟩ := ex_3
    refine q_if_eq (tgt := 51) hx hb dX10_day_25 (by decide) ⟨lx_3, ux_3⟩ (fun c25 => ?_) (fun c25 => ?_)
    · refine q_iconst hx hb dX10_day_51 ?_
      exact q_ret_i hx hb hr hlocks hK hAe hw ⟨by decide, by decide⟩ (Nat.le_of_ble_eq_true rfl) (Nat.le_of_ble_eq_true rfl) dX10_day_52 (by exact ⟨rfl, hs, hE, by first | trivial | omega⟩)
    · refine lv_iload_n hx hb dX10_day_28 rfl (lv_at hl 3 rfl) ?_
      refine q_iconst hx hb dX10_day_29 ?_
      refine lv_iload_n hx hb dX10_day_30 rfl (lv_at hl 1 rfl) ?_
      refine lv_iload_n hx hb dX10_day_31 rfl (lv_at hl 2 rfl) ?_
      refine q_call_i hA hK hw (va_runS (As := [.int (iI x1), .int (iI x2)]) (rest := [.int (iI 1), .int (iI x3)]) ⟨hx, hb, hml, hown, hts⟩ (c_X10_daysIn_2 zo l D cy L0 f_1 x1 lx1 ux1 x2 lx2 ux2 _) (va_cwS 2 hts (gT (inS (mr4 _ (List.mem_of_getElem? (i := 3) rfl)) (mr4 _ (List.mem_of_getElem? (i := 4) rfl)) (mr1 _ (List.mem_of_getElem? (i := 5) rfl)) (mr4 _ (List.mem_of_getElem? (i := 5) rfl)))) rfl rfl rfl (by decide +kernel) ⟨Nat.le_of_ble_eq_true rfl, Nat.le_of_ble_eq_true rfl⟩) (Wd.preS zo hA hZ hw hK) rfl rfl hl.1 rfl (lv_room (Nat.le_of_ble_eq_true rfl)) dX10_day_32 ⟨Nat.le_of_ble_eq_true rfl, Nat.le_of_ble_eq_true rfl⟩) (fun x_4 L1 f1 H locs lx_4 ux_4 ex_4 hw => ?_)
      obtain ⟨rfl, rfl, ex_4⟩ := ex_4
      have s32 := ex_4.2.2 (by omega)
      clear ex_4
      refine q_call_i hA hK hw (va_runS (As := [.int (iI x3), .int (iI 1), .int (iI x_4)]) (rest := []) ⟨hx, hb, hml, hown, hts⟩ (c_X10_within zo l D cy L0 f_1 x3 lx3 ux3 1 (by decide) (by decide) x_4 lx_4 ux_4 _) (va_cwS 3 hts (gT (inS (mr5 _ (List.mem_of_getElem? (i := 9) rfl)) (mr5 _ (List.mem_of_getElem? (i := 10) rfl)) (mr1 _ (List.mem_of_getElem? (i := 5) rfl)) (mr5 _ (List.mem_of_getElem? (i := 11) rfl)))) rfl rfl rfl (by decide +kernel) ⟨Nat.le_of_ble_eq_true rfl, Nat.le_of_ble_eq_true rfl⟩) (Wd.preS zo hA hZ hw hK) rfl rfl hl.1 rfl (lv_room (Nat.le_of_ble_eq_true rfl)) dX10_day_35 ⟨Nat.le_of_ble_eq_true rfl, Nat.le_of_ble_eq_true rfl⟩) (fun x_5 L1 f1 H locs lx_5 ux_5 ex_5 hw => ?_)
      obtain ⟨rfl, rfl, ex_5⟩ := ex_5
      refine q_if_eq (tgt := 51) hx hb dX10_day_38 (by decide) ⟨lx_5, ux_5⟩ (fun c38 => ?_) (fun c38 => ?_)
      · refine q_iconst hx hb dX10_day_51 ?_
        exact q_ret_i hx hb hr hlocks hK hAe hw ⟨by decide, by decide⟩ (Nat.le_of_ble_eq_true rfl) (Nat.le_of_ble_eq_true rfl) dX10_day_52 (by exact ⟨rfl, hs, hE, by first | trivial | omega⟩)
      · refine lv_aload_n hx hb dX10_day_41 rfl (lv_at hl 0 rfl) ?_
        refine lv_iload_n hx hb dX10_day_42 rfl (lv_at hl 1 rfl) ?_
        refine lv_iload_n hx hb dX10_day_43 rfl (lv_at hl 2 rfl) ?_
        refine lv_iload_n hx hb dX10_day_44 rfl (lv_at hl 3 rfl) ?_
        refine q_call_i hA hK hw (va_runV (As := [.int (iI x1), .int (iI x2), .int (iI x3)]) (rest := []) ⟨hx, hb, hml, hown, hts⟩ (c_X10_dayOf_3 zo l D cy L0 f_1 a0 x1 lx1 ux1 x2 lx2 ux2 x3 lx3 ux3 ad hs (by omega) (by omega) (by first | exact hd | exact hd.kp hE (by decide) (by decide) (by decide) (by decide)) _) (cwV 3 hts (gT (inV (mr21 _ (List.mem_of_getElem? (i := 21) rfl)) (mr21 _ (List.mem_of_getElem? (i := 22) rfl)) (mr21 _ (List.mem_of_getElem? (i := 23) rfl)) (mr1 _ (List.mem_of_getElem? (i := 5) rfl)) (mr22 _ (List.mem_of_getElem? (i := 0) rfl)))) rfl rfl rfl (by decide +kernel) ⟨Nat.le_of_ble_eq_true rfl, Nat.le_of_ble_eq_true rfl⟩) (Wd.preV zo hA hZ hw hK hs.1 hs.2.1 rfl) rfl rfl hl.1 rfl (lv_room (Nat.le_of_ble_eq_true rfl)) dX10_day_45 ⟨Nat.le_of_ble_eq_true rfl, Nat.le_of_ble_eq_true rfl⟩) (fun x_6 L1 f1 H locs lx_6 ux_6 ex_6 hw => ?_)
        obtain ⟨rfl, rfl, ex_6⟩ := ex_6
        have s45 := ex_6.2.2 ⟨by omega, by omega, by omega, by omega, by omega, by omega⟩
        clear ex_6
        refine lv_goto (tgt := 52) hx hb dX10_day_48 (by decide) ?_
        exact q_ret_i hx hb hr hlocks hK hAe hw ⟨lx_6, ux_6⟩ (Nat.le_of_ble_eq_true rfl) (Nat.le_of_ble_eq_true rfl) dX10_day_52 (by exact ⟨rfl, hs, hE, by first | trivial | omega⟩)
set_option maxHeartbeats 4000000 in
set_option maxRecDepth 100000 in
theorem c_X1_monthOf_c {Z : Zt} (zo : Zok Z) (l : Launch) (D : va_G) (cy : Cy) (L0 : List Nat) (f0 : Nat → va_E) (x0 : Int) (lx0 : -2147483648 ≤ x0) (ux0 : x0 ≤ 2147483647) : Ci Z l yX1_monthOf (Cond.code yX1_monthOf cX1_monthOf 3 (some .int) :: TB) ({ frames := 0, cells := 0, slots := 0, locals := 0 } : Room) 0 0 D (tq cy) [.int (iI x0)] L0 f0 (fun (r : Int) (L1 : List Nat) (f1 : Nat → va_E) => L0 = L1 ∧ f0 = f1 ∧ (0 ≤ r ∧ r ≤ 70554047 ∧ (0 ≤ x0 ∧ x0 ≤ 36524 → r ≤ 1199 ∧ cyS r ≤ x0 ∧ x0 < cyS (r + 1)))) := by
  refine Ci.enter (cc := cX1_monthOf) (n := 3) rfl (plainFor_of_name (by decide)) (Nat.le_of_ble_eq_true rfl) ?_
  intro p e s m below meth c ls A hx hb hr hts hown hlocks hnm hml hK hA hAe hw hZ hl
  have hown : s.vm.findClass RX1 = some m.cls := hown
  have hl : lv_has ls 3 [(0, .int (iI x0))] := hl
  have hN : ZN s := (zo.2.2.2.2 _ _ _ hZ).2
  refine lv_iload_n hx hb dX1_monthOf_0 rfl (lv_at hl 0 rfl) ?_
  refine q_if_ge (tgt := 6) hx hb dX1_monthOf_1 (by decide) ⟨lx0, ux0⟩ (fun c1 => ?_) (fun c1 => ?_)
  · refine lv_iload_n hx hb dX1_monthOf_6 rfl (lv_at hl 0 rfl) ?_
    refine q_sipush hx hb dX1_monthOf_7 rfl ?_
    first | refine q_irem hx hb dX1_monthOf_10 ⟨lx0, ux0⟩ ⟨by decide, by decide⟩ (by omega) (by omega) (fun x_1 lx_1 ux_1 ex_1 => ?_) | refine q_iremw hx hb dX1_monthOf_10 ⟨lx0, ux0⟩ ⟨by decide, by decide⟩ (by omega) (fun x_1 lx_1 ux_1 ex_1 => ?_)
    refine lv_istore_n (lv' := [(1, .int (iI x_1)), (0, .int (iI x0))]) hx hb dX1_monthOf_11 rfl hl (by decide) rfl (fun ls hl => ?_)
    refine lv_iload_n hx hb dX1_monthOf_12 rfl (lv_at hl 0 rfl) ?_
    refine q_bipush hx hb dX1_monthOf_13 rfl ?_
    first | refine q_idiv hx hb dX1_monthOf_15 ⟨lx_1, ux_1⟩ ⟨by decide, by decide⟩ (by omega) (by omega) (fun x_2 lx_2 ux_2 ex_2 => ?_) | refine q_idivw hx hb dX1_monthOf_15 ⟨lx_1, ux_1⟩ ⟨by decide, by decide⟩ (by omega) (fun x_2 lx_2 ux_2 ex_2 => ?_)
    have q15 := cyc_31 (x_2).toNat (by omega)
    have i3 : cyc.getD (x_2).toNat 0 ≤ x_1 := by omega
    refine lv_istore_n (lv' := [(2, .int (iI x_2)), (1, .int (iI x_1)), (0, .int (iI x0))]) hx hb dX1_monthOf_16 rfl hl (by decide) rfl (fun ls hl => ?_)
    have J17 : ∀ (n17 : Nat) (y2_17 : Int) (ly2_17 : -2147483648 ≤ y2_17) (uy2_17 : y2_17 ≤ 2147483647) (i1 : 0 ≤ y2_17) (i2 : y2_17 ≤ 47) (i3 : cyc.getD (y2_17).toNat 0 ≤ x_1) (hn17 : ((2147483647 : Int) - y2_17).toNat < n17) (H : Heap) (locs : List Loc) (ls : Array Slot) (hw : Wd D A s.heap L0 f0 H locs) (hl : lv_has ls 3 [(0, .int (iI x0)), (1, .int (iI x_1)), (2, .int (iI y2_17))]), W p l e ({ frames := 0, cells := 0, slots := 0, locals := 0 } : Room) s m ([.int (iI x0)] : List Value).toArray below meth c H locs (0) (0) (MQ below (Qi D (tq cy) L0 f0 s.heap.size (fun (r : Int) (L1 : List Nat) (f1 : Nat → va_E) => L0 = L1 ∧ f0 = f1 ∧ (0 ≤ r ∧ r ≤ 70554047 ∧ (0 ≤ x0 ∧ x0 ≤ 36524 → r ≤ 1199 ∧ cyS r ≤ x0 ∧ x0 < cyS (r + 1))))) ([.int (iI x0)] : List Value).toArray s 0 0 A) (F0 m 17 ls []) := by
      intro n17
      induction n17 with
      | zero => intro y2_17 ly2_17 uy2_17 i1 i2 i3 hn17; exact absurd hn17 (Nat.not_lt_zero _)
      | succ n17 ih17 =>
        intro y2_17 ly2_17 uy2_17 i1 i2 i3 hn17 H locs ls hw hl
        refine lv_iload_n hx hb dX1_monthOf_17 rfl (lv_at hl 2 rfl) ?_
        refine q_iconst hx hb dX1_monthOf_18 ?_
        first | refine q_iadd hx hb dX1_monthOf_19 ⟨by omega, by omega⟩ (fun x_3 lx_3 ux_3 ex_3 => ?_) | refine q_iaddw hx hb dX1_monthOf_19 (fun x_3 lx_3 ux_3 ex_3 => ?_)
        refine q_bipush hx hb dX1_monthOf_20 rfl ?_
        have J42 : ∀ (k4 : (y2_17 = 47 ∧ x0 % 1461 < 1461) ∨ (y2_17 ≤ 46 ∧ x0 % 1461 < cyc.getD (y2_17 + 1).toNat 0)) (H : Heap) (locs : List Loc) (ls : Array Slot) (hw : Wd D A s.heap L0 f0 H locs) (hl : lv_has ls 3 [(0, .int (iI x0)), (2, .int (iI y2_17))]), W p l e ({ frames := 0, cells := 0, slots := 0, locals := 0 } : Room) s m ([.int (iI x0)] : List Value).toArray below meth c H locs (0) (0) (MQ below (Qi D (tq cy) L0 f0 s.heap.size (fun (r : Int) (L1 : List Nat) (f1 : Nat → va_E) => L0 = L1 ∧ f0 = f1 ∧ (0 ≤ r ∧ r ≤ 70554047 ∧ (0 ≤ x0 ∧ x0 ≤ 36524 → r ≤ 1199 ∧ cyS r ≤ x0 ∧ x0 < cyS (r + 1))))) ([.int (iI x0)] : List Value).toArray s 0 0 A) (F0 m 42 ls []) := by
          intro k4 H locs ls hw hl
          refine lv_iload_n hx hb dX1_monthOf_42 rfl (lv_at hl 0 rfl) ?_
          refine q_sipush hx hb dX1_monthOf_43 rfl ?_
          first | refine q_idiv hx hb dX1_monthOf_46 ⟨lx0, ux0⟩ ⟨by decide, by decide⟩ (by omega) (by omega) (fun x_4 lx_4 ux_4 ex_4 => ?_) | refine q_idivw hx hb dX1_monthOf_46 ⟨lx0, ux0⟩ ⟨by decide, by decide⟩ (by omega) (fun x_4 lx_4 ux_4 ex_4 => ?_)
          refine q_bipush hx hb dX1_monthOf_47 rfl ?_
          first | refine q_imul hx hb dX1_monthOf_49 ⟨by omega, by omega⟩ (fun x_5 lx_5 ux_5 ex_5 => ?_) | refine q_imulw hx hb dX1_monthOf_49 (fun x_5 lx_5 ux_5 ex_5 => ?_)
          refine lv_iload_n hx hb dX1_monthOf_50 rfl (lv_at hl 1 rfl) ?_
          first | refine q_iadd hx hb dX1_monthOf_51 ⟨by omega, by omega⟩ (fun x_6 lx_6 ux_6 ex_6 => ?_) | refine q_iaddw hx hb dX1_monthOf_51 (fun x_6 lx_6 ux_6 ex_6 => ?_)
          exact q_ret_i hx hb hr hlocks hK hAe hw ⟨lx_6, ux_6⟩ (Nat.le_of_ble_eq_true rfl) (Nat.le_of_ble_eq_true rfl) dX1_monthOf_52 ⟨rfl, rfl, by (refine ⟨by omega, by omega, fun hq => ?_⟩; have z := cyS_of (d := x0) (q := x0 / 1461) (k := y2_17) (by omega) (by omega) (by omega) (by omega); rw [show x0 / 1461 * 48 + y2_17 = x_6 by omega] at z; exact ⟨by omega, z.1, z.2⟩)⟩
        refine q_icmp_ge (tgt := 42) hx hb dX1_monthOf_22 (by decide) ⟨lx_3, ux_3⟩ ⟨by decide, by decide⟩ (fun c22 => ?_) (fun c22 => ?_)
        · exact J42 (by first | exact Or.inl (by omega) | exact Or.inr ⟨by omega, by rw [iK (y2_17 + 1) (by omega)]; omega⟩) _ _ _ hw (lv_sub hl [0, 2] rfl)
        · obtain ⟨tcy, hz1, hz2⟩ := (zo.2.2.2.2 _ _ _ hZ).1
          refine va_gets hx hb hz1 hw.2.2 hown (hts _ (List.mem_cons_of_mem _ (mr12 _ (List.mem_of_getElem? (i := 4) rfl)))) (fun _ h => h) dX1_monthOf_25 ?_
          refine lv_iload_n hx hb dX1_monthOf_28 rfl (lv_at hl 2 rfl) ?_
          refine q_iconst hx hb dX1_monthOf_29 ?_
          first | refine q_iadd hx hb dX1_monthOf_30 ⟨by omega, by omega⟩ (fun x_7 lx_7 ux_7 ex_7 => ?_) | refine q_iaddw hx hb dX1_monthOf_30 (fun x_7 lx_7 ux_7 ex_7 => ?_)
          refine q_cald (g := fun j => cyc.getD j 0) hx hb hz2 hw.2.2 ⟨lx_7, ux_7⟩ (by omega) (by omega) ⟨by have := cyc_b (x_7).toNat; omega, by have := cyc_b (x_7).toNat; omega⟩ dX1_monthOf_31 (fun x_8 lx_8 ux_8 ex_8 => ?_)
          have bx_8 := cyc_b (x_7).toNat
          have iK : ∀ k : Int, k = x_7 → cyc.getD k.toNat 0 = x_8 := fun k hk => by rw [hk]; exact ex_8.symm
          refine lv_iload_n hx hb dX1_monthOf_32 rfl (lv_at hl 1 rfl) ?_
          refine q_icmp_gt (tgt := 42) hx hb dX1_monthOf_33 (by decide) ⟨lx_8, ux_8⟩ ⟨lx_1, ux_1⟩ (fun c33 => ?_) (fun c33 => ?_)
          · exact J42 (by first | exact Or.inl (by omega) | exact Or.inr ⟨by omega, by rw [iK (y2_17 + 1) (by omega)]; omega⟩) _ _ _ hw (lv_sub hl [0, 2] rfl)
          · obtain ⟨x_9, lx_9, ux_9, hx_9, ex_9⟩ := q_inc y2_17 (1)
            try (replace ex_9 : x_9 = y2_17 + (1) := by omega)
            refine lv_iinc (v := iI x_9) (lv' := [(2, .int (iI x_9)), (0, .int (iI x0)), (1, .int (iI x_1))]) hx hb dX1_monthOf_36 hl (k := 2) rfl hx_9 (by decide) rfl (fun ls hl => ?_)
            refine lv_goto (tgt := 17) hx hb dX1_monthOf_39 (by decide) ?_
            exact ih17 x_9 lx_9 ux_9 (by omega) (by omega) (by first | exact i3 | exact Int.le_trans (Int.le_of_eq (iK _ (by omega))) (by omega)) (by omega) _ _ _ hw (lv_sub hl [1, 2, 0] rfl)
    exact J17 ((((2147483647 : Int) - x_2).toNat) + 1) x_2 lx_2 ux_2 (by omega) (by omega) (by first | exact i3 | exact Int.le_trans (Int.le_of_eq (iK _ (by omega))) (by omega)) (by omega) _ _ _ hw (lv_sub hl [2, 1, 0] rfl)
  · refine q_iconst hx hb dX1_monthOf_4 ?_
    exact q_ret_i hx hb hr hlocks hK hAe hw ⟨by decide, by decide⟩ (Nat.le_of_ble_eq_true rfl) (Nat.le_of_ble_eq_true rfl) dX1_monthOf_5 ⟨rfl, rfl, by exact ⟨by omega, by omega, fun q => by omega⟩⟩
set_option maxHeartbeats 4000000 in
set_option maxRecDepth 100000 in
theorem c_X9_date_c {Z : Zt} (zo : Zok Z) (l : Launch) (D : va_G) (cy : Cy) (L0 : List Nat) (f0 : Nat → va_E) (a0 : Nat) (x1 : Int) (lx1 : -2147483648 ≤ x1) (ux1 : x1 ≤ 2147483647) (x2 : Int) (lx2 : -2147483648 ≤ x2) (ux2 : x2 ≤ 2147483647) (m_a0 : a0 ∈ L0) (o_a0 : Ob f0 a0 7) (hg : GI cy L0 f0) : Ci Z l yX9_date (Cond.code yX9_date cX9_date 4 (some .int) :: TB) ({ frames := 1, cells := 0, slots := 0, locals := 22 } : Room) 0 0 D (tq cy) [.ref a0, .int (iI x1), .int (iI x2)] L0 f0 (fun (r : Int) (L1 : List Nat) (f1 : Nat → va_E) => L0 = L1 ∧ f0 = f1 ∧ (DP x1 x2 r)) := by
  refine Ci.enter (cc := cX9_date) (n := 4) rfl (plainFor_of_name (by decide)) (Nat.le_of_ble_eq_true rfl) ?_
  intro p e s m below meth c ls A hx hb hr hts hown hlocks hnm hml hK hA hAe hw hZ hl
  have hown : s.vm.findClass RX9 = some m.cls := hown
  have hl : lv_has ls 4 [(0, .ref a0), (1, .int (iI x1)), (2, .int (iI x2))] := hl
  have hN : ZN s := (zo.2.2.2.2 _ _ _ hZ).2
  refine lv_iload_n hx hb dX9_date_0 rfl (lv_at hl 1 rfl) ?_
  refine q_call_i hA hK hw (va_runS (As := [.int (iI x1)]) (rest := []) ⟨hx, hb, hml, hown, hts⟩ (c_X9_isDay zo l D cy L0 f0 x1 lx1 ux1 _) (va_cwS 1 hts (gT (inS (mr23 _ (List.mem_of_getElem? (i := 13) rfl)) (mr23 _ (List.mem_of_getElem? (i := 14) rfl)) (mr1 _ (List.mem_of_getElem? (i := 2) rfl)) (mr23 _ (List.mem_of_getElem? (i := 15) rfl)))) rfl rfl rfl (by decide +kernel) ⟨Nat.le_of_ble_eq_true rfl, Nat.le_of_ble_eq_true rfl⟩) (Wd.preS zo hA hZ hw hK) rfl rfl hl.1 rfl (lv_room (Nat.le_of_ble_eq_true rfl)) dX9_date_1 ⟨Nat.le_of_ble_eq_true rfl, Nat.le_of_ble_eq_true rfl⟩) (fun x_1 L1 f1 H locs lx_1 ux_1 ex_1 hw => ?_)
  obtain ⟨rfl, rfl, ex_1⟩ := ex_1
  refine q_if_ne (tgt := 9) hx hb dX9_date_4 (by decide) ⟨lx_1, ux_1⟩ (fun c4 => ?_) (fun c4 => ?_)
  · refine lv_iload_n hx hb dX9_date_9 rfl (lv_at hl 1 rfl) ?_
    refine q_call_i hA hK hw (va_runSN (As := [.int (iI x1)]) (rest := []) ⟨hx, hb, hml, hown, hts⟩ (c_X1_monthOf_c zo l D cy L0 f0 x1 lx1 ux1 _) ⟨va_cnB 1 hts (gT (inC (mr14 _ (List.mem_of_getElem? (i := 0) rfl)))) rfl rfl rfl (hN _ (List.mem_of_getElem? (i := 11) rfl)) (hts _ (List.mem_cons_of_mem _ (mr11 _ (List.mem_of_getElem? (i := 20) rfl)))) (by decide +kernel) ⟨Nat.le_of_ble_eq_true rfl, Nat.le_of_ble_eq_true rfl⟩, (hts _ (List.mem_cons_of_mem _ (mr13 _ (List.mem_of_getElem? (i := 23) rfl)))), trivial⟩ (Wd.preS zo hA hZ hw hK) rfl rfl hl.1 rfl (lv_room (Nat.le_of_ble_eq_true rfl)) dX9_date_10 ⟨Nat.le_of_ble_eq_true rfl, Nat.le_of_ble_eq_true rfl⟩) (fun x_2 L1 f1 H locs lx_2 ux_2 ex_2 hw => ?_)
    obtain ⟨rfl, rfl, ex_2⟩ := ex_2
    obtain ⟨mo1, mo2, mo3⟩ := ex_2.2.2 ⟨by omega, by omega⟩
    have mo0 := ex_2.1
    have dm := DV.month (M := x_2) (d := x1) (by omega) (by omega) mo2 mo3
    have db := dI_b (2000 + x_2 / 12) (x_2 % 12 + 1)
    clear ex_2
    refine lv_istore_n (lv' := [(3, .int (iI x_2)), (0, .ref a0), (1, .int (iI x1)), (2, .int (iI x2))]) hx hb dX9_date_13 rfl hl (by decide) rfl (fun ls hl => ?_)
    refine lv_iload_n hx hb dX9_date_14 rfl (lv_at hl 3 rfl) ?_
    have t15 : (iI x2).toInt = x2 := iI_toInt ⟨lx2, ux2⟩
    rcases (show (x2 < 0 ∨ 4 < x2) ∨ (x2 = 0) ∨ (x2 = 1) ∨ (x2 = 2) ∨ (x2 = 3) ∨ (x2 = 4) by omega) with k15 | k15 | k15 | k15 | k15 | k15
    · refine lv_tableOut (tgt := 90) hx hb dX9_date_15 (by rw [t15]; omega) (by decide) ?_
      refine q_iconst hx hb dX9_date_90 ?_
      exact q_ret_i hx hb hr hlocks hK hAe hw ⟨by decide, by decide⟩ (Nat.le_of_ble_eq_true rfl) (Nat.le_of_ble_eq_true rfl) dX9_date_91 ⟨rfl, rfl, by exact Or.inl ⟨by omega, by omega, _, _, _, dm.1, Or.inr (Or.inr (Or.inr (Or.inr (Or.inr (⟨by omega, by omega⟩)))))⟩⟩
    · refine lv_tableIn (tgt := 48) (off := 33) hx hb dX9_date_15 (by rw [t15]; omega) (by rw [t15]; omega) (by rw [t15, k15]; rfl) (by decide) ?_
      refine q_sipush hx hb dX9_date_48 rfl ?_
      refine lv_iload_n hx hb dX9_date_51 rfl (lv_at hl 0 rfl) ?_
      refine q_bipush hx hb dX9_date_52 rfl ?_
      first | refine q_idiv hx hb dX9_date_54 ⟨lx_2, ux_2⟩ ⟨by decide, by decide⟩ (by omega) (by omega) (fun x_3 lx_3 ux_3 ex_3 => ?_) | refine q_idivw hx hb dX9_date_54 ⟨lx_2, ux_2⟩ ⟨by decide, by decide⟩ (by omega) (fun x_3 lx_3 ux_3 ex_3 => ?_)
      first | refine q_iadd hx hb dX9_date_55 ⟨by omega, by omega⟩ (fun x_4 lx_4 ux_4 ex_4 => ?_) | refine q_iaddw hx hb dX9_date_55 (fun x_4 lx_4 ux_4 _ => ?_)
      exact q_ret_i hx hb hr hlocks hK hAe hw ⟨lx_4, ux_4⟩ (Nat.le_of_ble_eq_true rfl) (Nat.le_of_ble_eq_true rfl) dX9_date_56 ⟨rfl, rfl, by exact Or.inl ⟨by omega, by omega, _, _, _, dm.1, Or.inl ⟨by omega, by omega⟩⟩⟩
    · refine lv_tableIn (tgt := 57) (off := 42) hx hb dX9_date_15 (by rw [t15]; omega) (by rw [t15]; omega) (by rw [t15, k15]; rfl) (by decide) ?_
      refine lv_iload_n hx hb dX9_date_57 rfl (lv_at hl 0 rfl) ?_
      refine q_bipush hx hb dX9_date_58 rfl ?_
      first | refine q_irem hx hb dX9_date_60 ⟨lx_2, ux_2⟩ ⟨by decide, by decide⟩ (by omega) (by omega) (fun x_5 lx_5 ux_5 ex_5 => ?_) | refine q_iremw hx hb dX9_date_60 ⟨lx_2, ux_2⟩ ⟨by decide, by decide⟩ (by omega) (fun x_5 lx_5 ux_5 ex_5 => ?_)
      refine q_iconst hx hb dX9_date_61 ?_
      first | refine q_iadd hx hb dX9_date_62 ⟨by omega, by omega⟩ (fun x_6 lx_6 ux_6 ex_6 => ?_) | refine q_iaddw hx hb dX9_date_62 (fun x_6 lx_6 ux_6 _ => ?_)
      exact q_ret_i hx hb hr hlocks hK hAe hw ⟨lx_6, ux_6⟩ (Nat.le_of_ble_eq_true rfl) (Nat.le_of_ble_eq_true rfl) dX9_date_63 ⟨rfl, rfl, by exact Or.inl ⟨by omega, by omega, _, _, _, dm.1, Or.inr (Or.inl ⟨by omega, by omega⟩)⟩⟩
    · refine lv_tableIn (tgt := 64) (off := 49) hx hb dX9_date_15 (by rw [t15]; omega) (by rw [t15]; omega) (by rw [t15, k15]; rfl) (by decide) ?_
      refine lv_iload_n hx hb dX9_date_64 rfl (lv_at hl 2 rfl) ?_
      refine lv_iload_n hx hb dX9_date_65 rfl (lv_at hl 0 rfl) ?_
      refine q_call_i hA hK hw (va_runSN (As := [.int (iI x_2)]) (rest := [.int (iI x1)]) ⟨hx, hb, hml, hown, hts⟩ (c_X1_monthStart zo l D cy L0 f0 x_2 lx_2 ux_2 _) ⟨va_cnB 1 hts (gT (inC (mr12 _ (List.mem_of_getElem? (i := 3) rfl)))) rfl rfl rfl (hN _ (List.mem_of_getElem? (i := 10) rfl)) (hts _ (List.mem_cons_of_mem _ (mr11 _ (List.mem_of_getElem? (i := 20) rfl)))) (by decide +kernel) ⟨Nat.le_of_ble_eq_true rfl, Nat.le_of_ble_eq_true rfl⟩, (hts _ (List.mem_cons_of_mem _ (mr12 _ (List.mem_of_getElem? (i := 2) rfl)))), trivial⟩ (Wd.preS zo hA hZ hw hK) rfl rfl hl.1 rfl (lv_room (Nat.le_of_ble_eq_true rfl)) dX9_date_66 ⟨Nat.le_of_ble_eq_true rfl, Nat.le_of_ble_eq_true rfl⟩) (fun x_7 L1 f1 H locs lx_7 ux_7 ex_7 hw => ?_)
      obtain ⟨rfl, rfl, ex_7⟩ := ex_7
      have s66 : x_7 = cyS x_2 := ex_7.2 ⟨by omega, by omega⟩
      clear ex_7
      first | refine q_isub hx hb dX9_date_69 ⟨by omega, by omega⟩ (fun x_8 lx_8 ux_8 ex_8 => ?_) | refine q_isubw hx hb dX9_date_69 (fun x_8 lx_8 ux_8 _ => ?_)
      refine q_iconst hx hb dX9_date_70 ?_
      first | refine q_iadd hx hb dX9_date_71 ⟨by omega, by omega⟩ (fun x_9 lx_9 ux_9 ex_9 => ?_) | refine q_iaddw hx hb dX9_date_71 (fun x_9 lx_9 ux_9 _ => ?_)
      exact q_ret_i hx hb hr hlocks hK hAe hw ⟨lx_9, ux_9⟩ (Nat.le_of_ble_eq_true rfl) (Nat.le_of_ble_eq_true rfl) dX9_date_72 ⟨rfl, rfl, by exact Or.inl ⟨by omega, by omega, _, _, _, dm.1, Or.inr (Or.inr (Or.inl ⟨by omega, by omega⟩))⟩⟩
    · refine lv_tableIn (tgt := 73) (off := 58) hx hb dX9_date_15 (by rw [t15]; omega) (by rw [t15]; omega) (by rw [t15, k15]; rfl) (by decide) ?_
      refine lv_iload_n hx hb dX9_date_73 rfl (lv_at hl 2 rfl) ?_
      refine q_call_i hA hK hw (va_runSN (As := [.int (iI x1)]) (rest := []) ⟨hx, hb, hml, hown, hts⟩ (c_X1_weekdayOf zo l D cy L0 f0 x1 lx1 ux1 _) ⟨va_cnB 1 hts (gT (inC (mr13 _ (List.mem_of_getElem? (i := 13) rfl)))) rfl rfl rfl (hN _ (List.mem_of_getElem? (i := 12) rfl)) (hts _ (List.mem_cons_of_mem _ (mr11 _ (List.mem_of_getElem? (i := 20) rfl)))) (by decide +kernel) ⟨Nat.le_of_ble_eq_true rfl, Nat.le_of_ble_eq_true rfl⟩, (hts _ (List.mem_cons_of_mem _ (mr13 _ (List.mem_of_getElem? (i := 12) rfl)))), trivial⟩ (Wd.preS zo hA hZ hw hK) rfl rfl hl.1 rfl (lv_room (Nat.le_of_ble_eq_true rfl)) dX9_date_74 ⟨Nat.le_of_ble_eq_true rfl, Nat.le_of_ble_eq_true rfl⟩) (fun x_10 L1 f1 H locs lx_10 ux_10 ex_10 hw => ?_)
      obtain ⟨rfl, rfl, ex_10⟩ := ex_10
      have s74 := ex_10.2.2 ⟨by omega, by omega⟩
      clear ex_10
      exact q_ret_i hx hb hr hlocks hK hAe hw ⟨lx_10, ux_10⟩ (Nat.le_of_ble_eq_true rfl) (Nat.le_of_ble_eq_true rfl) dX9_date_77 ⟨rfl, rfl, by exact Or.inl ⟨by omega, by omega, _, _, _, dm.1, Or.inr (Or.inr (Or.inr (Or.inl ⟨by omega, by omega⟩)))⟩⟩
    · refine lv_tableIn (tgt := 78) (off := 63) hx hb dX9_date_15 (by rw [t15]; omega) (by rw [t15]; omega) (by rw [t15, k15]; rfl) (by decide) ?_
      refine lv_iload_n hx hb dX9_date_78 rfl (lv_at hl 0 rfl) ?_
      refine q_iconst hx hb dX9_date_79 ?_
      first | refine q_iadd hx hb dX9_date_80 ⟨by omega, by omega⟩ (fun x_11 lx_11 ux_11 ex_11 => ?_) | refine q_iaddw hx hb dX9_date_80 (fun x_11 lx_11 ux_11 _ => ?_)
      refine q_call_i hA hK hw (va_runSN (As := [.int (iI x_11)]) (rest := []) ⟨hx, hb, hml, hown, hts⟩ (c_X1_monthStart zo l D cy L0 f0 x_11 lx_11 ux_11 _) ⟨va_cnB 1 hts (gT (inC (mr12 _ (List.mem_of_getElem? (i := 3) rfl)))) rfl rfl rfl (hN _ (List.mem_of_getElem? (i := 10) rfl)) (hts _ (List.mem_cons_of_mem _ (mr11 _ (List.mem_of_getElem? (i := 20) rfl)))) (by decide +kernel) ⟨Nat.le_of_ble_eq_true rfl, Nat.le_of_ble_eq_true rfl⟩, (hts _ (List.mem_cons_of_mem _ (mr12 _ (List.mem_of_getElem? (i := 2) rfl)))), trivial⟩ (Wd.preS zo hA hZ hw hK) rfl rfl hl.1 rfl (lv_room (Nat.le_of_ble_eq_true rfl)) dX9_date_81 ⟨Nat.le_of_ble_eq_true rfl, Nat.le_of_ble_eq_true rfl⟩) (fun x_12 L1 f1 H locs lx_12 ux_12 ex_12 hw => ?_)
      obtain ⟨rfl, rfl, ex_12⟩ := ex_12
      have s81 : x_12 = cyS (x_2 + 1) := (ex_12.2 ⟨by omega, by omega⟩).trans (show cyS x_11 = _ by rw [show x_11 = x_2 + 1 by omega])
      clear ex_12
      refine lv_iload_n hx hb dX9_date_84 rfl (lv_at hl 0 rfl) ?_
      refine q_call_i hA hK hw (va_runSN (As := [.int (iI x_2)]) (rest := [.int (iI x_12)]) ⟨hx, hb, hml, hown, hts⟩ (c_X1_monthStart zo l D cy L0 f0 x_2 lx_2 ux_2 _) ⟨va_cnB 1 hts (gT (inC (mr12 _ (List.mem_of_getElem? (i := 3) rfl)))) rfl rfl rfl (hN _ (List.mem_of_getElem? (i := 10) rfl)) (hts _ (List.mem_cons_of_mem _ (mr11 _ (List.mem_of_getElem? (i := 20) rfl)))) (by decide +kernel) ⟨Nat.le_of_ble_eq_true rfl, Nat.le_of_ble_eq_true rfl⟩, (hts _ (List.mem_cons_of_mem _ (mr12 _ (List.mem_of_getElem? (i := 2) rfl)))), trivial⟩ (Wd.preS zo hA hZ hw hK) rfl rfl hl.1 rfl (lv_room (Nat.le_of_ble_eq_true rfl)) dX9_date_85 ⟨Nat.le_of_ble_eq_true rfl, Nat.le_of_ble_eq_true rfl⟩) (fun x_13 L1 f1 H locs lx_13 ux_13 ex_13 hw => ?_)
      obtain ⟨rfl, rfl, ex_13⟩ := ex_13
      have s85 : x_13 = cyS x_2 := ex_13.2 ⟨by omega, by omega⟩
      clear ex_13
      first | refine q_isub hx hb dX9_date_88 ⟨by omega, by omega⟩ (fun x_14 lx_14 ux_14 ex_14 => ?_) | refine q_isubw hx hb dX9_date_88 (fun x_14 lx_14 ux_14 _ => ?_)
      exact q_ret_i hx hb hr hlocks hK hAe hw ⟨lx_14, ux_14⟩ (Nat.le_of_ble_eq_true rfl) (Nat.le_of_ble_eq_true rfl) dX9_date_89 ⟨rfl, rfl, by exact Or.inl ⟨by omega, by omega, _, _, _, dm.1, Or.inr (Or.inr (Or.inr (Or.inr (Or.inl ⟨by omega, by omega⟩))))⟩⟩
  · refine q_iconst hx hb dX9_date_7 ?_
    exact q_ret_i hx hb hr hlocks hK hAe hw ⟨by decide, by decide⟩ (Nat.le_of_ble_eq_true rfl) (Nat.le_of_ble_eq_true rfl) dX9_date_8 ⟨rfl, rfl, by exact Or.inr ⟨by omega, by omega⟩⟩
set_option maxHeartbeats 4000000 in
set_option maxRecDepth 100000 in
theorem c_X10_date_3 {Z : Zt} (zo : Zok Z) (l : Launch) (D : va_G) (cy : Cy) (L0 : List Nat) (f0 : Nat → va_E) (a0 : Nat) (x1 : Int) (lx1 : -2147483648 ≤ x1) (ux1 : x1 ≤ 2147483647) (x2 : Int) (lx2 : -2147483648 ≤ x2) (ux2 : x2 ≤ 2147483647) (ad : Nat → Nat) (hs : MS cy L0 f0 a0 ad) (hd : DT f0 ad 36525) : Ci Z l yX10_date (Cond.code yX10_date cX10_date 3 (some .int) :: TB) ({ frames := 2, cells := 0, slots := 0, locals := 42 } : Room) 0 0 D (tq cy) [.ref a0, .int (iI x1), .int (iI x2)] L0 f0 (fun (r : Int) (L1 : List Nat) (f1 : Nat → va_E) => L0 = L1 ∧ MS cy L0 f1 a0 ad ∧ Kp a0 ad [] [10] f0 f1 ∧ (DP x1 x2 r)) := by
  refine Ci.enter (cc := cX10_date) (n := 3) rfl (plainFor_of_name (by decide)) (Nat.le_of_ble_eq_true rfl) ?_
  intro p e s m below meth c ls A hx hb hr hts hown hlocks hnm hml hK hA hAe hw hZ hl
  have hown : s.vm.findClass RX10 = some m.cls := hown
  have hl : lv_has ls 3 [(0, .ref a0), (1, .int (iI x1)), (2, .int (iI x2))] := hl
  have hN : ZN s := (zo.2.2.2.2 _ _ _ hZ).2
  have hE : Kp a0 ad [] [10] f0 f0 := Kp.refl _ _ _ _ _
  refine lv_aload_n hx hb dX10_date_0 rfl (lv_at hl 0 rfl) ?_
  refine q_iconst hx hb dX10_date_1 ?_
  refine q_puti (ci := 8) (C := RX10) (T := TX10) (N := 26) hx hb hts (fun w h => List.mem_cons_of_mem _ (mfX100 w h)) hown hK hw hs.1 hs.2.1 rfl 10 (by decide) (hts _ (List.mem_cons_of_mem _ (mr4 _ (List.mem_of_getElem? (i := 19) rfl)))) (fun _ h => h) tyX10 tyX10_ok nmX10 rfl (ty := .int) (by decide +kernel) rfl rfl dX10_date_2 (fun H locs hw => ?_)
  obtain ⟨f_1, ef_1⟩ : ∃ g : Nat → va_E, g = pU f0 a0 10 (.int (iI 0)) := ⟨_, rfl⟩
  have v10_f_1 : fI f_1 a0 10 = 0 := by rw [ef_1]; exact fI_pU_self hs.2.1 rfl ⟨by decide, by decide⟩
  have hE := hE.trans (show Kp a0 ad [] [10] f0 f_1 by rw [ef_1]; exact Kp_pU hs (by decide))
  have hs : MS cy L0 f_1 a0 ad := by rw [ef_1]; exact MS_pU hs rfl
  rw [← ef_1] at hw
  refine lv_iload_n hx hb dX10_date_5 rfl (lv_at hl 1 rfl) ?_
  refine q_call_i hA hK hw (va_runS (As := [.int (iI x1)]) (rest := []) ⟨hx, hb, hml, hown, hts⟩ (c_X10_isDay zo l D cy L0 f_1 x1 lx1 ux1 _) (va_cwS 1 hts (gT (inS (mr23 _ (List.mem_of_getElem? (i := 21) rfl)) (mr23 _ (List.mem_of_getElem? (i := 22) rfl)) (mr1 _ (List.mem_of_getElem? (i := 5) rfl)) (mr23 _ (List.mem_of_getElem? (i := 23) rfl)))) rfl rfl rfl (by decide +kernel) ⟨Nat.le_of_ble_eq_true rfl, Nat.le_of_ble_eq_true rfl⟩) (Wd.preS zo hA hZ hw hK) rfl rfl hl.1 rfl (lv_room (Nat.le_of_ble_eq_true rfl)) dX10_date_6 ⟨Nat.le_of_ble_eq_true rfl, Nat.le_of_ble_eq_true rfl⟩) (fun x_2 L1 f1 H locs lx_2 ux_2 ex_2 hw => ?_)
  obtain ⟨rfl, rfl, ex_2⟩ := ex_2
  refine q_if_ne (tgt := 14) hx hb dX10_date_9 (by decide) ⟨lx_2, ux_2⟩ (fun c9 => ?_) (fun c9 => ?_)
  · obtain ⟨yy, mm, jj, dv⟩ := DV.of (d := x1) (by omega) (by omega)
    have dd := (show DT f_1 ad 36525 from hd.kp hE (by decide) (by decide) (by decide) (by decide)).day dv
    refine lv_iload_n hx hb dX10_date_14 rfl (lv_at hl 2 rfl) ?_
    have t15 : (iI x2).toInt = x2 := iI_toInt ⟨lx2, ux2⟩
    rcases (show (x2 < 0 ∨ 4 < x2) ∨ (x2 = 0) ∨ (x2 = 1) ∨ (x2 = 2) ∨ (x2 = 3) ∨ (x2 = 4) by omega) with k15 | k15 | k15 | k15 | k15 | k15
    · refine lv_tableOut (tgt := 81) hx hb dX10_date_15 (by rw [t15]; omega) (by decide) ?_
      refine q_iconst hx hb dX10_date_81 ?_
      exact q_ret_i hx hb hr hlocks hK hAe hw ⟨by decide, by decide⟩ (Nat.le_of_ble_eq_true rfl) (Nat.le_of_ble_eq_true rfl) dX10_date_82 (by exact ⟨rfl, hs, hE, Or.inl ⟨by omega, by omega, yy, mm, jj, dv, Or.inr (Or.inr (Or.inr (Or.inr (Or.inr (⟨by omega, by omega⟩)))))⟩⟩)
    · refine lv_tableIn (tgt := 48) (off := 33) hx hb dX10_date_15 (by rw [t15]; omega) (by rw [t15]; omega) (by rw [t15, k15]; rfl) (by decide) ?_
      refine lv_aload_n hx hb dX10_date_48 rfl (lv_at hl 0 rfl) ?_
      refine q_getr (ci := 8) (C := RX10) (T := TX10) (N := 26) hx hb hts (fun w h => List.mem_cons_of_mem _ (mfX100 w h)) hown hK hw hs.1 hs.2.1 rfl 0 (by decide) (hts _ (List.mem_cons_of_mem _ (mr3 _ (List.mem_of_getElem? (i := 10) rfl)))) (fun _ h => h) rfl (hs.2.2.1 0 rfl).1 dX10_date_49 ?_
      refine lv_iload_n hx hb dX10_date_52 rfl (lv_at hl 1 rfl) ?_
      refine q_iald hx hb hK hw (hs.2.2.1 0 rfl).2.1 1 (hs.2.2.1 0 rfl).2.2 rfl ⟨lx1, ux1⟩ (by omega) (by show _ < ((36525 : Nat) : Int); omega) dX10_date_53 (fun x_3 lx_3 ux_3 ex_3 => ?_)
      exact q_ret_i hx hb hr hlocks hK hAe hw ⟨lx_3, ux_3⟩ (Nat.le_of_ble_eq_true rfl) (Nat.le_of_ble_eq_true rfl) dX10_date_54 (by exact ⟨rfl, hs, hE, Or.inl ⟨by omega, by omega, yy, mm, jj, dv, Or.inl ⟨by omega, by omega⟩⟩⟩)
    · refine lv_tableIn (tgt := 55) (off := 40) hx hb dX10_date_15 (by rw [t15]; omega) (by rw [t15]; omega) (by rw [t15, k15]; rfl) (by decide) ?_
      refine lv_aload_n hx hb dX10_date_55 rfl (lv_at hl 0 rfl) ?_
      refine q_getr (ci := 8) (C := RX10) (T := TX10) (N := 26) hx hb hts (fun w h => List.mem_cons_of_mem _ (mfX100 w h)) hown hK hw hs.1 hs.2.1 rfl 1 (by decide) (hts _ (List.mem_cons_of_mem _ (mr3 _ (List.mem_of_getElem? (i := 11) rfl)))) (fun _ h => h) rfl (hs.2.2.1 1 rfl).1 dX10_date_56 ?_
      refine lv_iload_n hx hb dX10_date_59 rfl (lv_at hl 1 rfl) ?_
      refine q_iald hx hb hK hw (hs.2.2.1 1 rfl).2.1 1 (hs.2.2.1 1 rfl).2.2 rfl ⟨lx1, ux1⟩ (by omega) (by show _ < ((36525 : Nat) : Int); omega) dX10_date_60 (fun x_4 lx_4 ux_4 ex_4 => ?_)
      exact q_ret_i hx hb hr hlocks hK hAe hw ⟨lx_4, ux_4⟩ (Nat.le_of_ble_eq_true rfl) (Nat.le_of_ble_eq_true rfl) dX10_date_61 (by exact ⟨rfl, hs, hE, Or.inl ⟨by omega, by omega, yy, mm, jj, dv, Or.inr (Or.inl ⟨by omega, by omega⟩)⟩⟩)
    · refine lv_tableIn (tgt := 62) (off := 47) hx hb dX10_date_15 (by rw [t15]; omega) (by rw [t15]; omega) (by rw [t15, k15]; rfl) (by decide) ?_
      refine lv_aload_n hx hb dX10_date_62 rfl (lv_at hl 0 rfl) ?_
      refine q_getr (ci := 8) (C := RX10) (T := TX10) (N := 26) hx hb hts (fun w h => List.mem_cons_of_mem _ (mfX100 w h)) hown hK hw hs.1 hs.2.1 rfl 2 (by decide) (hts _ (List.mem_cons_of_mem _ (mr3 _ (List.mem_of_getElem? (i := 12) rfl)))) (fun _ h => h) rfl (hs.2.2.1 2 rfl).1 dX10_date_63 ?_
      refine lv_iload_n hx hb dX10_date_66 rfl (lv_at hl 1 rfl) ?_
      refine q_iald hx hb hK hw (hs.2.2.1 2 rfl).2.1 1 (hs.2.2.1 2 rfl).2.2 rfl ⟨lx1, ux1⟩ (by omega) (by show _ < ((36525 : Nat) : Int); omega) dX10_date_67 (fun x_5 lx_5 ux_5 ex_5 => ?_)
      exact q_ret_i hx hb hr hlocks hK hAe hw ⟨lx_5, ux_5⟩ (Nat.le_of_ble_eq_true rfl) (Nat.le_of_ble_eq_true rfl) dX10_date_68 (by exact ⟨rfl, hs, hE, Or.inl ⟨by omega, by omega, yy, mm, jj, dv, Or.inr (Or.inr (Or.inl ⟨by omega, by omega⟩))⟩⟩)
    · refine lv_tableIn (tgt := 69) (off := 54) hx hb dX10_date_15 (by rw [t15]; omega) (by rw [t15]; omega) (by rw [t15, k15]; rfl) (by decide) ?_
      refine lv_iload_n hx hb dX10_date_69 rfl (lv_at hl 1 rfl) ?_
      refine q_call_i hA hK hw (va_runS (As := [.int (iI x1)]) (rest := []) ⟨hx, hb, hml, hown, hts⟩ (c_X10_weekdayOf zo l D cy L0 f_1 x1 lx1 ux1 _) (va_cwS 1 hts (gT (inS (mr24 _ (List.mem_of_getElem? (i := 1) rfl)) (mr24 _ (List.mem_of_getElem? (i := 2) rfl)) (mr1 _ (List.mem_of_getElem? (i := 5) rfl)) (mr24 _ (List.mem_of_getElem? (i := 3) rfl)))) rfl rfl rfl (by decide +kernel) ⟨Nat.le_of_ble_eq_true rfl, Nat.le_of_ble_eq_true rfl⟩) (Wd.preS zo hA hZ hw hK) rfl rfl hl.1 rfl (lv_room (Nat.le_of_ble_eq_true rfl)) dX10_date_70 ⟨Nat.le_of_ble_eq_true rfl, Nat.le_of_ble_eq_true rfl⟩) (fun x_6 L1 f1 H locs lx_6 ux_6 ex_6 hw => ?_)
      obtain ⟨rfl, rfl, ex_6⟩ := ex_6
      have s70 := ex_6.2.2 ⟨by omega, by omega⟩
      clear ex_6
      exact q_ret_i hx hb hr hlocks hK hAe hw ⟨lx_6, ux_6⟩ (Nat.le_of_ble_eq_true rfl) (Nat.le_of_ble_eq_true rfl) dX10_date_73 (by exact ⟨rfl, hs, hE, Or.inl ⟨by omega, by omega, yy, mm, jj, dv, Or.inr (Or.inr (Or.inr (Or.inl ⟨by omega, by omega⟩)))⟩⟩)
    · refine lv_tableIn (tgt := 74) (off := 59) hx hb dX10_date_15 (by rw [t15]; omega) (by rw [t15]; omega) (by rw [t15, k15]; rfl) (by decide) ?_
      refine lv_aload_n hx hb dX10_date_74 rfl (lv_at hl 0 rfl) ?_
      refine q_getr (ci := 8) (C := RX10) (T := TX10) (N := 26) hx hb hts (fun w h => List.mem_cons_of_mem _ (mfX100 w h)) hown hK hw hs.1 hs.2.1 rfl 3 (by decide) (hts _ (List.mem_cons_of_mem _ (mr3 _ (List.mem_of_getElem? (i := 13) rfl)))) (fun _ h => h) rfl (hs.2.2.1 3 rfl).1 dX10_date_75 ?_
      refine lv_iload_n hx hb dX10_date_78 rfl (lv_at hl 1 rfl) ?_
      refine q_iald hx hb hK hw (hs.2.2.1 3 rfl).2.1 1 (hs.2.2.1 3 rfl).2.2 rfl ⟨lx1, ux1⟩ (by omega) (by show _ < ((36525 : Nat) : Int); omega) dX10_date_79 (fun x_7 lx_7 ux_7 ex_7 => ?_)
      exact q_ret_i hx hb hr hlocks hK hAe hw ⟨lx_7, ux_7⟩ (Nat.le_of_ble_eq_true rfl) (Nat.le_of_ble_eq_true rfl) dX10_date_80 (by exact ⟨rfl, hs, hE, Or.inl ⟨by omega, by omega, yy, mm, jj, dv, Or.inr (Or.inr (Or.inr (Or.inr (Or.inl ⟨by omega, by omega⟩))))⟩⟩)
  · refine q_iconst hx hb dX10_date_12 ?_
    exact q_ret_i hx hb hr hlocks hK hAe hw ⟨by decide, by decide⟩ (Nat.le_of_ble_eq_true rfl) (Nat.le_of_ble_eq_true rfl) dX10_date_13 (by exact ⟨rfl, hs, hE, Or.inr ⟨by omega, by omega⟩⟩)
