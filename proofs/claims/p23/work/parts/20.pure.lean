set_option maxHeartbeats 4000000 in
set_option maxRecDepth 100000 in
theorem c_X9_isDay {Z : Zt} (zo : Zok Z) (l : Launch) (D : va_G) (cy : Cy) (L0 : List Nat) (f0 : Nat → va_E) (x0 : Int) (lx0 : -2147483648 ≤ x0) (ux0 : x0 ≤ 2147483647) : Ci Z l yX9_isDay (Cond.code yX9_isDay cX9_isDay 1 (some .boolean) :: TB) ({ frames := 0, cells := 0, slots := 0, locals := 0 } : Room) 0 0 D (tq cy) [.int (iI x0)] L0 f0 (fun (r : Int) (L1 : List Nat) (f1 : Nat → va_E) => L0 = L1 ∧ f0 = f1 ∧ (r = 1 ∧ 0 ≤ x0 ∧ x0 ≤ 36524 ∨ r = 0 ∧ (x0 < 0 ∨ 36524 < x0))) := by
  refine Ci.enter (cc := cX9_isDay) (n := 1) rfl (plainFor_of_name (by decide)) (Nat.le_of_ble_eq_true rfl) ?_
  intro p e s m below meth c ls A hx hb hr hts hown hlocks hnm hml hK hA hAe hw hZ hl
  have hown : s.vm.findClass RX9 = some m.cls := hown
  have hl : lv_has ls 1 [(0, .int (iI x0))] := hl
  have hN : ZN s := (zo.2.2.2.2 _ _ _ hZ).2
  refine lv_iload_n hx hb dX9_isDay_0 rfl (lv_at hl 0 rfl) ?_
  refine q_if_lt (tgt := 14) hx hb dX9_isDay_1 (by decide) ⟨lx0, ux0⟩ (fun c1 => ?_) (fun c1 => ?_)
  · refine q_iconst hx hb dX9_isDay_14 ?_
    exact q_ret_z hx hb hr hlocks hK hAe hw (by omega) (Nat.le_of_ble_eq_true rfl) (Nat.le_of_ble_eq_true rfl) dX9_isDay_15 ⟨rfl, rfl, by omega⟩
  · refine lv_iload_n hx hb dX9_isDay_4 rfl (lv_at hl 0 rfl) ?_
    refine q_ldc (n := 36524) hx hb hown (hts _ (List.mem_cons_of_mem _ (mr23 _ (List.mem_of_getElem? (i := 16) rfl)))) rfl dX9_isDay_5 ?_
    refine q_icmp_gt (tgt := 14) hx hb dX9_isDay_7 (by decide) ⟨lx0, ux0⟩ ⟨by decide, by decide⟩ (fun c7 => ?_) (fun c7 => ?_)
    · refine q_iconst hx hb dX9_isDay_14 ?_
      exact q_ret_z hx hb hr hlocks hK hAe hw (by omega) (Nat.le_of_ble_eq_true rfl) (Nat.le_of_ble_eq_true rfl) dX9_isDay_15 ⟨rfl, rfl, by omega⟩
    · refine q_iconst hx hb dX9_isDay_10 ?_
      refine lv_goto (tgt := 15) hx hb dX9_isDay_11 (by decide) ?_
      exact q_ret_z hx hb hr hlocks hK hAe hw (by omega) (Nat.le_of_ble_eq_true rfl) (Nat.le_of_ble_eq_true rfl) dX9_isDay_15 ⟨rfl, rfl, by omega⟩
set_option maxHeartbeats 4000000 in
set_option maxRecDepth 100000 in
theorem c_X9_isTime {Z : Zt} (zo : Zok Z) (l : Launch) (D : va_G) (cy : Cy) (L0 : List Nat) (f0 : Nat → va_E) (x0 : Int) (lx0 : -2147483648 ≤ x0) (ux0 : x0 ≤ 2147483647) : Ci Z l yX9_isTime (Cond.code yX9_isTime cX9_isTime 1 (some .boolean) :: TB) ({ frames := 0, cells := 0, slots := 0, locals := 0 } : Room) 0 0 D (tq cy) [.int (iI x0)] L0 f0 (fun (r : Int) (L1 : List Nat) (f1 : Nat → va_E) => L0 = L1 ∧ f0 = f1 ∧ (r = 1 ∧ 0 ≤ x0 ∧ x0 ≤ 52595999 ∨ r = 0 ∧ (x0 < 0 ∨ 52595999 < x0))) := by
  refine Ci.enter (cc := cX9_isTime) (n := 1) rfl (plainFor_of_name (by decide)) (Nat.le_of_ble_eq_true rfl) ?_
  intro p e s m below meth c ls A hx hb hr hts hown hlocks hnm hml hK hA hAe hw hZ hl
  have hown : s.vm.findClass RX9 = some m.cls := hown
  have hl : lv_has ls 1 [(0, .int (iI x0))] := hl
  have hN : ZN s := (zo.2.2.2.2 _ _ _ hZ).2
  refine lv_iload_n hx hb dX9_isTime_0 rfl (lv_at hl 0 rfl) ?_
  refine q_if_lt (tgt := 14) hx hb dX9_isTime_1 (by decide) ⟨lx0, ux0⟩ (fun c1 => ?_) (fun c1 => ?_)
  · refine q_iconst hx hb dX9_isTime_14 ?_
    exact q_ret_z hx hb hr hlocks hK hAe hw (by omega) (Nat.le_of_ble_eq_true rfl) (Nat.le_of_ble_eq_true rfl) dX9_isTime_15 ⟨rfl, rfl, by omega⟩
  · refine lv_iload_n hx hb dX9_isTime_4 rfl (lv_at hl 0 rfl) ?_
    refine q_ldc (n := 52595999) hx hb hown (hts _ (List.mem_cons_of_mem _ (mr27 _ (List.mem_of_getElem? (i := 22) rfl)))) rfl dX9_isTime_5 ?_
    refine q_icmp_gt (tgt := 14) hx hb dX9_isTime_7 (by decide) ⟨lx0, ux0⟩ ⟨by decide, by decide⟩ (fun c7 => ?_) (fun c7 => ?_)
    · refine q_iconst hx hb dX9_isTime_14 ?_
      exact q_ret_z hx hb hr hlocks hK hAe hw (by omega) (Nat.le_of_ble_eq_true rfl) (Nat.le_of_ble_eq_true rfl) dX9_isTime_15 ⟨rfl, rfl, by omega⟩
    · refine q_iconst hx hb dX9_isTime_10 ?_
      refine lv_goto (tgt := 15) hx hb dX9_isTime_11 (by decide) ?_
      exact q_ret_z hx hb hr hlocks hK hAe hw (by omega) (Nat.le_of_ble_eq_true rfl) (Nat.le_of_ble_eq_true rfl) dX9_isTime_15 ⟨rfl, rfl, by omega⟩
set_option maxHeartbeats 4000000 in
set_option maxRecDepth 100000 in
theorem c_X9_isRoom {Z : Zt} (zo : Zok Z) (l : Launch) (D : va_G) (cy : Cy) (L0 : List Nat) (f0 : Nat → va_E) (x0 : Int) (lx0 : -2147483648 ≤ x0) (ux0 : x0 ≤ 2147483647) : Ci Z l yX9_isRoom (Cond.code yX9_isRoom cX9_isRoom 1 (some .boolean) :: TB) ({ frames := 0, cells := 0, slots := 0, locals := 0 } : Room) 0 0 D (tq cy) [.int (iI x0)] L0 f0 (fun (r : Int) (L1 : List Nat) (f1 : Nat → va_E) => L0 = L1 ∧ f0 = f1 ∧ (r = 1 ∧ 0 ≤ x0 ∧ x0 ≤ 7 ∨ r = 0 ∧ (x0 < 0 ∨ 7 < x0))) := by
  refine Ci.enter (cc := cX9_isRoom) (n := 1) rfl (plainFor_of_name (by decide)) (Nat.le_of_ble_eq_true rfl) ?_
  intro p e s m below meth c ls A hx hb hr hts hown hlocks hnm hml hK hA hAe hw hZ hl
  have hown : s.vm.findClass RX9 = some m.cls := hown
  have hl : lv_has ls 1 [(0, .int (iI x0))] := hl
  have hN : ZN s := (zo.2.2.2.2 _ _ _ hZ).2
  refine lv_iload_n hx hb dX9_isRoom_0 rfl (lv_at hl 0 rfl) ?_
  refine q_if_lt (tgt := 14) hx hb dX9_isRoom_1 (by decide) ⟨lx0, ux0⟩ (fun c1 => ?_) (fun c1 => ?_)
  · refine q_iconst hx hb dX9_isRoom_14 ?_
    exact q_ret_z hx hb hr hlocks hK hAe hw (by omega) (Nat.le_of_ble_eq_true rfl) (Nat.le_of_ble_eq_true rfl) dX9_isRoom_15 ⟨rfl, rfl, by omega⟩
  · refine lv_iload_n hx hb dX9_isRoom_4 rfl (lv_at hl 0 rfl) ?_
    refine q_bipush hx hb dX9_isRoom_5 rfl ?_
    refine q_icmp_gt (tgt := 14) hx hb dX9_isRoom_7 (by decide) ⟨lx0, ux0⟩ ⟨by decide, by decide⟩ (fun c7 => ?_) (fun c7 => ?_)
    · refine q_iconst hx hb dX9_isRoom_14 ?_
      exact q_ret_z hx hb hr hlocks hK hAe hw (by omega) (Nat.le_of_ble_eq_true rfl) (Nat.le_of_ble_eq_true rfl) dX9_isRoom_15 ⟨rfl, rfl, by omega⟩
    · refine q_iconst hx hb dX9_isRoom_10 ?_
      refine lv_goto (tgt := 15) hx hb dX9_isRoom_11 (by decide) ?_
      exact q_ret_z hx hb hr hlocks hK hAe hw (by omega) (Nat.le_of_ble_eq_true rfl) (Nat.le_of_ble_eq_true rfl) dX9_isRoom_15 ⟨rfl, rfl, by omega⟩
set_option maxHeartbeats 4000000 in
set_option maxRecDepth 100000 in
theorem c_X9_areDays {Z : Zt} (zo : Zok Z) (l : Launch) (D : va_G) (cy : Cy) (L0 : List Nat) (f0 : Nat → va_E) (x0 : Int) (lx0 : -2147483648 ≤ x0) (ux0 : x0 ≤ 2147483647) (x1 : Int) (lx1 : -2147483648 ≤ x1) (ux1 : x1 ≤ 2147483647) (x2 : Int) (lx2 : -2147483648 ≤ x2) (ux2 : x2 ≤ 2147483647) : Ci Z l yX9_areDays (Cond.code yX9_areDays cX9_areDays 3 (some .boolean) :: TB) ({ frames := 1, cells := 0, slots := 0, locals := 20 } : Room) 0 0 D (tq cy) [.int (iI x0), .int (iI x1), .int (iI x2)] L0 f0 (fun (r : Int) (L1 : List Nat) (f1 : Nat → va_E) => L0 = L1 ∧ f0 = f1 ∧ (r = 1 ∧ 0 ≤ x0 ∧ x0 ≤ x1 ∧ x1 ≤ 36524 ∧ x1 - x0 < x2 ∨ r = 0)) := by
  refine Ci.enter (cc := cX9_areDays) (n := 3) rfl (plainFor_of_name (by decide)) (Nat.le_of_ble_eq_true rfl) ?_
  intro p e s m below meth c ls A hx hb hr hts hown hlocks hnm hml hK hA hAe hw hZ hl
  have hown : s.vm.findClass RX9 = some m.cls := hown
  have hl : lv_has ls 3 [(0, .int (iI x0)), (1, .int (iI x1)), (2, .int (iI x2))] := hl
  have hN : ZN s := (zo.2.2.2.2 _ _ _ hZ).2
  refine lv_iload_n hx hb dX9_areDays_0 rfl (lv_at hl 0 rfl) ?_
  refine q_call_i hA hK hw (va_runS (As := [.int (iI x0)]) (rest := []) ⟨hx, hb, hml, hown, hts⟩ (c_X9_isDay zo l D cy L0 f0 x0 lx0 ux0 _) (va_cwS 1 hts (gT (inS (mr23 _ (List.mem_of_getElem? (i := 13) rfl)) (mr23 _ (List.mem_of_getElem? (i := 14) rfl)) (mr1 _ (List.mem_of_getElem? (i := 2) rfl)) (mr23 _ (List.mem_of_getElem? (i := 15) rfl)))) rfl rfl rfl (by decide +kernel) ⟨Nat.le_of_ble_eq_true rfl, Nat.le_of_ble_eq_true rfl⟩) (Wd.preS zo hA hZ hw hK) rfl rfl hl.1 rfl (lv_room (Nat.le_of_ble_eq_true rfl)) dX9_areDays_1 ⟨Nat.le_of_ble_eq_true rfl, Nat.le_of_ble_eq_true rfl⟩) (fun x_1 L1 f1 H locs lx_1 ux_1 ex_1 hw => ?_)
  obtain ⟨rfl, rfl, ex_1⟩ := ex_1
  refine q_if_eq (tgt := 30) hx hb dX9_areDays_4 (by decide) ⟨lx_1, ux_1⟩ (fun c4 => ?_) (fun c4 => ?_)
  · refine q_iconst hx hb dX9_areDays_30 ?_
    exact q_ret_z hx hb hr hlocks hK hAe hw (by omega) (Nat.le_of_ble_eq_true rfl) (Nat.le_of_ble_eq_true rfl) dX9_areDays_31 ⟨rfl, rfl, by omega⟩
  · refine lv_iload_n hx hb dX9_areDays_7 rfl (lv_at hl 1 rfl) ?_
    refine q_call_i hA hK hw (va_runS (As := [.int (iI x1)]) (rest := []) ⟨hx, hb, hml, hown, hts⟩ (c_X9_isDay zo l D cy L0 f0 x1 lx1 ux1 _) (va_cwS 1 hts (gT (inS (mr23 _ (List.mem_of_getElem? (i := 13) rfl)) (mr23 _ (List.mem_of_getElem? (i := 14) rfl)) (mr1 _ (List.mem_of_getElem? (i := 2) rfl)) (mr23 _ (List.mem_of_getElem? (i := 15) rfl)))) rfl rfl rfl (by decide +kernel) ⟨Nat.le_of_ble_eq_true rfl, Nat.le_of_ble_eq_true rfl⟩) (Wd.preS zo hA hZ hw hK) rfl rfl hl.1 rfl (lv_room (Nat.le_of_ble_eq_true rfl)) dX9_areDays_8 ⟨Nat.le_of_ble_eq_true rfl, Nat.le_of_ble_eq_true rfl⟩) (fun x_2 L1 f1 H locs lx_2 ux_2 ex_2 hw => ?_)
    obtain ⟨rfl, rfl, ex_2⟩ := ex_2
    refine q_if_eq (tgt := 30) hx hb dX9_areDays_11 (by decide) ⟨lx_2, ux_2⟩ (fun c11 => ?_) (fun c11 => ?_)
    · refine q_iconst hx hb dX9_areDays_30 ?_
      exact q_ret_z hx hb hr hlocks hK hAe hw (by omega) (Nat.le_of_ble_eq_true rfl) (Nat.le_of_ble_eq_true rfl) dX9_areDays_31 ⟨rfl, rfl, by omega⟩
    · refine lv_iload_n hx hb dX9_areDays_14 rfl (lv_at hl 0 rfl) ?_
      refine lv_iload_n hx hb dX9_areDays_15 rfl (lv_at hl 1 rfl) ?_
      refine q_icmp_gt (tgt := 30) hx hb dX9_areDays_16 (by decide) ⟨lx0, ux0⟩ ⟨lx1, ux1⟩ (fun c16 => ?_) (fun c16 => ?_)
      · refine q_iconst hx hb dX9_areDays_30 ?_
        exact q_ret_z hx hb hr hlocks hK hAe hw (by omega) (Nat.le_of_ble_eq_true rfl) (Nat.le_of_ble_eq_true rfl) dX9_areDays_31 ⟨rfl, rfl, by omega⟩
      · refine lv_iload_n hx hb dX9_areDays_19 rfl (lv_at hl 1 rfl) ?_
        refine lv_iload_n hx hb dX9_areDays_20 rfl (lv_at hl 0 rfl) ?_
        first | refine q_isub hx hb dX9_areDays_21 ⟨by omega, by omega⟩ (fun x_3 lx_3 ux_3 ex_3 => ?_) | refine q_isubw hx hb dX9_areDays_21 (fun x_3 lx_3 ux_3 ex_3 => ?_)
        refine lv_iload_n hx hb dX9_areDays_22 rfl (lv_at hl 2 rfl) ?_
        refine q_icmp_ge (tgt := 30) hx hb dX9_areDays_23 (by decide) ⟨lx_3, ux_3⟩ ⟨lx2, ux2⟩ (fun c23 => ?_) (fun c23 => ?_)
        · refine q_iconst hx hb dX9_areDays_30 ?_
          exact q_ret_z hx hb hr hlocks hK hAe hw (by omega) (Nat.le_of_ble_eq_true rfl) (Nat.le_of_ble_eq_true rfl) dX9_areDays_31 ⟨rfl, rfl, by omega⟩
        · refine q_iconst hx hb dX9_areDays_26 ?_
          refine lv_goto (tgt := 31) hx hb dX9_areDays_27 (by decide) ?_
          exact q_ret_z hx hb hr hlocks hK hAe hw (by omega) (Nat.le_of_ble_eq_true rfl) (Nat.le_of_ble_eq_true rfl) dX9_areDays_31 ⟨rfl, rfl, by omega⟩
set_option maxHeartbeats 4000000 in
set_option maxRecDepth 100000 in
theorem c_X1_monthNumber {Z : Zt} (zo : Zok Z) (l : Launch) (D : va_G) (cy : Cy) (L0 : List Nat) (f0 : Nat → va_E) (x0 : Int) (lx0 : -2147483648 ≤ x0) (ux0 : x0 ≤ 2147483647) (x1 : Int) (lx1 : -2147483648 ≤ x1) (ux1 : x1 ≤ 2147483647) : Ci Z l yX1_monthNumber (Cond.code yX1_monthNumber cX1_monthNumber 2 (some .int) :: TB) ({ frames := 0, cells := 0, slots := 0, locals := 0 } : Room) 0 0 D (tq cy) [.int (iI x0), .int (iI x1)] L0 f0 (fun (r : Int) (L1 : List Nat) (f1 : Nat → va_E) => L0 = L1 ∧ f0 = f1 ∧ (2000 ≤ x0 ∧ x0 ≤ 2099 ∧ 1 ≤ x1 ∧ x1 ≤ 12 → r = (x0 - 2000) * 12 + x1 - 1)) := by
  refine Ci.enter (cc := cX1_monthNumber) (n := 2) rfl (plainFor_of_name (by decide)) (Nat.le_of_ble_eq_true rfl) ?_
  intro p e s m below meth c ls A hx hb hr hts hown hlocks hnm hml hK hA hAe hw hZ hl
  have hown : s.vm.findClass RX1 = some m.cls := hown
  have hl : lv_has ls 2 [(0, .int (iI x0)), (1, .int (iI x1))] := hl
  have hN : ZN s := (zo.2.2.2.2 _ _ _ hZ).2
  refine lv_iload_n hx hb dX1_monthNumber_0 rfl (lv_at hl 0 rfl) ?_
  refine q_sipush hx hb dX1_monthNumber_1 rfl ?_
  first | refine q_isub hx hb dX1_monthNumber_4 ⟨by omega, by omega⟩ (fun x_1 lx_1 ux_1 ex_1 => ?_) | refine q_isubw hx hb dX1_monthNumber_4 (fun x_1 lx_1 ux_1 ex_1 => ?_)
  refine q_bipush hx hb dX1_monthNumber_5 rfl ?_
  first | refine q_imul hx hb dX1_monthNumber_7 ⟨by omega, by omega⟩ (fun x_2 lx_2 ux_2 ex_2 => ?_) | refine q_imulw hx hb dX1_monthNumber_7 (fun x_2 lx_2 ux_2 ex_2 => ?_)
  refine lv_iload_n hx hb dX1_monthNumber_8 rfl (lv_at hl 1 rfl) ?_
  first | refine q_iadd hx hb dX1_monthNumber_9 ⟨by omega, by omega⟩ (fun x_3 lx_3 ux_3 ex_3 => ?_) | refine q_iaddw hx hb dX1_monthNumber_9 (fun x_3 lx_3 ux_3 ex_3 => ?_)
  refine q_iconst hx hb dX1_monthNumber_10 ?_
  first | refine q_isub hx hb dX1_monthNumber_11 ⟨by omega, by omega⟩ (fun x_4 lx_4 ux_4 ex_4 => ?_) | refine q_isubw hx hb dX1_monthNumber_11 (fun x_4 lx_4 ux_4 ex_4 => ?_)
  exact q_ret_i hx hb hr hlocks hK hAe hw ⟨lx_4, ux_4⟩ (Nat.le_of_ble_eq_true rfl) (Nat.le_of_ble_eq_true rfl) dX1_monthNumber_12 ⟨rfl, rfl, by omega⟩
set_option maxHeartbeats 4000000 in
set_option maxRecDepth 100000 in
theorem c_X1_monthStart {Z : Zt} (zo : Zok Z) (l : Launch) (D : va_G) (cy : Cy) (L0 : List Nat) (f0 : Nat → va_E) (x0 : Int) (lx0 : -2147483648 ≤ x0) (ux0 : x0 ≤ 2147483647) : Ci Z l yX1_monthStart (Cond.code yX1_monthStart cX1_monthStart 1 (some .int) :: TB) ({ frames := 0, cells := 0, slots := 0, locals := 0 } : Room) 0 0 D (tq cy) [.int (iI x0)] L0 f0 (fun (r : Int) (L1 : List Nat) (f1 : Nat → va_E) => L0 = L1 ∧ f0 = f1 ∧ ((x0 < 0 → r = 0) ∧ (0 ≤ x0 ∧ x0 ≤ 1300 → r = x0 / 48 * 1461 + cyc.getD (x0 % 48).toNat 0))) := by
  refine Ci.enter (cc := cX1_monthStart) (n := 1) rfl (plainFor_of_name (by decide)) (Nat.le_of_ble_eq_true rfl) ?_
  intro p e s m below meth c ls A hx hb hr hts hown hlocks hnm hml hK hA hAe hw hZ hl
  have hown : s.vm.findClass RX1 = some m.cls := hown
  have hl : lv_has ls 1 [(0, .int (iI x0))] := hl
  have hN : ZN s := (zo.2.2.2.2 _ _ _ hZ).2
  refine lv_iload_n hx hb dX1_monthStart_0 rfl (lv_at hl 0 rfl) ?_
  refine q_if_ge (tgt := 6) hx hb dX1_monthStart_1 (by decide) ⟨lx0, ux0⟩ (fun c1 => ?_) (fun c1 => ?_)
  · refine lv_iload_n hx hb dX1_monthStart_6 rfl (lv_at hl 0 rfl) ?_
    refine q_bipush hx hb dX1_monthStart_7 rfl ?_
    first | refine q_idiv hx hb dX1_monthStart_9 ⟨lx0, ux0⟩ ⟨by decide, by decide⟩ (by omega) (by omega) (fun x_1 lx_1 ux_1 ex_1 => ?_) | refine q_idivw hx hb dX1_monthStart_9 ⟨lx0, ux0⟩ ⟨by decide, by decide⟩ (by omega) (fun x_1 lx_1 ux_1 ex_1 => ?_)
    refine q_sipush hx hb dX1_monthStart_10 rfl ?_
    first | refine q_imul hx hb dX1_monthStart_13 ⟨by omega, by omega⟩ (fun x_2 lx_2 ux_2 ex_2 => ?_) | refine q_imulw hx hb dX1_monthStart_13 (fun x_2 lx_2 ux_2 ex_2 => ?_)
    obtain ⟨tcy, hz1, hz2⟩ := (zo.2.2.2.2 _ _ _ hZ).1
    refine va_gets hx hb hz1 hw.2.2 hown (hts _ (List.mem_cons_of_mem _ (mr12 _ (List.mem_of_getElem? (i := 4) rfl)))) (fun _ h => h) dX1_monthStart_14 ?_
    refine lv_iload_n hx hb dX1_monthStart_17 rfl (lv_at hl 0 rfl) ?_
    refine q_bipush hx hb dX1_monthStart_18 rfl ?_
    first | refine q_irem hx hb dX1_monthStart_20 ⟨lx0, ux0⟩ ⟨by decide, by decide⟩ (by omega) (by omega) (fun x_3 lx_3 ux_3 ex_3 => ?_) | refine q_iremw hx hb dX1_monthStart_20 ⟨lx0, ux0⟩ ⟨by decide, by decide⟩ (by omega) (fun x_3 lx_3 ux_3 ex_3 => ?_)
    refine q_cald (g := fun j => cyc.getD j 0) hx hb hz2 hw.2.2 ⟨lx_3, ux_3⟩ (by omega) (by omega) ⟨by have := cyc_b (x_3).toNat; omega, by have := cyc_b (x_3).toNat; omega⟩ dX1_monthStart_21 (fun x_4 lx_4 ux_4 ex_4 => ?_)
    have bx_4 := cyc_b (x_3).toNat
    first | refine q_iadd hx hb dX1_monthStart_22 ⟨by omega, by omega⟩ (fun x_5 lx_5 ux_5 ex_5 => ?_) | refine q_iaddw hx hb dX1_monthStart_22 (fun x_5 lx_5 ux_5 ex_5 => ?_)
    exact q_ret_i hx hb hr hlocks hK hAe hw ⟨lx_5, ux_5⟩ (Nat.le_of_ble_eq_true rfl) (Nat.le_of_ble_eq_true rfl) dX1_monthStart_23 ⟨rfl, rfl, by (refine ⟨fun q => ?_, fun q => ?_⟩ <;> simp_all <;> omega)⟩
  · refine q_iconst hx hb dX1_monthStart_4 ?_
    exact q_ret_i hx hb hr hlocks hK hAe hw ⟨by decide, by decide⟩ (Nat.le_of_ble_eq_true rfl) (Nat.le_of_ble_eq_true rfl) dX1_monthStart_5 ⟨rfl, rfl, by (refine ⟨fun q => ?_, fun q => ?_⟩ <;> simp_all <;> omega)⟩
set_option maxHeartbeats 4000000 in
set_option maxRecDepth 100000 in
theorem c_X1_weekdayOf {Z : Zt} (zo : Zok Z) (l : Launch) (D : va_G) (cy : Cy) (L0 : List Nat) (f0 : Nat → va_E) (x0 : Int) (lx0 : -2147483648 ≤ x0) (ux0 : x0 ≤ 2147483647) : Ci Z l yX1_weekdayOf (Cond.code yX1_weekdayOf cX1_weekdayOf 1 (some .int) :: TB) ({ frames := 0, cells := 0, slots := 0, locals := 0 } : Room) 0 0 D (tq cy) [.int (iI x0)] L0 f0 (fun (r : Int) (L1 : List Nat) (f1 : Nat → va_E) => L0 = L1 ∧ f0 = f1 ∧ (-7 < r ∧ r < 7 ∧ (0 ≤ x0 ∧ x0 ≤ 1000000 → r = (x0 + 5) % 7))) := by
  refine Ci.enter (cc := cX1_weekdayOf) (n := 1) rfl (plainFor_of_name (by decide)) (Nat.le_of_ble_eq_true rfl) ?_
  intro p e s m below meth c ls A hx hb hr hts hown hlocks hnm hml hK hA hAe hw hZ hl
  have hown : s.vm.findClass RX1 = some m.cls := hown
  have hl : lv_has ls 1 [(0, .int (iI x0))] := hl
  have hN : ZN s := (zo.2.2.2.2 _ _ _ hZ).2
  refine lv_iload_n hx hb dX1_weekdayOf_0 rfl (lv_at hl 0 rfl) ?_
  refine q_iconst hx hb dX1_weekdayOf_1 ?_
  first | refine q_iadd hx hb dX1_weekdayOf_2 ⟨by omega, by omega⟩ (fun x_1 lx_1 ux_1 ex_1 => ?_) | refine q_iaddw hx hb dX1_weekdayOf_2 (fun x_1 lx_1 ux_1 ex_1 => ?_)
  refine q_bipush hx hb dX1_weekdayOf_3 rfl ?_
  first | refine q_irem hx hb dX1_weekdayOf_5 ⟨lx_1, ux_1⟩ ⟨by decide, by decide⟩ (by omega) (by omega) (fun x_2 lx_2 ux_2 ex_2 => ?_) | refine q_iremw hx hb dX1_weekdayOf_5 ⟨lx_1, ux_1⟩ ⟨by decide, by decide⟩ (by omega) (fun x_2 lx_2 ux_2 ex_2 => ?_)
  exact q_ret_i hx hb hr hlocks hK hAe hw ⟨lx_2, ux_2⟩ (Nat.le_of_ble_eq_true rfl) (Nat.le_of_ble_eq_true rfl) dX1_weekdayOf_6 ⟨rfl, rfl, by omega⟩
set_option maxHeartbeats 4000000 in
set_option maxRecDepth 100000 in
theorem c_X1_monthOf {Z : Zt} (zo : Zok Z) (l : Launch) (D : va_G) (cy : Cy) (L0 : List Nat) (f0 : Nat → va_E) (x0 : Int) (lx0 : -2147483648 ≤ x0) (ux0 : x0 ≤ 2147483647) : Ci Z l yX1_monthOf (Cond.code yX1_monthOf cX1_monthOf 3 (some .int) :: TB) ({ frames := 0, cells := 0, slots := 0, locals := 0 } : Room) 0 0 D (tq cy) [.int (iI x0)] L0 f0 (fun (r : Int) (L1 : List Nat) (f1 : Nat → va_E) => L0 = L1 ∧ f0 = f1 ∧ (0 ≤ r ∧ r ≤ 70554047 ∧ (x0 ≤ 36524 → r ≤ 1199))) := by
  refine Ci.enter (cc := cX1_monthOf) (n := 3) rfl (plainFor_of_name (by decide)) (Nat.le_of_ble_eq_true rfl) ?_
  intro p e s m below meth c ls A hx hb hr hts hown hlocks hnm hml hK hA hAe hw hZ hl
  have hown : s.vm.findClass RX1 = some m.cls := hown
  have hl : lv_has ls 3 [(0, .int (iI x0))] := hl
  have hN : ZN s := (zo.2.2.2.2 _ _ _ hZ).2
  refine lv_iload_n hx hb dX1_monthOf_0 rfl (lv_at hl 0 rfl) ?_
  refine q_if_ge (tgt := 6) hx hb dX1_monthOf_1 (by decide) ⟨lx0, ux0⟩ (fun c1 => ?_) (fun c1 => ?_)
  · refine lv_iload_n hx hb dX1_monthOf_6 rfl (lv_at hl 0 rfl) ?_
    refine q_sipush hx hb dX1_monthOf_7 rfl ?_
    first | refine q_irem hx hb dX1_monthOf_10 ⟨lx0, ux0⟩ ⟨by decide, by decide⟩ (by omega) (by omega) (fun x_1 lx_1 ux_1 ex_1 => ?_) | refine q_iremw hx hb dX1_monthOf_10 ⟨lx0, ux0⟩ ⟨by decide, by decide⟩ (by omega) (fun x_1 lx_1 ux_1 ex_1 => ?_)
    refine lv_istore_n (lv' := [(1, .int (iI x_1)), (0, .int (iI x0))]) hx hb dX1_monthOf_11 rfl hl (by decide) rfl (fun ls hl => ?_)
    refine lv_iload_n hx hb dX1_monthOf_12 rfl (lv_at hl 0 rfl) ?_
    refine q_bipush hx hb dX1_monthOf_13 rfl ?_
    first | refine q_idiv hx hb dX1_monthOf_15 ⟨lx_1, ux_1⟩ ⟨by decide, by decide⟩ (by omega) (by omega) (fun x_2 lx_2 ux_2 ex_2 => ?_) | refine q_idivw hx hb dX1_monthOf_15 ⟨lx_1, ux_1⟩ ⟨by decide, by decide⟩ (by omega) (fun x_2 lx_2 ux_2 ex_2 => ?_)
    refine lv_istore_n (lv' := [(2, .int (iI x_2)), (1, .int (iI x_1)), (0, .int (iI x0))]) hx hb dX1_monthOf_16 rfl hl (by decide) rfl (fun ls hl => ?_)
    have J17 : ∀ (n17 : Nat) (y2_17 : Int) (ly2_17 : -2147483648 ≤ y2_17) (uy2_17 : y2_17 ≤ 2147483647) (i1 : 0 ≤ y2_17) (i2 : y2_17 ≤ 47) (hn17 : ((2147483647 : Int) - y2_17).toNat < n17) (H : Heap) (locs : List Loc) (ls : Array Slot) (hw : Wd D A s.heap L0 f0 H locs) (hl : lv_has ls 3 [(0, .int (iI x0)), (1, .int (iI x_1)), (2, .int (iI y2_17))]), W p l e ({ frames := 0, cells := 0, slots := 0, locals := 0 } : Room) s m ([.int (iI x0)] : List Value).toArray below meth c H locs (0) (0) (MQ below (Qi D (tq cy) L0 f0 s.heap.size (fun (r : Int) (L1 : List Nat) (f1 : Nat → va_E) => L0 = L1 ∧ f0 = f1 ∧ (0 ≤ r ∧ r ≤ 70554047 ∧ (x0 ≤ 36524 → r ≤ 1199)))) ([.int (iI x0)] : List Value).toArray s 0 0 A) (F0 m 17 ls []) := by
      intro n17
      induction n17 with
      | zero => intro y2_17 ly2_17 uy2_17 i1 i2 hn17; exact absurd hn17 (Nat.not_lt_zero _)
      | succ n17 ih17 =>
        intro y2_17 ly2_17 uy2_17 i1 i2 hn17 H locs ls hw hl
        refine lv_iload_n hx hb dX1_monthOf_17 rfl (lv_at hl 2 rfl) ?_
        refine q_iconst hx hb dX1_monthOf_18 ?_
        first | refine q_iadd hx hb dX1_monthOf_19 ⟨by omega, by omega⟩ (fun x_3 lx_3 ux_3 ex_3 => ?_) | refine q_iaddw hx hb dX1_monthOf_19 (fun x_3 lx_3 ux_3 ex_3 => ?_)
        refine q_bipush hx hb dX1_monthOf_20 rfl ?_
        have J42 : ∀ (H : Heap) (locs : List Loc) (ls : Array Slot) (hw : Wd D A s.heap L0 f0 H locs) (hl : lv_has ls 3 [(0, .int (iI x0)), (2, .int (iI y2_17))]), W p l e ({ frames := 0, cells := 0, slots := 0, locals := 0 } : Room) s m ([.int (iI x0)] : List Value).toArray below meth c H locs (0) (0) (MQ below (Qi D (tq cy) L0 f0 s.heap.size (fun (r : Int) (L1 : List Nat) (f1 : Nat → va_E) => L0 = L1 ∧ f0 = f1 ∧ (0 ≤ r ∧ r ≤ 70554047 ∧ (x0 ≤ 36524 → r ≤ 1199)))) ([.int (iI x0)] : List Value).toArray s 0 0 A) (F0 m 42 ls []) := by
          intro H locs ls hw hl
          refine lv_iload_n hx hb dX1_monthOf_42 rfl (lv_at hl 0 rfl) ?_
          refine q_sipush hx hb dX1_monthOf_43 rfl ?_
          first | refine q_idiv hx hb dX1_monthOf_46 ⟨lx0, ux0⟩ ⟨by decide, by decide⟩ (by omega) (by omega) (fun x_4 lx_4 ux_4 ex_4 => ?_) | refine q_idivw hx hb dX1_monthOf_46 ⟨lx0, ux0⟩ ⟨by decide, by decide⟩ (by omega) (fun x_4 lx_4 ux_4 ex_4 => ?_)
          refine q_bipush hx hb dX1_monthOf_47 rfl ?_
          first | refine q_imul hx hb dX1_monthOf_49 ⟨by omega, by omega⟩ (fun x_5 lx_5 ux_5 ex_5 => ?_) | refine q_imulw hx hb dX1_monthOf_49 (fun x_5 lx_5 ux_5 ex_5 => ?_)
          refine lv_iload_n hx hb dX1_monthOf_50 rfl (lv_at hl 1 rfl) ?_
          first | refine q_iadd hx hb dX1_monthOf_51 ⟨by omega, by omega⟩ (fun x_6 lx_6 ux_6 ex_6 => ?_) | refine q_iaddw hx hb dX1_monthOf_51 (fun x_6 lx_6 ux_6 ex_6 => ?_)
          exact q_ret_i hx hb hr hlocks hK hAe hw ⟨lx_6, ux_6⟩ (Nat.le_of_ble_eq_true rfl) (Nat.le_of_ble_eq_true rfl) dX1_monthOf_52 ⟨rfl, rfl, by omega⟩
        refine q_icmp_ge (tgt := 42) hx hb dX1_monthOf_22 (by decide) ⟨lx_3, ux_3⟩ ⟨by decide, by decide⟩ (fun c22 => ?_) (fun c22 => ?_)
        · exact J42 _ _ _ hw (lv_sub hl [0, 2] rfl)
        · obtain ⟨tcy, hz1, hz2⟩ := (zo.2.2.2.2 _ _ _ hZ).1
          refine va_gets hx hb hz1 hw.2.2 hown (hts _ (List.mem_cons_of_mem _ (mr12 _ (List.mem_of_getElem? (i := 4) rfl)))) (fun _ h => h) dX1_monthOf_25 ?_
          refine lv_iload_n hx hb dX1_monthOf_28 rfl (lv_at hl 2 rfl) ?_
          refine q_iconst hx hb dX1_monthOf_29 ?_
          first | refine q_iadd hx hb dX1_monthOf_30 ⟨by omega, by omega⟩ (fun x_7 lx_7 ux_7 ex_7 => ?_) | refine q_iaddw hx hb dX1_monthOf_30 (fun x_7 lx_7 ux_7 ex_7 => ?_)
          refine q_cald (g := fun j => cyc.getD j 0) hx hb hz2 hw.2.2 ⟨lx_7, ux_7⟩ (by omega) (by omega) ⟨by have := cyc_b (x_7).toNat; omega, by have := cyc_b (x_7).toNat; omega⟩ dX1_monthOf_31 (fun x_8 lx_8 ux_8 ex_8 => ?_)
          have bx_8 := cyc_b (x_7).toNat
          refine lv_iload_n hx hb dX1_monthOf_32 rfl (lv_at hl 1 rfl) ?_
          refine q_icmp_gt (tgt := 42) hx hb dX1_monthOf_33 (by decide) ⟨lx_8, ux_8⟩ ⟨lx_1, ux_1⟩ (fun c33 => ?_) (fun c33 => ?_)
          · exact J42 _ _ _ hw (lv_sub hl [0, 2] rfl)
          · obtain ⟨x_9, lx_9, ux_9, hx_9, ex_9⟩ := q_inc y2_17 (1)
            try (replace ex_9 : x_9 = y2_17 + (1) := by omega)
            refine lv_iinc (v := iI x_9) (lv' := [(2, .int (iI x_9)), (0, .int (iI x0)), (1, .int (iI x_1))]) hx hb dX1_monthOf_36 hl (k := 2) rfl hx_9 (by decide) rfl (fun ls hl => ?_)
            refine lv_goto (tgt := 17) hx hb dX1_monthOf_39 (by decide) ?_
            exact ih17 x_9 lx_9 ux_9 (by omega) (by omega) (by omega) _ _ _ hw (lv_sub hl [1, 2, 0] rfl)
    exact J17 ((((2147483647 : Int) - x_2).toNat) + 1) x_2 lx_2 ux_2 (by omega) (by omega) (by omega) _ _ _ hw (lv_sub hl [2, 1, 0] rfl)
  · refine q_iconst hx hb dX1_monthOf_4 ?_
    exact q_ret_i hx hb hr hlocks hK hAe hw ⟨by decide, by decide⟩ (Nat.le_of_ble_eq_true rfl) (Nat.le_of_ble_eq_true rfl) dX1_monthOf_5 ⟨rfl, rfl, by omega⟩
set_option maxHeartbeats 4000000 in
set_option maxRecDepth 100000 in
theorem c_X10_within {Z : Zt} (zo : Zok Z) (l : Launch) (D : va_G) (cy : Cy) (L0 : List Nat) (f0 : Nat → va_E) (x0 : Int) (lx0 : -2147483648 ≤ x0) (ux0 : x0 ≤ 2147483647) (x1 : Int) (lx1 : -2147483648 ≤ x1) (ux1 : x1 ≤ 2147483647) (x2 : Int) (lx2 : -2147483648 ≤ x2) (ux2 : x2 ≤ 2147483647) : Ci Z l yX10_within (Cond.code yX10_within cX10_within 3 (some .boolean) :: TB) ({ frames := 0, cells := 0, slots := 0, locals := 0 } : Room) 0 0 D (tq cy) [.int (iI x0), .int (iI x1), .int (iI x2)] L0 f0 (fun (r : Int) (L1 : List Nat) (f1 : Nat → va_E) => L0 = L1 ∧ f0 = f1 ∧ (r = 1 ∧ x1 ≤ x0 ∧ x0 ≤ x2 ∨ r = 0 ∧ (x0 < x1 ∨ x2 < x0))) := by
  refine Ci.enter (cc := cX10_within) (n := 3) rfl (plainFor_of_name (by decide)) (Nat.le_of_ble_eq_true rfl) ?_
  intro p e s m below meth c ls A hx hb hr hts hown hlocks hnm hml hK hA hAe hw hZ hl
  have hown : s.vm.findClass RX10 = some m.cls := hown
  have hl : lv_has ls 3 [(0, .int (iI x0)), (1, .int (iI x1)), (2, .int (iI x2))] := hl
  have hN : ZN s := (zo.2.2.2.2 _ _ _ hZ).2
  refine lv_iload_n hx hb dX10_within_0 rfl (lv_at hl 0 rfl) ?_
  refine lv_iload_n hx hb dX10_within_1 rfl (lv_at hl 1 rfl) ?_
  refine q_icmp_lt (tgt := 14) hx hb dX10_within_2 (by decide) ⟨lx0, ux0⟩ ⟨lx1, ux1⟩ (fun c2 => ?_) (fun c2 => ?_)
  · refine q_iconst hx hb dX10_within_14 ?_
    exact q_ret_z hx hb hr hlocks hK hAe hw (by omega) (Nat.le_of_ble_eq_true rfl) (Nat.le_of_ble_eq_true rfl) dX10_within_15 ⟨rfl, rfl, by omega⟩
  · refine lv_iload_n hx hb dX10_within_5 rfl (lv_at hl 0 rfl) ?_
    refine lv_iload_n hx hb dX10_within_6 rfl (lv_at hl 2 rfl) ?_
    refine q_icmp_gt (tgt := 14) hx hb dX10_within_7 (by decide) ⟨lx0, ux0⟩ ⟨lx2, ux2⟩ (fun c7 => ?_) (fun c7 => ?_)
    · refine q_iconst hx hb dX10_within_14 ?_
      exact q_ret_z hx hb hr hlocks hK hAe hw (by omega) (Nat.le_of_ble_eq_true rfl) (Nat.le_of_ble_eq_true rfl) dX10_within_15 ⟨rfl, rfl, by omega⟩
    · refine q_iconst hx hb dX10_within_10 ?_
      refine lv_goto (tgt := 15) hx hb dX10_within_11 (by decide) ?_
      exact q_ret_z hx hb hr hlocks hK hAe hw (by omega) (Nat.le_of_ble_eq_true rfl) (Nat.le_of_ble_eq_true rfl) dX10_within_15 ⟨rfl, rfl, by omega⟩
set_option maxHeartbeats 4000000 in
set_option maxRecDepth 100000 in
theorem c_X10_daysIn {Z : Zt} (zo : Zok Z) (l : Launch) (D : va_G) (cy : Cy) (L0 : List Nat) (f0 : Nat → va_E) (x0 : Int) (lx0 : -2147483648 ≤ x0) (ux0 : x0 ≤ 2147483647) (x1 : Int) (lx1 : -2147483648 ≤ x1) (ux1 : x1 ≤ 2147483647) : Ci Z l yX10_daysIn (Cond.code yX10_daysIn cX10_daysIn 2 (some .int) :: TB) ({ frames := 0, cells := 0, slots := 0, locals := 0 } : Room) 0 0 D (tq cy) [.int (iI x0), .int (iI x1)] L0 f0 (fun (r : Int) (L1 : List Nat) (f1 : Nat → va_E) => L0 = L1 ∧ f0 = f1 ∧ (28 ≤ r ∧ r ≤ 31)) := by
  refine Ci.enter (cc := cX10_daysIn) (n := 2) rfl (plainFor_of_name (by decide)) (Nat.le_of_ble_eq_true rfl) ?_
  intro p e s m below meth c ls A hx hb hr hts hown hlocks hnm hml hK hA hAe hw hZ hl
  have hown : s.vm.findClass RX10 = some m.cls := hown
  have hl : lv_has ls 2 [(0, .int (iI x0)), (1, .int (iI x1))] := hl
  have hN : ZN s := (zo.2.2.2.2 _ _ _ hZ).2
  refine lv_iload_n hx hb dX10_daysIn_0 rfl (lv_at hl 1 rfl) ?_
  refine q_iconst hx hb dX10_daysIn_1 ?_
  refine q_icmp_ne (tgt := 19) hx hb dX10_daysIn_2 (by decide) ⟨lx1, ux1⟩ ⟨by decide, by decide⟩ (fun c2 => ?_) (fun c2 => ?_)
  · refine lv_iload_n hx hb dX10_daysIn_19 rfl (lv_at hl 1 rfl) ?_
    refine q_iconst hx hb dX10_daysIn_20 ?_
    refine q_icmp_eq (tgt := 42) hx hb dX10_daysIn_21 (by decide) ⟨lx1, ux1⟩ ⟨by decide, by decide⟩ (fun c21 => ?_) (fun c21 => ?_)
    · refine q_bipush hx hb dX10_daysIn_42 rfl ?_
      refine lv_goto (tgt := 49) hx hb dX10_daysIn_44 (by decide) ?_
      exact q_ret_i hx hb hr hlocks hK hAe hw ⟨by decide, by decide⟩ (Nat.le_of_ble_eq_true rfl) (Nat.le_of_ble_eq_true rfl) dX10_daysIn_49 ⟨rfl, rfl, by omega⟩
    · refine lv_iload_n hx hb dX10_daysIn_24 rfl (lv_at hl 1 rfl) ?_
      refine q_bipush hx hb dX10_daysIn_25 rfl ?_
      refine q_icmp_eq (tgt := 42) hx hb dX10_daysIn_27 (by decide) ⟨lx1, ux1⟩ ⟨by decide, by decide⟩ (fun c27 => ?_) (fun c27 => ?_)
      · refine q_bipush hx hb dX10_daysIn_42 rfl ?_
        refine lv_goto (tgt := 49) hx hb dX10_daysIn_44 (by decide) ?_
        exact q_ret_i hx hb hr hlocks hK hAe hw ⟨by decide, by decide⟩ (Nat.le_of_ble_eq_true rfl) (Nat.le_of_ble_eq_true rfl) dX10_daysIn_49 ⟨rfl, rfl, by omega⟩
      · refine lv_iload_n hx hb dX10_daysIn_30 rfl (lv_at hl 1 rfl) ?_
        refine q_bipush hx hb dX10_daysIn_31 rfl ?_
        refine q_icmp_eq (tgt := 42) hx hb dX10_daysIn_33 (by decide) ⟨lx1, ux1⟩ ⟨by decide, by decide⟩ (fun c33 => ?_) (fun c33 => ?_)
        · refine q_bipush hx hb dX10_daysIn_42 rfl ?_
          refine lv_goto (tgt := 49) hx hb dX10_daysIn_44 (by decide) ?_
          exact q_ret_i hx hb hr hlocks hK hAe hw ⟨by decide, by decide⟩ (Nat.le_of_ble_eq_true rfl) (Nat.le_of_ble_eq_true rfl) dX10_daysIn_49 ⟨rfl, rfl, by omega⟩
        · refine lv_iload_n hx hb dX10_daysIn_36 rfl (lv_at hl 1 rfl) ?_
          refine q_bipush hx hb dX10_daysIn_37 rfl ?_
          refine q_icmp_ne (tgt := 47) hx hb dX10_daysIn_39 (by decide) ⟨lx1, ux1⟩ ⟨by decide, by decide⟩ (fun c39 => ?_) (fun c39 => ?_)
          · refine q_bipush hx hb dX10_daysIn_47 rfl ?_
            exact q_ret_i hx hb hr hlocks hK hAe hw ⟨by decide, by decide⟩ (Nat.le_of_ble_eq_true rfl) (Nat.le_of_ble_eq_true rfl) dX10_daysIn_49 ⟨rfl, rfl, by omega⟩
          · refine q_bipush hx hb dX10_daysIn_42 rfl ?_
            refine lv_goto (tgt := 49) hx hb dX10_daysIn_44 (by decide) ?_
            exact q_ret_i hx hb hr hlocks hK hAe hw ⟨by decide, by decide⟩ (Nat.le_of_ble_eq_true rfl) (Nat.le_of_ble_eq_true rfl) dX10_daysIn_49 ⟨rfl, rfl, by omega⟩
  · refine lv_iload_n hx hb dX10_daysIn_5 rfl (lv_at hl 0 rfl) ?_
    refine q_iconst hx hb dX10_daysIn_6 ?_
    first | refine q_irem hx hb dX10_daysIn_7 ⟨lx0, ux0⟩ ⟨by decide, by decide⟩ (by omega) (by omega) (fun x_1 lx_1 ux_1 ex_1 => ?_) | refine q_iremw hx hb dX10_daysIn_7 ⟨lx0, ux0⟩ ⟨by decide, by decide⟩ (by omega) (fun x_1 lx_1 ux_1 ex_1 => ?_)
    refine q_if_ne (tgt := 16) hx hb dX10_daysIn_8 (by decide) ⟨lx_1, ux_1⟩ (fun c8 => ?_) (fun c8 => ?_)
    · refine q_bipush hx hb dX10_daysIn_16 rfl ?_
      exact q_ret_i hx hb hr hlocks hK hAe hw ⟨by decide, by decide⟩ (Nat.le_of_ble_eq_true rfl) (Nat.le_of_ble_eq_true rfl) dX10_daysIn_18 ⟨rfl, rfl, by omega⟩
    · refine q_bipush hx hb dX10_daysIn_11 rfl ?_
      refine lv_goto (tgt := 18) hx hb dX10_daysIn_13 (by decide) ?_
      exact q_ret_i hx hb hr hlocks hK hAe hw ⟨by decide, by decide⟩ (Nat.le_of_ble_eq_true rfl) (Nat.le_of_ble_eq_true rfl) dX10_daysIn_18 ⟨rfl, rfl, by omega⟩
set_option maxHeartbeats 4000000 in
set_option maxRecDepth 100000 in
theorem c_X10_isDay {Z : Zt} (zo : Zok Z) (l : Launch) (D : va_G) (cy : Cy) (L0 : List Nat) (f0 : Nat → va_E) (x0 : Int) (lx0 : -2147483648 ≤ x0) (ux0 : x0 ≤ 2147483647) : Ci Z l yX10_isDay (Cond.code yX10_isDay cX10_isDay 1 (some .boolean) :: TB) ({ frames := 1, cells := 0, slots := 0, locals := 22 } : Room) 0 0 D (tq cy) [.int (iI x0)] L0 f0 (fun (r : Int) (L1 : List Nat) (f1 : Nat → va_E) => L0 = L1 ∧ f0 = f1 ∧ (r = 1 ∧ 0 ≤ x0 ∧ x0 ≤ 36524 ∨ r = 0 ∧ (x0 < 0 ∨ 36524 < x0))) := by
  refine Ci.enter (cc := cX10_isDay) (n := 1) rfl (plainFor_of_name (by decide)) (Nat.le_of_ble_eq_true rfl) ?_
  intro p e s m below meth c ls A hx hb hr hts hown hlocks hnm hml hK hA hAe hw hZ hl
  have hown : s.vm.findClass RX10 = some m.cls := hown
  have hl : lv_has ls 1 [(0, .int (iI x0))] := hl
  have hN : ZN s := (zo.2.2.2.2 _ _ _ hZ).2
  refine lv_iload_n hx hb dX10_isDay_0 rfl (lv_at hl 0 rfl) ?_
  refine q_iconst hx hb dX10_isDay_1 ?_
  refine q_ldc (n := 36524) hx hb hown (hts _ (List.mem_cons_of_mem _ (mr24 _ (List.mem_of_getElem? (i := 0) rfl)))) rfl dX10_isDay_2 ?_
  refine q_call_i hA hK hw (va_runS (As := [.int (iI x0), .int (iI 0), .int (iI 36524)]) (rest := []) ⟨hx, hb, hml, hown, hts⟩ (c_X10_within zo l D cy L0 f0 x0 lx0 ux0 0 (by decide) (by decide) 36524 (by decide) (by decide) _) (va_cwS 3 hts (gT (inS (mr5 _ (List.mem_of_getElem? (i := 9) rfl)) (mr5 _ (List.mem_of_getElem? (i := 10) rfl)) (mr1 _ (List.mem_of_getElem? (i := 5) rfl)) (mr5 _ (List.mem_of_getElem? (i := 11) rfl)))) rfl rfl rfl (by decide +kernel) ⟨Nat.le_of_ble_eq_true rfl, Nat.le_of_ble_eq_true rfl⟩) (Wd.preS zo hA hZ hw hK) rfl rfl hl.1 rfl (lv_room (Nat.le_of_ble_eq_true rfl)) dX10_isDay_4 ⟨Nat.le_of_ble_eq_true rfl, Nat.le_of_ble_eq_true rfl⟩) (fun x_1 L1 f1 H locs lx_1 ux_1 ex_1 hw => ?_)
  obtain ⟨rfl, rfl, ex_1⟩ := ex_1
  exact q_ret_z hx hb hr hlocks hK hAe hw (by omega) (Nat.le_of_ble_eq_true rfl) (Nat.le_of_ble_eq_true rfl) dX10_isDay_7 ⟨rfl, rfl, by omega⟩
set_option maxHeartbeats 4000000 in
set_option maxRecDepth 100000 in
theorem c_X10_isTime {Z : Zt} (zo : Zok Z) (l : Launch) (D : va_G) (cy : Cy) (L0 : List Nat) (f0 : Nat → va_E) (x0 : Int) (lx0 : -2147483648 ≤ x0) (ux0 : x0 ≤ 2147483647) : Ci Z l yX10_isTime (Cond.code yX10_isTime cX10_isTime 1 (some .boolean) :: TB) ({ frames := 1, cells := 0, slots := 0, locals := 22 } : Room) 0 0 D (tq cy) [.int (iI x0)] L0 f0 (fun (r : Int) (L1 : List Nat) (f1 : Nat → va_E) => L0 = L1 ∧ f0 = f1 ∧ (r = 1 ∧ 0 ≤ x0 ∧ x0 ≤ 52595999 ∨ r = 0 ∧ (x0 < 0 ∨ 52595999 < x0))) := by
  refine Ci.enter (cc := cX10_isTime) (n := 1) rfl (plainFor_of_name (by decide)) (Nat.le_of_ble_eq_true rfl) ?_
  intro p e s m below meth c ls A hx hb hr hts hown hlocks hnm hml hK hA hAe hw hZ hl
  have hown : s.vm.findClass RX10 = some m.cls := hown
  have hl : lv_has ls 1 [(0, .int (iI x0))] := hl
  have hN : ZN s := (zo.2.2.2.2 _ _ _ hZ).2
  refine lv_iload_n hx hb dX10_isTime_0 rfl (lv_at hl 0 rfl) ?_
  refine q_iconst hx hb dX10_isTime_1 ?_
  refine q_ldc (n := 52595999) hx hb hown (hts _ (List.mem_cons_of_mem _ (mr28 _ (List.mem_of_getElem? (i := 6) rfl)))) rfl dX10_isTime_2 ?_
  refine q_call_i hA hK hw (va_runS (As := [.int (iI x0), .int (iI 0), .int (iI 52595999)]) (rest := []) ⟨hx, hb, hml, hown, hts⟩ (c_X10_within zo l D cy L0 f0 x0 lx0 ux0 0 (by decide) (by decide) 52595999 (by decide) (by decide) _) (va_cwS 3 hts (gT (inS (mr5 _ (List.mem_of_getElem? (i := 9) rfl)) (mr5 _ (List.mem_of_getElem? (i := 10) rfl)) (mr1 _ (List.mem_of_getElem? (i := 5) rfl)) (mr5 _ (List.mem_of_getElem? (i := 11) rfl)))) rfl rfl rfl (by decide +kernel) ⟨Nat.le_of_ble_eq_true rfl, Nat.le_of_ble_eq_true rfl⟩) (Wd.preS zo hA hZ hw hK) rfl rfl hl.1 rfl (lv_room (Nat.le_of_ble_eq_true rfl)) dX10_isTime_4 ⟨Nat.le_of_ble_eq_true rfl, Nat.le_of_ble_eq_true rfl⟩) (fun x_1 L1 f1 H locs lx_1 ux_1 ex_1 hw => ?_)
  obtain ⟨rfl, rfl, ex_1⟩ := ex_1
  exact q_ret_z hx hb hr hlocks hK hAe hw (by omega) (Nat.le_of_ble_eq_true rfl) (Nat.le_of_ble_eq_true rfl) dX10_isTime_7 ⟨rfl, rfl, by omega⟩
set_option maxHeartbeats 4000000 in
set_option maxRecDepth 100000 in
theorem c_X10_weekdayOf {Z : Zt} (zo : Zok Z) (l : Launch) (D : va_G) (cy : Cy) (L0 : List Nat) (f0 : Nat → va_E) (x0 : Int) (lx0 : -2147483648 ≤ x0) (ux0 : x0 ≤ 2147483647) : Ci Z l yX10_weekdayOf (Cond.code yX10_weekdayOf cX10_weekdayOf 1 (some .int) :: TB) ({ frames := 0, cells := 0, slots := 0, locals := 0 } : Room) 0 0 D (tq cy) [.int (iI x0)] L0 f0 (fun (r : Int) (L1 : List Nat) (f1 : Nat → va_E) => L0 = L1 ∧ f0 = f1 ∧ (-7 < r ∧ r < 7 ∧ (0 ≤ x0 ∧ x0 ≤ 1000000 → r = (x0 + 5) % 7))) := by
  refine Ci.enter (cc := cX10_weekdayOf) (n := 1) rfl (plainFor_of_name (by decide)) (Nat.le_of_ble_eq_true rfl) ?_
  intro p e s m below meth c ls A hx hb hr hts hown hlocks hnm hml hK hA hAe hw hZ hl
  have hown : s.vm.findClass RX10 = some m.cls := hown
  have hl : lv_has ls 1 [(0, .int (iI x0))] := hl
  have hN : ZN s := (zo.2.2.2.2 _ _ _ hZ).2
  refine lv_iload_n hx hb dX10_weekdayOf_0 rfl (lv_at hl 0 rfl) ?_
  refine q_iconst hx hb dX10_weekdayOf_1 ?_
  first | refine q_iadd hx hb dX10_weekdayOf_2 ⟨by omega, by omega⟩ (fun x_1 lx_1 ux_1 ex_1 => ?_) | refine q_iaddw hx hb dX10_weekdayOf_2 (fun x_1 lx_1 ux_1 ex_1 => ?_)
  refine q_bipush hx hb dX10_weekdayOf_3 rfl ?_
  first | refine q_irem hx hb dX10_weekdayOf_5 ⟨lx_1, ux_1⟩ ⟨by decide, by decide⟩ (by omega) (by omega) (fun x_2 lx_2 ux_2 ex_2 => ?_) | refine q_iremw hx hb dX10_weekdayOf_5 ⟨lx_1, ux_1⟩ ⟨by decide, by decide⟩ (by omega) (fun x_2 lx_2 ux_2 ex_2 => ?_)
  exact q_ret_i hx hb hr hlocks hK hAe hw ⟨lx_2, ux_2⟩ (Nat.le_of_ble_eq_true rfl) (Nat.le_of_ble_eq_true rfl) dX10_weekdayOf_6 ⟨rfl, rfl, by omega⟩
set_option maxHeartbeats 4000000 in
set_option maxRecDepth 100000 in
theorem c_X10_isSmall {Z : Zt} (zo : Zok Z) (l : Launch) (D : va_G) (cy : Cy) (L0 : List Nat) (f0 : Nat → va_E) (x0 : Int) (lx0 : -2147483648 ≤ x0) (ux0 : x0 ≤ 2147483647) : Ci Z l yX10_isSmall (Cond.code yX10_isSmall cX10_isSmall 1 (some .boolean) :: TB) ({ frames := 0, cells := 0, slots := 0, locals := 0 } : Room) 0 0 D (tq cy) [.int (iI x0)] L0 f0 (fun (r : Int) (L1 : List Nat) (f1 : Nat → va_E) => L0 = L1 ∧ f0 = f1 ∧ (r = 1 ∧ 97 ≤ x0 ∧ x0 ≤ 122 ∨ r = 0 ∧ (x0 < 97 ∨ 122 < x0))) := by
  refine Ci.enter (cc := cX10_isSmall) (n := 1) rfl (plainFor_of_name (by decide)) (Nat.le_of_ble_eq_true rfl) ?_
  intro p e s m below meth c ls A hx hb hr hts hown hlocks hnm hml hK hA hAe hw hZ hl
  have hown : s.vm.findClass RX10 = some m.cls := hown
  have hl : lv_has ls 1 [(0, .int (iI x0))] := hl
  have hN : ZN s := (zo.2.2.2.2 _ _ _ hZ).2
  refine lv_iload_n hx hb dX10_isSmall_0 rfl (lv_at hl 0 rfl) ?_
  refine q_bipush hx hb dX10_isSmall_1 rfl ?_
  refine q_icmp_lt (tgt := 16) hx hb dX10_isSmall_3 (by decide) ⟨lx0, ux0⟩ ⟨by decide, by decide⟩ (fun c3 => ?_) (fun c3 => ?_)
  · refine q_iconst hx hb dX10_isSmall_16 ?_
    exact q_ret_z hx hb hr hlocks hK hAe hw (by omega) (Nat.le_of_ble_eq_true rfl) (Nat.le_of_ble_eq_true rfl) dX10_isSmall_17 ⟨rfl, rfl, by omega⟩
  · refine lv_iload_n hx hb dX10_isSmall_6 rfl (lv_at hl 0 rfl) ?_
    refine q_bipush hx hb dX10_isSmall_7 rfl ?_
    refine q_icmp_gt (tgt := 16) hx hb dX10_isSmall_9 (by decide) ⟨lx0, ux0⟩ ⟨by decide, by decide⟩ (fun c9 => ?_) (fun c9 => ?_)
    · refine q_iconst hx hb dX10_isSmall_16 ?_
      exact q_ret_z hx hb hr hlocks hK hAe hw (by omega) (Nat.le_of_ble_eq_true rfl) (Nat.le_of_ble_eq_true rfl) dX10_isSmall_17 ⟨rfl, rfl, by omega⟩
    · refine q_iconst hx hb dX10_isSmall_12 ?_
      refine lv_goto (tgt := 17) hx hb dX10_isSmall_13 (by decide) ?_
      exact q_ret_z hx hb hr hlocks hK hAe hw (by omega) (Nat.le_of_ble_eq_true rfl) (Nat.le_of_ble_eq_true rfl) dX10_isSmall_17 ⟨rfl, rfl, by omega⟩
set_option maxHeartbeats 4000000 in
set_option maxRecDepth 100000 in
theorem c_X10_isDigit {Z : Zt} (zo : Zok Z) (l : Launch) (D : va_G) (cy : Cy) (L0 : List Nat) (f0 : Nat → va_E) (x0 : Int) (lx0 : -2147483648 ≤ x0) (ux0 : x0 ≤ 2147483647) : Ci Z l yX10_isDigit (Cond.code yX10_isDigit cX10_isDigit 1 (some .boolean) :: TB) ({ frames := 0, cells := 0, slots := 0, locals := 0 } : Room) 0 0 D (tq cy) [.int (iI x0)] L0 f0 (fun (r : Int) (L1 : List Nat) (f1 : Nat → va_E) => L0 = L1 ∧ f0 = f1 ∧ (r = 1 ∧ 48 ≤ x0 ∧ x0 ≤ 57 ∨ r = 0 ∧ (x0 < 48 ∨ 57 < x0))) := by
  refine Ci.enter (cc := cX10_isDigit) (n := 1) rfl (plainFor_of_name (by decide)) (Nat.le_of_ble_eq_true rfl) ?_
  intro p e s m below meth c ls A hx hb hr hts hown hlocks hnm hml hK hA hAe hw hZ hl
  have hown : s.vm.findClass RX10 = some m.cls := hown
  have hl : lv_has ls 1 [(0, .int (iI x0))] := hl
  have hN : ZN s := (zo.2.2.2.2 _ _ _ hZ).2
  refine lv_iload_n hx hb dX10_isDigit_0 rfl (lv_at hl 0 rfl) ?_
  refine q_bipush hx hb dX10_isDigit_1 rfl ?_
  refine q_icmp_lt (tgt := 16) hx hb dX10_isDigit_3 (by decide) ⟨lx0, ux0⟩ ⟨by decide, by decide⟩ (fun c3 => ?_) (fun c3 => ?_)
  · refine q_iconst hx hb dX10_isDigit_16 ?_
    exact q_ret_z hx hb hr hlocks hK hAe hw (by omega) (Nat.le_of_ble_eq_true rfl) (Nat.le_of_ble_eq_true rfl) dX10_isDigit_17 ⟨rfl, rfl, by omega⟩
  · refine lv_iload_n hx hb dX10_isDigit_6 rfl (lv_at hl 0 rfl) ?_
    refine q_bipush hx hb dX10_isDigit_7 rfl ?_
    refine q_icmp_gt (tgt := 16) hx hb dX10_isDigit_9 (by decide) ⟨lx0, ux0⟩ ⟨by decide, by decide⟩ (fun c9 => ?_) (fun c9 => ?_)
    · refine q_iconst hx hb dX10_isDigit_16 ?_
      exact q_ret_z hx hb hr hlocks hK hAe hw (by omega) (Nat.le_of_ble_eq_true rfl) (Nat.le_of_ble_eq_true rfl) dX10_isDigit_17 ⟨rfl, rfl, by omega⟩
    · refine q_iconst hx hb dX10_isDigit_12 ?_
      refine lv_goto (tgt := 17) hx hb dX10_isDigit_13 (by decide) ?_
      exact q_ret_z hx hb hr hlocks hK hAe hw (by omega) (Nat.le_of_ble_eq_true rfl) (Nat.le_of_ble_eq_true rfl) dX10_isDigit_17 ⟨rfl, rfl, by omega⟩
