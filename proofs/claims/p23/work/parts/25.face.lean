set_option maxHeartbeats 4000000 in
set_option maxRecDepth 100000 in
theorem c_X1_daysOfMonth {Z : Zt} (zo : Zok Z) (l : Launch) (D : va_G) (cy : Cy) (L0 : List Nat) (f0 : Nat → va_E) (x0 : Int) (lx0 : -2147483648 ≤ x0) (ux0 : x0 ≤ 2147483647) (x1 : Int) (lx1 : -2147483648 ≤ x1) (ux1 : x1 ≤ 2147483647) : Ci Z l yX1_daysOfMonth (Cond.code yX1_daysOfMonth cX1_daysOfMonth 3 (some .int) :: TB) ({ frames := 1, cells := 0, slots := 0, locals := 21 } : Room) 0 0 D (tq cy) [.int (iI x0), .int (iI x1)] L0 f0 (fun (r : Int) (L1 : List Nat) (f1 : Nat → va_E) => L0 = L1 ∧ f0 = f1 ∧ (True)) := by
  refine Ci.enter (cc := cX1_daysOfMonth) (n := 3) rfl (plainFor_of_name (by decide)) (Nat.le_of_ble_eq_true rfl) ?_
  intro p e s m below meth c ls A hx hb hr hts hown hlocks hnm hml hK hA hAe hw hZ hl
  have hown : s.vm.findClass RX1 = some m.cls := hown
  have hl : lv_has ls 3 [(0, .int (iI x0)), (1, .int (iI x1))] := hl
  have hN : ZN s := (zo.2.2.2.2 _ _ _ hZ).2
  refine lv_iload_n hx hb dX1_daysOfMonth_0 rfl (lv_at hl 0 rfl) ?_
  refine q_sipush hx hb dX1_daysOfMonth_1 rfl ?_
  refine q_icmp_lt (tgt := 25) hx hb dX1_daysOfMonth_4 (by decide) ⟨lx0, ux0⟩ ⟨by decide, by decide⟩ (fun c4 => ?_) (fun c4 => ?_)
  · refine q_iconst hx hb dX1_daysOfMonth_25 ?_
    exact q_ret_i hx hb hr hlocks hK hAe hw ⟨by decide, by decide⟩ (Nat.le_of_ble_eq_true rfl) (Nat.le_of_ble_eq_true rfl) dX1_daysOfMonth_26 ⟨rfl, rfl, by trivial⟩
  · refine lv_iload_n hx hb dX1_daysOfMonth_7 rfl (lv_at hl 0 rfl) ?_
    refine q_sipush hx hb dX1_daysOfMonth_8 rfl ?_
    refine q_icmp_gt (tgt := 25) hx hb dX1_daysOfMonth_11 (by decide) ⟨lx0, ux0⟩ ⟨by decide, by decide⟩ (fun c11 => ?_) (fun c11 => ?_)
    · refine q_iconst hx hb dX1_daysOfMonth_25 ?_
      exact q_ret_i hx hb hr hlocks hK hAe hw ⟨by decide, by decide⟩ (Nat.le_of_ble_eq_true rfl) (Nat.le_of_ble_eq_true rfl) dX1_daysOfMonth_26 ⟨rfl, rfl, by trivial⟩
    · refine lv_iload_n hx hb dX1_daysOfMonth_14 rfl (lv_at hl 1 rfl) ?_
      refine q_iconst hx hb dX1_daysOfMonth_15 ?_
      refine q_icmp_lt (tgt := 25) hx hb dX1_daysOfMonth_16 (by decide) ⟨lx1, ux1⟩ ⟨by decide, by decide⟩ (fun c16 => ?_) (fun c16 => ?_)
      · refine q_iconst hx hb dX1_daysOfMonth_25 ?_
        exact q_ret_i hx hb hr hlocks hK hAe hw ⟨by decide, by decide⟩ (Nat.le_of_ble_eq_true rfl) (Nat.le_of_ble_eq_true rfl) dX1_daysOfMonth_26 ⟨rfl, rfl, by trivial⟩
      · refine lv_iload_n hx hb dX1_daysOfMonth_19 rfl (lv_at hl 1 rfl) ?_
        refine q_bipush hx hb dX1_daysOfMonth_20 rfl ?_
        refine q_icmp_le (tgt := 27) hx hb dX1_daysOfMonth_22 (by decide) ⟨lx1, ux1⟩ ⟨by decide, by decide⟩ (fun c22 => ?_) (fun c22 => ?_)
        · refine lv_iload_n hx hb dX1_daysOfMonth_27 rfl (lv_at hl 0 rfl) ?_
          refine lv_iload_n hx hb dX1_daysOfMonth_28 rfl (lv_at hl 1 rfl) ?_
          refine q_call_i hA hK hw (va_runS (As := [.int (iI x0), .int (iI x1)]) (rest := []) ⟨hx, hb, hml, hown, hts⟩ (c_X1_monthNumber zo l D cy L0 f0 x0 lx0 ux0 x1 lx1 ux1 _) (va_cwS 2 hts (gT (inS (mr11 _ (List.mem_of_getElem? (i := 22) rfl)) (mr11 _ (List.mem_of_getElem? (i := 23) rfl)) (mr11 _ (List.mem_of_getElem? (i := 20) rfl)) (mr12 _ (List.mem_of_getElem? (i := 0) rfl)))) rfl rfl rfl (by decide +kernel) ⟨Nat.le_of_ble_eq_true rfl, Nat.le_of_ble_eq_true rfl⟩) (Wd.preS zo hA hZ hw hK) rfl rfl hl.1 rfl (lv_room (Nat.le_of_ble_eq_true rfl)) dX1_daysOfMonth_29 ⟨Nat.le_of_ble_eq_true rfl, Nat.le_of_ble_eq_true rfl⟩) (fun x_1 L1 f1 H locs lx_1 ux_1 ex_1 hw => ?_)
          obtain ⟨rfl, rfl, ex_1⟩ := ex_1
          refine lv_istore_n (lv' := [(2, .int (iI x_1)), (0, .int (iI x0)), (1, .int (iI x1))]) hx hb dX1_daysOfMonth_32 rfl hl (by decide) rfl (fun ls hl => ?_)
          refine lv_iload_n hx hb dX1_daysOfMonth_33 rfl (lv_at hl 0 rfl) ?_
          refine q_iconst hx hb dX1_daysOfMonth_34 ?_
          first | refine q_iadd hx hb dX1_daysOfMonth_35 ⟨by omega, by omega⟩ (fun x_2 lx_2 ux_2 ex_2 => ?_) | refine q_iaddw hx hb dX1_daysOfMonth_35 (fun x_2 lx_2 ux_2 _ => ?_)
          refine q_call_i hA hK hw (va_runS (As := [.int (iI x_2)]) (rest := []) ⟨hx, hb, hml, hown, hts⟩ (c_X1_monthStart zo l D cy L0 f0 x_2 lx_2 ux_2 _) (va_cwS 1 hts (gT (inS (mr12 _ (List.mem_of_getElem? (i := 1) rfl)) (mr12 _ (List.mem_of_getElem? (i := 2) rfl)) (mr11 _ (List.mem_of_getElem? (i := 20) rfl)) (mr12 _ (List.mem_of_getElem? (i := 3) rfl)))) rfl rfl rfl (by decide +kernel) ⟨Nat.le_of_ble_eq_true rfl, Nat.le_of_ble_eq_true rfl⟩) (Wd.preS zo hA hZ hw hK) rfl rfl hl.1 rfl (lv_room (Nat.le_of_ble_eq_true rfl)) dX1_daysOfMonth_36 ⟨Nat.le_of_ble_eq_true rfl, Nat.le_of_ble_eq_true rfl⟩) (fun x_3 L1 f1 H locs lx_3 ux_3 ex_3 hw => ?_)
          obtain ⟨rfl, rfl, ex_3⟩ := ex_3
          refine lv_iload_n hx hb dX1_daysOfMonth_39 rfl (lv_at hl 0 rfl) ?_
          refine q_call_i hA hK hw (va_runS (As := [.int (iI x_1)]) (rest := [.int (iI x_3)]) ⟨hx, hb, hml, hown, hts⟩ (c_X1_monthStart zo l D cy L0 f0 x_1 lx_1 ux_1 _) (va_cwS 1 hts (gT (inS (mr12 _ (List.mem_of_getElem? (i := 1) rfl)) (mr12 _ (List.mem_of_getElem? (i := 2) rfl)) (mr11 _ (List.mem_of_getElem? (i := 20) rfl)) (mr12 _ (List.mem_of_getElem? (i := 3) rfl)))) rfl rfl rfl (by decide +kernel) ⟨Nat.le_of_ble_eq_true rfl, Nat.le_of_ble_eq_true rfl⟩) (Wd.preS zo hA hZ hw hK) rfl rfl hl.1 rfl (lv_room (Nat.le_of_ble_eq_true rfl)) dX1_daysOfMonth_40 ⟨Nat.le_of_ble_eq_true rfl, Nat.le_of_ble_eq_true rfl⟩) (fun x_4 L1 f1 H locs lx_4 ux_4 ex_4 hw => ?_)
          obtain ⟨rfl, rfl, ex_4⟩ := ex_4
          first | refine q_isub hx hb dX1_daysOfMonth_43 ⟨by omega, by omega⟩ (fun x_5 lx_5 ux_5 ex_5 => ?_) | refine q_isubw hx hb dX1_daysOfMonth_43 (fun x_5 lx_5 ux_5 _ => ?_)
          exact q_ret_i hx hb hr hlocks hK hAe hw ⟨lx_5, ux_5⟩ (Nat.le_of_ble_eq_true rfl) (Nat.le_of_ble_eq_true rfl) dX1_daysOfMonth_44 ⟨rfl, rfl, by trivial⟩
        · refine q_iconst hx hb dX1_daysOfMonth_25 ?_
          exact q_ret_i hx hb hr hlocks hK hAe hw ⟨by decide, by decide⟩ (Nat.le_of_ble_eq_true rfl) (Nat.le_of_ble_eq_true rfl) dX1_daysOfMonth_26 ⟨rfl, rfl, by trivial⟩
set_option maxHeartbeats 4000000 in
set_option maxRecDepth 100000 in
theorem c_X9_day {Z : Zt} (zo : Zok Z) (l : Launch) (D : va_G) (cy : Cy) (L0 : List Nat) (f0 : Nat → va_E) (a0 : Nat) (x1 : Int) (lx1 : -2147483648 ≤ x1) (ux1 : x1 ≤ 2147483647) (x2 : Int) (lx2 : -2147483648 ≤ x2) (ux2 : x2 ≤ 2147483647) (x3 : Int) (lx3 : -2147483648 ≤ x3) (ux3 : x3 ≤ 2147483647) (m_a0 : a0 ∈ L0) (o_a0 : Ob f0 a0 7) (hg : GI cy L0 f0) : Ci Z l yX9_day (Cond.code yX9_day cX9_day 4 (some .int) :: TB) ({ frames := 2, cells := 0, slots := 0, locals := 43 } : Room) 0 0 D (tq cy) [.ref a0, .int (iI x1), .int (iI x2), .int (iI x3)] L0 f0 (fun (r : Int) (L1 : List Nat) (f1 : Nat → va_E) => L0 = L1 ∧ f0 = f1 ∧ (True)) := by
  refine Ci.enter (cc := cX9_day) (n := 4) rfl (plainFor_of_name (by decide)) (Nat.le_of_ble_eq_true rfl) ?_
  intro p e s m below meth c ls A hx hb hr hts hown hlocks hnm hml hK hA hAe hw hZ hl
  have hown : s.vm.findClass RX9 = some m.cls := hown
  have hl : lv_has ls 4 [(0, .ref a0), (1, .int (iI x1)), (2, .int (iI x2)), (3, .int (iI x3))] := hl
  have hN : ZN s := (zo.2.2.2.2 _ _ _ hZ).2
  refine lv_iload_n hx hb dX9_day_0 rfl (lv_at hl 3 rfl) ?_
  refine q_iconst hx hb dX9_day_1 ?_
  refine q_icmp_lt (tgt := 14) hx hb dX9_day_2 (by decide) ⟨lx3, ux3⟩ ⟨by decide, by decide⟩ (fun c2 => ?_) (fun c2 => ?_)
  · refine q_iconst hx hb dX9_day_14 ?_
    exact q_ret_i hx hb hr hlocks hK hAe hw ⟨by decide, by decide⟩ (Nat.le_of_ble_eq_true rfl) (Nat.le_of_ble_eq_true rfl) dX9_day_15 ⟨rfl, rfl, by trivial⟩
  · refine lv_iload_n hx hb dX9_day_5 rfl (lv_at hl 3 rfl) ?_
    refine lv_iload_n hx hb dX9_day_6 rfl (lv_at hl 1 rfl) ?_
    refine lv_iload_n hx hb dX9_day_7 rfl (lv_at hl 2 rfl) ?_
    refine q_call_i hA hK hw (va_runSN (As := [.int (iI x1), .int (iI x2)]) (rest := [.int (iI x3)]) ⟨hx, hb, hml, hown, hts⟩ (c_X1_daysOfMonth zo l D cy L0 f0 x1 lx1 ux1 x2 lx2 ux2 _) ⟨va_cnB 2 hts (gT (inC (mr11 _ (List.mem_of_getElem? (i := 21) rfl)))) rfl rfl rfl (hN _ (List.mem_of_getElem? (i := 8) rfl)) (hts _ (List.mem_cons_of_mem _ (mr11 _ (List.mem_of_getElem? (i := 20) rfl)))) (by decide +kernel) ⟨Nat.le_of_ble_eq_true rfl, Nat.le_of_ble_eq_true rfl⟩, (hts _ (List.mem_cons_of_mem _ (mr11 _ (List.mem_of_getElem? (i := 19) rfl)))), trivial⟩ (Wd.preS zo hA hZ hw hK) rfl rfl hl.1 rfl (lv_room (Nat.le_of_ble_eq_true rfl)) dX9_day_8 ⟨Nat.le_of_ble_eq_true rfl, Nat.le_of_ble_eq_true rfl⟩) (fun x_1 L1 f1 H locs lx_1 ux_1 ex_1 hw => ?_)
    obtain ⟨rfl, rfl, ex_1⟩ := ex_1
    refine q_icmp_le (tgt := 16) hx hb dX9_day_11 (by decide) ⟨lx3, ux3⟩ ⟨lx_1, ux_1⟩ (fun c11 => ?_) (fun c11 => ?_)
    · refine lv_iload_n hx hb dX9_day_16 rfl (lv_at hl 1 rfl) ?_
      refine lv_iload_n hx hb dX9_day_17 rfl (lv_at hl 2 rfl) ?_
      refine q_call_i hA hK hw (va_runSN (As := [.int (iI x1), .int (iI x2)]) (rest := []) ⟨hx, hb, hml, hown, hts⟩ (c_X1_monthNumber zo l D cy L0 f0 x1 lx1 ux1 x2 lx2 ux2 _) ⟨va_cnB 2 hts (gT (inC (mr12 _ (List.mem_of_getElem? (i := 0) rfl)))) rfl rfl rfl (hN _ (List.mem_of_getElem? (i := 9) rfl)) (hts _ (List.mem_cons_of_mem _ (mr11 _ (List.mem_of_getElem? (i := 20) rfl)))) (by decide +kernel) ⟨Nat.le_of_ble_eq_true rfl, Nat.le_of_ble_eq_true rfl⟩, (hts _ (List.mem_cons_of_mem _ (mr11 _ (List.mem_of_getElem? (i := 23) rfl)))), trivial⟩ (Wd.preS zo hA hZ hw hK) rfl rfl hl.1 rfl (lv_room (Nat.le_of_ble_eq_true rfl)) dX9_day_18 ⟨Nat.le_of_ble_eq_true rfl, Nat.le_of_ble_eq_true rfl⟩) (fun x_2 L1 f1 H locs lx_2 ux_2 ex_2 hw => ?_)
      obtain ⟨rfl, rfl, ex_2⟩ := ex_2
      refine q_call_i hA hK hw (va_runSN (As := [.int (iI x_2)]) (rest := []) ⟨hx, hb, hml, hown, hts⟩ (c_X1_monthStart zo l D cy L0 f0 x_2 lx_2 ux_2 _) ⟨va_cnB 1 hts (gT (inC (mr12 _ (List.mem_of_getElem? (i := 3) rfl)))) rfl rfl rfl (hN _ (List.mem_of_getElem? (i := 10) rfl)) (hts _ (List.mem_cons_of_mem _ (mr11 _ (List.mem_of_getElem? (i := 20) rfl)))) (by decide +kernel) ⟨Nat.le_of_ble_eq_true rfl, Nat.le_of_ble_eq_true rfl⟩, (hts _ (List.mem_cons_of_mem _ (mr12 _ (List.mem_of_getElem? (i := 2) rfl)))), trivial⟩ (Wd.preS zo hA hZ hw hK) rfl rfl hl.1 rfl (lv_room (Nat.le_of_ble_eq_true rfl)) dX9_day_21 ⟨Nat.le_of_ble_eq_true rfl, Nat.le_of_ble_eq_true rfl⟩) (fun x_3 L1 f1 H locs lx_3 ux_3 ex_3 hw => ?_)
      obtain ⟨rfl, rfl, ex_3⟩ := ex_3
      refine lv_iload_n hx hb dX9_day_24 rfl (lv_at hl 3 rfl) ?_
      first | refine q_iadd hx hb dX9_day_25 ⟨by omega, by omega⟩ (fun x_4 lx_4 ux_4 ex_4 => ?_) | refine q_iaddw hx hb dX9_day_25 (fun x_4 lx_4 ux_4 _ => ?_)
      refine q_iconst hx hb dX9_day_26 ?_
      first | refine q_isub hx hb dX9_day_27 ⟨by omega, by omega⟩ (fun x_5 lx_5 ux_5 ex_5 => ?_) | refine q_isubw hx hb dX9_day_27 (fun x_5 lx_5 ux_5 _ => ?_)
      exact q_ret_i hx hb hr hlocks hK hAe hw ⟨lx_5, ux_5⟩ (Nat.le_of_ble_eq_true rfl) (Nat.le_of_ble_eq_true rfl) dX9_day_28 ⟨rfl, rfl, by trivial⟩
    · refine q_iconst hx hb dX9_day_14 ?_
      exact q_ret_i hx hb hr hlocks hK hAe hw ⟨by decide, by decide⟩ (Nat.le_of_ble_eq_true rfl) (Nat.le_of_ble_eq_true rfl) dX9_day_15 ⟨rfl, rfl, by trivial⟩
set_option maxHeartbeats 4000000 in
set_option maxRecDepth 100000 in
theorem c_X9_date {Z : Zt} (zo : Zok Z) (l : Launch) (D : va_G) (cy : Cy) (L0 : List Nat) (f0 : Nat → va_E) (a0 : Nat) (x1 : Int) (lx1 : -2147483648 ≤ x1) (ux1 : x1 ≤ 2147483647) (x2 : Int) (lx2 : -2147483648 ≤ x2) (ux2 : x2 ≤ 2147483647) (m_a0 : a0 ∈ L0) (o_a0 : Ob f0 a0 7) (hg : GI cy L0 f0) : Ci Z l yX9_date (Cond.code yX9_date cX9_date 4 (some .int) :: TB) ({ frames := 1, cells := 0, slots := 0, locals := 22 } : Room) 0 0 D (tq cy) [.ref a0, .int (iI x1), .int (iI x2)] L0 f0 (fun (r : Int) (L1 : List Nat) (f1 : Nat → va_E) => L0 = L1 ∧ f0 = f1 ∧ (True)) := by
  refine Ci.enter (cc := cX9_date) (n := 4) rfl (plainFor_of_name (by decide)) (Nat.le_of_ble_eq_true rfl) ?_
  intro p e s m below meth c ls A hx hb hr hts hown hlocks hnm hml hK hA hAe hw hZ hl
  have hown : s.vm.findClass RX9 = some m.cls := hown
  have hl : lv_has ls 4 [(0, .ref a0), (1, .int (iI x1)), (2, .int (iI x2))] := hl
  have hN : ZN s := (zo.2.2.2.2 _ _ _ hZ).2
  refine lv_iload_n hx hb dX9_date_0 rfl (lv_at hl 1 rfl) ?_
  refine q_call_i hA hK hw (va_runS (As := [.int (iI x1)]) (rest := []) ⟨hx, hb, hml, hown, hts⟩ (c_X9_isDay zo l D cy L0 f0 x1 lx1 ux1 _) (va_cwS 1 hts (gT (inS (mr23 _ (List.mem_of_getElem? (i := 13) rfl)) (mr23 _ (List.mem_of_getElem? (i := 14) rfl)) (mr1 _ (List.mem_of_getElem? (i := 2) rfl)) (mr23 _ (List.mem_of_getElem? (i := 15) rfl)))) rfl rfl rfl (by decide +kernel) ⟨Nat.le_of_ble_eq_true rfl, Nat.le_of_ble_eq_true rfl⟩) (Wd.preS zo hA hZ hw hK) rfl rfl hl.1 rfl (lv_room (Nat.le_of_ble_eq_true rfl)) dX9_date_1 ⟨Nat.le_of_ble_eq_true rfl, Nat.le_of_ble_eq_true rfl⟩) (fun x_1 L1 f1 H locs lx_1 ux_1 ex_1 hw => ?_)
  obtain ⟨rfl, rfl, ex_1⟩ := ex_1
  refine q_if_ne (tgt := 9) hx hb dX9_date_4 (by decide) ⟨lx_1, ux_1⟩ (fun c4 => ?_) (fun c4 => ?_)
  · refine lv_iload_n hx hb dX9_date_9 rfl (lv_at hl 1 rfl) ?_
    refine q_call_i hA hK hw (va_runSN (As := [.int (iI x1)]) (rest := []) ⟨hx, hb, hml, hown, hts⟩ (c_X1_monthOf zo l D cy L0 f0 x1 lx1 ux1 _) ⟨va_cnB 1 hts (gT (inC (mr14 _ (List.mem_of_getElem? (i := 0) rfl)))) rfl rfl rfl (hN _ (List.mem_of_getElem? (i := 11) rfl)) (hts _ (List.mem_cons_of_mem _ (mr11 _ (List.mem_of_getElem? (i := 20) rfl)))) (by decide +kernel) ⟨Nat.le_of_ble_eq_true rfl, Nat.le_of_ble_eq_true rfl⟩, (hts _ (List.mem_cons_of_mem _ (mr13 _ (List.mem_of_getElem? (i := 23) rfl)))), trivial⟩ (Wd.preS zo hA hZ hw hK) rfl rfl hl.1 rfl (lv_room (Nat.le_of_ble_eq_true rfl)) dX9_date_10 ⟨Nat.le_of_ble_eq_true rfl, Nat.le_of_ble_eq_true rfl⟩) (fun x_2 L1 f1 H locs lx_2 ux_2 ex_2 hw => ?_)
    obtain ⟨rfl, rfl, ex_2⟩ := ex_2
    refine lv_istore_n (lv' := [(3, .int (iI x_2)), (0, .ref a0), (1, .int (iI x1)), (2, .int (iI x2))]) hx hb dX9_date_13 rfl hl (by decide) rfl (fun ls hl => ?_)
    refine lv_iload_n hx hb dX9_date_14 rfl (lv_at hl 3 rfl) ?_
    have t15 : (iI x2).toInt = x2 := iI_toInt ⟨lx2, ux2⟩
    rcases (show (x2 < 0 ∨ 4 < x2) ∨ (x2 = 0) ∨ (x2 = 1) ∨ (x2 = 2) ∨ (x2 = 3) ∨ (x2 = 4) by omega) with k15 | k15 | k15 | k15 | k15 | k15
    · refine lv_tableOut (tgt := 90) hx hb dX9_date_15 (by rw [t15]; omega) (by decide) ?_
      refine q_iconst hx hb dX9_date_90 ?_
      exact q_ret_i hx hb hr hlocks hK hAe hw ⟨by decide, by decide⟩ (Nat.le_of_ble_eq_true rfl) (Nat.le_of_ble_eq_true rfl) dX9_date_91 ⟨rfl, rfl, by trivial⟩
    · refine lv_tableIn (tgt := 48) (off := 33) hx hb dX9_date_15 (by rw [t15]; omega) (by rw [t15]; omega) (by rw [t15, k15]; rfl) (by decide) ?_
      refine q_sipush hx hb dX9_date_48 rfl ?_
      refine lv_iload_n hx hb dX9_date_51 rfl (lv_at hl 0 rfl) ?_
      refine q_bipush hx hb dX9_date_52 rfl ?_
      first | refine q_idiv hx hb dX9_date_54 ⟨lx_2, ux_2⟩ ⟨by decide, by decide⟩ (by omega) (by omega) (fun x_3 lx_3 ux_3 ex_3 => ?_) | refine q_idivw hx hb dX9_date_54 ⟨lx_2, ux_2⟩ ⟨by decide, by decide⟩ (by omega) (fun x_3 lx_3 ux_3 ex_3 => ?_)
      first | refine q_iadd hx hb dX9_date_55 ⟨by omega, by omega⟩ (fun x_4 lx_4 ux_4 ex_4 => ?_) | refine q_iaddw hx hb dX9_date_55 (fun x_4 lx_4 ux_4 _ => ?_)
      exact q_ret_i hx hb hr hlocks hK hAe hw ⟨lx_4, ux_4⟩ (Nat.le_of_ble_eq_true rfl) (Nat.le_of_ble_eq_true rfl) dX9_date_56 ⟨rfl, rfl, by trivial⟩
    · refine lv_tableIn (tgt := 57) (off := 42) hx hb dX9_date_15 (by rw [t15]; omega) (by rw [t15]; omega) (by rw [t15, k15]; rfl) (by decide) ?_
      refine lv_iload_n hx hb dX9_date_57 rfl (lv_at hl 0 rfl) ?_
      refine q_bipush hx hb dX9_date_58 rfl ?_
      first | refine q_irem hx hb dX9_date_60 ⟨lx_2, ux_2⟩ ⟨by decide, by decide⟩ (by omega) (by omega) (fun x_5 lx_5 ux_5 ex_5 => ?_) | refine q_iremw hx hb dX9_date_60 ⟨lx_2, ux_2⟩ ⟨by decide, by decide⟩ (by omega) (fun x_5 lx_5 ux_5 ex_5 => ?_)
      refine q_iconst hx hb dX9_date_61 ?_
      first | refine q_iadd hx hb dX9_date_62 ⟨by omega, by omega⟩ (fun x_6 lx_6 ux_6 ex_6 => ?_) | refine q_iaddw hx hb dX9_date_62 (fun x_6 lx_6 ux_6 _ => ?_)
      exact q_ret_i hx hb hr hlocks hK hAe hw ⟨lx_6, ux_6⟩ (Nat.le_of_ble_eq_true rfl) (Nat.le_of_ble_eq_true rfl) dX9_date_63 ⟨rfl, rfl, by trivial⟩
    · refine lv_tableIn (tgt := 64) (off := 49) hx hb dX9_date_15 (by rw [t15]; omega) (by rw [t15]; omega) (by rw [t15, k15]; rfl) (by decide) ?_
      refine lv_iload_n hx hb dX9_date_64 rfl (lv_at hl 2 rfl) ?_
      refine lv_iload_n hx hb dX9_date_65 rfl (lv_at hl 0 rfl) ?_
      refine q_call_i hA hK hw (va_runSN (As := [.int (iI x_2)]) (rest := [.int (iI x1)]) ⟨hx, hb, hml, hown, hts⟩ (c_X1_monthStart zo l D cy L0 f0 x_2 lx_2 ux_2 _) ⟨va_cnB 1 hts (gT (inC (mr12 _ (List.mem_of_getElem? (i := 3) rfl)))) rfl rfl rfl (hN _ (List.mem_of_getElem? (i := 10) rfl)) (hts _ (List.mem_cons_of_mem _ (mr11 _ (List.mem_of_getElem? (i := 20) rfl)))) (by decide +kernel) ⟨Nat.le_of_ble_eq_true rfl, Nat.le_of_ble_eq_true rfl⟩, (hts _ (List.mem_cons_of_mem _ (mr12 _ (List.mem_of_getElem? (i := 2) rfl)))), trivial⟩ (Wd.preS zo hA hZ hw hK) rfl rfl hl.1 rfl (lv_room (Nat.le_of_ble_eq_true rfl)) dX9_date_66 ⟨Nat.le_of_ble_eq_true rfl, Nat.le_of_ble_eq_true rfl⟩) (fun x_7 L1 f1 H locs lx_7 ux_7 ex_7 hw => ?_)
      obtain ⟨rfl, rfl, ex_7⟩ := ex_7
      first | refine q_isub hx hb dX9_date_69 ⟨by omega, by omega⟩ (fun x_8 lx_8 ux_8 ex_8 => ?_) | refine q_isubw hx hb dX9_date_69 (fun x_8 lx_8 ux_8 _ => ?_)
      refine q_iconst hx hb dX9_date_70 ?_
      first | refine q_iadd hx hb dX9_date_71 ⟨by omega, by omega⟩ (fun x_9 lx_9 ux_9 ex_9 => ?_) | refine q_iaddw hx hb dX9_date_71 (fun x_9 lx_9 ux_9 _ => ?_)
      exact q_ret_i hx hb hr hlocks hK hAe hw ⟨lx_9, ux_9⟩ (Nat.le_of_ble_eq_true rfl) (Nat.le_of_ble_eq_true rfl) dX9_date_72 ⟨rfl, rfl, by trivial⟩
    · refine lv_tableIn (tgt := 73) (off := 58) hx hb dX9_date_15 (by rw [t15]; omega) (by rw [t15]; omega) (by rw [t15, k15]; rfl) (by decide) ?_
      refine lv_iload_n hx hb dX9_date_73 rfl (lv_at hl 2 rfl) ?_
      refine q_call_i hA hK hw (va_runSN (As := [.int (iI x1)]) (rest := []) ⟨hx, hb, hml, hown, hts⟩ (c_X1_weekdayOf zo l D cy L0 f0 x1 lx1 ux1 _) ⟨va_cnB 1 hts (gT (inC (mr13 _ (List.mem_of_getElem? (i := 13) rfl)))) rfl rfl rfl (hN _ (List.mem_of_getElem? (i := 12) rfl)) (hts _ (List.mem_cons_of_mem _ (mr11 _ (List.mem_of_getElem? (i := 20) rfl)))) (by decide +kernel) ⟨Nat.le_of_ble_eq_true rfl, Nat.le_of_ble_eq_true rfl⟩, (hts _ (List.mem_cons_of_mem _ (mr13 _ (List.mem_of_getElem? (i := 12) rfl)))), trivial⟩ (Wd.preS zo hA hZ hw hK) rfl rfl hl.1 rfl (lv_room (Nat.le_of_ble_eq_true rfl)) dX9_date_74 ⟨Nat.le_of_ble_eq_true rfl, Nat.le_of_ble_eq_true rfl⟩) (fun x_10 L1 f1 H locs lx_10 ux_10 ex_10 hw => ?_)
      obtain ⟨rfl, rfl, ex_10⟩ := ex_10
      exact q_ret_i hx hb hr hlocks hK hAe hw ⟨lx_10, ux_10⟩ (Nat.le_of_ble_eq_true rfl) (Nat.le_of_ble_eq_true rfl) dX9_date_77 ⟨rfl, rfl, by trivial⟩
    · refine lv_tableIn (tgt := 78) (off := 63) hx hb dX9_date_15 (by rw [t15]; omega) (by rw [t15]; omega) (by rw [t15, k15]; rfl) (by decide) ?_
      refine lv_iload_n hx hb dX9_date_78 rfl (lv_at hl 0 rfl) ?_
      refine q_iconst hx hb dX9_date_79 ?_
      first | refine q_iadd hx hb dX9_date_80 ⟨by omega, by omega⟩ (fun x_11 lx_11 ux_11 ex_11 => ?_) | refine q_iaddw hx hb dX9_date_80 (fun x_11 lx_11 ux_11 _ => ?_)
      refine q_call_i hA hK hw (va_runSN (As := [.int (iI x_11)]) (rest := []) ⟨hx, hb, hml, hown, hts⟩ (c_X1_monthStart zo l D cy L0 f0 x_11 lx_11 ux_11 _) ⟨va_cnB 1 hts (gT (inC (mr12 _ (List.mem_of_getElem? (i := 3) rfl)))) rfl rfl rfl (hN _ (List.mem_of_getElem? (i := 10) rfl)) (hts _ (List.mem_cons_of_mem _ (mr11 _ (List.mem_of_getElem? (i := 20) rfl)))) (by decide +kernel) ⟨Nat.le_of_ble_eq_true rfl, Nat.le_of_ble_eq_true rfl⟩, (hts _ (List.mem_cons_of_mem _ (mr12 _ (List.mem_of_getElem? (i := 2) rfl)))), trivial⟩ (Wd.preS zo hA hZ hw hK) rfl rfl hl.1 rfl (lv_room (Nat.le_of_ble_eq_true rfl)) dX9_date_81 ⟨Nat.le_of_ble_eq_true rfl, Nat.le_of_ble_eq_true rfl⟩) (fun x_12 L1 f1 H locs lx_12 ux_12 ex_12 hw => ?_)
      obtain ⟨rfl, rfl, ex_12⟩ := ex_12
      refine lv_iload_n hx hb dX9_date_84 rfl (lv_at hl 0 rfl) ?_
      refine q_call_i hA hK hw (va_runSN (As := [.int (iI x_2)]) (rest := [.int (iI x_12)]) ⟨hx, hb, hml, hown, hts⟩ (c_X1_monthStart zo l D cy L0 f0 x_2 lx_2 ux_2 _) ⟨va_cnB 1 hts (gT (inC (mr12 _ (List.mem_of_getElem? (i := 3) rfl)))) rfl rfl rfl (hN _ (List.mem_of_getElem? (i := 10) rfl)) (hts _ (List.mem_cons_of_mem _ (mr11 _ (List.mem_of_getElem? (i := 20) rfl)))) (by decide +kernel) ⟨Nat.le_of_ble_eq_true rfl, Nat.le_of_ble_eq_true rfl⟩, (hts _ (List.mem_cons_of_mem _ (mr12 _ (List.mem_of_getElem? (i := 2) rfl)))), trivial⟩ (Wd.preS zo hA hZ hw hK) rfl rfl hl.1 rfl (lv_room (Nat.le_of_ble_eq_true rfl)) dX9_date_85 ⟨Nat.le_of_ble_eq_true rfl, Nat.le_of_ble_eq_true rfl⟩) (fun x_13 L1 f1 H locs lx_13 ux_13 ex_13 hw => ?_)
      obtain ⟨rfl, rfl, ex_13⟩ := ex_13
      first | refine q_isub hx hb dX9_date_88 ⟨by omega, by omega⟩ (fun x_14 lx_14 ux_14 ex_14 => ?_) | refine q_isubw hx hb dX9_date_88 (fun x_14 lx_14 ux_14 _ => ?_)
      exact q_ret_i hx hb hr hlocks hK hAe hw ⟨lx_14, ux_14⟩ (Nat.le_of_ble_eq_true rfl) (Nat.le_of_ble_eq_true rfl) dX9_date_89 ⟨rfl, rfl, by trivial⟩
  · refine q_iconst hx hb dX9_date_7 ?_
    exact q_ret_i hx hb hr hlocks hK hAe hw ⟨by decide, by decide⟩ (Nat.le_of_ble_eq_true rfl) (Nat.le_of_ble_eq_true rfl) dX9_date_8 ⟨rfl, rfl, by trivial⟩
set_option maxHeartbeats 4000000 in
set_option maxRecDepth 100000 in
theorem c_X9_areTwo {Z : Zt} (zo : Zok Z) (l : Launch) (D : va_G) (cy : Cy) (L0 : List Nat) (f0 : Nat → va_E) (a0 : Nat) (x1 : Int) (lx1 : -2147483648 ≤ x1) (ux1 : x1 ≤ 2147483647) (x2 : Int) (lx2 : -2147483648 ≤ x2) (ux2 : x2 ≤ 2147483647) (m_a0 : a0 ∈ L0) (o_a0 : Ob f0 a0 7) (hg : GI cy L0 f0) : Ci Z l yX9_areTwo (Cond.code yX9_areTwo cX9_areTwo 3 (some .boolean) :: TB) ({ frames := 1, cells := 0, slots := 0, locals := 21 } : Room) 0 0 D (tq cy) [.ref a0, .int (iI x1), .int (iI x2)] L0 f0 (fun (r : Int) (L1 : List Nat) (f1 : Nat → va_E) => L0 = L1 ∧ f0 = f1 ∧ (r = 1 ∧ 0 ≤ x1 ∧ x1 < 12 ∧ 0 ≤ x2 ∧ x2 < 12 ∨ r = 0)) := by
  refine Ci.enter (cc := cX9_areTwo) (n := 3) rfl (plainFor_of_name (by decide)) (Nat.le_of_ble_eq_true rfl) ?_
  intro p e s m below meth c ls A hx hb hr hts hown hlocks hnm hml hK hA hAe hw hZ hl
  have hown : s.vm.findClass RX9 = some m.cls := hown
  have hl : lv_has ls 3 [(0, .ref a0), (1, .int (iI x1)), (2, .int (iI x2))] := hl
  have hN : ZN s := (zo.2.2.2.2 _ _ _ hZ).2
  refine lv_aload_n hx hb dX9_areTwo_0 rfl (lv_at hl 0 rfl) ?_
  obtain ⟨r_1, er_1, m_r_1, o_r_1⟩ := (show ∃ r, fR f0 a0 2 = some r ∧ r ∈ L0 ∧ Ob f0 r 5 from hg.2.1 _ m_a0 7 2 o_a0)
  refine q_getr (ci := 7) (C := RX9) (T := TX9) (N := 4) hx hb hts (fun w h => List.mem_cons_of_mem _ (mfX90 w h)) hown hK hw m_a0 o_a0 rfl 2 (by decide) (hts _ (List.mem_cons_of_mem _ (mr1 _ (List.mem_of_getElem? (i := 20) rfl)))) (fun _ h => h) rfl er_1 dX9_areTwo_1 ?_
  refine lv_iload_n hx hb dX9_areTwo_4 rfl (lv_at hl 1 rfl) ?_
  refine q_call_i hA hK hw (va_runV (As := [.int (iI x1)]) (rest := []) ⟨hx, hb, hml, hown, hts⟩ (c_X7_has zo l D cy L0 f0 r_1 x1 lx1 ux1 m_r_1 o_r_1 hg _) (cwV 1 hts (gT (inV (mr22 _ (List.mem_of_getElem? (i := 9) rfl)) (mr22 _ (List.mem_of_getElem? (i := 10) rfl)) (mr22 _ (List.mem_of_getElem? (i := 11) rfl)) (mr1 _ (List.mem_of_getElem? (i := 19) rfl)) (mr22 _ (List.mem_of_getElem? (i := 12) rfl)))) rfl rfl rfl (by decide +kernel) ⟨Nat.le_of_ble_eq_true rfl, Nat.le_of_ble_eq_true rfl⟩) (Wd.preV zo hA hZ hw hK m_r_1 o_r_1 rfl) rfl rfl hl.1 rfl (lv_room (Nat.le_of_ble_eq_true rfl)) dX9_areTwo_5 ⟨Nat.le_of_ble_eq_true rfl, Nat.le_of_ble_eq_true rfl⟩) (fun x_2 L1 f1 H locs lx_2 ux_2 ex_2 hw => ?_)
  obtain ⟨rfl, rfl, ex_2⟩ := ex_2
  refine q_if_eq (tgt := 31) hx hb dX9_areTwo_8 (by decide) ⟨lx_2, ux_2⟩ (fun c8 => ?_) (fun c8 => ?_)
  · refine q_iconst hx hb dX9_areTwo_31 ?_
    exact q_ret_z hx hb hr hlocks hK hAe hw (by omega) (Nat.le_of_ble_eq_true rfl) (Nat.le_of_ble_eq_true rfl) dX9_areTwo_32 ⟨rfl, rfl, by omega⟩
  · refine lv_aload_n hx hb dX9_areTwo_11 rfl (lv_at hl 0 rfl) ?_
    refine q_getr (ci := 7) (C := RX9) (T := TX9) (N := 4) hx hb hts (fun w h => List.mem_cons_of_mem _ (mfX90 w h)) hown hK hw m_a0 o_a0 rfl 2 (by decide) (hts _ (List.mem_cons_of_mem _ (mr1 _ (List.mem_of_getElem? (i := 20) rfl)))) (fun _ h => h) rfl er_1 dX9_areTwo_12 ?_
    refine lv_iload_n hx hb dX9_areTwo_15 rfl (lv_at hl 2 rfl) ?_
    refine q_call_i hA hK hw (va_runV (As := [.int (iI x2)]) (rest := []) ⟨hx, hb, hml, hown, hts⟩ (c_X7_has zo l D cy L0 f0 r_1 x2 lx2 ux2 m_r_1 o_r_1 hg _) (cwV 1 hts (gT (inV (mr22 _ (List.mem_of_getElem? (i := 9) rfl)) (mr22 _ (List.mem_of_getElem? (i := 10) rfl)) (mr22 _ (List.mem_of_getElem? (i := 11) rfl)) (mr1 _ (List.mem_of_getElem? (i := 19) rfl)) (mr22 _ (List.mem_of_getElem? (i := 12) rfl)))) rfl rfl rfl (by decide +kernel) ⟨Nat.le_of_ble_eq_true rfl, Nat.le_of_ble_eq_true rfl⟩) (Wd.preV zo hA hZ hw hK m_r_1 o_r_1 rfl) rfl rfl hl.1 rfl (lv_room (Nat.le_of_ble_eq_true rfl)) dX9_areTwo_16 ⟨Nat.le_of_ble_eq_true rfl, Nat.le_of_ble_eq_true rfl⟩) (fun x_3 L1 f1 H locs lx_3 ux_3 ex_3 hw => ?_)
    obtain ⟨rfl, rfl, ex_3⟩ := ex_3
    refine q_if_eq (tgt := 31) hx hb dX9_areTwo_19 (by decide) ⟨lx_3, ux_3⟩ (fun c19 => ?_) (fun c19 => ?_)
    · refine q_iconst hx hb dX9_areTwo_31 ?_
      exact q_ret_z hx hb hr hlocks hK hAe hw (by omega) (Nat.le_of_ble_eq_true rfl) (Nat.le_of_ble_eq_true rfl) dX9_areTwo_32 ⟨rfl, rfl, by omega⟩
    · refine lv_iload_n hx hb dX9_areTwo_22 rfl (lv_at hl 1 rfl) ?_
      refine lv_iload_n hx hb dX9_areTwo_23 rfl (lv_at hl 2 rfl) ?_
      refine q_icmp_eq (tgt := 31) hx hb dX9_areTwo_24 (by decide) ⟨lx1, ux1⟩ ⟨lx2, ux2⟩ (fun c24 => ?_) (fun c24 => ?_)
      · refine q_iconst hx hb dX9_areTwo_31 ?_
        exact q_ret_z hx hb hr hlocks hK hAe hw (by omega) (Nat.le_of_ble_eq_true rfl) (Nat.le_of_ble_eq_true rfl) dX9_areTwo_32 ⟨rfl, rfl, by omega⟩
      · refine q_iconst hx hb dX9_areTwo_27 ?_
        refine lv_goto (tgt := 32) hx hb dX9_areTwo_28 (by decide) ?_
        exact q_ret_z hx hb hr hlocks hK hAe hw (by omega) (Nat.le_of_ble_eq_true rfl) (Nat.le_of_ble_eq_true rfl) dX9_areTwo_32 ⟨rfl, rfl, by omega⟩
set_option maxHeartbeats 4000000 in
set_option maxRecDepth 100000 in
theorem c_X9_count {Z : Zt} (zo : Zok Z) (l : Launch) (D : va_G) (cy : Cy) (L0 : List Nat) (f0 : Nat → va_E) (a0 : Nat) (x1 : Int) (lx1 : -2147483648 ≤ x1) (ux1 : x1 ≤ 2147483647) (x2 : Int) (lx2 : -2147483648 ≤ x2) (ux2 : x2 ≤ 2147483647) (x3 : Int) (lx3 : -2147483648 ≤ x3) (ux3 : x3 ≤ 2147483647) (m_a0 : a0 ∈ L0) (o_a0 : Ob f0 a0 7) (hg : GI cy L0 f0) : Ci Z l yX9_count (Cond.code yX9_count cX9_count 4 (some .int) :: TB) ({ frames := 5, cells := 0, slots := 0, locals := 122 } : Room) 0 0 D (tq cy) [.ref a0, .int (iI x1), .int (iI x2), .int (iI x3)] L0 f0 (fun (r : Int) (L1 : List Nat) (f1 : Nat → va_E) => L0 = L1 ∧ f0 = f1 ∧ (True)) := by
  refine Ci.enter (cc := cX9_count) (n := 4) rfl (plainFor_of_name (by decide)) (Nat.le_of_ble_eq_true rfl) ?_
  intro p e s m below meth c ls A hx hb hr hts hown hlocks hnm hml hK hA hAe hw hZ hl
  have hown : s.vm.findClass RX9 = some m.cls := hown
  have hl : lv_has ls 4 [(0, .ref a0), (1, .int (iI x1)), (2, .int (iI x2)), (3, .int (iI x3))] := hl
  have hN : ZN s := (zo.2.2.2.2 _ _ _ hZ).2
  refine lv_aload_n hx hb dX9_count_0 rfl (lv_at hl 0 rfl) ?_
  obtain ⟨r_1, er_1, m_r_1, o_r_1⟩ := (show ∃ r, fR f0 a0 2 = some r ∧ r ∈ L0 ∧ Ob f0 r 5 from hg.2.1 _ m_a0 7 2 o_a0)
  refine q_getr (ci := 7) (C := RX9) (T := TX9) (N := 4) hx hb hts (fun w h => List.mem_cons_of_mem _ (mfX90 w h)) hown hK hw m_a0 o_a0 rfl 2 (by decide) (hts _ (List.mem_cons_of_mem _ (mr1 _ (List.mem_of_getElem? (i := 20) rfl)))) (fun _ h => h) rfl er_1 dX9_count_1 ?_
  refine lv_iload_n hx hb dX9_count_4 rfl (lv_at hl 1 rfl) ?_
  refine q_call_i hA hK hw (va_runV (As := [.int (iI x1)]) (rest := []) ⟨hx, hb, hml, hown, hts⟩ (c_X7_has zo l D cy L0 f0 r_1 x1 lx1 ux1 m_r_1 o_r_1 hg _) (cwV 1 hts (gT (inV (mr22 _ (List.mem_of_getElem? (i := 9) rfl)) (mr22 _ (List.mem_of_getElem? (i := 10) rfl)) (mr22 _ (List.mem_of_getElem? (i := 11) rfl)) (mr1 _ (List.mem_of_getElem? (i := 19) rfl)) (mr22 _ (List.mem_of_getElem? (i := 12) rfl)))) rfl rfl rfl (by decide +kernel) ⟨Nat.le_of_ble_eq_true rfl, Nat.le_of_ble_eq_true rfl⟩) (Wd.preV zo hA hZ hw hK m_r_1 o_r_1 rfl) rfl rfl hl.1 rfl (lv_room (Nat.le_of_ble_eq_true rfl)) dX9_count_5 ⟨Nat.le_of_ble_eq_true rfl, Nat.le_of_ble_eq_true rfl⟩) (fun x_2 L1 f1 H locs lx_2 ux_2 ex_2 hw => ?_)
  obtain ⟨rfl, rfl, ex_2⟩ := ex_2
  refine q_if_eq (tgt := 21) hx hb dX9_count_8 (by decide) ⟨lx_2, ux_2⟩ (fun c8 => ?_) (fun c8 => ?_)
  · refine q_iconst hx hb dX9_count_21 ?_
    exact q_ret_i hx hb hr hlocks hK hAe hw ⟨by decide, by decide⟩ (Nat.le_of_ble_eq_true rfl) (Nat.le_of_ble_eq_true rfl) dX9_count_22 ⟨rfl, rfl, by trivial⟩
  · refine lv_iload_n hx hb dX9_count_11 rfl (lv_at hl 2 rfl) ?_
    refine lv_iload_n hx hb dX9_count_12 rfl (lv_at hl 3 rfl) ?_
    refine q_ldc (n := 36525) hx hb hown (hts _ (List.mem_cons_of_mem _ (mr25 _ (List.mem_of_getElem? (i := 12) rfl)))) rfl dX9_count_13 ?_
    refine q_call_i hA hK hw (va_runS (As := [.int (iI x2), .int (iI x3), .int (iI 36525)]) (rest := []) ⟨hx, hb, hml, hown, hts⟩ (c_X9_areDays zo l D cy L0 f0 x2 lx2 ux2 x3 lx3 ux3 36525 (by decide) (by decide) _) (va_cwS 3 hts (gT (inS (mr25 _ (List.mem_of_getElem? (i := 13) rfl)) (mr25 _ (List.mem_of_getElem? (i := 14) rfl)) (mr1 _ (List.mem_of_getElem? (i := 2) rfl)) (mr25 _ (List.mem_of_getElem? (i := 15) rfl)))) rfl rfl rfl (by decide +kernel) ⟨Nat.le_of_ble_eq_true rfl, Nat.le_of_ble_eq_true rfl⟩) (Wd.preS zo hA hZ hw hK) rfl rfl hl.1 rfl (lv_room (Nat.le_of_ble_eq_true rfl)) dX9_count_15 ⟨Nat.le_of_ble_eq_true rfl, Nat.le_of_ble_eq_true rfl⟩) (fun x_3 L1 f1 H locs lx_3 ux_3 ex_3 hw => ?_)
    obtain ⟨rfl, rfl, ex_3⟩ := ex_3
    refine q_if_ne (tgt := 23) hx hb dX9_count_18 (by decide) ⟨lx_3, ux_3⟩ (fun c18 => ?_) (fun c18 => ?_)
    · refine lv_aload_n hx hb dX9_count_23 rfl (lv_at hl 0 rfl) ?_
      refine q_getr (ci := 7) (C := RX9) (T := TX9) (N := 4) hx hb hts (fun w h => List.mem_cons_of_mem _ (mfX90 w h)) hown hK hw m_a0 o_a0 rfl 2 (by decide) (hts _ (List.mem_cons_of_mem _ (mr1 _ (List.mem_of_getElem? (i := 20) rfl)))) (fun _ h => h) rfl er_1 dX9_count_24 ?_
      refine lv_iload_n hx hb dX9_count_27 rfl (lv_at hl 1 rfl) ?_
      refine q_call_r hA hK hw (va_runV (As := [.int (iI x1)]) (rest := []) ⟨hx, hb, hml, hown, hts⟩ (c_X7_at zo l D cy L0 f0 r_1 x1 lx1 ux1 m_r_1 o_r_1 hg (by omega) (by omega) _) (cwV 1 hts (gT (inV (mr24 _ (List.mem_of_getElem? (i := 8) rfl)) (mr24 _ (List.mem_of_getElem? (i := 9) rfl)) (mr24 _ (List.mem_of_getElem? (i := 10) rfl)) (mr1 _ (List.mem_of_getElem? (i := 19) rfl)) (mr24 _ (List.mem_of_getElem? (i := 11) rfl)))) rfl rfl rfl (by decide +kernel) ⟨Nat.le_of_ble_eq_true rfl, Nat.le_of_ble_eq_true rfl⟩) (Wd.preV zo hA hZ hw hK m_r_1 o_r_1 rfl) rfl rfl hl.1 rfl (lv_room (Nat.le_of_ble_eq_true rfl)) dX9_count_28 ⟨Nat.le_of_ble_eq_true rfl, Nat.le_of_ble_eq_true rfl⟩) (fun x_4 L1 f1 H locs ex_4 hw => ?_)
      obtain ⟨rfl, rfl, ex_4⟩ := ex_4
      obtain ⟨m_x_4, o_x_4⟩ := ex_4
      refine lv_iload_n hx hb dX9_count_31 rfl (lv_at hl 2 rfl) ?_
      refine q_sipush hx hb dX9_count_32 rfl ?_
      first | refine q_imul hx hb dX9_count_35 ⟨by omega, by omega⟩ (fun x_5 lx_5 ux_5 ex_5 => ?_) | refine q_imulw hx hb dX9_count_35 (fun x_5 lx_5 ux_5 _ => ?_)
      refine lv_iload_n hx hb dX9_count_36 rfl (lv_at hl 3 rfl) ?_
      refine q_sipush hx hb dX9_count_37 rfl ?_
      first | refine q_imul hx hb dX9_count_40 ⟨by omega, by omega⟩ (fun x_6 lx_6 ux_6 ex_6 => ?_) | refine q_imulw hx hb dX9_count_40 (fun x_6 lx_6 ux_6 _ => ?_)
      refine q_sipush hx hb dX9_count_41 rfl ?_
      first | refine q_iadd hx hb dX9_count_44 ⟨by omega, by omega⟩ (fun x_7 lx_7 ux_7 ex_7 => ?_) | refine q_iaddw hx hb dX9_count_44 (fun x_7 lx_7 ux_7 _ => ?_)
      refine q_iconst hx hb dX9_count_45 ?_
      first | refine q_isub hx hb dX9_count_46 ⟨by omega, by omega⟩ (fun x_8 lx_8 ux_8 ex_8 => ?_) | refine q_isubw hx hb dX9_count_46 (fun x_8 lx_8 ux_8 _ => ?_)
      refine q_call_i hA hK hw (va_runV (As := [.int (iI x_5), .int (iI x_8)]) (rest := []) ⟨hx, hb, hml, hown, hts⟩ (c_X0_beginsIn zo l D cy L0 f0 x_4 x_5 lx_5 ux_5 x_8 lx_8 ux_8 m_x_4 o_x_4 hg _) (cwV 2 hts (gT (inV (mr31 _ (List.mem_of_getElem? (i := 15) rfl)) (mr31 _ (List.mem_of_getElem? (i := 16) rfl)) (mr31 _ (List.mem_of_getElem? (i := 17) rfl)) (mr2 _ (List.mem_of_getElem? (i := 9) rfl)) (mr31 _ (List.mem_of_getElem? (i := 18) rfl)))) rfl rfl rfl (by decide +kernel) ⟨Nat.le_of_ble_eq_true rfl, Nat.le_of_ble_eq_true rfl⟩) (Wd.preV zo hA hZ hw hK m_x_4 o_x_4 rfl) rfl rfl hl.1 rfl (lv_room (Nat.le_of_ble_eq_true rfl)) dX9_count_47 ⟨Nat.le_of_ble_eq_true rfl, Nat.le_of_ble_eq_true rfl⟩) (fun x_9 L1 f1 H locs lx_9 ux_9 ex_9 hw => ?_)
      obtain ⟨rfl, rfl, ex_9⟩ := ex_9
      exact q_ret_i hx hb hr hlocks hK hAe hw ⟨lx_9, ux_9⟩ (Nat.le_of_ble_eq_true rfl) (Nat.le_of_ble_eq_true rfl) dX9_count_50 ⟨rfl, rfl, by trivial⟩
    · refine q_iconst hx hb dX9_count_21 ?_
      exact q_ret_i hx hb hr hlocks hK hAe hw ⟨by decide, by decide⟩ (Nat.le_of_ble_eq_true rfl) (Nat.le_of_ble_eq_true rfl) dX9_count_22 ⟨rfl, rfl, by trivial⟩
set_option maxHeartbeats 4000000 in
set_option maxRecDepth 100000 in
theorem c_X9_countOn {Z : Zt} (zo : Zok Z) (l : Launch) (D : va_G) (cy : Cy) (L0 : List Nat) (f0 : Nat → va_E) (a0 : Nat) (x1 : Int) (lx1 : -2147483648 ≤ x1) (ux1 : x1 ≤ 2147483647) (x2 : Int) (lx2 : -2147483648 ≤ x2) (ux2 : x2 ≤ 2147483647) (x3 : Int) (lx3 : -2147483648 ≤ x3) (ux3 : x3 ≤ 2147483647) (m_a0 : a0 ∈ L0) (o_a0 : Ob f0 a0 7) (hg : GI cy L0 f0) : Ci Z l yX9_countOn (Cond.code yX9_countOn cX9_countOn 7 (some .int) :: TB) ({ frames := 5, cells := 0, slots := 0, locals := 122 } : Room) 0 0 D (tq cy) [.ref a0, .int (iI x1), .int (iI x2), .int (iI x3)] L0 f0 (fun (r : Int) (L1 : List Nat) (f1 : Nat → va_E) => L0 = L1 ∧ f0 = f1 ∧ (True)) := by
  refine Ci.enter (cc := cX9_countOn) (n := 7) rfl (plainFor_of_name (by decide)) (Nat.le_of_ble_eq_true rfl) ?_
  intro p e s m below meth c ls A hx hb hr hts hown hlocks hnm hml hK hA hAe hw hZ hl
  have hown : s.vm.findClass RX9 = some m.cls := hown
  have hl : lv_has ls 7 [(0, .ref a0), (1, .int (iI x1)), (2, .int (iI x2)), (3, .int (iI x3))] := hl
  have hN : ZN s := (zo.2.2.2.2 _ _ _ hZ).2
  refine lv_iload_n hx hb dX9_countOn_0 rfl (lv_at hl 1 rfl) ?_
  refine q_iconst hx hb dX9_countOn_1 ?_
  have J12 : ∀ (H : Heap) (locs : List Loc) (ls : Array Slot) (hw : Wd D A s.heap L0 f0 H locs) (hl : lv_has ls 7 [(0, .ref a0), (1, .int (iI x1)), (2, .int (iI x2)), (3, .int (iI x3))]), W p l e ({ frames := 5, cells := 0, slots := 0, locals := 122 } : Room) s m ([.ref a0, .int (iI x1), .int (iI x2), .int (iI x3)] : List Value).toArray below meth c H locs (0) (0) (MQ below (Qi D (tq cy) L0 f0 s.heap.size (fun (r : Int) (L1 : List Nat) (f1 : Nat → va_E) => L0 = L1 ∧ f0 = f1 ∧ (True))) ([.ref a0, .int (iI x1), .int (iI x2), .int (iI x3)] : List Value).toArray s 0 0 A) (F0 m 12 ls []) := by
    intro H locs ls hw hl
    refine lv_iload_n hx hb dX9_countOn_12 rfl (lv_at hl 2 rfl) ?_
    refine q_call_i hA hK hw (va_runS (As := [.int (iI x2)]) (rest := []) ⟨hx, hb, hml, hown, hts⟩ (c_X9_isTime zo l D cy L0 f0 x2 lx2 ux2 _) (va_cwS 1 hts (gT (inS (mr27 _ (List.mem_of_getElem? (i := 19) rfl)) (mr27 _ (List.mem_of_getElem? (i := 20) rfl)) (mr1 _ (List.mem_of_getElem? (i := 2) rfl)) (mr27 _ (List.mem_of_getElem? (i := 21) rfl)))) rfl rfl rfl (by decide +kernel) ⟨Nat.le_of_ble_eq_true rfl, Nat.le_of_ble_eq_true rfl⟩) (Wd.preS zo hA hZ hw hK) rfl rfl hl.1 rfl (lv_room (Nat.le_of_ble_eq_true rfl)) dX9_countOn_13 ⟨Nat.le_of_ble_eq_true rfl, Nat.le_of_ble_eq_true rfl⟩) (fun x_1 L1 f1 H locs lx_1 ux_1 ex_1 hw => ?_)
    obtain ⟨rfl, rfl, ex_1⟩ := ex_1
    refine q_if_eq (tgt := 26) hx hb dX9_countOn_16 (by decide) ⟨lx_1, ux_1⟩ (fun c16 => ?_) (fun c16 => ?_)
    · refine q_iconst hx hb dX9_countOn_26 ?_
      exact q_ret_i hx hb hr hlocks hK hAe hw ⟨by decide, by decide⟩ (Nat.le_of_ble_eq_true rfl) (Nat.le_of_ble_eq_true rfl) dX9_countOn_27 ⟨rfl, rfl, by trivial⟩
    · refine lv_iload_n hx hb dX9_countOn_19 rfl (lv_at hl 3 rfl) ?_
      refine q_call_i hA hK hw (va_runS (As := [.int (iI x3)]) (rest := []) ⟨hx, hb, hml, hown, hts⟩ (c_X9_isTime zo l D cy L0 f0 x3 lx3 ux3 _) (va_cwS 1 hts (gT (inS (mr27 _ (List.mem_of_getElem? (i := 19) rfl)) (mr27 _ (List.mem_of_getElem? (i := 20) rfl)) (mr1 _ (List.mem_of_getElem? (i := 2) rfl)) (mr27 _ (List.mem_of_getElem? (i := 21) rfl)))) rfl rfl rfl (by decide +kernel) ⟨Nat.le_of_ble_eq_true rfl, Nat.le_of_ble_eq_true rfl⟩) (Wd.preS zo hA hZ hw hK) rfl rfl hl.1 rfl (lv_room (Nat.le_of_ble_eq_true rfl)) dX9_countOn_20 ⟨Nat.le_of_ble_eq_true rfl, Nat.le_of_ble_eq_true rfl⟩) (fun x_2 L1 f1 H locs lx_2 ux_2 ex_2 hw => ?_)
      obtain ⟨rfl, rfl, ex_2⟩ := ex_2
      refine q_if_ne (tgt := 28) hx hb dX9_countOn_23 (by decide) ⟨lx_2, ux_2⟩ (fun c23 => ?_) (fun c23 => ?_)
      · refine lv_iload_n hx hb dX9_countOn_28 rfl (lv_at hl 3 rfl) ?_
        refine lv_iload_n hx hb dX9_countOn_29 rfl (lv_at hl 2 rfl) ?_
        refine q_icmp_le (tgt := 41) hx hb dX9_countOn_30 (by decide) ⟨lx3, ux3⟩ ⟨lx2, ux2⟩ (fun c30 => ?_) (fun c30 => ?_)
        · refine q_iconst hx hb dX9_countOn_41 ?_
          exact q_ret_i hx hb hr hlocks hK hAe hw ⟨by decide, by decide⟩ (Nat.le_of_ble_eq_true rfl) (Nat.le_of_ble_eq_true rfl) dX9_countOn_42 ⟨rfl, rfl, by trivial⟩
        · refine lv_iload_n hx hb dX9_countOn_33 rfl (lv_at hl 3 rfl) ?_
          refine lv_iload_n hx hb dX9_countOn_34 rfl (lv_at hl 2 rfl) ?_
          first | refine q_isub hx hb dX9_countOn_35 ⟨by omega, by omega⟩ (fun x_3 lx_3 ux_3 ex_3 => ?_) | refine q_isubw hx hb dX9_countOn_35 (fun x_3 lx_3 ux_3 _ => ?_)
          refine q_ldc (n := 86400) hx hb hown (hts _ (List.mem_cons_of_mem _ (mr32 _ (List.mem_of_getElem? (i := 8) rfl)))) rfl dX9_countOn_36 ?_
          refine q_icmp_le (tgt := 43) hx hb dX9_countOn_38 (by decide) ⟨lx_3, ux_3⟩ ⟨by decide, by decide⟩ (fun c38 => ?_) (fun c38 => ?_)
          · refine q_iconst hx hb dX9_countOn_43 ?_
            refine lv_istore (lv' := [(4, .int (iI 0)), (0, .ref a0), (1, .int (iI x1)), (2, .int (iI x2)), (3, .int (iI x3))]) hx hb dX9_countOn_44 hl (by decide) rfl (fun ls hl => ?_)
            refine q_iconst hx hb dX9_countOn_46 ?_
            refine lv_istore (lv' := [(5, .int (iI 0)), (4, .int (iI 0)), (0, .ref a0), (1, .int (iI x1)), (2, .int (iI x2)), (3, .int (iI x3))]) hx hb dX9_countOn_47 hl (by decide) rfl (fun ls hl => ?_)
            have J49 : ∀ (n49 : Nat) (y4_49 : Int) (ly4_49 : -2147483648 ≤ y4_49) (uy4_49 : y4_49 ≤ 2147483647) (y5_49 : Int) (ly5_49 : -2147483648 ≤ y5_49) (uy5_49 : y5_49 ≤ 2147483647) (i1 : 0 ≤ y5_49) (hn49 : ((2147483647 : Int) - y5_49).toNat < n49) (H : Heap) (locs : List Loc) (ls : Array Slot) (hw : Wd D A s.heap L0 f0 H locs) (hl : lv_has ls 7 [(0, .ref a0), (1, .int (iI x1)), (2, .int (iI x2)), (3, .int (iI x3)), (4, .int (iI y4_49)), (5, .int (iI y5_49))]), W p l e ({ frames := 5, cells := 0, slots := 0, locals := 122 } : Room) s m ([.ref a0, .int (iI x1), .int (iI x2), .int (iI x3)] : List Value).toArray below meth c H locs (0 + 0 + 0) (0 + 0 + 0) (MQ below (Qi D (tq cy) L0 f0 s.heap.size (fun (r : Int) (L1 : List Nat) (f1 : Nat → va_E) => L0 = L1 ∧ f0 = f1 ∧ (True))) ([.ref a0, .int (iI x1), .int (iI x2), .int (iI x3)] : List Value).toArray s 0 0 A) (F0 m 49 ls []) := by
              intro n49
              induction n49 with
              | zero => intro y4_49 ly4_49 uy4_49 y5_49 ly5_49 uy5_49 i1 hn49; exact absurd hn49 (Nat.not_lt_zero _)
              | succ n49 ih49 =>
                intro y4_49 ly4_49 uy4_49 y5_49 ly5_49 uy5_49 i1 hn49 H locs ls hw hl
                refine lv_iload hx hb dX9_countOn_49 (lv_at hl 5 rfl) ?_
                refine lv_aload_n hx hb dX9_countOn_51 rfl (lv_at hl 0 rfl) ?_
                obtain ⟨r_4, er_4, m_r_4, o_r_4⟩ := (show ∃ r, fR f0 a0 2 = some r ∧ r ∈ L0 ∧ Ob f0 r 5 from hg.2.1 _ m_a0 7 2 o_a0)
                refine q_getr (ci := 7) (C := RX9) (T := TX9) (N := 4) hx hb hts (fun w h => List.mem_cons_of_mem _ (mfX90 w h)) hown hK hw m_a0 o_a0 rfl 2 (by decide) (hts _ (List.mem_cons_of_mem _ (mr1 _ (List.mem_of_getElem? (i := 20) rfl)))) (fun _ h => h) rfl er_4 dX9_countOn_52 ?_
                refine q_getiN (ci := 5) (C := RX7) (T := TX7) (N := 2) hx hb hts (fun w h => List.mem_cons_of_mem _ (mfX70 w h)) hown hK hw m_r_4 o_r_4 rfl 1 (by decide) (va_Nw.use rfl (hN _ (List.mem_of_getElem? (i := 0) rfl))) (fun _ h => h) rfl dX9_countOn_55 (fun x_5 lx_5 ux_5 ex_5 => ?_)
                have bx_5 : 0 ≤ x_5 ∧ x_5 ≤ 12 := by rw [ex_5]; exact hg.1 _ m_r_4 5 1 o_r_4
                refine q_icmp_ge (tgt := 113) hx hb dX9_countOn_58 (by decide) ⟨ly5_49, uy5_49⟩ ⟨lx_5, ux_5⟩ (fun c58 => ?_) (fun c58 => ?_)
                · refine lv_iload hx hb dX9_countOn_113 (lv_at hl 4 rfl) ?_
                  exact q_ret_i hx hb hr hlocks hK hAe hw ⟨ly4_49, uy4_49⟩ (Nat.le_of_ble_eq_true rfl) (Nat.le_of_ble_eq_true rfl) dX9_countOn_115 ⟨rfl, rfl, by trivial⟩
                · refine lv_aload_n hx hb dX9_countOn_61 rfl (lv_at hl 0 rfl) ?_
                  refine q_getr (ci := 7) (C := RX9) (T := TX9) (N := 4) hx hb hts (fun w h => List.mem_cons_of_mem _ (mfX90 w h)) hown hK hw m_a0 o_a0 rfl 2 (by decide) (hts _ (List.mem_cons_of_mem _ (mr1 _ (List.mem_of_getElem? (i := 20) rfl)))) (fun _ h => h) rfl er_4 dX9_countOn_62 ?_
                  refine lv_iload hx hb dX9_countOn_65 (lv_at hl 5 rfl) ?_
                  refine lv_iload_n hx hb dX9_countOn_67 rfl (lv_at hl 1 rfl) ?_
                  refine q_call_i hA hK hw (va_runV (As := [.int (iI y5_49), .int (iI x1)]) (rest := []) ⟨hx, hb, hml, hown, hts⟩ (c_X7_isOf zo l D cy L0 f0 r_4 y5_49 ly5_49 uy5_49 x1 lx1 ux1 m_r_4 o_r_4 hg (by omega) (by omega) _) (cwV 2 hts (gT (inV (mr32 _ (List.mem_of_getElem? (i := 13) rfl)) (mr32 _ (List.mem_of_getElem? (i := 14) rfl)) (mr32 _ (List.mem_of_getElem? (i := 15) rfl)) (mr1 _ (List.mem_of_getElem? (i := 19) rfl)) (mr32 _ (List.mem_of_getElem? (i := 16) rfl)))) rfl rfl rfl (by decide +kernel) ⟨Nat.le_of_ble_eq_true rfl, Nat.le_of_ble_eq_true rfl⟩) (Wd.preV zo hA hZ hw hK m_r_4 o_r_4 rfl) rfl rfl hl.1 rfl (lv_room (Nat.le_of_ble_eq_true rfl)) dX9_countOn_68 ⟨Nat.le_of_ble_eq_true rfl, Nat.le_of_ble_eq_true rfl⟩) (fun x_6 L1 f1 H locs lx_6 ux_6 ex_6 hw => ?_)
                  obtain ⟨rfl, rfl, ex_6⟩ := ex_6
                  have J107 : ∀ (z4_107 : Int) (lz4_107 : -2147483648 ≤ z4_107) (uz4_107 : z4_107 ≤ 2147483647) (H : Heap) (locs : List Loc) (ls : Array Slot) (hw : Wd D A s.heap L0 f0 H locs) (hl : lv_has ls 7 [(0, .ref a0), (1, .int (iI x1)), (2, .int (iI x2)), (3, .int (iI x3)), (4, .int (iI z4_107)), (5, .int (iI y5_49))]), W p l e ({ frames := 5, cells := 0, slots := 0, locals := 122 } : Room) s m ([.ref a0, .int (iI x1), .int (iI x2), .int (iI x3)] : List Value).toArray below meth c H locs (0 + 0 + 0 + 0) (0 + 0 + 0 + 0) (MQ below (Qi D (tq cy) L0 f0 s.heap.size (fun (r : Int) (L1 : List Nat) (f1 : Nat → va_E) => L0 = L1 ∧ f0 = f1 ∧ (True))) ([.ref a0, .int (iI x1), .int (iI x2), .int (iI x3)] : List Value).toArray s 0 0 A) (F0 m 107 ls []) := by
                    intro z4_107 lz4_107 uz4_107 H locs ls hw hl
                    obtain ⟨x_7, lx_7, ux_7, hx_7, ex_7⟩ := q_inc y5_49 (1)
                    try (replace ex_7 : x_7 = y5_49 + (1) := by omega)
                    refine lv_iinc (v := iI x_7) (lv' := [(5, .int (iI x_7)), (0, .ref a0), (1, .int (iI x1)), (2, .int (iI x2)), (3, .int (iI x3)), (4, .int (iI z4_107))]) hx hb dX9_countOn_107 hl (k := 5) rfl hx_7 (by decide) rfl (fun ls hl => ?_)
                    refine lv_goto (tgt := 49) hx hb dX9_countOn_110 (by decide) ?_
                    exact ih49 z4_107 lz4_107 uz4_107 x_7 lx_7 ux_7 (by omega) (by omega) _ _ _ hw (lv_sub hl [1, 2, 3, 4, 5, 0] rfl)
                  refine q_if_eq (tgt := 107) hx hb dX9_countOn_71 (by decide) ⟨lx_6, ux_6⟩ (fun c71 => ?_) (fun c71 => ?_)
                  · exact J107 y4_49 ly4_49 uy4_49 _ _ _ hw (lv_sub hl [0, 1, 2, 3, 4, 5] rfl)
                  · refine lv_aload_n hx hb dX9_countOn_74 rfl (lv_at hl 0 rfl) ?_
                    refine q_getr (ci := 7) (C := RX9) (T := TX9) (N := 4) hx hb hts (fun w h => List.mem_cons_of_mem _ (mfX90 w h)) hown hK hw m_a0 o_a0 rfl 2 (by decide) (hts _ (List.mem_cons_of_mem _ (mr1 _ (List.mem_of_getElem? (i := 20) rfl)))) (fun _ h => h) rfl er_4 dX9_countOn_75 ?_
                    refine lv_iload hx hb dX9_countOn_78 (lv_at hl 5 rfl) ?_
                    refine q_call_r hA hK hw (va_runV (As := [.int (iI y5_49)]) (rest := []) ⟨hx, hb, hml, hown, hts⟩ (c_X7_at zo l D cy L0 f0 r_4 y5_49 ly5_49 uy5_49 m_r_4 o_r_4 hg (by omega) (by omega) _) (cwV 1 hts (gT (inV (mr24 _ (List.mem_of_getElem? (i := 8) rfl)) (mr24 _ (List.mem_of_getElem? (i := 9) rfl)) (mr24 _ (List.mem_of_getElem? (i := 10) rfl)) (mr1 _ (List.mem_of_getElem? (i := 19) rfl)) (mr24 _ (List.mem_of_getElem? (i := 11) rfl)))) rfl rfl rfl (by decide +kernel) ⟨Nat.le_of_ble_eq_true rfl, Nat.le_of_ble_eq_true rfl⟩) (Wd.preV zo hA hZ hw hK m_r_4 o_r_4 rfl) rfl rfl hl.1 rfl (lv_room (Nat.le_of_ble_eq_true rfl)) dX9_countOn_80 ⟨Nat.le_of_ble_eq_true rfl, Nat.le_of_ble_eq_true rfl⟩) (fun x_8 L1 f1 H locs ex_8 hw => ?_)
                    obtain ⟨rfl, rfl, ex_8⟩ := ex_8
                    obtain ⟨m_x_8, o_x_8⟩ := ex_8
                    refine lv_astore (lv' := [(6, .ref x_8), (0, .ref a0), (1, .int (iI x1)), (2, .int (iI x2)), (3, .int (iI x3)), (4, .int (iI y4_49)), (5, .int (iI y5_49))]) hx hb dX9_countOn_83 hl (by decide) rfl (fun ls hl => ?_)
                    refine lv_iload hx hb dX9_countOn_85 (lv_at hl 5 rfl) ?_
                    refine lv_aload hx hb dX9_countOn_87 (lv_at hl 0 rfl) ?_
                    refine lv_iload_n hx hb dX9_countOn_89 rfl (lv_at hl 3 rfl) ?_
                    refine lv_aload hx hb dX9_countOn_90 (lv_at hl 0 rfl) ?_
                    refine q_geti (ci := 0) (C := RX0) (T := TX0) (N := 15) hx hb hts (fun w h => List.mem_cons_of_mem _ (mfX00 w h)) hown hK hw m_x_8 o_x_8 rfl 2 (by decide) (hts _ (List.mem_cons_of_mem _ (mr32 _ (List.mem_of_getElem? (i := 9) rfl)))) (fun _ h => h) rfl dX9_countOn_92 (fun x_9 lx_9 ux_9 ex_9 => ?_)
                    first | refine q_isub hx hb dX9_countOn_95 ⟨by omega, by omega⟩ (fun x_10 lx_10 ux_10 ex_10 => ?_) | refine q_isubw hx hb dX9_countOn_95 (fun x_10 lx_10 ux_10 _ => ?_)
                    refine q_iconst hx hb dX9_countOn_96 ?_
                    first | refine q_iadd hx hb dX9_countOn_97 ⟨by omega, by omega⟩ (fun x_11 lx_11 ux_11 ex_11 => ?_) | refine q_iaddw hx hb dX9_countOn_97 (fun x_11 lx_11 ux_11 _ => ?_)
                    refine lv_iload_n hx hb dX9_countOn_98 rfl (lv_at hl 4 rfl) ?_
                    refine q_iconst hx hb dX9_countOn_99 ?_
                    first | refine q_isub hx hb dX9_countOn_100 ⟨by omega, by omega⟩ (fun x_12 lx_12 ux_12 ex_12 => ?_) | refine q_isubw hx hb dX9_countOn_100 (fun x_12 lx_12 ux_12 _ => ?_)
                    refine q_call_i hA hK hw (va_runV (As := [.int (iI x_11), .int (iI x_12)]) (rest := [.int (iI y4_49)]) ⟨hx, hb, hml, hown, hts⟩ (c_X0_beginsIn zo l D cy L0 f0 x_8 x_11 lx_11 ux_11 x_12 lx_12 ux_12 m_x_8 o_x_8 hg _) (cwV 2 hts (gT (inV (mr31 _ (List.mem_of_getElem? (i := 15) rfl)) (mr31 _ (List.mem_of_getElem? (i := 16) rfl)) (mr31 _ (List.mem_of_getElem? (i := 17) rfl)) (mr2 _ (List.mem_of_getElem? (i := 9) rfl)) (mr31 _ (List.mem_of_getElem? (i := 18) rfl)))) rfl rfl rfl (by decide +kernel) ⟨Nat.le_of_ble_eq_true rfl, Nat.le_of_ble_eq_true rfl⟩) (Wd.preV zo hA hZ hw hK m_x_8 o_x_8 rfl) rfl rfl hl.1 rfl (lv_room (Nat.le_of_ble_eq_true rfl)) dX9_countOn_101 ⟨Nat.le_of_ble_eq_true rfl, Nat.le_of_ble_eq_true rfl⟩) (fun x_13 L1 f1 H locs lx_13 ux_13 ex_13 hw => ?_)
                    obtain ⟨rfl, rfl, ex_13⟩ := ex_13
                    first | refine q_iadd hx hb dX9_countOn_104 ⟨by omega, by omega⟩ (fun x_14 lx_14 ux_14 ex_14 => ?_) | refine q_iaddw hx hb dX9_countOn_104 (fun x_14 lx_14 ux_14 _ => ?_)
                    refine lv_istore (lv' := [(4, .int (iI x_14)), (6, .ref x_8), (0, .ref a0), (1, .int (iI x1)), (2, .int (iI x2)), (3, .int (iI x3)), (5, .int (iI y5_49))]) hx hb dX9_countOn_105 hl (by decide) rfl (fun ls hl => ?_)
                    exact J107 x_14 lx_14 ux_14 _ _ _ hw (lv_sub hl [2, 3, 4, 5, 0, 6] rfl)
            exact J49 ((((2147483647 : Int) - 0).toNat) + 1) 0 (by decide) (by decide) 0 (by decide) (by decide) (by omega) (by omega) _ _ _ hw (lv_sub hl [2, 3, 4, 5, 1, 0] rfl)
          · refine q_iconst hx hb dX9_countOn_41 ?_
            exact q_ret_i hx hb hr hlocks hK hAe hw ⟨by decide, by decide⟩ (Nat.le_of_ble_eq_true rfl) (Nat.le_of_ble_eq_true rfl) dX9_countOn_42 ⟨rfl, rfl, by trivial⟩
      · refine q_iconst hx hb dX9_countOn_26 ?_
        exact q_ret_i hx hb hr hlocks hK hAe hw ⟨by decide, by decide⟩ (Nat.le_of_ble_eq_true rfl) (Nat.le_of_ble_eq_true rfl) dX9_countOn_27 ⟨rfl, rfl, by trivial⟩
  refine q_icmp_eq (tgt := 12) hx hb dX9_countOn_2 (by decide) ⟨lx1, ux1⟩ ⟨by decide, by decide⟩ (fun c2 => ?_) (fun c2 => ?_)
  · exact J12 _ _ _ hw (lv_sub hl [0, 1, 2, 3] rfl)
  · refine lv_iload_n hx hb dX9_countOn_5 rfl (lv_at hl 1 rfl) ?_
    refine q_call_i hA hK hw (va_runS (As := [.int (iI x1)]) (rest := []) ⟨hx, hb, hml, hown, hts⟩ (c_X9_isRoom zo l D cy L0 f0 x1 lx1 ux1 _) (va_cwS 1 hts (gT (inS (mr32 _ (List.mem_of_getElem? (i := 10) rfl)) (mr32 _ (List.mem_of_getElem? (i := 11) rfl)) (mr1 _ (List.mem_of_getElem? (i := 2) rfl)) (mr32 _ (List.mem_of_getElem? (i := 12) rfl)))) rfl rfl rfl (by decide +kernel) ⟨Nat.le_of_ble_eq_true rfl, Nat.le_of_ble_eq_true rfl⟩) (Wd.preS zo hA hZ hw hK) rfl rfl hl.1 rfl (lv_room (Nat.le_of_ble_eq_true rfl)) dX9_countOn_6 ⟨Nat.le_of_ble_eq_true rfl, Nat.le_of_ble_eq_true rfl⟩) (fun x_15 L1 f1 H locs lx_15 ux_15 ex_15 hw => ?_)
    obtain ⟨rfl, rfl, ex_15⟩ := ex_15
    refine q_if_eq (tgt := 26) hx hb dX9_countOn_9 (by decide) ⟨lx_15, ux_15⟩ (fun c9 => ?_) (fun c9 => ?_)
    · refine q_iconst hx hb dX9_countOn_26 ?_
      exact q_ret_i hx hb hr hlocks hK hAe hw ⟨by decide, by decide⟩ (Nat.le_of_ble_eq_true rfl) (Nat.le_of_ble_eq_true rfl) dX9_countOn_27 ⟨rfl, rfl, by trivial⟩
    · exact J12 _ _ _ hw (lv_sub hl [0, 1, 2, 3] rfl)
set_option maxHeartbeats 4000000 in
set_option maxRecDepth 100000 in
theorem c_X9_on {Z : Zt} (zo : Zok Z) (l : Launch) (D : va_G) (cy : Cy) (L0 : List Nat) (f0 : Nat → va_E) (a0 : Nat) (x1 : Int) (lx1 : -2147483648 ≤ x1) (ux1 : x1 ≤ 2147483647) (x2 : Int) (lx2 : -2147483648 ≤ x2) (ux2 : x2 ≤ 2147483647) (x3 : Int) (lx3 : -2147483648 ≤ x3) (ux3 : x3 ≤ 2147483647) (m_a0 : a0 ∈ L0) (o_a0 : Ob f0 a0 7) (hg : GI cy L0 f0) : Ci Z l yX9_on (Cond.code yX9_on cX9_on 4 (some .int) :: TB) ({ frames := 6, cells := 0, slots := 0, locals := 148 } : Room) 0 0 D (tq cy) [.ref a0, .int (iI x1), .int (iI x2), .int (iI x3)] L0 f0 (fun (r : Int) (L1 : List Nat) (f1 : Nat → va_E) => L0 = L1 ∧ f0 = f1 ∧ (True)) := by
  refine Ci.enter (cc := cX9_on) (n := 4) rfl (plainFor_of_name (by decide)) (Nat.le_of_ble_eq_true rfl) ?_
  intro p e s m below meth c ls A hx hb hr hts hown hlocks hnm hml hK hA hAe hw hZ hl
  have hown : s.vm.findClass RX9 = some m.cls := hown
  have hl : lv_has ls 4 [(0, .ref a0), (1, .int (iI x1)), (2, .int (iI x2)), (3, .int (iI x3))] := hl
  have hN : ZN s := (zo.2.2.2.2 _ _ _ hZ).2
  refine lv_aload_n hx hb dX9_on_0 rfl (lv_at hl 0 rfl) ?_
  refine lv_iload_n hx hb dX9_on_1 rfl (lv_at hl 1 rfl) ?_
  refine lv_iload_n hx hb dX9_on_2 rfl (lv_at hl 2 rfl) ?_
  refine lv_iload_n hx hb dX9_on_3 rfl (lv_at hl 3 rfl) ?_
  refine q_call_i hA hK hw (va_runV (As := [.int (iI x1), .int (iI x2), .int (iI x3)]) (rest := []) ⟨hx, hb, hml, hown, hts⟩ (c_X9_countOn zo l D cy L0 f0 a0 x1 lx1 ux1 x2 lx2 ux2 x3 lx3 ux3 m_a0 o_a0 hg _) (cwV 3 hts (gT (inV (mr32 _ (List.mem_of_getElem? (i := 4) rfl)) (mr32 _ (List.mem_of_getElem? (i := 5) rfl)) (mr32 _ (List.mem_of_getElem? (i := 6) rfl)) (mr1 _ (List.mem_of_getElem? (i := 2) rfl)) (mr32 _ (List.mem_of_getElem? (i := 7) rfl)))) rfl rfl rfl (by decide +kernel) ⟨Nat.le_of_ble_eq_true rfl, Nat.le_of_ble_eq_true rfl⟩) (Wd.preV zo hA hZ hw hK m_a0 o_a0 rfl) rfl rfl hl.1 rfl (lv_room (Nat.le_of_ble_eq_true rfl)) dX9_on_4 ⟨Nat.le_of_ble_eq_true rfl, Nat.le_of_ble_eq_true rfl⟩) (fun x_1 L1 f1 H locs lx_1 ux_1 ex_1 hw => ?_)
  obtain ⟨rfl, rfl, ex_1⟩ := ex_1
  exact q_ret_i hx hb hr hlocks hK hAe hw ⟨lx_1, ux_1⟩ (Nat.le_of_ble_eq_true rfl) (Nat.le_of_ble_eq_true rfl) dX9_on_7 ⟨rfl, rfl, by trivial⟩
set_option maxHeartbeats 4000000 in
set_option maxRecDepth 100000 in
theorem c_X9_firstFound {Z : Zt} (zo : Zok Z) (l : Launch) (D : va_G) (cy : Cy) (L0 : List Nat) (f0 : Nat → va_E) (a0 : Nat) (x1 : Int) (lx1 : -2147483648 ≤ x1) (ux1 : x1 ≤ 2147483647) (m_a0 : a0 ∈ L0) (o_a0 : Ob f0 a0 7) (hg : GI cy L0 f0) : Ci Z l yX9_firstFound (Cond.code yX9_firstFound cX9_firstFound 6 (some .int) :: TB) ({ frames := 1, cells := 0, slots := 0, locals := 22 } : Room) 0 0 D (tq cy) [.ref a0, .int (iI x1)] L0 f0 (fun (r : Int) (L1 : List Nat) (f1 : Nat → va_E) => L0 = L1 ∧ f0 = f1 ∧ (True)) := by
  refine Ci.enter (cc := cX9_firstFound) (n := 6) rfl (plainFor_of_name (by decide)) (Nat.le_of_ble_eq_true rfl) ?_
  intro p e s m below meth c ls A hx hb hr hts hown hlocks hnm hml hK hA hAe hw hZ hl
  have hown : s.vm.findClass RX9 = some m.cls := hown
  have hl : lv_has ls 6 [(0, .ref a0), (1, .int (iI x1))] := hl
  have hN : ZN s := (zo.2.2.2.2 _ _ _ hZ).2
  refine q_iconst hx hb dX9_firstFound_0 ?_
  refine lv_istore_n (lv' := [(2, .int (iI ((-1)))), (0, .ref a0), (1, .int (iI x1))]) hx hb dX9_firstFound_1 rfl hl (by decide) rfl (fun ls hl => ?_)
  refine q_ldc (n := 2147483647) hx hb hown (hts _ (List.mem_cons_of_mem _ (mr34 _ (List.mem_of_getElem? (i := 13) rfl)))) rfl dX9_firstFound_2 ?_
  refine lv_istore_n (lv' := [(3, .int (iI 2147483647)), (2, .int (iI ((-1)))), (0, .ref a0), (1, .int (iI x1))]) hx hb dX9_firstFound_4 rfl hl (by decide) rfl (fun ls hl => ?_)
  refine q_iconst hx hb dX9_firstFound_5 ?_
  refine lv_istore (lv' := [(4, .int (iI 0)), (3, .int (iI 2147483647)), (2, .int (iI ((-1)))), (0, .ref a0), (1, .int (iI x1))]) hx hb dX9_firstFound_6 hl (by decide) rfl (fun ls hl => ?_)
  have J8 : ∀ (n8 : Nat) (y2_8 : Int) (ly2_8 : -2147483648 ≤ y2_8) (uy2_8 : y2_8 ≤ 2147483647) (y3_8 : Int) (ly3_8 : -2147483648 ≤ y3_8) (uy3_8 : y3_8 ≤ 2147483647) (y4_8 : Int) (ly4_8 : -2147483648 ≤ y4_8) (uy4_8 : y4_8 ≤ 2147483647) (i1 : 0 ≤ y4_8) (hn8 : ((2147483647 : Int) - y4_8).toNat < n8) (H : Heap) (locs : List Loc) (ls : Array Slot) (hw : Wd D A s.heap L0 f0 H locs) (hl : lv_has ls 6 [(0, .ref a0), (1, .int (iI x1)), (2, .int (iI y2_8)), (3, .int (iI y3_8)), (4, .int (iI y4_8))]), W p l e ({ frames := 1, cells := 0, slots := 0, locals := 22 } : Room) s m ([.ref a0, .int (iI x1)] : List Value).toArray below meth c H locs (0) (0) (MQ below (Qi D (tq cy) L0 f0 s.heap.size (fun (r : Int) (L1 : List Nat) (f1 : Nat → va_E) => L0 = L1 ∧ f0 = f1 ∧ (True))) ([.ref a0, .int (iI x1)] : List Value).toArray s 0 0 A) (F0 m 8 ls []) := by
    intro n8
    induction n8 with
    | zero => intro y2_8 ly2_8 uy2_8 y3_8 ly3_8 uy3_8 y4_8 ly4_8 uy4_8 i1 hn8; exact absurd hn8 (Nat.not_lt_zero _)
    | succ n8 ih8 =>
      intro y2_8 ly2_8 uy2_8 y3_8 ly3_8 uy3_8 y4_8 ly4_8 uy4_8 i1 hn8 H locs ls hw hl
      refine lv_iload hx hb dX9_firstFound_8 (lv_at hl 4 rfl) ?_
      refine lv_aload_n hx hb dX9_firstFound_10 rfl (lv_at hl 0 rfl) ?_
      obtain ⟨r_1, er_1, m_r_1, o_r_1⟩ := (show ∃ r, fR f0 a0 2 = some r ∧ r ∈ L0 ∧ Ob f0 r 5 from hg.2.1 _ m_a0 7 2 o_a0)
      refine q_getr (ci := 7) (C := RX9) (T := TX9) (N := 4) hx hb hts (fun w h => List.mem_cons_of_mem _ (mfX90 w h)) hown hK hw m_a0 o_a0 rfl 2 (by decide) (hts _ (List.mem_cons_of_mem _ (mr1 _ (List.mem_of_getElem? (i := 20) rfl)))) (fun _ h => h) rfl er_1 dX9_firstFound_11 ?_
      refine q_getiN (ci := 5) (C := RX7) (T := TX7) (N := 2) hx hb hts (fun w h => List.mem_cons_of_mem _ (mfX70 w h)) hown hK hw m_r_1 o_r_1 rfl 1 (by decide) (va_Nw.use rfl (hN _ (List.mem_of_getElem? (i := 0) rfl))) (fun _ h => h) rfl dX9_firstFound_14 (fun x_2 lx_2 ux_2 ex_2 => ?_)
      have bx_2 : 0 ≤ x_2 ∧ x_2 ≤ 12 := by rw [ex_2]; exact hg.1 _ m_r_1 5 1 o_r_1
      refine q_icmp_ge (tgt := 77) hx hb dX9_firstFound_17 (by decide) ⟨ly4_8, uy4_8⟩ ⟨lx_2, ux_2⟩ (fun c17 => ?_) (fun c17 => ?_)
      · refine lv_iload_n hx hb dX9_firstFound_77 rfl (lv_at hl 2 rfl) ?_
        exact q_ret_i hx hb hr hlocks hK hAe hw ⟨ly2_8, uy2_8⟩ (Nat.le_of_ble_eq_true rfl) (Nat.le_of_ble_eq_true rfl) dX9_firstFound_78 ⟨rfl, rfl, by trivial⟩
      · refine lv_aload_n hx hb dX9_firstFound_20 rfl (lv_at hl 0 rfl) ?_
        refine q_getr (ci := 7) (C := RX9) (T := TX9) (N := 4) hx hb hts (fun w h => List.mem_cons_of_mem _ (mfX90 w h)) hown hK hw m_a0 o_a0 rfl 2 (by decide) (hts _ (List.mem_cons_of_mem _ (mr1 _ (List.mem_of_getElem? (i := 20) rfl)))) (fun _ h => h) rfl er_1 dX9_firstFound_21 ?_
        refine lv_iload hx hb dX9_firstFound_24 (lv_at hl 4 rfl) ?_
        refine q_call_r hA hK hw (va_runV (As := [.int (iI y4_8)]) (rest := []) ⟨hx, hb, hml, hown, hts⟩ (c_X7_at zo l D cy L0 f0 r_1 y4_8 ly4_8 uy4_8 m_r_1 o_r_1 hg (by omega) (by omega) _) (cwV 1 hts (gT (inV (mr24 _ (List.mem_of_getElem? (i := 8) rfl)) (mr24 _ (List.mem_of_getElem? (i := 9) rfl)) (mr24 _ (List.mem_of_getElem? (i := 10) rfl)) (mr1 _ (List.mem_of_getElem? (i := 19) rfl)) (mr24 _ (List.mem_of_getElem? (i := 11) rfl)))) rfl rfl rfl (by decide +kernel) ⟨Nat.le_of_ble_eq_true rfl, Nat.le_of_ble_eq_true rfl⟩) (Wd.preV zo hA hZ hw hK m_r_1 o_r_1 rfl) rfl rfl hl.1 rfl (lv_room (Nat.le_of_ble_eq_true rfl)) dX9_firstFound_26 ⟨Nat.le_of_ble_eq_true rfl, Nat.le_of_ble_eq_true rfl⟩) (fun x_3 L1 f1 H locs ex_3 hw => ?_)
        obtain ⟨rfl, rfl, ex_3⟩ := ex_3
        obtain ⟨m_x_3, o_x_3⟩ := ex_3
        refine lv_astore (lv' := [(5, .ref x_3), (0, .ref a0), (1, .int (iI x1)), (2, .int (iI y2_8)), (3, .int (iI y3_8)), (4, .int (iI y4_8))]) hx hb dX9_firstFound_29 hl (by decide) rfl (fun ls hl => ?_)
        refine lv_aload_n hx hb dX9_firstFound_31 rfl (lv_at hl 1 rfl) ?_
        refine q_getr (ci := 7) (C := RX9) (T := TX9) (N := 4) hx hb hts (fun w h => List.mem_cons_of_mem _ (mfX90 w h)) hown hK hw m_a0 o_a0 rfl 2 (by decide) (hts _ (List.mem_cons_of_mem _ (mr1 _ (List.mem_of_getElem? (i := 20) rfl)))) (fun _ h => h) rfl er_1 dX9_firstFound_32 ?_
        refine lv_iload hx hb dX9_firstFound_35 (lv_at hl 5 rfl) ?_
        refine lv_iload_n hx hb dX9_firstFound_37 rfl (lv_at hl 2 rfl) ?_
        refine q_call_i hA hK hw (va_runV (As := [.int (iI y4_8), .int (iI x1)]) (rest := []) ⟨hx, hb, hml, hown, hts⟩ (c_X7_isOf zo l D cy L0 f0 r_1 y4_8 ly4_8 uy4_8 x1 lx1 ux1 m_r_1 o_r_1 hg (by omega) (by omega) _) (cwV 2 hts (gT (inV (mr32 _ (List.mem_of_getElem? (i := 13) rfl)) (mr32 _ (List.mem_of_getElem? (i := 14) rfl)) (mr32 _ (List.mem_of_getElem? (i := 15) rfl)) (mr1 _ (List.mem_of_getElem? (i := 19) rfl)) (mr32 _ (List.mem_of_getElem? (i := 16) rfl)))) rfl rfl rfl (by decide +kernel) ⟨Nat.le_of_ble_eq_true rfl, Nat.le_of_ble_eq_true rfl⟩) (Wd.preV zo hA hZ hw hK m_r_1 o_r_1 rfl) rfl rfl hl.1 rfl (lv_room (Nat.le_of_ble_eq_true rfl)) dX9_firstFound_38 ⟨Nat.le_of_ble_eq_true rfl, Nat.le_of_ble_eq_true rfl⟩) (fun x_4 L1 f1 H locs lx_4 ux_4 ex_4 hw => ?_)
        obtain ⟨rfl, rfl, ex_4⟩ := ex_4
        have J71 : ∀ (z2_71 : Int) (lz2_71 : -2147483648 ≤ z2_71) (uz2_71 : z2_71 ≤ 2147483647) (z3_71 : Int) (lz3_71 : -2147483648 ≤ z3_71) (uz3_71 : z3_71 ≤ 2147483647) (H : Heap) (locs : List Loc) (ls : Array Slot) (hw : Wd D A s.heap L0 f0 H locs) (hl : lv_has ls 6 [(0, .ref a0), (1, .int (iI x1)), (2, .int (iI z2_71)), (3, .int (iI z3_71)), (4, .int (iI y4_8))]), W p l e ({ frames := 1, cells := 0, slots := 0, locals := 22 } : Room) s m ([.ref a0, .int (iI x1)] : List Value).toArray below meth c H locs (0 + 0 + 0) (0 + 0 + 0) (MQ below (Qi D (tq cy) L0 f0 s.heap.size (fun (r : Int) (L1 : List Nat) (f1 : Nat → va_E) => L0 = L1 ∧ f0 = f1 ∧ (True))) ([.ref a0, .int (iI x1)] : List Value).toArray s 0 0 A) (F0 m 71 ls []) := by
          intro z2_71 lz2_71 uz2_71 z3_71 lz3_71 uz3_71 H locs ls hw hl
          obtain ⟨x_5, lx_5, ux_5, hx_5, ex_5⟩ := q_inc y4_8 (1)
          try (replace ex_5 : x_5 = y4_8 + (1) := by omega)
          refine lv_iinc (v := iI x_5) (lv' := [(4, .int (iI x_5)), (0, .ref a0), (1, .int (iI x1)), (2, .int (iI z2_71)), (3, .int (iI z3_71))]) hx hb dX9_firstFound_71 hl (k := 4) rfl hx_5 (by decide) rfl (fun ls hl => ?_)
          refine lv_goto (tgt := 8) hx hb dX9_firstFound_74 (by decide) ?_
          exact ih8 z2_71 lz2_71 uz2_71 z3_71 lz3_71 uz3_71 x_5 lx_5 ux_5 (by omega) (by omega) _ _ _ hw (lv_sub hl [1, 2, 3, 4, 0] rfl)
        refine q_if_eq (tgt := 71) hx hb dX9_firstFound_41 (by decide) ⟨lx_4, ux_4⟩ (fun c41 => ?_) (fun c41 => ?_)
        · exact J71 y2_8 ly2_8 uy2_8 y3_8 ly3_8 uy3_8 _ _ _ hw (lv_sub hl [1, 2, 3, 4, 5] rfl)
        · refine lv_aload hx hb dX9_firstFound_44 (lv_at hl 0 rfl) ?_
          refine q_geti (ci := 0) (C := RX0) (T := TX0) (N := 15) hx hb hts (fun w h => List.mem_cons_of_mem _ (mfX00 w h)) hown hK hw m_x_3 o_x_3 rfl 14 (by decide) (hts _ (List.mem_cons_of_mem _ (mr34 _ (List.mem_of_getElem? (i := 3) rfl)))) (fun _ h => h) rfl dX9_firstFound_46 (fun x_6 lx_6 ux_6 ex_6 => ?_)
          refine q_iconst hx hb dX9_firstFound_49 ?_
          refine q_icmp_eq (tgt := 71) hx hb dX9_firstFound_50 (by decide) ⟨lx_6, ux_6⟩ ⟨by decide, by decide⟩ (fun c50 => ?_) (fun c50 => ?_)
          · exact J71 y2_8 ly2_8 uy2_8 y3_8 ly3_8 uy3_8 _ _ _ hw (lv_sub hl [1, 2, 3, 4, 5] rfl)
          · refine lv_aload hx hb dX9_firstFound_53 (lv_at hl 0 rfl) ?_
            refine q_geti (ci := 0) (C := RX0) (T := TX0) (N := 15) hx hb hts (fun w h => List.mem_cons_of_mem _ (mfX00 w h)) hown hK hw m_x_3 o_x_3 rfl 13 (by decide) (hts _ (List.mem_cons_of_mem _ (mr34 _ (List.mem_of_getElem? (i := 4) rfl)))) (fun _ h => h) rfl dX9_firstFound_55 (fun x_7 lx_7 ux_7 ex_7 => ?_)
            refine lv_iload_n hx hb dX9_firstFound_58 rfl (lv_at hl 4 rfl) ?_
            refine q_icmp_ge (tgt := 71) hx hb dX9_firstFound_59 (by decide) ⟨lx_7, ux_7⟩ ⟨ly3_8, uy3_8⟩ (fun c59 => ?_) (fun c59 => ?_)
            · exact J71 y2_8 ly2_8 uy2_8 y3_8 ly3_8 uy3_8 _ _ _ hw (lv_sub hl [1, 2, 3, 4, 5] rfl)
            · refine lv_aload hx hb dX9_firstFound_62 (lv_at hl 0 rfl) ?_
              refine q_geti (ci := 0) (C := RX0) (T := TX0) (N := 15) hx hb hts (fun w h => List.mem_cons_of_mem _ (mfX00 w h)) hown hK hw m_x_3 o_x_3 rfl 13 (by decide) (hts _ (List.mem_cons_of_mem _ (mr34 _ (List.mem_of_getElem? (i := 4) rfl)))) (fun _ h => h) rfl dX9_firstFound_64 (fun x_8 lx_8 ux_8 ex_8 => ?_)
              refine lv_istore_n (lv' := [(3, .int (iI x_8)), (5, .ref x_3), (0, .ref a0), (1, .int (iI x1)), (2, .int (iI y2_8)), (4, .int (iI y4_8))]) hx hb dX9_firstFound_67 rfl hl (by decide) rfl (fun ls hl => ?_)
              refine lv_iload hx hb dX9_firstFound_68 (lv_at hl 5 rfl) ?_
              refine lv_istore_n (lv' := [(2, .int (iI y4_8)), (3, .int (iI x_8)), (5, .ref x_3), (0, .ref a0), (1, .int (iI x1)), (4, .int (iI y4_8))]) hx hb dX9_firstFound_70 rfl hl (by decide) rfl (fun ls hl => ?_)
              exact J71 y4_8 ly4_8 uy4_8 x_8 lx_8 ux_8 _ _ _ hw (lv_sub hl [3, 4, 0, 1, 5] rfl)
  exact J8 ((((2147483647 : Int) - 0).toNat) + 1) ((-1)) (by decide) (by decide) 2147483647 (by decide) (by decide) 0 (by decide) (by decide) (by omega) (by omega) _ _ _ hw (lv_sub hl [3, 4, 2, 1, 0] rfl)
