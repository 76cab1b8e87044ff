set_option maxHeartbeats 4000000 in
set_option maxRecDepth 100000 in
theorem c_J9_floorDiv_7cf53 {Z : Zt} (zo : Zok Z) (l : Launch) (D : va_G) (cy : Cy) (L0 : List Nat) (f0 : Nat → va_E) (x0 : Int) (lx0 : -2147483648 ≤ x0) (ux0 : x0 ≤ 2147483647) (x1 : Int) (lx1 : -2147483648 ≤ x1) (ux1 : x1 ≤ 2147483647) (h1 : 0 < x1) : Ci Z l yJ9_floorDiv_7cf53 (Cond.code yJ9_floorDiv_7cf53 cJ9_floorDiv_7cf53 3 (some .int) :: TB) ({ frames := 0, cells := 0, slots := 0, locals := 0 } : Room) 0 0 D (tq cy) [.int (iI x0), .int (iI x1)] L0 f0 (fun (r : Int) (L1 : List Nat) (f1 : Nat → va_E) => L0 = L1 ∧ f0 = f1 ∧ (True)) := by
  refine Ci.enter (cc := cJ9_floorDiv_7cf53) (n := 3) rfl (by decide +kernel) (Nat.le_of_ble_eq_true rfl) ?_
  intro p e s m below meth c ls A hx hb hr hts hown hlocks hnm hml hK hA hAe hw hZ hl
  have hown : s.vm.findClass RJ9 = some m.cls := hown
  have hl : lv_has ls 3 [(0, .int (iI x0)), (1, .int (iI x1))] := hl
  have hN : ZN s := (zo.2.2.2.2 _ _ _ hZ).2
  refine lv_iload_n hx hb dJ9_floorDiv_7cf53_0 rfl (lv_at hl 0 rfl) ?_
  refine lv_iload_n hx hb dJ9_floorDiv_7cf53_1 rfl (lv_at hl 1 rfl) ?_
  first | refine q_idiv hx hb dJ9_floorDiv_7cf53_2 ⟨lx0, ux0⟩ ⟨lx1, ux1⟩ (by omega) (by omega) (fun x_1 lx_1 ux_1 ex_1 => ?_) | refine q_idivw hx hb dJ9_floorDiv_7cf53_2 ⟨lx0, ux0⟩ ⟨lx1, ux1⟩ (by omega) (fun x_1 lx_1 ux_1 ex_1 => ?_)
  refine lv_istore_n (lv' := [(2, .int (iI x_1)), (0, .int (iI x0)), (1, .int (iI x1))]) hx hb dJ9_floorDiv_7cf53_3 rfl hl (by decide) rfl (fun ls hl => ?_)
  refine lv_iload_n hx hb dJ9_floorDiv_7cf53_4 rfl (lv_at hl 1 rfl) ?_
  refine lv_iload_n hx hb dJ9_floorDiv_7cf53_5 rfl (lv_at hl 2 rfl) ?_
  refine lv_ixor hx hb dJ9_floorDiv_7cf53_6 ?_
  refine q_num (fun x_2 lx_2 ux_2 ex_2 => ?_)
  refine q_if_ge (tgt := 21) hx hb dJ9_floorDiv_7cf53_7 (by decide) ⟨lx_2, ux_2⟩ (fun c7 => ?_) (fun c7 => ?_)
  · refine lv_iload_n hx hb dJ9_floorDiv_7cf53_21 rfl (lv_at hl 0 rfl) ?_
    exact q_ret_i hx hb hr hlocks hK hAe hw ⟨lx_1, ux_1⟩ (Nat.le_of_ble_eq_true rfl) (Nat.le_of_ble_eq_true rfl) dJ9_floorDiv_7cf53_22 ⟨rfl, rfl, by trivial⟩
  · refine lv_iload_n hx hb dJ9_floorDiv_7cf53_10 rfl (lv_at hl 0 rfl) ?_
    refine lv_iload_n hx hb dJ9_floorDiv_7cf53_11 rfl (lv_at hl 2 rfl) ?_
    first | refine q_imul hx hb dJ9_floorDiv_7cf53_12 ⟨by omega, by omega⟩ (fun x_3 lx_3 ux_3 ex_3 => ?_) | refine q_imulw hx hb dJ9_floorDiv_7cf53_12 (fun x_3 lx_3 ux_3 _ => ?_)
    refine lv_iload_n hx hb dJ9_floorDiv_7cf53_13 rfl (lv_at hl 1 rfl) ?_
    refine q_icmp_eq (tgt := 21) hx hb dJ9_floorDiv_7cf53_14 (by decide) ⟨lx_3, ux_3⟩ ⟨lx0, ux0⟩ (fun c14 => ?_) (fun c14 => ?_)
    · refine lv_iload_n hx hb dJ9_floorDiv_7cf53_21 rfl (lv_at hl 0 rfl) ?_
      exact q_ret_i hx hb hr hlocks hK hAe hw ⟨lx_1, ux_1⟩ (Nat.le_of_ble_eq_true rfl) (Nat.le_of_ble_eq_true rfl) dJ9_floorDiv_7cf53_22 ⟨rfl, rfl, by trivial⟩
    · refine lv_iload_n hx hb dJ9_floorDiv_7cf53_17 rfl (lv_at hl 0 rfl) ?_
      refine q_iconst hx hb dJ9_floorDiv_7cf53_18 ?_
      first | refine q_isub hx hb dJ9_floorDiv_7cf53_19 ⟨by omega, by omega⟩ (fun x_4 lx_4 ux_4 ex_4 => ?_) | refine q_isubw hx hb dJ9_floorDiv_7cf53_19 (fun x_4 lx_4 ux_4 _ => ?_)
      exact q_ret_i hx hb hr hlocks hK hAe hw ⟨lx_4, ux_4⟩ (Nat.le_of_ble_eq_true rfl) (Nat.le_of_ble_eq_true rfl) dJ9_floorDiv_7cf53_20 ⟨rfl, rfl, by trivial⟩
set_option maxHeartbeats 4000000 in
set_option maxRecDepth 100000 in
theorem c_X0_timeOf {Z : Zt} (zo : Zok Z) (l : Launch) (D : va_G) (cy : Cy) (L0 : List Nat) (f0 : Nat → va_E) (a0 : Nat) (x1 : Int) (lx1 : -2147483648 ≤ x1) (ux1 : x1 ≤ 2147483647) (m_a0 : a0 ∈ L0) (o_a0 : Ob f0 a0 0) (hg : GI cy L0 f0) : Ci Z l yX0_timeOf (Cond.code yX0_timeOf cX0_timeOf 2 (some .int) :: TB) ({ frames := 0, cells := 0, slots := 0, locals := 0 } : Room) 0 0 D (tq cy) [.ref a0, .int (iI x1)] L0 f0 (fun (r : Int) (L1 : List Nat) (f1 : Nat → va_E) => L0 = L1 ∧ f0 = f1 ∧ (True)) := by
  refine Ci.enter (cc := cX0_timeOf) (n := 2) rfl (plainFor_of_name (by decide)) (Nat.le_of_ble_eq_true rfl) ?_
  intro p e s m below meth c ls A hx hb hr hts hown hlocks hnm hml hK hA hAe hw hZ hl
  have hown : s.vm.findClass RX0 = some m.cls := hown
  have hl : lv_has ls 2 [(0, .ref a0), (1, .int (iI x1))] := hl
  have hN : ZN s := (zo.2.2.2.2 _ _ _ hZ).2
  refine lv_iload_n hx hb dX0_timeOf_0 rfl (lv_at hl 1 rfl) ?_
  refine q_sipush hx hb dX0_timeOf_1 rfl ?_
  first | refine q_imul hx hb dX0_timeOf_4 ⟨by omega, by omega⟩ (fun x_1 lx_1 ux_1 ex_1 => ?_) | refine q_imulw hx hb dX0_timeOf_4 (fun x_1 lx_1 ux_1 _ => ?_)
  refine lv_aload_n hx hb dX0_timeOf_5 rfl (lv_at hl 0 rfl) ?_
  refine q_geti (ci := 0) (C := RX0) (T := TX0) (N := 15) hx hb hts (fun w h => List.mem_cons_of_mem _ (mfX00 w h)) hown hK hw m_a0 o_a0 rfl 1 (by decide) (hts _ (List.mem_cons_of_mem _ (mr29 _ (List.mem_of_getElem? (i := 18) rfl)))) (fun _ h => h) rfl dX0_timeOf_6 (fun x_2 lx_2 ux_2 ex_2 => ?_)
  first | refine q_iadd hx hb dX0_timeOf_9 ⟨by omega, by omega⟩ (fun x_3 lx_3 ux_3 ex_3 => ?_) | refine q_iaddw hx hb dX0_timeOf_9 (fun x_3 lx_3 ux_3 _ => ?_)
  exact q_ret_i hx hb hr hlocks hK hAe hw ⟨lx_3, ux_3⟩ (Nat.le_of_ble_eq_true rfl) (Nat.le_of_ble_eq_true rfl) dX0_timeOf_10 ⟨rfl, rfl, by trivial⟩
set_option maxHeartbeats 4000000 in
set_option maxRecDepth 100000 in
theorem c_X0_ruledFrom {Z : Zt} (zo : Zok Z) (l : Launch) (D : va_G) (cy : Cy) (L0 : List Nat) (f0 : Nat → va_E) (a0 : Nat) (x1 : Int) (lx1 : -2147483648 ≤ x1) (ux1 : x1 ≤ 2147483647) (m_a0 : a0 ∈ L0) (o_a0 : Ob f0 a0 0) (hg : GI cy L0 f0) : Ci Z l yX0_ruledFrom (Cond.code yX0_ruledFrom cX0_ruledFrom 2 (some .int) :: TB) ({ frames := 1, cells := 0, slots := 0, locals := 22 } : Room) 0 0 D (tq cy) [.ref a0, .int (iI x1)] L0 f0 (fun (r : Int) (L1 : List Nat) (f1 : Nat → va_E) => L0 = L1 ∧ f0 = f1 ∧ (True)) := by
  refine Ci.enter (cc := cX0_ruledFrom) (n := 2) rfl (plainFor_of_name (by decide)) (Nat.le_of_ble_eq_true rfl) ?_
  intro p e s m below meth c ls A hx hb hr hts hown hlocks hnm hml hK hA hAe hw hZ hl
  have hown : s.vm.findClass RX0 = some m.cls := hown
  have hl : lv_has ls 2 [(0, .ref a0), (1, .int (iI x1))] := hl
  have hN : ZN s := (zo.2.2.2.2 _ _ _ hZ).2
  refine lv_iload_n hx hb dX0_ruledFrom_0 rfl (lv_at hl 1 rfl) ?_
  refine lv_aload_n hx hb dX0_ruledFrom_1 rfl (lv_at hl 0 rfl) ?_
  refine q_geti (ci := 0) (C := RX0) (T := TX0) (N := 15) hx hb hts (fun w h => List.mem_cons_of_mem _ (mfX00 w h)) hown hK hw m_a0 o_a0 rfl 1 (by decide) (hts _ (List.mem_cons_of_mem _ (mr29 _ (List.mem_of_getElem? (i := 18) rfl)))) (fun _ h => h) rfl dX0_ruledFrom_2 (fun x_1 lx_1 ux_1 ex_1 => ?_)
  first | refine q_isub hx hb dX0_ruledFrom_5 ⟨by omega, by omega⟩ (fun x_2 lx_2 ux_2 ex_2 => ?_) | refine q_isubw hx hb dX0_ruledFrom_5 (fun x_2 lx_2 ux_2 _ => ?_)
  refine q_sipush hx hb dX0_ruledFrom_6 rfl ?_
  first | refine q_iadd hx hb dX0_ruledFrom_9 ⟨by omega, by omega⟩ (fun x_3 lx_3 ux_3 ex_3 => ?_) | refine q_iaddw hx hb dX0_ruledFrom_9 (fun x_3 lx_3 ux_3 _ => ?_)
  refine q_iconst hx hb dX0_ruledFrom_10 ?_
  first | refine q_isub hx hb dX0_ruledFrom_11 ⟨by omega, by omega⟩ (fun x_4 lx_4 ux_4 ex_4 => ?_) | refine q_isubw hx hb dX0_ruledFrom_11 (fun x_4 lx_4 ux_4 _ => ?_)
  refine q_sipush hx hb dX0_ruledFrom_12 rfl ?_
  refine q_call_i hA hK hw (va_runS (As := [.int (iI x_4), .int (iI 1440)]) (rest := []) ⟨hx, hb, hml, hown, hts⟩ (c_J9_floorDiv_7cf53 zo l D cy L0 f0 x_4 lx_4 ux_4 1440 (by decide) (by decide) (by omega) _) (va_cwS 2 hts (gT (inS (mr29 _ (List.mem_of_getElem? (i := 19) rfl)) (mr29 _ (List.mem_of_getElem? (i := 20) rfl)) (mr29 _ (List.mem_of_getElem? (i := 21) rfl)) (mr29 _ (List.mem_of_getElem? (i := 22) rfl)))) rfl rfl rfl (by decide +kernel) ⟨Nat.le_of_ble_eq_true rfl, Nat.le_of_ble_eq_true rfl⟩) (Wd.preS zo hA hZ hw hK) rfl rfl hl.1 rfl (lv_room (Nat.le_of_ble_eq_true rfl)) dX0_ruledFrom_15 ⟨Nat.le_of_ble_eq_true rfl, Nat.le_of_ble_eq_true rfl⟩) (fun x_5 L1 f1 H locs lx_5 ux_5 ex_5 hw => ?_)
  obtain ⟨rfl, rfl, ex_5⟩ := ex_5
  exact q_ret_i hx hb hr hlocks hK hAe hw ⟨lx_5, ux_5⟩ (Nat.le_of_ble_eq_true rfl) (Nat.le_of_ble_eq_true rfl) dX0_ruledFrom_18 ⟨rfl, rfl, by trivial⟩
set_option maxHeartbeats 4000000 in
set_option maxRecDepth 100000 in
theorem c_X0_ruledTo {Z : Zt} (zo : Zok Z) (l : Launch) (D : va_G) (cy : Cy) (L0 : List Nat) (f0 : Nat → va_E) (a0 : Nat) (x1 : Int) (lx1 : -2147483648 ≤ x1) (ux1 : x1 ≤ 2147483647) (m_a0 : a0 ∈ L0) (o_a0 : Ob f0 a0 0) (hg : GI cy L0 f0) : Ci Z l yX0_ruledTo (Cond.code yX0_ruledTo cX0_ruledTo 2 (some .int) :: TB) ({ frames := 1, cells := 0, slots := 0, locals := 22 } : Room) 0 0 D (tq cy) [.ref a0, .int (iI x1)] L0 f0 (fun (r : Int) (L1 : List Nat) (f1 : Nat → va_E) => L0 = L1 ∧ f0 = f1 ∧ (True)) := by
  refine Ci.enter (cc := cX0_ruledTo) (n := 2) rfl (plainFor_of_name (by decide)) (Nat.le_of_ble_eq_true rfl) ?_
  intro p e s m below meth c ls A hx hb hr hts hown hlocks hnm hml hK hA hAe hw hZ hl
  have hown : s.vm.findClass RX0 = some m.cls := hown
  have hl : lv_has ls 2 [(0, .ref a0), (1, .int (iI x1))] := hl
  have hN : ZN s := (zo.2.2.2.2 _ _ _ hZ).2
  refine lv_iload_n hx hb dX0_ruledTo_0 rfl (lv_at hl 1 rfl) ?_
  refine lv_aload_n hx hb dX0_ruledTo_1 rfl (lv_at hl 0 rfl) ?_
  refine q_geti (ci := 0) (C := RX0) (T := TX0) (N := 15) hx hb hts (fun w h => List.mem_cons_of_mem _ (mfX00 w h)) hown hK hw m_a0 o_a0 rfl 1 (by decide) (hts _ (List.mem_cons_of_mem _ (mr29 _ (List.mem_of_getElem? (i := 18) rfl)))) (fun _ h => h) rfl dX0_ruledTo_2 (fun x_1 lx_1 ux_1 ex_1 => ?_)
  first | refine q_isub hx hb dX0_ruledTo_5 ⟨by omega, by omega⟩ (fun x_2 lx_2 ux_2 ex_2 => ?_) | refine q_isubw hx hb dX0_ruledTo_5 (fun x_2 lx_2 ux_2 _ => ?_)
  refine q_sipush hx hb dX0_ruledTo_6 rfl ?_
  refine q_call_i hA hK hw (va_runS (As := [.int (iI x_2), .int (iI 1440)]) (rest := []) ⟨hx, hb, hml, hown, hts⟩ (c_J9_floorDiv_7cf53 zo l D cy L0 f0 x_2 lx_2 ux_2 1440 (by decide) (by decide) (by omega) _) (va_cwS 2 hts (gT (inS (mr29 _ (List.mem_of_getElem? (i := 19) rfl)) (mr29 _ (List.mem_of_getElem? (i := 20) rfl)) (mr29 _ (List.mem_of_getElem? (i := 21) rfl)) (mr29 _ (List.mem_of_getElem? (i := 22) rfl)))) rfl rfl rfl (by decide +kernel) ⟨Nat.le_of_ble_eq_true rfl, Nat.le_of_ble_eq_true rfl⟩) (Wd.preS zo hA hZ hw hK) rfl rfl hl.1 rfl (lv_room (Nat.le_of_ble_eq_true rfl)) dX0_ruledTo_9 ⟨Nat.le_of_ble_eq_true rfl, Nat.le_of_ble_eq_true rfl⟩) (fun x_3 L1 f1 H locs lx_3 ux_3 ex_3 hw => ?_)
  obtain ⟨rfl, rfl, ex_3⟩ := ex_3
  exact q_ret_i hx hb hr hlocks hK hAe hw ⟨lx_3, ux_3⟩ (Nat.le_of_ble_eq_true rfl) (Nat.le_of_ble_eq_true rfl) dX0_ruledTo_12 ⟨rfl, rfl, by trivial⟩
set_option maxHeartbeats 4000000 in
set_option maxRecDepth 100000 in
theorem c_X0_found {Z : Zt} (zo : Zok Z) (l : Launch) (D : va_G) (cy : Cy) (L0 : List Nat) (f0 : Nat → va_E) (a0 : Nat) (x1 : Int) (lx1 : -2147483648 ≤ x1) (ux1 : x1 ≤ 2147483647) (m_a0 : a0 ∈ L0) (o_a0 : Ob f0 a0 0) (hg : GI cy L0 f0) : Ci Z l yX0_found (Cond.code yX0_found cX0_found 2 (some .int) :: TB) ({ frames := 0, cells := 0, slots := 0, locals := 0 } : Room) 0 0 D (tq cy) [.ref a0, .int (iI x1)] L0 f0 (fun (r : Int) (L1 : List Nat) (f1 : Nat → va_E) => L0 = L1 ∧ f0 = f1 ∧ (True)) := by
  refine Ci.enter (cc := cX0_found) (n := 2) rfl (plainFor_of_name (by decide)) (Nat.le_of_ble_eq_true rfl) ?_
  intro p e s m below meth c ls A hx hb hr hts hown hlocks hnm hml hK hA hAe hw hZ hl
  have hown : s.vm.findClass RX0 = some m.cls := hown
  have hl : lv_has ls 2 [(0, .ref a0), (1, .int (iI x1))] := hl
  have hN : ZN s := (zo.2.2.2.2 _ _ _ hZ).2
  refine lv_aload_n hx hb dX0_found_0 rfl (lv_at hl 0 rfl) ?_
  refine q_geti (ci := 0) (C := RX0) (T := TX0) (N := 15) hx hb hts (fun w h => List.mem_cons_of_mem _ (mfX00 w h)) hown hK hw m_a0 o_a0 rfl 14 (by decide) (hts _ (List.mem_cons_of_mem _ (mr29 _ (List.mem_of_getElem? (i := 11) rfl)))) (fun _ h => h) rfl dX0_found_1 (fun x_1 lx_1 ux_1 ex_1 => ?_)
  refine q_iconst hx hb dX0_found_4 ?_
  refine q_icmp_eq (tgt := 17) hx hb dX0_found_5 (by decide) ⟨lx_1, ux_1⟩ ⟨by decide, by decide⟩ (fun c5 => ?_) (fun c5 => ?_)
  · refine q_iconst hx hb dX0_found_17 ?_
    exact q_ret_i hx hb hr hlocks hK hAe hw ⟨by decide, by decide⟩ (Nat.le_of_ble_eq_true rfl) (Nat.le_of_ble_eq_true rfl) dX0_found_18 ⟨rfl, rfl, by trivial⟩
  · refine lv_iload_n hx hb dX0_found_8 rfl (lv_at hl 1 rfl) ?_
    refine q_if_lt (tgt := 17) hx hb dX0_found_9 (by decide) ⟨lx1, ux1⟩ (fun c9 => ?_) (fun c9 => ?_)
    · refine q_iconst hx hb dX0_found_17 ?_
      exact q_ret_i hx hb hr hlocks hK hAe hw ⟨by decide, by decide⟩ (Nat.le_of_ble_eq_true rfl) (Nat.le_of_ble_eq_true rfl) dX0_found_18 ⟨rfl, rfl, by trivial⟩
    · refine lv_iload_n hx hb dX0_found_12 rfl (lv_at hl 1 rfl) ?_
      refine q_iconst hx hb dX0_found_13 ?_
      refine q_icmp_le (tgt := 19) hx hb dX0_found_14 (by decide) ⟨lx1, ux1⟩ ⟨by decide, by decide⟩ (fun c14 => ?_) (fun c14 => ?_)
      · refine lv_iload_n hx hb dX0_found_19 rfl (lv_at hl 1 rfl) ?_
        refine q_if_ne (tgt := 30) hx hb dX0_found_20 (by decide) ⟨lx1, ux1⟩ (fun c20 => ?_) (fun c20 => ?_)
        · refine lv_aload_n hx hb dX0_found_30 rfl (lv_at hl 0 rfl) ?_
          refine q_geti (ci := 0) (C := RX0) (T := TX0) (N := 15) hx hb hts (fun w h => List.mem_cons_of_mem _ (mfX00 w h)) hown hK hw m_a0 o_a0 rfl 14 (by decide) (hts _ (List.mem_cons_of_mem _ (mr29 _ (List.mem_of_getElem? (i := 11) rfl)))) (fun _ h => h) rfl dX0_found_31 (fun x_2 lx_2 ux_2 ex_2 => ?_)
          exact q_ret_i hx hb hr hlocks hK hAe hw ⟨lx_2, ux_2⟩ (Nat.le_of_ble_eq_true rfl) (Nat.le_of_ble_eq_true rfl) dX0_found_34 ⟨rfl, rfl, by trivial⟩
        · refine lv_aload_n hx hb dX0_found_23 rfl (lv_at hl 0 rfl) ?_
          refine q_geti (ci := 0) (C := RX0) (T := TX0) (N := 15) hx hb hts (fun w h => List.mem_cons_of_mem _ (mfX00 w h)) hown hK hw m_a0 o_a0 rfl 13 (by decide) (hts _ (List.mem_cons_of_mem _ (mr29 _ (List.mem_of_getElem? (i := 13) rfl)))) (fun _ h => h) rfl dX0_found_24 (fun x_3 lx_3 ux_3 ex_3 => ?_)
          refine lv_goto (tgt := 34) hx hb dX0_found_27 (by decide) ?_
          exact q_ret_i hx hb hr hlocks hK hAe hw ⟨lx_3, ux_3⟩ (Nat.le_of_ble_eq_true rfl) (Nat.le_of_ble_eq_true rfl) dX0_found_34 ⟨rfl, rfl, by trivial⟩
      · refine q_iconst hx hb dX0_found_17 ?_
        exact q_ret_i hx hb hr hlocks hK hAe hw ⟨by decide, by decide⟩ (Nat.le_of_ble_eq_true rfl) (Nat.le_of_ble_eq_true rfl) dX0_found_18 ⟨rfl, rfl, by trivial⟩
set_option maxHeartbeats 4000000 in
set_option maxRecDepth 100000 in
theorem c_X4_dayFrom {Z : Zt} (zo : Zok Z) (l : Launch) (D : va_G) (cy : Cy) (L0 : List Nat) (f0 : Nat → va_E) (a0 : Nat) (x1 : Int) (lx1 : -2147483648 ≤ x1) (ux1 : x1 ≤ 2147483647) (m_a0 : a0 ∈ L0) (o_a0 : Ob f0 a0 3) (hg : GI cy L0 f0) : Ci Z l yX4_dayFrom (Cond.code yX4_dayFrom cX4_dayFrom 2 (some .int) :: TB) ({ frames := 0, cells := 0, slots := 0, locals := 0 } : Room) 0 0 D (tq cy) [.ref a0, .int (iI x1)] L0 f0 (fun (r : Int) (L1 : List Nat) (f1 : Nat → va_E) => L0 = L1 ∧ f0 = f1 ∧ (True)) := by
  refine Ci.enter (cc := cX4_dayFrom) (n := 2) rfl (plainFor_of_name (by decide)) (Nat.le_of_ble_eq_true rfl) ?_
  intro p e s m below meth c ls A hx hb hr hts hown hlocks hnm hml hK hA hAe hw hZ hl
  have hown : s.vm.findClass RX4 = some m.cls := hown
  have hl : lv_has ls 2 [(0, .ref a0), (1, .int (iI x1))] := hl
  have hN : ZN s := (zo.2.2.2.2 _ _ _ hZ).2
  refine lv_iload_n hx hb dX4_dayFrom_0 rfl (lv_at hl 1 rfl) ?_
  refine lv_aload_n hx hb dX4_dayFrom_1 rfl (lv_at hl 0 rfl) ?_
  refine q_geti (ci := 3) (C := RX4) (T := TX4) (N := 3) hx hb hts (fun w h => List.mem_cons_of_mem _ (mfX40 w h)) hown hK hw m_a0 o_a0 rfl 2 (by decide) (hts _ (List.mem_cons_of_mem _ (mr16 _ (List.mem_of_getElem? (i := 1) rfl)))) (fun x9 h9 => u_same (hts _ (List.mem_cons_of_mem _ (mr16 _ (List.mem_of_getElem? (i := 2) rfl)))) x9 h9) rfl dX4_dayFrom_2 (fun x_1 lx_1 ux_1 ex_1 => ?_)
  refine q_icmp_gt (tgt := 15) hx hb dX4_dayFrom_5 (by decide) ⟨lx1, ux1⟩ ⟨lx_1, ux_1⟩ (fun c5 => ?_) (fun c5 => ?_)
  · refine q_iconst hx hb dX4_dayFrom_15 ?_
    exact q_ret_i hx hb hr hlocks hK hAe hw ⟨by decide, by decide⟩ (Nat.le_of_ble_eq_true rfl) (Nat.le_of_ble_eq_true rfl) dX4_dayFrom_16 ⟨rfl, rfl, by trivial⟩
  · refine lv_aload_n hx hb dX4_dayFrom_8 rfl (lv_at hl 0 rfl) ?_
    refine q_geti (ci := 3) (C := RX4) (T := TX4) (N := 3) hx hb hts (fun w h => List.mem_cons_of_mem _ (mfX40 w h)) hown hK hw m_a0 o_a0 rfl 2 (by decide) (hts _ (List.mem_cons_of_mem _ (mr16 _ (List.mem_of_getElem? (i := 1) rfl)))) (fun x9 h9 => u_same (hts _ (List.mem_cons_of_mem _ (mr16 _ (List.mem_of_getElem? (i := 2) rfl)))) x9 h9) rfl dX4_dayFrom_9 (fun x_2 lx_2 ux_2 ex_2 => ?_)
    refine lv_goto (tgt := 16) hx hb dX4_dayFrom_12 (by decide) ?_
    exact q_ret_i hx hb hr hlocks hK hAe hw ⟨lx_2, ux_2⟩ (Nat.le_of_ble_eq_true rfl) (Nat.le_of_ble_eq_true rfl) dX4_dayFrom_16 ⟨rfl, rfl, by trivial⟩
set_option maxHeartbeats 4000000 in
set_option maxRecDepth 100000 in
theorem c_X4_dayTo {Z : Zt} (zo : Zok Z) (l : Launch) (D : va_G) (cy : Cy) (L0 : List Nat) (f0 : Nat → va_E) (a0 : Nat) (x1 : Int) (lx1 : -2147483648 ≤ x1) (ux1 : x1 ≤ 2147483647) (m_a0 : a0 ∈ L0) (o_a0 : Ob f0 a0 3) (hg : GI cy L0 f0) : Ci Z l yX4_dayTo (Cond.code yX4_dayTo cX4_dayTo 2 (some .int) :: TB) ({ frames := 0, cells := 0, slots := 0, locals := 0 } : Room) 0 0 D (tq cy) [.ref a0, .int (iI x1)] L0 f0 (fun (r : Int) (L1 : List Nat) (f1 : Nat → va_E) => L0 = L1 ∧ f0 = f1 ∧ (True)) := by
  refine Ci.enter (cc := cX4_dayTo) (n := 2) rfl (plainFor_of_name (by decide)) (Nat.le_of_ble_eq_true rfl) ?_
  intro p e s m below meth c ls A hx hb hr hts hown hlocks hnm hml hK hA hAe hw hZ hl
  have hown : s.vm.findClass RX4 = some m.cls := hown
  have hl : lv_has ls 2 [(0, .ref a0), (1, .int (iI x1))] := hl
  have hN : ZN s := (zo.2.2.2.2 _ _ _ hZ).2
  refine lv_iload_n hx hb dX4_dayTo_0 rfl (lv_at hl 1 rfl) ?_
  refine lv_aload_n hx hb dX4_dayTo_1 rfl (lv_at hl 0 rfl) ?_
  refine q_geti (ci := 3) (C := RX4) (T := TX4) (N := 3) hx hb hts (fun w h => List.mem_cons_of_mem _ (mfX40 w h)) hown hK hw m_a0 o_a0 rfl 2 (by decide) (hts _ (List.mem_cons_of_mem _ (mr16 _ (List.mem_of_getElem? (i := 1) rfl)))) (fun x9 h9 => u_same (hts _ (List.mem_cons_of_mem _ (mr16 _ (List.mem_of_getElem? (i := 2) rfl)))) x9 h9) rfl dX4_dayTo_2 (fun x_1 lx_1 ux_1 ex_1 => ?_)
  refine q_icmp_lt (tgt := 15) hx hb dX4_dayTo_5 (by decide) ⟨lx1, ux1⟩ ⟨lx_1, ux_1⟩ (fun c5 => ?_) (fun c5 => ?_)
  · refine q_iconst hx hb dX4_dayTo_15 ?_
    exact q_ret_i hx hb hr hlocks hK hAe hw ⟨by decide, by decide⟩ (Nat.le_of_ble_eq_true rfl) (Nat.le_of_ble_eq_true rfl) dX4_dayTo_16 ⟨rfl, rfl, by trivial⟩
  · refine lv_aload_n hx hb dX4_dayTo_8 rfl (lv_at hl 0 rfl) ?_
    refine q_geti (ci := 3) (C := RX4) (T := TX4) (N := 3) hx hb hts (fun w h => List.mem_cons_of_mem _ (mfX40 w h)) hown hK hw m_a0 o_a0 rfl 2 (by decide) (hts _ (List.mem_cons_of_mem _ (mr16 _ (List.mem_of_getElem? (i := 1) rfl)))) (fun x9 h9 => u_same (hts _ (List.mem_cons_of_mem _ (mr16 _ (List.mem_of_getElem? (i := 2) rfl)))) x9 h9) rfl dX4_dayTo_9 (fun x_2 lx_2 ux_2 ex_2 => ?_)
    refine lv_goto (tgt := 16) hx hb dX4_dayTo_12 (by decide) ?_
    exact q_ret_i hx hb hr hlocks hK hAe hw ⟨lx_2, ux_2⟩ (Nat.le_of_ble_eq_true rfl) (Nat.le_of_ble_eq_true rfl) dX4_dayTo_16 ⟨rfl, rfl, by trivial⟩
set_option maxHeartbeats 4000000 in
set_option maxRecDepth 100000 in
theorem c_X4_daysIn {Z : Zt} (zo : Zok Z) (l : Launch) (D : va_G) (cy : Cy) (L0 : List Nat) (f0 : Nat → va_E) (a0 : Nat) (x1 : Int) (lx1 : -2147483648 ≤ x1) (ux1 : x1 ≤ 2147483647) (x2 : Int) (lx2 : -2147483648 ≤ x2) (ux2 : x2 ≤ 2147483647) (m_a0 : a0 ∈ L0) (o_a0 : Ob f0 a0 3) (hg : GI cy L0 f0) : Ci Z l yX4_daysIn (Cond.code yX4_daysIn cX4_daysIn 3 (some .int) :: TB) ({ frames := 0, cells := 0, slots := 0, locals := 0 } : Room) 0 0 D (tq cy) [.ref a0, .int (iI x1), .int (iI x2)] L0 f0 (fun (r : Int) (L1 : List Nat) (f1 : Nat → va_E) => L0 = L1 ∧ f0 = f1 ∧ (True)) := by
  refine Ci.enter (cc := cX4_daysIn) (n := 3) rfl (plainFor_of_name (by decide)) (Nat.le_of_ble_eq_true rfl) ?_
  intro p e s m below meth c ls A hx hb hr hts hown hlocks hnm hml hK hA hAe hw hZ hl
  have hown : s.vm.findClass RX4 = some m.cls := hown
  have hl : lv_has ls 3 [(0, .ref a0), (1, .int (iI x1)), (2, .int (iI x2))] := hl
  have hN : ZN s := (zo.2.2.2.2 _ _ _ hZ).2
  refine lv_iload_n hx hb dX4_daysIn_0 rfl (lv_at hl 1 rfl) ?_
  refine lv_aload_n hx hb dX4_daysIn_1 rfl (lv_at hl 0 rfl) ?_
  refine q_geti (ci := 3) (C := RX4) (T := TX4) (N := 3) hx hb hts (fun w h => List.mem_cons_of_mem _ (mfX40 w h)) hown hK hw m_a0 o_a0 rfl 2 (by decide) (hts _ (List.mem_cons_of_mem _ (mr16 _ (List.mem_of_getElem? (i := 1) rfl)))) (fun x9 h9 => u_same (hts _ (List.mem_cons_of_mem _ (mr16 _ (List.mem_of_getElem? (i := 2) rfl)))) x9 h9) rfl dX4_daysIn_2 (fun x_1 lx_1 ux_1 ex_1 => ?_)
  refine q_icmp_gt (tgt := 20) hx hb dX4_daysIn_5 (by decide) ⟨lx1, ux1⟩ ⟨lx_1, ux_1⟩ (fun c5 => ?_) (fun c5 => ?_)
  · refine q_iconst hx hb dX4_daysIn_20 ?_
    exact q_ret_i hx hb hr hlocks hK hAe hw ⟨by decide, by decide⟩ (Nat.le_of_ble_eq_true rfl) (Nat.le_of_ble_eq_true rfl) dX4_daysIn_21 ⟨rfl, rfl, by trivial⟩
  · refine lv_aload_n hx hb dX4_daysIn_8 rfl (lv_at hl 0 rfl) ?_
    refine q_geti (ci := 3) (C := RX4) (T := TX4) (N := 3) hx hb hts (fun w h => List.mem_cons_of_mem _ (mfX40 w h)) hown hK hw m_a0 o_a0 rfl 2 (by decide) (hts _ (List.mem_cons_of_mem _ (mr16 _ (List.mem_of_getElem? (i := 1) rfl)))) (fun x9 h9 => u_same (hts _ (List.mem_cons_of_mem _ (mr16 _ (List.mem_of_getElem? (i := 2) rfl)))) x9 h9) rfl dX4_daysIn_9 (fun x_2 lx_2 ux_2 ex_2 => ?_)
    refine lv_iload_n hx hb dX4_daysIn_12 rfl (lv_at hl 2 rfl) ?_
    refine q_icmp_gt (tgt := 20) hx hb dX4_daysIn_13 (by decide) ⟨lx_2, ux_2⟩ ⟨lx2, ux2⟩ (fun c13 => ?_) (fun c13 => ?_)
    · refine q_iconst hx hb dX4_daysIn_20 ?_
      exact q_ret_i hx hb hr hlocks hK hAe hw ⟨by decide, by decide⟩ (Nat.le_of_ble_eq_true rfl) (Nat.le_of_ble_eq_true rfl) dX4_daysIn_21 ⟨rfl, rfl, by trivial⟩
    · refine q_iconst hx hb dX4_daysIn_16 ?_
      refine lv_goto (tgt := 21) hx hb dX4_daysIn_17 (by decide) ?_
      exact q_ret_i hx hb hr hlocks hK hAe hw ⟨by decide, by decide⟩ (Nat.le_of_ble_eq_true rfl) (Nat.le_of_ble_eq_true rfl) dX4_daysIn_21 ⟨rfl, rfl, by trivial⟩
set_option maxHeartbeats 4000000 in
set_option maxRecDepth 100000 in
theorem c_X4_cycle {Z : Zt} (zo : Zok Z) (l : Launch) (D : va_G) (cy : Cy) (L0 : List Nat) (f0 : Nat → va_E) (a0 : Nat) (m_a0 : a0 ∈ L0) (o_a0 : Ob f0 a0 3) (hg : GI cy L0 f0) : Cl Z l yX4_cycle (Cond.code yX4_cycle cX4_cycle 1 (some .long) :: TB) ({ frames := 0, cells := 0, slots := 0, locals := 0 } : Room) 0 0 D (tq cy) [.ref a0] L0 f0 (fun (r : Int) (L1 : List Nat) (f1 : Nat → va_E) => L0 = L1 ∧ f0 = f1 ∧ (True)) := by
  refine Cl.enter (cc := cX4_cycle) (n := 1) rfl (plainFor_of_name (by decide)) (Nat.le_of_ble_eq_true rfl) ?_
  intro p e s m below meth c ls A hx hb hr hts hown hlocks hnm hml hK hA hAe hw hZ hl
  have hown : s.vm.findClass RX4 = some m.cls := hown
  have hl : lv_has ls 1 [(0, .ref a0)] := hl
  have hN : ZN s := (zo.2.2.2.2 _ _ _ hZ).2
  refine q_lconst0 hx hb dX4_cycle_0 ?_
  exact q_ret_l hx hb hr hlocks hK hAe hw ⟨by decide, by decide⟩ (Nat.le_of_ble_eq_true rfl) (Nat.le_of_ble_eq_true rfl) dX4_cycle_1 ⟨rfl, rfl, by trivial⟩
set_option maxHeartbeats 4000000 in
set_option maxRecDepth 100000 in
theorem c_X2_dayFrom {Z : Zt} (zo : Zok Z) (l : Launch) (D : va_G) (cy : Cy) (L0 : List Nat) (f0 : Nat → va_E) (a0 : Nat) (x1 : Int) (lx1 : -2147483648 ≤ x1) (ux1 : x1 ≤ 2147483647) (m_a0 : a0 ∈ L0) (o_a0 : Ob f0 a0 1) (hg : GI cy L0 f0) : Ci Z l yX2_dayFrom (Cond.code yX2_dayFrom cX2_dayFrom 3 (some .int) :: TB) ({ frames := 0, cells := 0, slots := 0, locals := 0 } : Room) 0 0 D (tq cy) [.ref a0, .int (iI x1)] L0 f0 (fun (r : Int) (L1 : List Nat) (f1 : Nat → va_E) => L0 = L1 ∧ f0 = f1 ∧ (True)) := by
  refine Ci.enter (cc := cX2_dayFrom) (n := 3) rfl (plainFor_of_name (by decide)) (Nat.le_of_ble_eq_true rfl) ?_
  intro p e s m below meth c ls A hx hb hr hts hown hlocks hnm hml hK hA hAe hw hZ hl
  have hown : s.vm.findClass RX2 = some m.cls := hown
  have hl : lv_has ls 3 [(0, .ref a0), (1, .int (iI x1))] := hl
  have hN : ZN s := (zo.2.2.2.2 _ _ _ hZ).2
  refine lv_iload_n hx hb dX2_dayFrom_0 rfl (lv_at hl 1 rfl) ?_
  refine lv_aload_n hx hb dX2_dayFrom_1 rfl (lv_at hl 0 rfl) ?_
  refine q_geti (ci := 1) (C := RX2) (T := TX2) (N := 4) hx hb hts (fun w h => List.mem_cons_of_mem _ (mfX20 w h)) hown hK hw m_a0 o_a0 rfl 2 (by decide) (hts _ (List.mem_cons_of_mem _ (mr15 _ (List.mem_of_getElem? (i := 4) rfl)))) (fun x9 h9 => u_same (hts _ (List.mem_cons_of_mem _ (mr15 _ (List.mem_of_getElem? (i := 5) rfl)))) x9 h9) rfl dX2_dayFrom_2 (fun x_1 lx_1 ux_1 ex_1 => ?_)
  refine q_icmp_gt (tgt := 13) hx hb dX2_dayFrom_5 (by decide) ⟨lx1, ux1⟩ ⟨lx_1, ux_1⟩ (fun c5 => ?_) (fun c5 => ?_)
  · refine lv_aload_n hx hb dX2_dayFrom_13 rfl (lv_at hl 0 rfl) ?_
    refine q_geti (ci := 1) (C := RX2) (T := TX2) (N := 4) hx hb hts (fun w h => List.mem_cons_of_mem _ (mfX20 w h)) hown hK hw m_a0 o_a0 rfl 2 (by decide) (hts _ (List.mem_cons_of_mem _ (mr15 _ (List.mem_of_getElem? (i := 4) rfl)))) (fun x9 h9 => u_same (hts _ (List.mem_cons_of_mem _ (mr15 _ (List.mem_of_getElem? (i := 5) rfl)))) x9 h9) rfl dX2_dayFrom_14 (fun x_2 lx_2 ux_2 ex_2 => ?_)
    refine lv_iload_n hx hb dX2_dayFrom_17 rfl (lv_at hl 1 rfl) ?_
    refine lv_aload_n hx hb dX2_dayFrom_18 rfl (lv_at hl 0 rfl) ?_
    refine q_geti (ci := 1) (C := RX2) (T := TX2) (N := 4) hx hb hts (fun w h => List.mem_cons_of_mem _ (mfX20 w h)) hown hK hw m_a0 o_a0 rfl 2 (by decide) (hts _ (List.mem_cons_of_mem _ (mr15 _ (List.mem_of_getElem? (i := 4) rfl)))) (fun x9 h9 => u_same (hts _ (List.mem_cons_of_mem _ (mr15 _ (List.mem_of_getElem? (i := 5) rfl)))) x9 h9) rfl dX2_dayFrom_19 (fun x_3 lx_3 ux_3 ex_3 => ?_)
    first | refine q_isub hx hb dX2_dayFrom_22 ⟨by omega, by omega⟩ (fun x_4 lx_4 ux_4 ex_4 => ?_) | refine q_isubw hx hb dX2_dayFrom_22 (fun x_4 lx_4 ux_4 _ => ?_)
    refine lv_aload_n hx hb dX2_dayFrom_23 rfl (lv_at hl 0 rfl) ?_
    refine q_geti (ci := 1) (C := RX2) (T := TX2) (N := 4) hx hb hts (fun w h => List.mem_cons_of_mem _ (mfX20 w h)) hown hK hw m_a0 o_a0 rfl 3 (by decide) (hts _ (List.mem_cons_of_mem _ (mr13 _ (List.mem_of_getElem? (i := 2) rfl)))) (fun _ h => h) rfl dX2_dayFrom_24 (fun x_5 lx_5 ux_5 ex_5 => ?_)
    have bx_5 : 1 ≤ x_5 := by rw [ex_5]; exact hg.1 _ m_a0 1 3 o_a0
    first | refine q_iadd hx hb dX2_dayFrom_27 ⟨by omega, by omega⟩ (fun x_6 lx_6 ux_6 ex_6 => ?_) | refine q_iaddw hx hb dX2_dayFrom_27 (fun x_6 lx_6 ux_6 _ => ?_)
    refine q_iconst hx hb dX2_dayFrom_28 ?_
    first | refine q_isub hx hb dX2_dayFrom_29 ⟨by omega, by omega⟩ (fun x_7 lx_7 ux_7 ex_7 => ?_) | refine q_isubw hx hb dX2_dayFrom_29 (fun x_7 lx_7 ux_7 _ => ?_)
    refine lv_aload_n hx hb dX2_dayFrom_30 rfl (lv_at hl 0 rfl) ?_
    refine q_geti (ci := 1) (C := RX2) (T := TX2) (N := 4) hx hb hts (fun w h => List.mem_cons_of_mem _ (mfX20 w h)) hown hK hw m_a0 o_a0 rfl 3 (by decide) (hts _ (List.mem_cons_of_mem _ (mr13 _ (List.mem_of_getElem? (i := 2) rfl)))) (fun _ h => h) rfl dX2_dayFrom_31 (fun x_8 lx_8 ux_8 ex_8 => ?_)
    have bx_8 : 1 ≤ x_8 := by rw [ex_8]; exact hg.1 _ m_a0 1 3 o_a0
    first | refine q_idiv hx hb dX2_dayFrom_34 ⟨lx_7, ux_7⟩ ⟨lx_8, ux_8⟩ (by omega) (by omega) (fun x_9 lx_9 ux_9 ex_9 => ?_) | refine q_idivw hx hb dX2_dayFrom_34 ⟨lx_7, ux_7⟩ ⟨lx_8, ux_8⟩ (by omega) (fun x_9 lx_9 ux_9 ex_9 => ?_)
    refine lv_aload_n hx hb dX2_dayFrom_35 rfl (lv_at hl 0 rfl) ?_
    refine q_geti (ci := 1) (C := RX2) (T := TX2) (N := 4) hx hb hts (fun w h => List.mem_cons_of_mem _ (mfX20 w h)) hown hK hw m_a0 o_a0 rfl 3 (by decide) (hts _ (List.mem_cons_of_mem _ (mr13 _ (List.mem_of_getElem? (i := 2) rfl)))) (fun _ h => h) rfl dX2_dayFrom_36 (fun x_10 lx_10 ux_10 ex_10 => ?_)
    have bx_10 : 1 ≤ x_10 := by rw [ex_10]; exact hg.1 _ m_a0 1 3 o_a0
    first | refine q_imul hx hb dX2_dayFrom_39 ⟨by omega, by omega⟩ (fun x_11 lx_11 ux_11 ex_11 => ?_) | refine q_imulw hx hb dX2_dayFrom_39 (fun x_11 lx_11 ux_11 _ => ?_)
    first | refine q_iadd hx hb dX2_dayFrom_40 ⟨by omega, by omega⟩ (fun x_12 lx_12 ux_12 ex_12 => ?_) | refine q_iaddw hx hb dX2_dayFrom_40 (fun x_12 lx_12 ux_12 _ => ?_)
    refine lv_istore_n (lv' := [(2, .int (iI x_12)), (0, .ref a0), (1, .int (iI x1))]) hx hb dX2_dayFrom_41 rfl hl (by decide) rfl (fun ls hl => ?_)
    refine lv_iload_n hx hb dX2_dayFrom_42 rfl (lv_at hl 0 rfl) ?_
    refine q_ldc (n := 36524) hx hb hown (hts _ (List.mem_cons_of_mem _ (mr15 _ (List.mem_of_getElem? (i := 6) rfl)))) rfl dX2_dayFrom_43 ?_
    refine q_icmp_gt (tgt := 52) hx hb dX2_dayFrom_45 (by decide) ⟨lx_12, ux_12⟩ ⟨by decide, by decide⟩ (fun c45 => ?_) (fun c45 => ?_)
    · refine q_iconst hx hb dX2_dayFrom_52 ?_
      exact q_ret_i hx hb hr hlocks hK hAe hw ⟨by decide, by decide⟩ (Nat.le_of_ble_eq_true rfl) (Nat.le_of_ble_eq_true rfl) dX2_dayFrom_53 ⟨rfl, rfl, by trivial⟩
    · refine lv_iload_n hx hb dX2_dayFrom_48 rfl (lv_at hl 0 rfl) ?_
      refine lv_goto (tgt := 53) hx hb dX2_dayFrom_49 (by decide) ?_
      exact q_ret_i hx hb hr hlocks hK hAe hw ⟨lx_12, ux_12⟩ (Nat.le_of_ble_eq_true rfl) (Nat.le_of_ble_eq_true rfl) dX2_dayFrom_53 ⟨rfl, rfl, by trivial⟩
  · refine lv_aload_n hx hb dX2_dayFrom_8 rfl (lv_at hl 0 rfl) ?_
    refine q_geti (ci := 1) (C := RX2) (T := TX2) (N := 4) hx hb hts (fun w h => List.mem_cons_of_mem _ (mfX20 w h)) hown hK hw m_a0 o_a0 rfl 2 (by decide) (hts _ (List.mem_cons_of_mem _ (mr15 _ (List.mem_of_getElem? (i := 4) rfl)))) (fun x9 h9 => u_same (hts _ (List.mem_cons_of_mem _ (mr15 _ (List.mem_of_getElem? (i := 5) rfl)))) x9 h9) rfl dX2_dayFrom_9 (fun x_13 lx_13 ux_13 ex_13 => ?_)
    exact q_ret_i hx hb hr hlocks hK hAe hw ⟨lx_13, ux_13⟩ (Nat.le_of_ble_eq_true rfl) (Nat.le_of_ble_eq_true rfl) dX2_dayFrom_12 ⟨rfl, rfl, by trivial⟩
set_option maxHeartbeats 4000000 in
set_option maxRecDepth 100000 in
theorem c_X2_dayTo {Z : Zt} (zo : Zok Z) (l : Launch) (D : va_G) (cy : Cy) (L0 : List Nat) (f0 : Nat → va_E) (a0 : Nat) (x1 : Int) (lx1 : -2147483648 ≤ x1) (ux1 : x1 ≤ 2147483647) (m_a0 : a0 ∈ L0) (o_a0 : Ob f0 a0 1) (hg : GI cy L0 f0) : Ci Z l yX2_dayTo (Cond.code yX2_dayTo cX2_dayTo 2 (some .int) :: TB) ({ frames := 0, cells := 0, slots := 0, locals := 0 } : Room) 0 0 D (tq cy) [.ref a0, .int (iI x1)] L0 f0 (fun (r : Int) (L1 : List Nat) (f1 : Nat → va_E) => L0 = L1 ∧ f0 = f1 ∧ (True)) := by
  refine Ci.enter (cc := cX2_dayTo) (n := 2) rfl (plainFor_of_name (by decide)) (Nat.le_of_ble_eq_true rfl) ?_
  intro p e s m below meth c ls A hx hb hr hts hown hlocks hnm hml hK hA hAe hw hZ hl
  have hown : s.vm.findClass RX2 = some m.cls := hown
  have hl : lv_has ls 2 [(0, .ref a0), (1, .int (iI x1))] := hl
  have hN : ZN s := (zo.2.2.2.2 _ _ _ hZ).2
  refine lv_iload_n hx hb dX2_dayTo_0 rfl (lv_at hl 1 rfl) ?_
  refine lv_aload_n hx hb dX2_dayTo_1 rfl (lv_at hl 0 rfl) ?_
  refine q_geti (ci := 1) (C := RX2) (T := TX2) (N := 4) hx hb hts (fun w h => List.mem_cons_of_mem _ (mfX20 w h)) hown hK hw m_a0 o_a0 rfl 2 (by decide) (hts _ (List.mem_cons_of_mem _ (mr15 _ (List.mem_of_getElem? (i := 4) rfl)))) (fun x9 h9 => u_same (hts _ (List.mem_cons_of_mem _ (mr15 _ (List.mem_of_getElem? (i := 5) rfl)))) x9 h9) rfl dX2_dayTo_2 (fun x_1 lx_1 ux_1 ex_1 => ?_)
  refine q_icmp_ge (tgt := 12) hx hb dX2_dayTo_5 (by decide) ⟨lx1, ux1⟩ ⟨lx_1, ux_1⟩ (fun c5 => ?_) (fun c5 => ?_)
  · refine lv_iload_n hx hb dX2_dayTo_12 rfl (lv_at hl 1 rfl) ?_
    refine lv_iload_n hx hb dX2_dayTo_13 rfl (lv_at hl 1 rfl) ?_
    refine lv_aload_n hx hb dX2_dayTo_14 rfl (lv_at hl 0 rfl) ?_
    refine q_geti (ci := 1) (C := RX2) (T := TX2) (N := 4) hx hb hts (fun w h => List.mem_cons_of_mem _ (mfX20 w h)) hown hK hw m_a0 o_a0 rfl 2 (by decide) (hts _ (List.mem_cons_of_mem _ (mr15 _ (List.mem_of_getElem? (i := 4) rfl)))) (fun x9 h9 => u_same (hts _ (List.mem_cons_of_mem _ (mr15 _ (List.mem_of_getElem? (i := 5) rfl)))) x9 h9) rfl dX2_dayTo_15 (fun x_2 lx_2 ux_2 ex_2 => ?_)
    first | refine q_isub hx hb dX2_dayTo_18 ⟨by omega, by omega⟩ (fun x_3 lx_3 ux_3 ex_3 => ?_) | refine q_isubw hx hb dX2_dayTo_18 (fun x_3 lx_3 ux_3 _ => ?_)
    refine lv_aload_n hx hb dX2_dayTo_19 rfl (lv_at hl 0 rfl) ?_
    refine q_geti (ci := 1) (C := RX2) (T := TX2) (N := 4) hx hb hts (fun w h => List.mem_cons_of_mem _ (mfX20 w h)) hown hK hw m_a0 o_a0 rfl 3 (by decide) (hts _ (List.mem_cons_of_mem _ (mr13 _ (List.mem_of_getElem? (i := 2) rfl)))) (fun _ h => h) rfl dX2_dayTo_20 (fun x_4 lx_4 ux_4 ex_4 => ?_)
    have bx_4 : 1 ≤ x_4 := by rw [ex_4]; exact hg.1 _ m_a0 1 3 o_a0
    first | refine q_irem hx hb dX2_dayTo_23 ⟨lx_3, ux_3⟩ ⟨lx_4, ux_4⟩ (by omega) (by omega) (fun x_5 lx_5 ux_5 ex_5 => ?_) | refine q_iremw hx hb dX2_dayTo_23 ⟨lx_3, ux_3⟩ ⟨lx_4, ux_4⟩ (by omega) (fun x_5 lx_5 ux_5 ex_5 => ?_)
    first | refine q_isub hx hb dX2_dayTo_24 ⟨by omega, by omega⟩ (fun x_6 lx_6 ux_6 ex_6 => ?_) | refine q_isubw hx hb dX2_dayTo_24 (fun x_6 lx_6 ux_6 _ => ?_)
    exact q_ret_i hx hb hr hlocks hK hAe hw ⟨lx_6, ux_6⟩ (Nat.le_of_ble_eq_true rfl) (Nat.le_of_ble_eq_true rfl) dX2_dayTo_25 ⟨rfl, rfl, by trivial⟩
  · refine q_iconst hx hb dX2_dayTo_8 ?_
    refine lv_goto (tgt := 25) hx hb dX2_dayTo_9 (by decide) ?_
    exact q_ret_i hx hb hr hlocks hK hAe hw ⟨by decide, by decide⟩ (Nat.le_of_ble_eq_true rfl) (Nat.le_of_ble_eq_true rfl) dX2_dayTo_25 ⟨rfl, rfl, by trivial⟩
set_option maxHeartbeats 4000000 in
set_option maxRecDepth 100000 in
theorem c_X2_daysUpTo {Z : Zt} (zo : Zok Z) (l : Launch) (D : va_G) (cy : Cy) (L0 : List Nat) (f0 : Nat → va_E) (a0 : Nat) (x1 : Int) (lx1 : -2147483648 ≤ x1) (ux1 : x1 ≤ 2147483647) (m_a0 : a0 ∈ L0) (o_a0 : Ob f0 a0 1) (hg : GI cy L0 f0) : Ci Z l yX2_daysUpTo (Cond.code yX2_daysUpTo cX2_daysUpTo 2 (some .int) :: TB) ({ frames := 0, cells := 0, slots := 0, locals := 0 } : Room) 0 0 D (tq cy) [.ref a0, .int (iI x1)] L0 f0 (fun (r : Int) (L1 : List Nat) (f1 : Nat → va_E) => L0 = L1 ∧ f0 = f1 ∧ (True)) := by
  refine Ci.enter (cc := cX2_daysUpTo) (n := 2) rfl (plainFor_of_name (by decide)) (Nat.le_of_ble_eq_true rfl) ?_
  intro p e s m below meth c ls A hx hb hr hts hown hlocks hnm hml hK hA hAe hw hZ hl
  have hown : s.vm.findClass RX2 = some m.cls := hown
  have hl : lv_has ls 2 [(0, .ref a0), (1, .int (iI x1))] := hl
  have hN : ZN s := (zo.2.2.2.2 _ _ _ hZ).2
  refine lv_iload_n hx hb dX2_daysUpTo_0 rfl (lv_at hl 1 rfl) ?_
  refine lv_aload_n hx hb dX2_daysUpTo_1 rfl (lv_at hl 0 rfl) ?_
  refine q_geti (ci := 1) (C := RX2) (T := TX2) (N := 4) hx hb hts (fun w h => List.mem_cons_of_mem _ (mfX20 w h)) hown hK hw m_a0 o_a0 rfl 2 (by decide) (hts _ (List.mem_cons_of_mem _ (mr15 _ (List.mem_of_getElem? (i := 4) rfl)))) (fun x9 h9 => u_same (hts _ (List.mem_cons_of_mem _ (mr15 _ (List.mem_of_getElem? (i := 5) rfl)))) x9 h9) rfl dX2_daysUpTo_2 (fun x_1 lx_1 ux_1 ex_1 => ?_)
  refine q_icmp_ge (tgt := 12) hx hb dX2_daysUpTo_5 (by decide) ⟨lx1, ux1⟩ ⟨lx_1, ux_1⟩ (fun c5 => ?_) (fun c5 => ?_)
  · refine lv_iload_n hx hb dX2_daysUpTo_12 rfl (lv_at hl 1 rfl) ?_
    refine lv_aload_n hx hb dX2_daysUpTo_13 rfl (lv_at hl 0 rfl) ?_
    refine q_geti (ci := 1) (C := RX2) (T := TX2) (N := 4) hx hb hts (fun w h => List.mem_cons_of_mem _ (mfX20 w h)) hown hK hw m_a0 o_a0 rfl 2 (by decide) (hts _ (List.mem_cons_of_mem _ (mr15 _ (List.mem_of_getElem? (i := 4) rfl)))) (fun x9 h9 => u_same (hts _ (List.mem_cons_of_mem _ (mr15 _ (List.mem_of_getElem? (i := 5) rfl)))) x9 h9) rfl dX2_daysUpTo_14 (fun x_2 lx_2 ux_2 ex_2 => ?_)
    first | refine q_isub hx hb dX2_daysUpTo_17 ⟨by omega, by omega⟩ (fun x_3 lx_3 ux_3 ex_3 => ?_) | refine q_isubw hx hb dX2_daysUpTo_17 (fun x_3 lx_3 ux_3 _ => ?_)
    refine lv_aload_n hx hb dX2_daysUpTo_18 rfl (lv_at hl 0 rfl) ?_
    refine q_geti (ci := 1) (C := RX2) (T := TX2) (N := 4) hx hb hts (fun w h => List.mem_cons_of_mem _ (mfX20 w h)) hown hK hw m_a0 o_a0 rfl 3 (by decide) (hts _ (List.mem_cons_of_mem _ (mr13 _ (List.mem_of_getElem? (i := 2) rfl)))) (fun _ h => h) rfl dX2_daysUpTo_19 (fun x_4 lx_4 ux_4 ex_4 => ?_)
    have bx_4 : 1 ≤ x_4 := by rw [ex_4]; exact hg.1 _ m_a0 1 3 o_a0
    first | refine q_idiv hx hb dX2_daysUpTo_22 ⟨lx_3, ux_3⟩ ⟨lx_4, ux_4⟩ (by omega) (by omega) (fun x_5 lx_5 ux_5 ex_5 => ?_) | refine q_idivw hx hb dX2_daysUpTo_22 ⟨lx_3, ux_3⟩ ⟨lx_4, ux_4⟩ (by omega) (fun x_5 lx_5 ux_5 ex_5 => ?_)
    refine q_iconst hx hb dX2_daysUpTo_23 ?_
    first | refine q_iadd hx hb dX2_daysUpTo_24 ⟨by omega, by omega⟩ (fun x_6 lx_6 ux_6 ex_6 => ?_) | refine q_iaddw hx hb dX2_daysUpTo_24 (fun x_6 lx_6 ux_6 _ => ?_)
    exact q_ret_i hx hb hr hlocks hK hAe hw ⟨lx_6, ux_6⟩ (Nat.le_of_ble_eq_true rfl) (Nat.le_of_ble_eq_true rfl) dX2_daysUpTo_25 ⟨rfl, rfl, by trivial⟩
  · refine q_iconst hx hb dX2_daysUpTo_8 ?_
    refine lv_goto (tgt := 25) hx hb dX2_daysUpTo_9 (by decide) ?_
    exact q_ret_i hx hb hr hlocks hK hAe hw ⟨by decide, by decide⟩ (Nat.le_of_ble_eq_true rfl) (Nat.le_of_ble_eq_true rfl) dX2_daysUpTo_25 ⟨rfl, rfl, by trivial⟩
set_option maxHeartbeats 4000000 in
set_option maxRecDepth 100000 in
theorem c_X2_daysIn {Z : Zt} (zo : Zok Z) (l : Launch) (D : va_G) (cy : Cy) (L0 : List Nat) (f0 : Nat → va_E) (a0 : Nat) (x1 : Int) (lx1 : -2147483648 ≤ x1) (ux1 : x1 ≤ 2147483647) (x2 : Int) (lx2 : -2147483648 ≤ x2) (ux2 : x2 ≤ 2147483647) (m_a0 : a0 ∈ L0) (o_a0 : Ob f0 a0 1) (hg : GI cy L0 f0) : Ci Z l yX2_daysIn (Cond.code yX2_daysIn cX2_daysIn 3 (some .int) :: TB) ({ frames := 1, cells := 0, slots := 0, locals := 21 } : Room) 0 0 D (tq cy) [.ref a0, .int (iI x1), .int (iI x2)] L0 f0 (fun (r : Int) (L1 : List Nat) (f1 : Nat → va_E) => L0 = L1 ∧ f0 = f1 ∧ (True)) := by
  refine Ci.enter (cc := cX2_daysIn) (n := 3) rfl (plainFor_of_name (by decide)) (Nat.le_of_ble_eq_true rfl) ?_
  intro p e s m below meth c ls A hx hb hr hts hown hlocks hnm hml hK hA hAe hw hZ hl
  have hown : s.vm.findClass RX2 = some m.cls := hown
  have hl : lv_has ls 3 [(0, .ref a0), (1, .int (iI x1)), (2, .int (iI x2))] := hl
  have hN : ZN s := (zo.2.2.2.2 _ _ _ hZ).2
  refine lv_aload_n hx hb dX2_daysIn_0 rfl (lv_at hl 0 rfl) ?_
  refine lv_iload_n hx hb dX2_daysIn_1 rfl (lv_at hl 2 rfl) ?_
  refine q_call_i hA hK hw (va_runV (As := [.int (iI x2)]) (rest := []) ⟨hx, hb, hml, hown, hts⟩ (c_X2_daysUpTo zo l D cy L0 f0 a0 x2 lx2 ux2 m_a0 o_a0 hg _) (cwV 1 hts (gT (inV (mr17 _ (List.mem_of_getElem? (i := 16) rfl)) (mr17 _ (List.mem_of_getElem? (i := 17) rfl)) (mr17 _ (List.mem_of_getElem? (i := 18) rfl)) (mr12 _ (List.mem_of_getElem? (i := 12) rfl)) (mr17 _ (List.mem_of_getElem? (i := 19) rfl)))) rfl rfl rfl (by decide +kernel) ⟨Nat.le_of_ble_eq_true rfl, Nat.le_of_ble_eq_true rfl⟩) (Wd.preV zo hA hZ hw hK m_a0 o_a0 rfl) rfl rfl hl.1 rfl (lv_room (Nat.le_of_ble_eq_true rfl)) dX2_daysIn_2 ⟨Nat.le_of_ble_eq_true rfl, Nat.le_of_ble_eq_true rfl⟩) (fun x_1 L1 f1 H locs lx_1 ux_1 ex_1 hw => ?_)
  obtain ⟨rfl, rfl, ex_1⟩ := ex_1
  refine lv_aload_n hx hb dX2_daysIn_5 rfl (lv_at hl 0 rfl) ?_
  refine lv_iload_n hx hb dX2_daysIn_6 rfl (lv_at hl 1 rfl) ?_
  refine q_iconst hx hb dX2_daysIn_7 ?_
  first | refine q_isub hx hb dX2_daysIn_8 ⟨by omega, by omega⟩ (fun x_2 lx_2 ux_2 ex_2 => ?_) | refine q_isubw hx hb dX2_daysIn_8 (fun x_2 lx_2 ux_2 _ => ?_)
  refine q_call_i hA hK hw (va_runV (As := [.int (iI x_2)]) (rest := [.int (iI x_1)]) ⟨hx, hb, hml, hown, hts⟩ (c_X2_daysUpTo zo l D cy L0 f0 a0 x_2 lx_2 ux_2 m_a0 o_a0 hg _) (cwV 1 hts (gT (inV (mr17 _ (List.mem_of_getElem? (i := 16) rfl)) (mr17 _ (List.mem_of_getElem? (i := 17) rfl)) (mr17 _ (List.mem_of_getElem? (i := 18) rfl)) (mr12 _ (List.mem_of_getElem? (i := 12) rfl)) (mr17 _ (List.mem_of_getElem? (i := 19) rfl)))) rfl rfl rfl (by decide +kernel) ⟨Nat.le_of_ble_eq_true rfl, Nat.le_of_ble_eq_true rfl⟩) (Wd.preV zo hA hZ hw hK m_a0 o_a0 rfl) rfl rfl hl.1 rfl (lv_room (Nat.le_of_ble_eq_true rfl)) dX2_daysIn_9 ⟨Nat.le_of_ble_eq_true rfl, Nat.le_of_ble_eq_true rfl⟩) (fun x_3 L1 f1 H locs lx_3 ux_3 ex_3 hw => ?_)
  obtain ⟨rfl, rfl, ex_3⟩ := ex_3
  first | refine q_isub hx hb dX2_daysIn_12 ⟨by omega, by omega⟩ (fun x_4 lx_4 ux_4 ex_4 => ?_) | refine q_isubw hx hb dX2_daysIn_12 (fun x_4 lx_4 ux_4 _ => ?_)
  exact q_ret_i hx hb hr hlocks hK hAe hw ⟨lx_4, ux_4⟩ (Nat.le_of_ble_eq_true rfl) (Nat.le_of_ble_eq_true rfl) dX2_daysIn_13 ⟨rfl, rfl, by trivial⟩
set_option maxHeartbeats 4000000 in
set_option maxRecDepth 100000 in
theorem c_X2_cycle {Z : Zt} (zo : Zok Z) (l : Launch) (D : va_G) (cy : Cy) (L0 : List Nat) (f0 : Nat → va_E) (a0 : Nat) (m_a0 : a0 ∈ L0) (o_a0 : Ob f0 a0 1) (hg : GI cy L0 f0) : Cl Z l yX2_cycle (Cond.code yX2_cycle cX2_cycle 1 (some .long) :: TB) ({ frames := 0, cells := 0, slots := 0, locals := 0 } : Room) 0 0 D (tq cy) [.ref a0] L0 f0 (fun (r : Int) (L1 : List Nat) (f1 : Nat → va_E) => L0 = L1 ∧ f0 = f1 ∧ (True)) := by
  refine Cl.enter (cc := cX2_cycle) (n := 1) rfl (plainFor_of_name (by decide)) (Nat.le_of_ble_eq_true rfl) ?_
  intro p e s m below meth c ls A hx hb hr hts hown hlocks hnm hml hK hA hAe hw hZ hl
  have hown : s.vm.findClass RX2 = some m.cls := hown
  have hl : lv_has ls 1 [(0, .ref a0)] := hl
  have hN : ZN s := (zo.2.2.2.2 _ _ _ hZ).2
  refine lv_aload_n hx hb dX2_cycle_0 rfl (lv_at hl 0 rfl) ?_
  refine q_geti (ci := 1) (C := RX2) (T := TX2) (N := 4) hx hb hts (fun w h => List.mem_cons_of_mem _ (mfX20 w h)) hown hK hw m_a0 o_a0 rfl 3 (by decide) (hts _ (List.mem_cons_of_mem _ (mr13 _ (List.mem_of_getElem? (i := 2) rfl)))) (fun _ h => h) rfl dX2_cycle_1 (fun x_1 lx_1 ux_1 ex_1 => ?_)
  have bx_1 : 1 ≤ x_1 := by rw [ex_1]; exact hg.1 _ m_a0 1 3 o_a0
  refine q_i2l hx hb dX2_cycle_4 ⟨lx_1, ux_1⟩ ?_
  obtain ⟨j_2, lj_2, uj_2, ej_2⟩ : ∃ z : Int, -9223372036854775808 ≤ z ∧ z ≤ 9223372036854775807 ∧ x_1 = z := ⟨x_1, by omega, by omega, rfl⟩
  rw [show (lJ x_1) = lJ j_2 from by rw [ej_2]]
  exact q_ret_l hx hb hr hlocks hK hAe hw ⟨lj_2, uj_2⟩ (Nat.le_of_ble_eq_true rfl) (Nat.le_of_ble_eq_true rfl) dX2_cycle_5 ⟨rfl, rfl, by trivial⟩
set_option maxHeartbeats 4000000 in
set_option maxRecDepth 100000 in
theorem c_X6_detail {Z : Zt} (zo : Zok Z) (l : Launch) (D : va_G) (cy : Cy) (L0 : List Nat) (f0 : Nat → va_E) (a0 : Nat) : Ci Z l yX6_detail (Cond.code yX6_detail cX6_detail 1 (some .int) :: TB) ({ frames := 0, cells := 0, slots := 0, locals := 0 } : Room) 0 0 D (tq cy) [.ref a0] L0 f0 (fun (r : Int) (L1 : List Nat) (f1 : Nat → va_E) => L0 = L1 ∧ f0 = f1 ∧ (True)) := by
  refine Ci.enter (cc := cX6_detail) (n := 1) rfl (plainFor_of_name (by decide)) (Nat.le_of_ble_eq_true rfl) ?_
  intro p e s m below meth c ls A hx hb hr hts hown hlocks hnm hml hK hA hAe hw hZ hl
  have hown : s.vm.findClass RX6 = some m.cls := hown
  have hl : lv_has ls 1 [(0, .ref a0)] := hl
  have hN : ZN s := (zo.2.2.2.2 _ _ _ hZ).2
  refine q_iconst hx hb dX6_detail_0 ?_
  exact q_ret_i hx hb hr hlocks hK hAe hw ⟨by decide, by decide⟩ (Nat.le_of_ble_eq_true rfl) (Nat.le_of_ble_eq_true rfl) dX6_detail_1 ⟨rfl, rfl, by trivial⟩
set_option maxHeartbeats 4000000 in
set_option maxRecDepth 100000 in
theorem c_X6_nthWeekday {Z : Zt} (zo : Zok Z) (l : Launch) (D : va_G) (cy : Cy) (L0 : List Nat) (f0 : Nat → va_E) (a0 : Nat) : Ci Z l yX6_nthWeekday (Cond.code yX6_nthWeekday cX6_nthWeekday 1 (some .int) :: TB) ({ frames := 0, cells := 0, slots := 0, locals := 0 } : Room) 0 0 D (tq cy) [.ref a0] L0 f0 (fun (r : Int) (L1 : List Nat) (f1 : Nat → va_E) => L0 = L1 ∧ f0 = f1 ∧ (True)) := by
  refine Ci.enter (cc := cX6_nthWeekday) (n := 1) rfl (plainFor_of_name (by decide)) (Nat.le_of_ble_eq_true rfl) ?_
  intro p e s m below meth c ls A hx hb hr hts hown hlocks hnm hml hK hA hAe hw hZ hl
  have hown : s.vm.findClass RX6 = some m.cls := hown
  have hl : lv_has ls 1 [(0, .ref a0)] := hl
  have hN : ZN s := (zo.2.2.2.2 _ _ _ hZ).2
  refine q_iconst hx hb dX6_nthWeekday_0 ?_
  exact q_ret_i hx hb hr hlocks hK hAe hw ⟨by decide, by decide⟩ (Nat.le_of_ble_eq_true rfl) (Nat.le_of_ble_eq_true rfl) dX6_nthWeekday_1 ⟨rfl, rfl, by trivial⟩
set_option maxHeartbeats 4000000 in
set_option maxRecDepth 100000 in
theorem c_J6_bitCount_0f7a4 {Z : Zt} (zo : Zok Z) (l : Launch) (D : va_G) (cy : Cy) (L0 : List Nat) (f0 : Nat → va_E) (x0 : Int) (lx0 : -2147483648 ≤ x0) (ux0 : x0 ≤ 2147483647) : Ci Z l yJ6_bitCount_0f7a4 (Cond.code yJ6_bitCount_0f7a4 cJ6_bitCount_0f7a4 1 (some .int) :: TB) ({ frames := 0, cells := 0, slots := 0, locals := 0 } : Room) 0 0 D (tq cy) [.int (iI x0)] L0 f0 (fun (r : Int) (L1 : List Nat) (f1 : Nat → va_E) => L0 = L1 ∧ f0 = f1 ∧ (True)) := by
  refine Ci.enter (cc := cJ6_bitCount_0f7a4) (n := 1) rfl (plainFor_of_name (by decide)) (Nat.le_of_ble_eq_true rfl) ?_
  intro p e s m below meth c ls A hx hb hr hts hown hlocks hnm hml hK hA hAe hw hZ hl
  have hown : s.vm.findClass RJ6 = some m.cls := hown
  have hl : lv_has ls 1 [(0, .int (iI x0))] := hl
  have hN : ZN s := (zo.2.2.2.2 _ _ _ hZ).2
  refine lv_iload_n hx hb dJ6_bitCount_0f7a4_0 rfl (lv_at hl 0 rfl) ?_
  refine lv_iload_n hx hb dJ6_bitCount_0f7a4_1 rfl (lv_at hl 0 rfl) ?_
  refine q_iconst hx hb dJ6_bitCount_0f7a4_2 ?_
  refine lv_iushr hx hb dJ6_bitCount_0f7a4_3 rfl ?_
  refine q_num (fun x_1 lx_1 ux_1 ex_1 => ?_)
  refine q_ldcw (n := 1431655765) hx hb hown (hts _ (List.mem_cons_of_mem _ (mr18 _ (List.mem_of_getElem? (i := 13) rfl)))) rfl dJ6_bitCount_0f7a4_4 ?_
  refine lv_iand hx hb dJ6_bitCount_0f7a4_7 ?_
  refine q_num (fun x_2 lx_2 ux_2 ex_2 => ?_)
  refine q_isubw hx hb dJ6_bitCount_0f7a4_8 (fun x_3 lx_3 ux_3 _ => ?_)
  refine lv_istore_n (lv' := [(0, .int (iI x_3))]) hx hb dJ6_bitCount_0f7a4_9 rfl hl (by decide) rfl (fun ls hl => ?_)
  refine lv_iload_n hx hb dJ6_bitCount_0f7a4_10 rfl (lv_at hl 0 rfl) ?_
  refine q_ldcw (n := 858993459) hx hb hown (hts _ (List.mem_cons_of_mem _ (mr18 _ (List.mem_of_getElem? (i := 14) rfl)))) rfl dJ6_bitCount_0f7a4_11 ?_
  refine lv_iand hx hb dJ6_bitCount_0f7a4_14 ?_
  refine q_num (fun x_4 lx_4 ux_4 ex_4 => ?_)
  refine lv_iload_n hx hb dJ6_bitCount_0f7a4_15 rfl (lv_at hl 0 rfl) ?_
  refine q_iconst hx hb dJ6_bitCount_0f7a4_16 ?_
  refine lv_iushr hx hb dJ6_bitCount_0f7a4_17 rfl ?_
  refine q_num (fun x_5 lx_5 ux_5 ex_5 => ?_)
  refine q_ldcw (n := 858993459) hx hb hown (hts _ (List.mem_cons_of_mem _ (mr18 _ (List.mem_of_getElem? (i := 14) rfl)))) rfl dJ6_bitCount_0f7a4_18 ?_
  refine lv_iand hx hb dJ6_bitCount_0f7a4_21 ?_
  refine q_num (fun x_6 lx_6 ux_6 ex_6 => ?_)
  refine q_iaddw hx hb dJ6_bitCount_0f7a4_22 (fun x_7 lx_7 ux_7 _ => ?_)
  refine lv_istore_n (lv' := [(0, .int (iI x_7))]) hx hb dJ6_bitCount_0f7a4_23 rfl hl (by decide) rfl (fun ls hl => ?_)
  refine lv_iload_n hx hb dJ6_bitCount_0f7a4_24 rfl (lv_at hl 0 rfl) ?_
  refine lv_iload_n hx hb dJ6_bitCount_0f7a4_25 rfl (lv_at hl 0 rfl) ?_
  refine q_iconst hx hb dJ6_bitCount_0f7a4_26 ?_
  refine lv_iushr hx hb dJ6_bitCount_0f7a4_27 rfl ?_
  refine q_num (fun x_8 lx_8 ux_8 ex_8 => ?_)
  refine q_iaddw hx hb dJ6_bitCount_0f7a4_28 (fun x_9 lx_9 ux_9 _ => ?_)
  refine q_ldcw (n := 252645135) hx hb hown (hts _ (List.mem_cons_of_mem _ (mr18 _ (List.mem_of_getElem? (i := 15) rfl)))) rfl dJ6_bitCount_0f7a4_29 ?_
  refine lv_iand hx hb dJ6_bitCount_0f7a4_32 ?_
  refine q_num (fun x_10 lx_10 ux_10 ex_10 => ?_)
  refine lv_istore_n (lv' := [(0, .int (iI x_10))]) hx hb dJ6_bitCount_0f7a4_33 rfl hl (by decide) rfl (fun ls hl => ?_)
  refine lv_iload_n hx hb dJ6_bitCount_0f7a4_34 rfl (lv_at hl 0 rfl) ?_
  refine lv_iload_n hx hb dJ6_bitCount_0f7a4_35 rfl (lv_at hl 0 rfl) ?_
  refine q_bipush hx hb dJ6_bitCount_0f7a4_36 rfl ?_
  refine lv_iushr hx hb dJ6_bitCount_0f7a4_38 rfl ?_
  refine q_num (fun x_11 lx_11 ux_11 ex_11 => ?_)
  refine q_iaddw hx hb dJ6_bitCount_0f7a4_39 (fun x_12 lx_12 ux_12 _ => ?_)
  refine lv_istore_n (lv' := [(0, .int (iI x_12))]) hx hb dJ6_bitCount_0f7a4_40 rfl hl (by decide) rfl (fun ls hl => ?_)
  refine lv_iload_n hx hb dJ6_bitCount_0f7a4_41 rfl (lv_at hl 0 rfl) ?_
  refine lv_iload_n hx hb dJ6_bitCount_0f7a4_42 rfl (lv_at hl 0 rfl) ?_
  refine q_bipush hx hb dJ6_bitCount_0f7a4_43 rfl ?_
  refine lv_iushr hx hb dJ6_bitCount_0f7a4_45 rfl ?_
  refine q_num (fun x_13 lx_13 ux_13 ex_13 => ?_)
  refine q_iaddw hx hb dJ6_bitCount_0f7a4_46 (fun x_14 lx_14 ux_14 _ => ?_)
  refine lv_istore_n (lv' := [(0, .int (iI x_14))]) hx hb dJ6_bitCount_0f7a4_47 rfl hl (by decide) rfl (fun ls hl => ?_)
  refine lv_iload_n hx hb dJ6_bitCount_0f7a4_48 rfl (lv_at hl 0 rfl) ?_
  refine q_bipush hx hb dJ6_bitCount_0f7a4_49 rfl ?_
  refine lv_iand hx hb dJ6_bitCount_0f7a4_51 ?_
  refine q_num (fun x_15 lx_15 ux_15 ex_15 => ?_)
  exact q_ret_i hx hb hr hlocks hK hAe hw ⟨lx_15, ux_15⟩ (Nat.le_of_ble_eq_true rfl) (Nat.le_of_ble_eq_true rfl) dJ6_bitCount_0f7a4_52 ⟨rfl, rfl, by trivial⟩
set_option maxHeartbeats 4000000 in
set_option maxRecDepth 100000 in
theorem c_X8_firstWeekday {Z : Zt} (zo : Zok Z) (l : Launch) (D : va_G) (cy : Cy) (L0 : List Nat) (f0 : Nat → va_E) (a0 : Nat) (x1 : Int) (lx1 : -2147483648 ≤ x1) (ux1 : x1 ≤ 2147483647) (m_a0 : a0 ∈ L0) (o_a0 : Ob f0 a0 6) (hg : GI cy L0 f0) : Ci Z l yX8_firstWeekday (Cond.code yX8_firstWeekday cX8_firstWeekday 3 (some .int) :: TB) ({ frames := 0, cells := 0, slots := 0, locals := 0 } : Room) 0 0 D (tq cy) [.ref a0, .int (iI x1)] L0 f0 (fun (r : Int) (L1 : List Nat) (f1 : Nat → va_E) => L0 = L1 ∧ f0 = f1 ∧ (True)) := by
  refine Ci.enter (cc := cX8_firstWeekday) (n := 3) rfl (plainFor_of_name (by decide)) (Nat.le_of_ble_eq_true rfl) ?_
  intro p e s m below meth c ls A hx hb hr hts hown hlocks hnm hml hK hA hAe hw hZ hl
  have hown : s.vm.findClass RX8 = some m.cls := hown
  have hl : lv_has ls 3 [(0, .ref a0), (1, .int (iI x1))] := hl
  have hN : ZN s := (zo.2.2.2.2 _ _ _ hZ).2
  refine lv_iload_n hx hb dX8_firstWeekday_0 rfl (lv_at hl 1 rfl) ?_
  refine lv_istore_n (lv' := [(2, .int (iI x1)), (0, .ref a0), (1, .int (iI x1))]) hx hb dX8_firstWeekday_1 rfl hl (by decide) rfl (fun ls hl => ?_)
  have J2 : ∀ (n2 : Nat) (y2_2 : Int) (ly2_2 : -2147483648 ≤ y2_2) (uy2_2 : y2_2 ≤ 2147483647) (hn2 : ((2147483647 : Int) - y2_2).toNat < n2) (H : Heap) (locs : List Loc) (ls : Array Slot) (hw : Wd D A s.heap L0 f0 H locs) (hl : lv_has ls 3 [(0, .ref a0), (2, .int (iI y2_2))]), W p l e ({ frames := 0, cells := 0, slots := 0, locals := 0 } : Room) s m ([.ref a0, .int (iI x1)] : List Value).toArray below meth c H locs (0) (0) (MQ below (Qi D (tq cy) L0 f0 s.heap.size (fun (r : Int) (L1 : List Nat) (f1 : Nat → va_E) => L0 = L1 ∧ f0 = f1 ∧ (True))) ([.ref a0, .int (iI x1)] : List Value).toArray s 0 0 A) (F0 m 2 ls []) := by
    intro n2
    induction n2 with
    | zero => intro y2_2 ly2_2 uy2_2 hn2; exact absurd hn2 (Nat.not_lt_zero _)
    | succ n2 ih2 =>
      intro y2_2 ly2_2 uy2_2 hn2 H locs ls hw hl
      refine lv_iload_n hx hb dX8_firstWeekday_2 rfl (lv_at hl 1 rfl) ?_
      refine q_bipush hx hb dX8_firstWeekday_3 rfl ?_
      refine q_icmp_ge (tgt := 28) hx hb dX8_firstWeekday_5 (by decide) ⟨ly2_2, uy2_2⟩ ⟨by decide, by decide⟩ (fun c5 => ?_) (fun c5 => ?_)
      · refine q_iconst hx hb dX8_firstWeekday_28 ?_
        exact q_ret_i hx hb hr hlocks hK hAe hw ⟨by decide, by decide⟩ (Nat.le_of_ble_eq_true rfl) (Nat.le_of_ble_eq_true rfl) dX8_firstWeekday_29 ⟨rfl, rfl, by trivial⟩
      · refine lv_aload_n hx hb dX8_firstWeekday_8 rfl (lv_at hl 0 rfl) ?_
        refine q_geti (ci := 6) (C := RX8) (T := TX8) (N := 6) hx hb hts (fun w h => List.mem_cons_of_mem _ (mfX80 w h)) hown hK hw m_a0 o_a0 rfl 4 (by decide) (hts _ (List.mem_cons_of_mem _ (mr13 _ (List.mem_of_getElem? (i := 9) rfl)))) (fun _ h => h) rfl dX8_firstWeekday_9 (fun x_1 lx_1 ux_1 ex_1 => ?_)
        refine lv_iload_n hx hb dX8_firstWeekday_12 rfl (lv_at hl 1 rfl) ?_
        refine lv_ishr hx hb dX8_firstWeekday_13 ?_
        refine q_num (fun x_2 lx_2 ux_2 ex_2 => ?_)
        refine q_iconst hx hb dX8_firstWeekday_14 ?_
        refine lv_iand hx hb dX8_firstWeekday_15 ?_
        refine q_num (fun x_3 lx_3 ux_3 ex_3 => ?_)
        refine q_iconst hx hb dX8_firstWeekday_16 ?_
        refine q_icmp_ne (tgt := 22) hx hb dX8_firstWeekday_17 (by decide) ⟨lx_3, ux_3⟩ ⟨by decide, by decide⟩ (fun c17 => ?_) (fun c17 => ?_)
        · obtain ⟨x_4, lx_4, ux_4, hx_4, ex_4⟩ := q_inc y2_2 (1)
          try (replace ex_4 : x_4 = y2_2 + (1) := by omega)
          refine lv_iinc (v := iI x_4) (lv' := [(2, .int (iI x_4)), (0, .ref a0)]) hx hb dX8_firstWeekday_22 hl (k := 1) rfl hx_4 (by decide) rfl (fun ls hl => ?_)
          refine lv_goto (tgt := 2) hx hb dX8_firstWeekday_25 (by decide) ?_
          exact ih2 x_4 lx_4 ux_4 (by omega) _ _ _ hw (lv_sub hl [1, 0] rfl)
        · refine lv_iload_n hx hb dX8_firstWeekday_20 rfl (lv_at hl 1 rfl) ?_
          exact q_ret_i hx hb hr hlocks hK hAe hw ⟨ly2_2, uy2_2⟩ (Nat.le_of_ble_eq_true rfl) (Nat.le_of_ble_eq_true rfl) dX8_firstWeekday_21 ⟨rfl, rfl, by trivial⟩
  exact J2 ((((2147483647 : Int) - x1).toNat) + 1) x1 lx1 ux1 (by omega) _ _ _ hw (lv_sub hl [1, 0] rfl)
set_option maxHeartbeats 4000000 in
set_option maxRecDepth 100000 in
theorem c_X8_lastWeekday {Z : Zt} (zo : Zok Z) (l : Launch) (D : va_G) (cy : Cy) (L0 : List Nat) (f0 : Nat → va_E) (a0 : Nat) (x1 : Int) (lx1 : -2147483648 ≤ x1) (ux1 : x1 ≤ 2147483647) (m_a0 : a0 ∈ L0) (o_a0 : Ob f0 a0 6) (hg : GI cy L0 f0) : Ci Z l yX8_lastWeekday (Cond.code yX8_lastWeekday cX8_lastWeekday 3 (some .int) :: TB) ({ frames := 0, cells := 0, slots := 0, locals := 0 } : Room) 0 0 D (tq cy) [.ref a0, .int (iI x1)] L0 f0 (fun (r : Int) (L1 : List Nat) (f1 : Nat → va_E) => L0 = L1 ∧ f0 = f1 ∧ (True)) := by
  refine Ci.enter (cc := cX8_lastWeekday) (n := 3) rfl (plainFor_of_name (by decide)) (Nat.le_of_ble_eq_true rfl) ?_
  intro p e s m below meth c ls A hx hb hr hts hown hlocks hnm hml hK hA hAe hw hZ hl
  have hown : s.vm.findClass RX8 = some m.cls := hown
  have hl : lv_has ls 3 [(0, .ref a0), (1, .int (iI x1))] := hl
  have hN : ZN s := (zo.2.2.2.2 _ _ _ hZ).2
  refine lv_iload_n hx hb dX8_lastWeekday_0 rfl (lv_at hl 1 rfl) ?_
  refine lv_istore_n (lv' := [(2, .int (iI x1)), (0, .ref a0), (1, .int (iI x1))]) hx hb dX8_lastWeekday_1 rfl hl (by decide) rfl (fun ls hl => ?_)
  have J2 : ∀ (n2 : Nat) (y2_2 : Int) (ly2_2 : -2147483648 ≤ y2_2) (uy2_2 : y2_2 ≤ 2147483647) (hn2 : (y2_2 + (2147483648 : Int)).toNat < n2) (H : Heap) (locs : List Loc) (ls : Array Slot) (hw : Wd D A s.heap L0 f0 H locs) (hl : lv_has ls 3 [(0, .ref a0), (2, .int (iI y2_2))]), W p l e ({ frames := 0, cells := 0, slots := 0, locals := 0 } : Room) s m ([.ref a0, .int (iI x1)] : List Value).toArray below meth c H locs (0) (0) (MQ below (Qi D (tq cy) L0 f0 s.heap.size (fun (r : Int) (L1 : List Nat) (f1 : Nat → va_E) => L0 = L1 ∧ f0 = f1 ∧ (True))) ([.ref a0, .int (iI x1)] : List Value).toArray s 0 0 A) (F0 m 2 ls []) := by
    intro n2
    induction n2 with
    | zero => intro y2_2 ly2_2 uy2_2 hn2; exact absurd hn2 (Nat.not_lt_zero _)
    | succ n2 ih2 =>
      intro y2_2 ly2_2 uy2_2 hn2 H locs ls hw hl
      refine lv_iload_n hx hb dX8_lastWeekday_2 rfl (lv_at hl 1 rfl) ?_
      refine q_if_lt (tgt := 26) hx hb dX8_lastWeekday_3 (by decide) ⟨ly2_2, uy2_2⟩ (fun c3 => ?_) (fun c3 => ?_)
      · refine q_iconst hx hb dX8_lastWeekday_26 ?_
        exact q_ret_i hx hb hr hlocks hK hAe hw ⟨by decide, by decide⟩ (Nat.le_of_ble_eq_true rfl) (Nat.le_of_ble_eq_true rfl) dX8_lastWeekday_27 ⟨rfl, rfl, by trivial⟩
      · refine lv_aload_n hx hb dX8_lastWeekday_6 rfl (lv_at hl 0 rfl) ?_
        refine q_geti (ci := 6) (C := RX8) (T := TX8) (N := 6) hx hb hts (fun w h => List.mem_cons_of_mem _ (mfX80 w h)) hown hK hw m_a0 o_a0 rfl 4 (by decide) (hts _ (List.mem_cons_of_mem _ (mr13 _ (List.mem_of_getElem? (i := 9) rfl)))) (fun _ h => h) rfl dX8_lastWeekday_7 (fun x_1 lx_1 ux_1 ex_1 => ?_)
        refine lv_iload_n hx hb dX8_lastWeekday_10 rfl (lv_at hl 1 rfl) ?_
        refine lv_ishr hx hb dX8_lastWeekday_11 ?_
        refine q_num (fun x_2 lx_2 ux_2 ex_2 => ?_)
        refine q_iconst hx hb dX8_lastWeekday_12 ?_
        refine lv_iand hx hb dX8_lastWeekday_13 ?_
        refine q_num (fun x_3 lx_3 ux_3 ex_3 => ?_)
        refine q_iconst hx hb dX8_lastWeekday_14 ?_
        refine q_icmp_ne (tgt := 20) hx hb dX8_lastWeekday_15 (by decide) ⟨lx_3, ux_3⟩ ⟨by decide, by decide⟩ (fun c15 => ?_) (fun c15 => ?_)
        · obtain ⟨x_4, lx_4, ux_4, hx_4, ex_4⟩ := q_inc y2_2 (-1)
          try (replace ex_4 : x_4 = y2_2 + (-1) := by omega)
          refine lv_iinc (v := iI x_4) (lv' := [(2, .int (iI x_4)), (0, .ref a0)]) hx hb dX8_lastWeekday_20 hl (k := 1) rfl hx_4 (by decide) rfl (fun ls hl => ?_)
          refine lv_goto (tgt := 2) hx hb dX8_lastWeekday_23 (by decide) ?_
          exact ih2 x_4 lx_4 ux_4 (by omega) _ _ _ hw (lv_sub hl [1, 0] rfl)
        · refine lv_iload_n hx hb dX8_lastWeekday_18 rfl (lv_at hl 1 rfl) ?_
          exact q_ret_i hx hb hr hlocks hK hAe hw ⟨ly2_2, uy2_2⟩ (Nat.le_of_ble_eq_true rfl) (Nat.le_of_ble_eq_true rfl) dX8_lastWeekday_19 ⟨rfl, rfl, by trivial⟩
  exact J2 (((x1 + (2147483648 : Int)).toNat) + 1) x1 lx1 ux1 (by omega) _ _ _ hw (lv_sub hl [1, 0] rfl)
set_option maxHeartbeats 4000000 in
set_option maxRecDepth 100000 in
theorem c_X8_dayFrom {Z : Zt} (zo : Zok Z) (l : Launch) (D : va_G) (cy : Cy) (L0 : List Nat) (f0 : Nat → va_E) (a0 : Nat) (x1 : Int) (lx1 : -2147483648 ≤ x1) (ux1 : x1 ≤ 2147483647) (m_a0 : a0 ∈ L0) (o_a0 : Ob f0 a0 6) (hg : GI cy L0 f0) : Ci Z l yX8_dayFrom (Cond.code yX8_dayFrom cX8_dayFrom 9 (some .int) :: TB) ({ frames := 1, cells := 0, slots := 0, locals := 22 } : Room) 0 0 D (tq cy) [.ref a0, .int (iI x1)] L0 f0 (fun (r : Int) (L1 : List Nat) (f1 : Nat → va_E) => L0 = L1 ∧ f0 = f1 ∧ (True)) := by
  refine Ci.enter (cc := cX8_dayFrom) (n := 9) rfl (plainFor_of_name (by decide)) (Nat.le_of_ble_eq_true rfl) ?_
  intro p e s m below meth c ls A hx hb hr hts hown hlocks hnm hml hK hA hAe hw hZ hl
  have hown : s.vm.findClass RX8 = some m.cls := hown
  have hl : lv_has ls 9 [(0, .ref a0), (1, .int (iI x1))] := hl
  have hN : ZN s := (zo.2.2.2.2 _ _ _ hZ).2
  refine lv_iload_n hx hb dX8_dayFrom_0 rfl (lv_at hl 1 rfl) ?_
  refine lv_aload_n hx hb dX8_dayFrom_1 rfl (lv_at hl 0 rfl) ?_
  refine q_geti (ci := 6) (C := RX8) (T := TX8) (N := 6) hx hb hts (fun w h => List.mem_cons_of_mem _ (mfX80 w h)) hown hK hw m_a0 o_a0 rfl 2 (by decide) (hts _ (List.mem_cons_of_mem _ (mr16 _ (List.mem_of_getElem? (i := 6) rfl)))) (fun x9 h9 => u_same (hts _ (List.mem_cons_of_mem _ (mr16 _ (List.mem_of_getElem? (i := 7) rfl)))) x9 h9) rfl dX8_dayFrom_2 (fun x_1 lx_1 ux_1 ex_1 => ?_)
  refine q_max hx hb (hml.trans hl.1.symm) hown (hts _ (List.mem_cons_of_mem _ (mr13 _ (List.mem_of_getElem? (i := 7) rfl)))) (hts _ (List.mem_cons_of_mem _ (mr13 _ (List.mem_of_getElem? (i := 0) rfl)))) (hts _ (List.mem_cons_of_mem _ (mr6 _ (List.mem_of_getElem? (i := 14) rfl)))) (hts _ (List.mem_cons_of_mem _ (mr13 _ (List.mem_of_getElem? (i := 1) rfl)))) (Nat.le_of_ble_eq_true rfl) (Nat.le_of_ble_eq_true rfl) (Nat.le_of_ble_eq_true rfl) (Nat.le_of_ble_eq_true rfl) ⟨lx1, ux1⟩ ⟨lx_1, ux_1⟩ dX8_dayFrom_5 (fun x_2 lx_2 ux_2 ex_2 => ?_)
  refine lv_istore_n (lv' := [(2, .int (iI x_2)), (0, .ref a0), (1, .int (iI x1))]) hx hb dX8_dayFrom_8 rfl hl (by decide) rfl (fun ls hl => ?_)
  refine lv_iload_n hx hb dX8_dayFrom_9 rfl (lv_at hl 0 rfl) ?_
  refine lv_aload_n hx hb dX8_dayFrom_10 rfl (lv_at hl 1 rfl) ?_
  refine q_geti (ci := 6) (C := RX8) (T := TX8) (N := 6) hx hb hts (fun w h => List.mem_cons_of_mem _ (mfX80 w h)) hown hK hw m_a0 o_a0 rfl 5 (by decide) (hts _ (List.mem_cons_of_mem _ (mr13 _ (List.mem_of_getElem? (i := 10) rfl)))) (fun _ h => h) rfl dX8_dayFrom_11 (fun x_3 lx_3 ux_3 ex_3 => ?_)
  first | refine q_isub hx hb dX8_dayFrom_14 ⟨by omega, by omega⟩ (fun x_4 lx_4 ux_4 ex_4 => ?_) | refine q_isubw hx hb dX8_dayFrom_14 (fun x_4 lx_4 ux_4 _ => ?_)
  refine q_bipush hx hb dX8_dayFrom_15 rfl ?_
  first | refine q_idiv hx hb dX8_dayFrom_17 ⟨lx_4, ux_4⟩ ⟨by decide, by decide⟩ (by omega) (by omega) (fun x_5 lx_5 ux_5 ex_5 => ?_) | refine q_idivw hx hb dX8_dayFrom_17 ⟨lx_4, ux_4⟩ ⟨by decide, by decide⟩ (by omega) (fun x_5 lx_5 ux_5 ex_5 => ?_)
  refine lv_istore_n (lv' := [(3, .int (iI x_5)), (2, .int (iI x_2)), (0, .ref a0), (1, .int (iI x1))]) hx hb dX8_dayFrom_18 rfl hl (by decide) rfl (fun ls hl => ?_)
  refine lv_iload_n hx hb dX8_dayFrom_19 rfl (lv_at hl 0 rfl) ?_
  refine lv_aload_n hx hb dX8_dayFrom_20 rfl (lv_at hl 2 rfl) ?_
  refine q_geti (ci := 6) (C := RX8) (T := TX8) (N := 6) hx hb hts (fun w h => List.mem_cons_of_mem _ (mfX80 w h)) hown hK hw m_a0 o_a0 rfl 3 (by decide) (hts _ (List.mem_cons_of_mem _ (mr13 _ (List.mem_of_getElem? (i := 8) rfl)))) (fun _ h => h) rfl dX8_dayFrom_21 (fun x_6 lx_6 ux_6 ex_6 => ?_)
  have bx_6 : 1 ≤ x_6 := by rw [ex_6]; exact hg.1 _ m_a0 6 3 o_a0
  first | refine q_irem hx hb dX8_dayFrom_24 ⟨lx_5, ux_5⟩ ⟨lx_6, ux_6⟩ (by omega) (by omega) (fun x_7 lx_7 ux_7 ex_7 => ?_) | refine q_iremw hx hb dX8_dayFrom_24 ⟨lx_5, ux_5⟩ ⟨lx_6, ux_6⟩ (by omega) (fun x_7 lx_7 ux_7 ex_7 => ?_)
  refine lv_istore (lv' := [(4, .int (iI x_7)), (3, .int (iI x_5)), (2, .int (iI x_2)), (0, .ref a0), (1, .int (iI x1))]) hx hb dX8_dayFrom_25 hl (by decide) rfl (fun ls hl => ?_)
  refine lv_iload hx hb dX8_dayFrom_27 (lv_at hl 0 rfl) ?_
  have J45 : ∀ (w0_45 : Int) (lw0_45 : -2147483648 ≤ w0_45) (uw0_45 : w0_45 ≤ 2147483647) (H : Heap) (locs : List Loc) (ls : Array Slot) (hw : Wd D A s.heap L0 f0 H locs) (hl : lv_has ls 9 [(0, .ref a0), (3, .int (iI x_5)), (4, .int (iI x_7))]), W p l e ({ frames := 1, cells := 0, slots := 0, locals := 22 } : Room) s m ([.ref a0, .int (iI x1)] : List Value).toArray below meth c H locs (0) (0) (MQ below (Qi D (tq cy) L0 f0 s.heap.size (fun (r : Int) (L1 : List Nat) (f1 : Nat → va_E) => L0 = L1 ∧ f0 = f1 ∧ (True))) ([.ref a0, .int (iI x1)] : List Value).toArray s 0 0 A) (F0 m 45 ls [.int (iI w0_45)]) := by
    intro w0_45 lw0_45 uw0_45 H locs ls hw hl
    refine lv_istore (lv' := [(5, .int (iI w0_45)), (0, .ref a0), (3, .int (iI x_5)), (4, .int (iI x_7))]) hx hb dX8_dayFrom_45 hl (by decide) rfl (fun ls hl => ?_)
    refine lv_iload hx hb dX8_dayFrom_47 (lv_at hl 3 rfl) ?_
    have J65 : ∀ (w0_65 : Int) (lw0_65 : -2147483648 ≤ w0_65) (uw0_65 : w0_65 ≤ 2147483647) (H : Heap) (locs : List Loc) (ls : Array Slot) (hw : Wd D A s.heap L0 f0 H locs) (hl : lv_has ls 9 [(0, .ref a0), (5, .int (iI w0_45))]), W p l e ({ frames := 1, cells := 0, slots := 0, locals := 22 } : Room) s m ([.ref a0, .int (iI x1)] : List Value).toArray below meth c H locs (0) (0) (MQ below (Qi D (tq cy) L0 f0 s.heap.size (fun (r : Int) (L1 : List Nat) (f1 : Nat → va_E) => L0 = L1 ∧ f0 = f1 ∧ (True))) ([.ref a0, .int (iI x1)] : List Value).toArray s 0 0 A) (F0 m 65 ls [.int (iI w0_65)]) := by
      intro w0_65 lw0_65 uw0_65 H locs ls hw hl
      refine lv_istore (lv' := [(6, .int (iI w0_65)), (0, .ref a0), (5, .int (iI w0_45))]) hx hb dX8_dayFrom_65 hl (by decide) rfl (fun ls hl => ?_)
      refine lv_aload_n hx hb dX8_dayFrom_67 rfl (lv_at hl 1 rfl) ?_
      refine lv_iload hx hb dX8_dayFrom_68 (lv_at hl 2 rfl) ?_
      refine q_call_i hA hK hw (va_runV (As := [.int (iI w0_45)]) (rest := []) ⟨hx, hb, hml, hown, hts⟩ (c_X8_firstWeekday zo l D cy L0 f0 a0 w0_45 lw0_45 uw0_45 m_a0 o_a0 hg _) (cwV 1 hts (gT (inV (mr16 _ (List.mem_of_getElem? (i := 9) rfl)) (mr16 _ (List.mem_of_getElem? (i := 10) rfl)) (mr16 _ (List.mem_of_getElem? (i := 11) rfl)) (mr12 _ (List.mem_of_getElem? (i := 15) rfl)) (mr16 _ (List.mem_of_getElem? (i := 12) rfl)))) rfl rfl rfl (by decide +kernel) ⟨Nat.le_of_ble_eq_true rfl, Nat.le_of_ble_eq_true rfl⟩) (Wd.preV zo hA hZ hw hK m_a0 o_a0 rfl) rfl rfl hl.1 rfl (lv_room (Nat.le_of_ble_eq_true rfl)) dX8_dayFrom_70 ⟨Nat.le_of_ble_eq_true rfl, Nat.le_of_ble_eq_true rfl⟩) (fun x_8 L1 f1 H locs lx_8 ux_8 ex_8 hw => ?_)
      obtain ⟨rfl, rfl, ex_8⟩ := ex_8
      refine lv_istore (lv' := [(7, .int (iI x_8)), (6, .int (iI w0_65)), (0, .ref a0), (5, .int (iI w0_45))]) hx hb dX8_dayFrom_73 hl (by decide) rfl (fun ls hl => ?_)
      refine lv_iload hx hb dX8_dayFrom_75 (lv_at hl 0 rfl) ?_
      refine q_iconst hx hb dX8_dayFrom_77 ?_
      have J97 : ∀ (z6_97 : Int) (lz6_97 : -2147483648 ≤ z6_97) (uz6_97 : z6_97 ≤ 2147483647) (z7_97 : Int) (lz7_97 : -2147483648 ≤ z7_97) (uz7_97 : z7_97 ≤ 2147483647) (H : Heap) (locs : List Loc) (ls : Array Slot) (hw : Wd D A s.heap L0 f0 H locs) (hl : lv_has ls 9 [(0, .ref a0), (6, .int (iI z6_97)), (7, .int (iI z7_97))]), W p l e ({ frames := 1, cells := 0, slots := 0, locals := 22 } : Room) s m ([.ref a0, .int (iI x1)] : List Value).toArray below meth c H locs (0 + 0) (0 + 0) (MQ below (Qi D (tq cy) L0 f0 s.heap.size (fun (r : Int) (L1 : List Nat) (f1 : Nat → va_E) => L0 = L1 ∧ f0 = f1 ∧ (True))) ([.ref a0, .int (iI x1)] : List Value).toArray s 0 0 A) (F0 m 97 ls []) := by
        intro z6_97 lz6_97 uz6_97 z7_97 lz7_97 uz7_97 H locs ls hw hl
        refine lv_aload_n hx hb dX8_dayFrom_97 rfl (lv_at hl 0 rfl) ?_
        refine q_geti (ci := 6) (C := RX8) (T := TX8) (N := 6) hx hb hts (fun w h => List.mem_cons_of_mem _ (mfX80 w h)) hown hK hw m_a0 o_a0 rfl 5 (by decide) (hts _ (List.mem_cons_of_mem _ (mr13 _ (List.mem_of_getElem? (i := 10) rfl)))) (fun _ h => h) rfl dX8_dayFrom_98 (fun x_9 lx_9 ux_9 ex_9 => ?_)
        refine q_bipush hx hb dX8_dayFrom_101 rfl ?_
        refine lv_iload hx hb dX8_dayFrom_103 (lv_at hl 1 rfl) ?_
        first | refine q_imul hx hb dX8_dayFrom_105 ⟨by omega, by omega⟩ (fun x_10 lx_10 ux_10 ex_10 => ?_) | refine q_imulw hx hb dX8_dayFrom_105 (fun x_10 lx_10 ux_10 _ => ?_)
        first | refine q_iadd hx hb dX8_dayFrom_106 ⟨by omega, by omega⟩ (fun x_11 lx_11 ux_11 ex_11 => ?_) | refine q_iaddw hx hb dX8_dayFrom_106 (fun x_11 lx_11 ux_11 _ => ?_)
        refine lv_iload hx hb dX8_dayFrom_107 (lv_at hl 2 rfl) ?_
        first | refine q_iadd hx hb dX8_dayFrom_109 ⟨by omega, by omega⟩ (fun x_12 lx_12 ux_12 ex_12 => ?_) | refine q_iaddw hx hb dX8_dayFrom_109 (fun x_12 lx_12 ux_12 _ => ?_)
        refine lv_istore (lv' := [(8, .int (iI x_12)), (0, .ref a0), (6, .int (iI z6_97)), (7, .int (iI z7_97))]) hx hb dX8_dayFrom_110 hl (by decide) rfl (fun ls hl => ?_)
        refine lv_iload hx hb dX8_dayFrom_112 (lv_at hl 0 rfl) ?_
        refine q_ldc (n := 36524) hx hb hown (hts _ (List.mem_cons_of_mem _ (mr16 _ (List.mem_of_getElem? (i := 8) rfl)))) rfl dX8_dayFrom_114 ?_
        refine q_icmp_gt (tgt := 124) hx hb dX8_dayFrom_116 (by decide) ⟨lx_12, ux_12⟩ ⟨by decide, by decide⟩ (fun c116 => ?_) (fun c116 => ?_)
        · refine q_iconst hx hb dX8_dayFrom_124 ?_
          exact q_ret_i hx hb hr hlocks hK hAe hw ⟨by decide, by decide⟩ (Nat.le_of_ble_eq_true rfl) (Nat.le_of_ble_eq_true rfl) dX8_dayFrom_125 ⟨rfl, rfl, by trivial⟩
        · refine lv_iload hx hb dX8_dayFrom_119 (lv_at hl 0 rfl) ?_
          refine lv_goto (tgt := 125) hx hb dX8_dayFrom_121 (by decide) ?_
          exact q_ret_i hx hb hr hlocks hK hAe hw ⟨lx_12, ux_12⟩ (Nat.le_of_ble_eq_true rfl) (Nat.le_of_ble_eq_true rfl) dX8_dayFrom_125 ⟨rfl, rfl, by trivial⟩
      refine q_icmp_ne (tgt := 97) hx hb dX8_dayFrom_78 (by decide) ⟨lx_8, ux_8⟩ ⟨by decide, by decide⟩ (fun c78 => ?_) (fun c78 => ?_)
      · exact J97 w0_65 lw0_65 uw0_65 x_8 lx_8 ux_8 _ _ _ hw (lv_sub hl [2, 1, 0] rfl)
      · refine lv_iload hx hb dX8_dayFrom_81 (lv_at hl 1 rfl) ?_
        refine lv_aload_n hx hb dX8_dayFrom_83 rfl (lv_at hl 2 rfl) ?_
        refine q_geti (ci := 6) (C := RX8) (T := TX8) (N := 6) hx hb hts (fun w h => List.mem_cons_of_mem _ (mfX80 w h)) hown hK hw m_a0 o_a0 rfl 3 (by decide) (hts _ (List.mem_cons_of_mem _ (mr13 _ (List.mem_of_getElem? (i := 8) rfl)))) (fun _ h => h) rfl dX8_dayFrom_84 (fun x_13 lx_13 ux_13 ex_13 => ?_)
        have bx_13 : 1 ≤ x_13 := by rw [ex_13]; exact hg.1 _ m_a0 6 3 o_a0
        first | refine q_iadd hx hb dX8_dayFrom_87 ⟨by omega, by omega⟩ (fun x_14 lx_14 ux_14 ex_14 => ?_) | refine q_iaddw hx hb dX8_dayFrom_87 (fun x_14 lx_14 ux_14 _ => ?_)
        refine lv_istore (lv' := [(6, .int (iI x_14)), (7, .int (iI x_8)), (0, .ref a0), (5, .int (iI w0_45))]) hx hb dX8_dayFrom_88 hl (by decide) rfl (fun ls hl => ?_)
        refine lv_aload_n hx hb dX8_dayFrom_90 rfl (lv_at hl 2 rfl) ?_
        refine q_iconst hx hb dX8_dayFrom_91 ?_
        refine q_call_i hA hK hw (va_runV (As := [.int (iI 0)]) (rest := []) ⟨hx, hb, hml, hown, hts⟩ (c_X8_firstWeekday zo l D cy L0 f0 a0 0 (by decide) (by decide) m_a0 o_a0 hg _) (cwV 1 hts (gT (inV (mr16 _ (List.mem_of_getElem? (i := 9) rfl)) (mr16 _ (List.mem_of_getElem? (i := 10) rfl)) (mr16 _ (List.mem_of_getElem? (i := 11) rfl)) (mr12 _ (List.mem_of_getElem? (i := 15) rfl)) (mr16 _ (List.mem_of_getElem? (i := 12) rfl)))) rfl rfl rfl (by decide +kernel) ⟨Nat.le_of_ble_eq_true rfl, Nat.le_of_ble_eq_true rfl⟩) (Wd.preV zo hA hZ hw hK m_a0 o_a0 rfl) rfl rfl hl.1 rfl (lv_room (Nat.le_of_ble_eq_true rfl)) dX8_dayFrom_92 ⟨Nat.le_of_ble_eq_true rfl, Nat.le_of_ble_eq_true rfl⟩) (fun x_15 L1 f1 H locs lx_15 ux_15 ex_15 hw => ?_)
        obtain ⟨rfl, rfl, ex_15⟩ := ex_15
        refine lv_istore (lv' := [(7, .int (iI x_15)), (6, .int (iI x_14)), (0, .ref a0), (5, .int (iI w0_45))]) hx hb dX8_dayFrom_95 hl (by decide) rfl (fun ls hl => ?_)
        exact J97 x_14 lx_14 ux_14 x_15 lx_15 ux_15 _ _ _ hw (lv_sub hl [2, 1, 0] rfl)
    refine q_if_ne (tgt := 56) hx hb dX8_dayFrom_49 (by decide) ⟨lx_7, ux_7⟩ (fun c49 => ?_) (fun c49 => ?_)
    · refine lv_iload_n hx hb dX8_dayFrom_56 rfl (lv_at hl 2 rfl) ?_
      refine lv_iload hx hb dX8_dayFrom_57 (lv_at hl 3 rfl) ?_
      first | refine q_isub hx hb dX8_dayFrom_59 ⟨by omega, by omega⟩ (fun x_16 lx_16 ux_16 ex_16 => ?_) | refine q_isubw hx hb dX8_dayFrom_59 (fun x_16 lx_16 ux_16 _ => ?_)
      refine lv_aload_n hx hb dX8_dayFrom_60 rfl (lv_at hl 1 rfl) ?_
      refine q_geti (ci := 6) (C := RX8) (T := TX8) (N := 6) hx hb hts (fun w h => List.mem_cons_of_mem _ (mfX80 w h)) hown hK hw m_a0 o_a0 rfl 3 (by decide) (hts _ (List.mem_cons_of_mem _ (mr13 _ (List.mem_of_getElem? (i := 8) rfl)))) (fun _ h => h) rfl dX8_dayFrom_61 (fun x_17 lx_17 ux_17 ex_17 => ?_)
      have bx_17 : 1 ≤ x_17 := by rw [ex_17]; exact hg.1 _ m_a0 6 3 o_a0
      first | refine q_iadd hx hb dX8_dayFrom_64 ⟨by omega, by omega⟩ (fun x_18 lx_18 ux_18 ex_18 => ?_) | refine q_iaddw hx hb dX8_dayFrom_64 (fun x_18 lx_18 ux_18 _ => ?_)
      exact J65 x_18 lx_18 ux_18 _ _ _ hw (lv_sub hl [1, 0] rfl)
    · refine lv_iload_n hx hb dX8_dayFrom_52 rfl (lv_at hl 2 rfl) ?_
      refine lv_goto (tgt := 65) hx hb dX8_dayFrom_53 (by decide) ?_
      exact J65 x_5 lx_5 ux_5 _ _ _ hw (lv_sub hl [1, 0] rfl)
  refine q_if_ne (tgt := 44) hx hb dX8_dayFrom_29 (by decide) ⟨lx_7, ux_7⟩ (fun c29 => ?_) (fun c29 => ?_)
  · refine q_iconst hx hb dX8_dayFrom_44 ?_
    exact J45 0 (by decide) (by decide) _ _ _ hw (lv_sub hl [3, 1, 0] rfl)
  · refine lv_iload_n hx hb dX8_dayFrom_32 rfl (lv_at hl 2 rfl) ?_
    refine lv_aload_n hx hb dX8_dayFrom_33 rfl (lv_at hl 3 rfl) ?_
    refine q_geti (ci := 6) (C := RX8) (T := TX8) (N := 6) hx hb hts (fun w h => List.mem_cons_of_mem _ (mfX80 w h)) hown hK hw m_a0 o_a0 rfl 5 (by decide) (hts _ (List.mem_cons_of_mem _ (mr13 _ (List.mem_of_getElem? (i := 10) rfl)))) (fun _ h => h) rfl dX8_dayFrom_34 (fun x_19 lx_19 ux_19 ex_19 => ?_)
    first | refine q_isub hx hb dX8_dayFrom_37 ⟨by omega, by omega⟩ (fun x_20 lx_20 ux_20 ex_20 => ?_) | refine q_isubw hx hb dX8_dayFrom_37 (fun x_20 lx_20 ux_20 _ => ?_)
    refine q_bipush hx hb dX8_dayFrom_38 rfl ?_
    first | refine q_irem hx hb dX8_dayFrom_40 ⟨lx_20, ux_20⟩ ⟨by decide, by decide⟩ (by omega) (by omega) (fun x_21 lx_21 ux_21 ex_21 => ?_) | refine q_iremw hx hb dX8_dayFrom_40 ⟨lx_20, ux_20⟩ ⟨by decide, by decide⟩ (by omega) (fun x_21 lx_21 ux_21 ex_21 => ?_)
    refine lv_goto (tgt := 45) hx hb dX8_dayFrom_41 (by decide) ?_
    exact J45 x_21 lx_21 ux_21 _ _ _ hw (lv_sub hl [3, 1, 0] rfl)
set_option maxHeartbeats 4000000 in
set_option maxRecDepth 100000 in
theorem c_X8_dayTo {Z : Zt} (zo : Zok Z) (l : Launch) (D : va_G) (cy : Cy) (L0 : List Nat) (f0 : Nat → va_E) (a0 : Nat) (x1 : Int) (lx1 : -2147483648 ≤ x1) (ux1 : x1 ≤ 2147483647) (m_a0 : a0 ∈ L0) (o_a0 : Ob f0 a0 6) (hg : GI cy L0 f0) : Ci Z l yX8_dayTo (Cond.code yX8_dayTo cX8_dayTo 8 (some .int) :: TB) ({ frames := 1, cells := 0, slots := 0, locals := 22 } : Room) 0 0 D (tq cy) [.ref a0, .int (iI x1)] L0 f0 (fun (r : Int) (L1 : List Nat) (f1 : Nat → va_E) => L0 = L1 ∧ f0 = f1 ∧ (True)) := by
  refine Ci.enter (cc := cX8_dayTo) (n := 8) rfl (plainFor_of_name (by decide)) (Nat.le_of_ble_eq_true rfl) ?_
  intro p e s m below meth c ls A hx hb hr hts hown hlocks hnm hml hK hA hAe hw hZ hl
  have hown : s.vm.findClass RX8 = some m.cls := hown
  have hl : lv_has ls 8 [(0, .ref a0), (1, .int (iI x1))] := hl
  have hN : ZN s := (zo.2.2.2.2 _ _ _ hZ).2
  refine lv_iload_n hx hb dX8_dayTo_0 rfl (lv_at hl 1 rfl) ?_
  refine lv_aload_n hx hb dX8_dayTo_1 rfl (lv_at hl 0 rfl) ?_
  refine q_geti (ci := 6) (C := RX8) (T := TX8) (N := 6) hx hb hts (fun w h => List.mem_cons_of_mem _ (mfX80 w h)) hown hK hw m_a0 o_a0 rfl 2 (by decide) (hts _ (List.mem_cons_of_mem _ (mr16 _ (List.mem_of_getElem? (i := 6) rfl)))) (fun x9 h9 => u_same (hts _ (List.mem_cons_of_mem _ (mr16 _ (List.mem_of_getElem? (i := 7) rfl)))) x9 h9) rfl dX8_dayTo_2 (fun x_1 lx_1 ux_1 ex_1 => ?_)
  refine q_icmp_ge (tgt := 10) hx hb dX8_dayTo_5 (by decide) ⟨lx1, ux1⟩ ⟨lx_1, ux_1⟩ (fun c5 => ?_) (fun c5 => ?_)
  · refine lv_iload_n hx hb dX8_dayTo_10 rfl (lv_at hl 1 rfl) ?_
    refine lv_aload_n hx hb dX8_dayTo_11 rfl (lv_at hl 0 rfl) ?_
    refine q_geti (ci := 6) (C := RX8) (T := TX8) (N := 6) hx hb hts (fun w h => List.mem_cons_of_mem _ (mfX80 w h)) hown hK hw m_a0 o_a0 rfl 5 (by decide) (hts _ (List.mem_cons_of_mem _ (mr13 _ (List.mem_of_getElem? (i := 10) rfl)))) (fun _ h => h) rfl dX8_dayTo_12 (fun x_2 lx_2 ux_2 ex_2 => ?_)
    first | refine q_isub hx hb dX8_dayTo_15 ⟨by omega, by omega⟩ (fun x_3 lx_3 ux_3 ex_3 => ?_) | refine q_isubw hx hb dX8_dayTo_15 (fun x_3 lx_3 ux_3 _ => ?_)
    refine q_bipush hx hb dX8_dayTo_16 rfl ?_
    first | refine q_idiv hx hb dX8_dayTo_18 ⟨lx_3, ux_3⟩ ⟨by decide, by decide⟩ (by omega) (by omega) (fun x_4 lx_4 ux_4 ex_4 => ?_) | refine q_idivw hx hb dX8_dayTo_18 ⟨lx_3, ux_3⟩ ⟨by decide, by decide⟩ (by omega) (fun x_4 lx_4 ux_4 ex_4 => ?_)
    refine lv_istore_n (lv' := [(2, .int (iI x_4)), (0, .ref a0), (1, .int (iI x1))]) hx hb dX8_dayTo_19 rfl hl (by decide) rfl (fun ls hl => ?_)
    refine lv_iload_n hx hb dX8_dayTo_20 rfl (lv_at hl 0 rfl) ?_
    refine lv_aload_n hx hb dX8_dayTo_21 rfl (lv_at hl 1 rfl) ?_
    refine q_geti (ci := 6) (C := RX8) (T := TX8) (N := 6) hx hb hts (fun w h => List.mem_cons_of_mem _ (mfX80 w h)) hown hK hw m_a0 o_a0 rfl 3 (by decide) (hts _ (List.mem_cons_of_mem _ (mr13 _ (List.mem_of_getElem? (i := 8) rfl)))) (fun _ h => h) rfl dX8_dayTo_22 (fun x_5 lx_5 ux_5 ex_5 => ?_)
    have bx_5 : 1 ≤ x_5 := by rw [ex_5]; exact hg.1 _ m_a0 6 3 o_a0
    first | refine q_irem hx hb dX8_dayTo_25 ⟨lx_4, ux_4⟩ ⟨lx_5, ux_5⟩ (by omega) (by omega) (fun x_6 lx_6 ux_6 ex_6 => ?_) | refine q_iremw hx hb dX8_dayTo_25 ⟨lx_4, ux_4⟩ ⟨lx_5, ux_5⟩ (by omega) (fun x_6 lx_6 ux_6 ex_6 => ?_)
    refine lv_istore_n (lv' := [(3, .int (iI x_6)), (2, .int (iI x_4)), (0, .ref a0), (1, .int (iI x1))]) hx hb dX8_dayTo_26 rfl hl (by decide) rfl (fun ls hl => ?_)
    refine lv_iload_n hx hb dX8_dayTo_27 rfl (lv_at hl 0 rfl) ?_
    have J45 : ∀ (w0_45 : Int) (lw0_45 : -2147483648 ≤ w0_45) (uw0_45 : w0_45 ≤ 2147483647) (H : Heap) (locs : List Loc) (ls : Array Slot) (hw : Wd D A s.heap L0 f0 H locs) (hl : lv_has ls 8 [(0, .ref a0), (2, .int (iI x_4)), (3, .int (iI x_6))]), W p l e ({ frames := 1, cells := 0, slots := 0, locals := 22 } : Room) s m ([.ref a0, .int (iI x1)] : List Value).toArray below meth c H locs (0) (0) (MQ below (Qi D (tq cy) L0 f0 s.heap.size (fun (r : Int) (L1 : List Nat) (f1 : Nat → va_E) => L0 = L1 ∧ f0 = f1 ∧ (True))) ([.ref a0, .int (iI x1)] : List Value).toArray s 0 0 A) (F0 m 45 ls [.int (iI w0_45)]) := by
      intro w0_45 lw0_45 uw0_45 H locs ls hw hl
      refine lv_istore (lv' := [(4, .int (iI w0_45)), (0, .ref a0), (2, .int (iI x_4)), (3, .int (iI x_6))]) hx hb dX8_dayTo_45 hl (by decide) rfl (fun ls hl => ?_)
      refine lv_iload_n hx hb dX8_dayTo_47 rfl (lv_at hl 2 rfl) ?_
      refine lv_iload_n hx hb dX8_dayTo_48 rfl (lv_at hl 3 rfl) ?_
      first | refine q_isub hx hb dX8_dayTo_49 ⟨by omega, by omega⟩ (fun x_7 lx_7 ux_7 ex_7 => ?_) | refine q_isubw hx hb dX8_dayTo_49 (fun x_7 lx_7 ux_7 _ => ?_)
      refine lv_istore (lv' := [(5, .int (iI x_7)), (4, .int (iI w0_45)), (0, .ref a0), (2, .int (iI x_4)), (3, .int (iI x_6))]) hx hb dX8_dayTo_50 hl (by decide) rfl (fun ls hl => ?_)
      refine lv_aload_n hx hb dX8_dayTo_52 rfl (lv_at hl 2 rfl) ?_
      refine lv_iload hx hb dX8_dayTo_53 (lv_at hl 1 rfl) ?_
      refine q_call_i hA hK hw (va_runV (As := [.int (iI w0_45)]) (rest := []) ⟨hx, hb, hml, hown, hts⟩ (c_X8_lastWeekday zo l D cy L0 f0 a0 w0_45 lw0_45 uw0_45 m_a0 o_a0 hg _) (cwV 1 hts (gT (inV (mr17 _ (List.mem_of_getElem? (i := 3) rfl)) (mr17 _ (List.mem_of_getElem? (i := 4) rfl)) (mr17 _ (List.mem_of_getElem? (i := 5) rfl)) (mr12 _ (List.mem_of_getElem? (i := 15) rfl)) (mr17 _ (List.mem_of_getElem? (i := 6) rfl)))) rfl rfl rfl (by decide +kernel) ⟨Nat.le_of_ble_eq_true rfl, Nat.le_of_ble_eq_true rfl⟩) (Wd.preV zo hA hZ hw hK m_a0 o_a0 rfl) rfl rfl hl.1 rfl (lv_room (Nat.le_of_ble_eq_true rfl)) dX8_dayTo_55 ⟨Nat.le_of_ble_eq_true rfl, Nat.le_of_ble_eq_true rfl⟩) (fun x_8 L1 f1 H locs lx_8 ux_8 ex_8 hw => ?_)
      obtain ⟨rfl, rfl, ex_8⟩ := ex_8
      refine lv_istore (lv' := [(6, .int (iI x_8)), (5, .int (iI x_7)), (4, .int (iI w0_45)), (0, .ref a0), (2, .int (iI x_4)), (3, .int (iI x_6))]) hx hb dX8_dayTo_58 hl (by decide) rfl (fun ls hl => ?_)
      refine lv_iload hx hb dX8_dayTo_60 (lv_at hl 0 rfl) ?_
      refine q_iconst hx hb dX8_dayTo_62 ?_
      have J83 : ∀ (z5_83 : Int) (lz5_83 : -2147483648 ≤ z5_83) (uz5_83 : z5_83 ≤ 2147483647) (z6_83 : Int) (lz6_83 : -2147483648 ≤ z6_83) (uz6_83 : z6_83 ≤ 2147483647) (H : Heap) (locs : List Loc) (ls : Array Slot) (hw : Wd D A s.heap L0 f0 H locs) (hl : lv_has ls 8 [(0, .ref a0), (5, .int (iI z5_83)), (6, .int (iI z6_83))]), W p l e ({ frames := 1, cells := 0, slots := 0, locals := 22 } : Room) s m ([.ref a0, .int (iI x1)] : List Value).toArray below meth c H locs (0 + 0) (0 + 0) (MQ below (Qi D (tq cy) L0 f0 s.heap.size (fun (r : Int) (L1 : List Nat) (f1 : Nat → va_E) => L0 = L1 ∧ f0 = f1 ∧ (True))) ([.ref a0, .int (iI x1)] : List Value).toArray s 0 0 A) (F0 m 83 ls []) := by
        intro z5_83 lz5_83 uz5_83 z6_83 lz6_83 uz6_83 H locs ls hw hl
        refine lv_aload_n hx hb dX8_dayTo_83 rfl (lv_at hl 0 rfl) ?_
        refine q_geti (ci := 6) (C := RX8) (T := TX8) (N := 6) hx hb hts (fun w h => List.mem_cons_of_mem _ (mfX80 w h)) hown hK hw m_a0 o_a0 rfl 5 (by decide) (hts _ (List.mem_cons_of_mem _ (mr13 _ (List.mem_of_getElem? (i := 10) rfl)))) (fun _ h => h) rfl dX8_dayTo_84 (fun x_9 lx_9 ux_9 ex_9 => ?_)
        refine q_bipush hx hb dX8_dayTo_87 rfl ?_
        refine lv_iload hx hb dX8_dayTo_89 (lv_at hl 1 rfl) ?_
        first | refine q_imul hx hb dX8_dayTo_91 ⟨by omega, by omega⟩ (fun x_10 lx_10 ux_10 ex_10 => ?_) | refine q_imulw hx hb dX8_dayTo_91 (fun x_10 lx_10 ux_10 _ => ?_)
        first | refine q_iadd hx hb dX8_dayTo_92 ⟨by omega, by omega⟩ (fun x_11 lx_11 ux_11 ex_11 => ?_) | refine q_iaddw hx hb dX8_dayTo_92 (fun x_11 lx_11 ux_11 _ => ?_)
        refine lv_iload hx hb dX8_dayTo_93 (lv_at hl 2 rfl) ?_
        first | refine q_iadd hx hb dX8_dayTo_95 ⟨by omega, by omega⟩ (fun x_12 lx_12 ux_12 ex_12 => ?_) | refine q_iaddw hx hb dX8_dayTo_95 (fun x_12 lx_12 ux_12 _ => ?_)
        refine lv_istore (lv' := [(7, .int (iI x_12)), (0, .ref a0), (5, .int (iI z5_83)), (6, .int (iI z6_83))]) hx hb dX8_dayTo_96 hl (by decide) rfl (fun ls hl => ?_)
        refine lv_iload hx hb dX8_dayTo_98 (lv_at hl 0 rfl) ?_
        refine lv_aload_n hx hb dX8_dayTo_100 rfl (lv_at hl 1 rfl) ?_
        refine q_geti (ci := 6) (C := RX8) (T := TX8) (N := 6) hx hb hts (fun w h => List.mem_cons_of_mem _ (mfX80 w h)) hown hK hw m_a0 o_a0 rfl 2 (by decide) (hts _ (List.mem_cons_of_mem _ (mr16 _ (List.mem_of_getElem? (i := 6) rfl)))) (fun x9 h9 => u_same (hts _ (List.mem_cons_of_mem _ (mr16 _ (List.mem_of_getElem? (i := 7) rfl)))) x9 h9) rfl dX8_dayTo_101 (fun x_13 lx_13 ux_13 ex_13 => ?_)
        refine q_icmp_lt (tgt := 112) hx hb dX8_dayTo_104 (by decide) ⟨lx_12, ux_12⟩ ⟨lx_13, ux_13⟩ (fun c104 => ?_) (fun c104 => ?_)
        · refine q_iconst hx hb dX8_dayTo_112 ?_
          exact q_ret_i hx hb hr hlocks hK hAe hw ⟨by decide, by decide⟩ (Nat.le_of_ble_eq_true rfl) (Nat.le_of_ble_eq_true rfl) dX8_dayTo_113 ⟨rfl, rfl, by trivial⟩
        · refine lv_iload hx hb dX8_dayTo_107 (lv_at hl 0 rfl) ?_
          refine lv_goto (tgt := 113) hx hb dX8_dayTo_109 (by decide) ?_
          exact q_ret_i hx hb hr hlocks hK hAe hw ⟨lx_12, ux_12⟩ (Nat.le_of_ble_eq_true rfl) (Nat.le_of_ble_eq_true rfl) dX8_dayTo_113 ⟨rfl, rfl, by trivial⟩
      refine q_icmp_ne (tgt := 83) hx hb dX8_dayTo_63 (by decide) ⟨lx_8, ux_8⟩ ⟨by decide, by decide⟩ (fun c63 => ?_) (fun c63 => ?_)
      · exact J83 x_7 lx_7 ux_7 x_8 lx_8 ux_8 _ _ _ hw (lv_sub hl [3, 1, 0] rfl)
      · refine lv_iload hx hb dX8_dayTo_66 (lv_at hl 1 rfl) ?_
        refine lv_aload_n hx hb dX8_dayTo_68 rfl (lv_at hl 3 rfl) ?_
        refine q_geti (ci := 6) (C := RX8) (T := TX8) (N := 6) hx hb hts (fun w h => List.mem_cons_of_mem _ (mfX80 w h)) hown hK hw m_a0 o_a0 rfl 3 (by decide) (hts _ (List.mem_cons_of_mem _ (mr13 _ (List.mem_of_getElem? (i := 8) rfl)))) (fun _ h => h) rfl dX8_dayTo_69 (fun x_14 lx_14 ux_14 ex_14 => ?_)
        have bx_14 : 1 ≤ x_14 := by rw [ex_14]; exact hg.1 _ m_a0 6 3 o_a0
        first | refine q_isub hx hb dX8_dayTo_72 ⟨by omega, by omega⟩ (fun x_15 lx_15 ux_15 ex_15 => ?_) | refine q_isubw hx hb dX8_dayTo_72 (fun x_15 lx_15 ux_15 _ => ?_)
        refine lv_istore (lv' := [(5, .int (iI x_15)), (6, .int (iI x_8)), (4, .int (iI w0_45)), (0, .ref a0), (2, .int (iI x_4)), (3, .int (iI x_6))]) hx hb dX8_dayTo_73 hl (by decide) rfl (fun ls hl => ?_)
        refine lv_aload_n hx hb dX8_dayTo_75 rfl (lv_at hl 3 rfl) ?_
        refine q_bipush hx hb dX8_dayTo_76 rfl ?_
        refine q_call_i hA hK hw (va_runV (As := [.int (iI 6)]) (rest := []) ⟨hx, hb, hml, hown, hts⟩ (c_X8_lastWeekday zo l D cy L0 f0 a0 6 (by decide) (by decide) m_a0 o_a0 hg _) (cwV 1 hts (gT (inV (mr17 _ (List.mem_of_getElem? (i := 3) rfl)) (mr17 _ (List.mem_of_getElem? (i := 4) rfl)) (mr17 _ (List.mem_of_getElem? (i := 5) rfl)) (mr12 _ (List.mem_of_getElem? (i := 15) rfl)) (mr17 _ (List.mem_of_getElem? (i := 6) rfl)))) rfl rfl rfl (by decide +kernel) ⟨Nat.le_of_ble_eq_true rfl, Nat.le_of_ble_eq_true rfl⟩) (Wd.preV zo hA hZ hw hK m_a0 o_a0 rfl) rfl rfl hl.1 rfl (lv_room (Nat.le_of_ble_eq_true rfl)) dX8_dayTo_78 ⟨Nat.le_of_ble_eq_true rfl, Nat.le_of_ble_eq_true rfl⟩) (fun x_16 L1 f1 H locs lx_16 ux_16 ex_16 hw => ?_)
        obtain ⟨rfl, rfl, ex_16⟩ := ex_16
        refine lv_istore (lv' := [(6, .int (iI x_16)), (5, .int (iI x_15)), (4, .int (iI w0_45)), (0, .ref a0), (2, .int (iI x_4)), (3, .int (iI x_6))]) hx hb dX8_dayTo_81 hl (by decide) rfl (fun ls hl => ?_)
        exact J83 x_15 lx_15 ux_15 x_16 lx_16 ux_16 _ _ _ hw (lv_sub hl [3, 1, 0] rfl)
    refine q_if_ne (tgt := 43) hx hb dX8_dayTo_28 (by decide) ⟨lx_6, ux_6⟩ (fun c28 => ?_) (fun c28 => ?_)
    · refine q_bipush hx hb dX8_dayTo_43 rfl ?_
      exact J45 6 (by decide) (by decide) _ _ _ hw (lv_sub hl [2, 1, 0] rfl)
    · refine lv_iload_n hx hb dX8_dayTo_31 rfl (lv_at hl 3 rfl) ?_
      refine lv_aload_n hx hb dX8_dayTo_32 rfl (lv_at hl 2 rfl) ?_
      refine q_geti (ci := 6) (C := RX8) (T := TX8) (N := 6) hx hb hts (fun w h => List.mem_cons_of_mem _ (mfX80 w h)) hown hK hw m_a0 o_a0 rfl 5 (by decide) (hts _ (List.mem_cons_of_mem _ (mr13 _ (List.mem_of_getElem? (i := 10) rfl)))) (fun _ h => h) rfl dX8_dayTo_33 (fun x_17 lx_17 ux_17 ex_17 => ?_)
      first | refine q_isub hx hb dX8_dayTo_36 ⟨by omega, by omega⟩ (fun x_18 lx_18 ux_18 ex_18 => ?_) | refine q_isubw hx hb dX8_dayTo_36 (fun x_18 lx_18 ux_18 _ => ?_)
      refine q_bipush hx hb dX8_dayTo_37 rfl ?_
      first | refine q_irem hx hb dX8_dayTo_39 ⟨lx_18, ux_18⟩ ⟨by decide, by decide⟩ (by omega) (by omega) (fun x_19 lx_19 ux_19 ex_19 => ?_) | refine q_iremw hx hb dX8_dayTo_39 ⟨lx_18, ux_18⟩ ⟨by decide, by decide⟩ (by omega) (fun x_19 lx_19 ux_19 ex_19 => ?_)
      refine lv_goto (tgt := 45) hx hb dX8_dayTo_40 (by decide) ?_
      exact J45 x_19 lx_19 ux_19 _ _ _ hw (lv_sub hl [2, 1, 0] rfl)
  · refine q_iconst hx hb dX8_dayTo_8 ?_
    exact q_ret_i hx hb hr hlocks hK hAe hw ⟨by decide, by decide⟩ (Nat.le_of_ble_eq_true rfl) (Nat.le_of_ble_eq_true rfl) dX8_dayTo_9 ⟨rfl, rfl, by trivial⟩
set_option maxHeartbeats 4000000 in
set_option maxRecDepth 100000 in
theorem c_X8_daysUpTo {Z : Zt} (zo : Zok Z) (l : Launch) (D : va_G) (cy : Cy) (L0 : List Nat) (f0 : Nat → va_E) (a0 : Nat) (x1 : Int) (lx1 : -2147483648 ≤ x1) (ux1 : x1 ≤ 2147483647) (m_a0 : a0 ∈ L0) (o_a0 : Ob f0 a0 6) (hg : GI cy L0 f0) : Ci Z l yX8_daysUpTo (Cond.code yX8_daysUpTo cX8_daysUpTo 5 (some .int) :: TB) ({ frames := 1, cells := 0, slots := 0, locals := 20 } : Room) 0 0 D (tq cy) [.ref a0, .int (iI x1)] L0 f0 (fun (r : Int) (L1 : List Nat) (f1 : Nat → va_E) => L0 = L1 ∧ f0 = f1 ∧ (True)) := by
  refine Ci.enter (cc := cX8_daysUpTo) (n := 5) rfl (plainFor_of_name (by decide)) (Nat.le_of_ble_eq_true rfl) ?_
  intro p e s m below meth c ls A hx hb hr hts hown hlocks hnm hml hK hA hAe hw hZ hl
  have hown : s.vm.findClass RX8 = some m.cls := hown
  have hl : lv_has ls 5 [(0, .ref a0), (1, .int (iI x1))] := hl
  have hN : ZN s := (zo.2.2.2.2 _ _ _ hZ).2
  refine lv_iload_n hx hb dX8_daysUpTo_0 rfl (lv_at hl 1 rfl) ?_
  refine lv_aload_n hx hb dX8_daysUpTo_1 rfl (lv_at hl 0 rfl) ?_
  refine q_geti (ci := 6) (C := RX8) (T := TX8) (N := 6) hx hb hts (fun w h => List.mem_cons_of_mem _ (mfX80 w h)) hown hK hw m_a0 o_a0 rfl 5 (by decide) (hts _ (List.mem_cons_of_mem _ (mr13 _ (List.mem_of_getElem? (i := 10) rfl)))) (fun _ h => h) rfl dX8_daysUpTo_2 (fun x_1 lx_1 ux_1 ex_1 => ?_)
  refine q_icmp_ge (tgt := 10) hx hb dX8_daysUpTo_5 (by decide) ⟨lx1, ux1⟩ ⟨lx_1, ux_1⟩ (fun c5 => ?_) (fun c5 => ?_)
  · refine lv_iload_n hx hb dX8_daysUpTo_10 rfl (lv_at hl 1 rfl) ?_
    refine lv_aload_n hx hb dX8_daysUpTo_11 rfl (lv_at hl 0 rfl) ?_
    refine q_geti (ci := 6) (C := RX8) (T := TX8) (N := 6) hx hb hts (fun w h => List.mem_cons_of_mem _ (mfX80 w h)) hown hK hw m_a0 o_a0 rfl 5 (by decide) (hts _ (List.mem_cons_of_mem _ (mr13 _ (List.mem_of_getElem? (i := 10) rfl)))) (fun _ h => h) rfl dX8_daysUpTo_12 (fun x_2 lx_2 ux_2 ex_2 => ?_)
    first | refine q_isub hx hb dX8_daysUpTo_15 ⟨by omega, by omega⟩ (fun x_3 lx_3 ux_3 ex_3 => ?_) | refine q_isubw hx hb dX8_daysUpTo_15 (fun x_3 lx_3 ux_3 _ => ?_)
    refine q_bipush hx hb dX8_daysUpTo_16 rfl ?_
    first | refine q_idiv hx hb dX8_daysUpTo_18 ⟨lx_3, ux_3⟩ ⟨by decide, by decide⟩ (by omega) (by omega) (fun x_4 lx_4 ux_4 ex_4 => ?_) | refine q_idivw hx hb dX8_daysUpTo_18 ⟨lx_3, ux_3⟩ ⟨by decide, by decide⟩ (by omega) (fun x_4 lx_4 ux_4 ex_4 => ?_)
    refine lv_istore_n (lv' := [(2, .int (iI x_4)), (0, .ref a0), (1, .int (iI x1))]) hx hb dX8_daysUpTo_19 rfl hl (by decide) rfl (fun ls hl => ?_)
    refine lv_iload_n hx hb dX8_daysUpTo_20 rfl (lv_at hl 0 rfl) ?_
    refine lv_aload_n hx hb dX8_daysUpTo_21 rfl (lv_at hl 1 rfl) ?_
    refine q_geti (ci := 6) (C := RX8) (T := TX8) (N := 6) hx hb hts (fun w h => List.mem_cons_of_mem _ (mfX80 w h)) hown hK hw m_a0 o_a0 rfl 3 (by decide) (hts _ (List.mem_cons_of_mem _ (mr13 _ (List.mem_of_getElem? (i := 8) rfl)))) (fun _ h => h) rfl dX8_daysUpTo_22 (fun x_5 lx_5 ux_5 ex_5 => ?_)
    have bx_5 : 1 ≤ x_5 := by rw [ex_5]; exact hg.1 _ m_a0 6 3 o_a0
    first | refine q_iadd hx hb dX8_daysUpTo_25 ⟨by omega, by omega⟩ (fun x_6 lx_6 ux_6 ex_6 => ?_) | refine q_iaddw hx hb dX8_daysUpTo_25 (fun x_6 lx_6 ux_6 _ => ?_)
    refine q_iconst hx hb dX8_daysUpTo_26 ?_
    first | refine q_isub hx hb dX8_daysUpTo_27 ⟨by omega, by omega⟩ (fun x_7 lx_7 ux_7 ex_7 => ?_) | refine q_isubw hx hb dX8_daysUpTo_27 (fun x_7 lx_7 ux_7 _ => ?_)
    refine lv_aload_n hx hb dX8_daysUpTo_28 rfl (lv_at hl 1 rfl) ?_
    refine q_geti (ci := 6) (C := RX8) (T := TX8) (N := 6) hx hb hts (fun w h => List.mem_cons_of_mem _ (mfX80 w h)) hown hK hw m_a0 o_a0 rfl 3 (by decide) (hts _ (List.mem_cons_of_mem _ (mr13 _ (List.mem_of_getElem? (i := 8) rfl)))) (fun _ h => h) rfl dX8_daysUpTo_29 (fun x_8 lx_8 ux_8 ex_8 => ?_)
    have bx_8 : 1 ≤ x_8 := by rw [ex_8]; exact hg.1 _ m_a0 6 3 o_a0
    first | refine q_idiv hx hb dX8_daysUpTo_32 ⟨lx_7, ux_7⟩ ⟨lx_8, ux_8⟩ (by omega) (by omega) (fun x_9 lx_9 ux_9 ex_9 => ?_) | refine q_idivw hx hb dX8_daysUpTo_32 ⟨lx_7, ux_7⟩ ⟨lx_8, ux_8⟩ (by omega) (fun x_9 lx_9 ux_9 ex_9 => ?_)
    refine lv_aload_n hx hb dX8_daysUpTo_33 rfl (lv_at hl 1 rfl) ?_
    refine q_geti (ci := 6) (C := RX8) (T := TX8) (N := 6) hx hb hts (fun w h => List.mem_cons_of_mem _ (mfX80 w h)) hown hK hw m_a0 o_a0 rfl 4 (by decide) (hts _ (List.mem_cons_of_mem _ (mr13 _ (List.mem_of_getElem? (i := 9) rfl)))) (fun _ h => h) rfl dX8_daysUpTo_34 (fun x_10 lx_10 ux_10 ex_10 => ?_)
    refine q_call_i hA hK hw (va_runS (As := [.int (iI x_10)]) (rest := [.int (iI x_9)]) ⟨hx, hb, hml, hown, hts⟩ (c_J6_bitCount_0f7a4 zo l D cy L0 f0 x_10 lx_10 ux_10 _) (va_cwS 1 hts (gT (inS (mr18 _ (List.mem_of_getElem? (i := 9) rfl)) (mr18 _ (List.mem_of_getElem? (i := 10) rfl)) (mr18 _ (List.mem_of_getElem? (i := 11) rfl)) (mr18 _ (List.mem_of_getElem? (i := 12) rfl)))) rfl rfl rfl (by decide +kernel) ⟨Nat.le_of_ble_eq_true rfl, Nat.le_of_ble_eq_true rfl⟩) (Wd.preS zo hA hZ hw hK) rfl rfl hl.1 rfl (lv_room (Nat.le_of_ble_eq_true rfl)) dX8_daysUpTo_37 ⟨Nat.le_of_ble_eq_true rfl, Nat.le_of_ble_eq_true rfl⟩) (fun x_11 L1 f1 H locs lx_11 ux_11 ex_11 hw => ?_)
    obtain ⟨rfl, rfl, ex_11⟩ := ex_11
    first | refine q_imul hx hb dX8_daysUpTo_40 ⟨by omega, by omega⟩ (fun x_12 lx_12 ux_12 ex_12 => ?_) | refine q_imulw hx hb dX8_daysUpTo_40 (fun x_12 lx_12 ux_12 _ => ?_)
    refine lv_istore_n (lv' := [(3, .int (iI x_12)), (2, .int (iI x_4)), (0, .ref a0), (1, .int (iI x1))]) hx hb dX8_daysUpTo_41 rfl hl (by decide) rfl (fun ls hl => ?_)
    refine lv_iload_n hx hb dX8_daysUpTo_42 rfl (lv_at hl 1 rfl) ?_
    refine lv_aload_n hx hb dX8_daysUpTo_43 rfl (lv_at hl 2 rfl) ?_
    refine q_geti (ci := 6) (C := RX8) (T := TX8) (N := 6) hx hb hts (fun w h => List.mem_cons_of_mem _ (mfX80 w h)) hown hK hw m_a0 o_a0 rfl 3 (by decide) (hts _ (List.mem_cons_of_mem _ (mr13 _ (List.mem_of_getElem? (i := 8) rfl)))) (fun _ h => h) rfl dX8_daysUpTo_44 (fun x_13 lx_13 ux_13 ex_13 => ?_)
    have bx_13 : 1 ≤ x_13 := by rw [ex_13]; exact hg.1 _ m_a0 6 3 o_a0
    first | refine q_irem hx hb dX8_daysUpTo_47 ⟨lx_4, ux_4⟩ ⟨lx_13, ux_13⟩ (by omega) (by omega) (fun x_14 lx_14 ux_14 ex_14 => ?_) | refine q_iremw hx hb dX8_daysUpTo_47 ⟨lx_4, ux_4⟩ ⟨lx_13, ux_13⟩ (by omega) (fun x_14 lx_14 ux_14 ex_14 => ?_)
    refine q_if_eq (tgt := 53) hx hb dX8_daysUpTo_48 (by decide) ⟨lx_14, ux_14⟩ (fun c48 => ?_) (fun c48 => ?_)
    · refine q_iconst hx hb dX8_daysUpTo_53 ?_
      refine lv_iload_n hx hb dX8_daysUpTo_54 rfl (lv_at hl 3 rfl) ?_
      refine lv_aload_n hx hb dX8_daysUpTo_55 rfl (lv_at hl 2 rfl) ?_
      refine q_geti (ci := 6) (C := RX8) (T := TX8) (N := 6) hx hb hts (fun w h => List.mem_cons_of_mem _ (mfX80 w h)) hown hK hw m_a0 o_a0 rfl 5 (by decide) (hts _ (List.mem_cons_of_mem _ (mr13 _ (List.mem_of_getElem? (i := 10) rfl)))) (fun _ h => h) rfl dX8_daysUpTo_56 (fun x_15 lx_15 ux_15 ex_15 => ?_)
      first | refine q_isub hx hb dX8_daysUpTo_59 ⟨by omega, by omega⟩ (fun x_16 lx_16 ux_16 ex_16 => ?_) | refine q_isubw hx hb dX8_daysUpTo_59 (fun x_16 lx_16 ux_16 _ => ?_)
      refine q_bipush hx hb dX8_daysUpTo_60 rfl ?_
      first | refine q_irem hx hb dX8_daysUpTo_62 ⟨lx_16, ux_16⟩ ⟨by decide, by decide⟩ (by omega) (by omega) (fun x_17 lx_17 ux_17 ex_17 => ?_) | refine q_iremw hx hb dX8_daysUpTo_62 ⟨lx_16, ux_16⟩ ⟨by decide, by decide⟩ (by omega) (fun x_17 lx_17 ux_17 ex_17 => ?_)
      refine lv_ishl hx hb dX8_daysUpTo_63 ?_
      refine q_num (fun x_18 lx_18 ux_18 ex_18 => ?_)
      refine q_iconst hx hb dX8_daysUpTo_64 ?_
      first | refine q_isub hx hb dX8_daysUpTo_65 ⟨by omega, by omega⟩ (fun x_19 lx_19 ux_19 ex_19 => ?_) | refine q_isubw hx hb dX8_daysUpTo_65 (fun x_19 lx_19 ux_19 _ => ?_)
      refine lv_istore (lv' := [(4, .int (iI x_19)), (3, .int (iI x_12)), (2, .int (iI x_4)), (0, .ref a0), (1, .int (iI x1))]) hx hb dX8_daysUpTo_66 hl (by decide) rfl (fun ls hl => ?_)
      refine lv_iload_n hx hb dX8_daysUpTo_68 rfl (lv_at hl 1 rfl) ?_
      refine lv_aload_n hx hb dX8_daysUpTo_69 rfl (lv_at hl 3 rfl) ?_
      refine q_geti (ci := 6) (C := RX8) (T := TX8) (N := 6) hx hb hts (fun w h => List.mem_cons_of_mem _ (mfX80 w h)) hown hK hw m_a0 o_a0 rfl 4 (by decide) (hts _ (List.mem_cons_of_mem _ (mr13 _ (List.mem_of_getElem? (i := 9) rfl)))) (fun _ h => h) rfl dX8_daysUpTo_70 (fun x_20 lx_20 ux_20 ex_20 => ?_)
      refine lv_iload hx hb dX8_daysUpTo_73 (lv_at hl 0 rfl) ?_
      refine lv_iand hx hb dX8_daysUpTo_75 ?_
      refine q_num (fun x_21 lx_21 ux_21 ex_21 => ?_)
      refine q_call_i hA hK hw (va_runS (As := [.int (iI x_21)]) (rest := [.int (iI x_12)]) ⟨hx, hb, hml, hown, hts⟩ (c_J6_bitCount_0f7a4 zo l D cy L0 f0 x_21 lx_21 ux_21 _) (va_cwS 1 hts (gT (inS (mr18 _ (List.mem_of_getElem? (i := 9) rfl)) (mr18 _ (List.mem_of_getElem? (i := 10) rfl)) (mr18 _ (List.mem_of_getElem? (i := 11) rfl)) (mr18 _ (List.mem_of_getElem? (i := 12) rfl)))) rfl rfl rfl (by decide +kernel) ⟨Nat.le_of_ble_eq_true rfl, Nat.le_of_ble_eq_true rfl⟩) (Wd.preS zo hA hZ hw hK) rfl rfl hl.1 rfl (lv_room (Nat.le_of_ble_eq_true rfl)) dX8_daysUpTo_76 ⟨Nat.le_of_ble_eq_true rfl, Nat.le_of_ble_eq_true rfl⟩) (fun x_22 L1 f1 H locs lx_22 ux_22 ex_22 hw => ?_)
      obtain ⟨rfl, rfl, ex_22⟩ := ex_22
      first | refine q_iadd hx hb dX8_daysUpTo_79 ⟨by omega, by omega⟩ (fun x_23 lx_23 ux_23 ex_23 => ?_) | refine q_iaddw hx hb dX8_daysUpTo_79 (fun x_23 lx_23 ux_23 _ => ?_)
      exact q_ret_i hx hb hr hlocks hK hAe hw ⟨lx_23, ux_23⟩ (Nat.le_of_ble_eq_true rfl) (Nat.le_of_ble_eq_true rfl) dX8_daysUpTo_80 ⟨rfl, rfl, by trivial⟩
    · refine lv_iload_n hx hb dX8_daysUpTo_51 rfl (lv_at hl 0 rfl) ?_
      exact q_ret_i hx hb hr hlocks hK hAe hw ⟨lx_12, ux_12⟩ (Nat.le_of_ble_eq_true rfl) (Nat.le_of_ble_eq_true rfl) dX8_daysUpTo_52 ⟨rfl, rfl, by trivial⟩
  · refine q_iconst hx hb dX8_daysUpTo_8 ?_
    exact q_ret_i hx hb hr hlocks hK hAe hw ⟨by decide, by decide⟩ (Nat.le_of_ble_eq_true rfl) (Nat.le_of_ble_eq_true rfl) dX8_daysUpTo_9 ⟨rfl, rfl, by trivial⟩
set_option maxHeartbeats 4000000 in
set_option maxRecDepth 100000 in
theorem c_X8_daysIn {Z : Zt} (zo : Zok Z) (l : Launch) (D : va_G) (cy : Cy) (L0 : List Nat) (f0 : Nat → va_E) (a0 : Nat) (x1 : Int) (lx1 : -2147483648 ≤ x1) (ux1 : x1 ≤ 2147483647) (x2 : Int) (lx2 : -2147483648 ≤ x2) (ux2 : x2 ≤ 2147483647) (m_a0 : a0 ∈ L0) (o_a0 : Ob f0 a0 6) (hg : GI cy L0 f0) : Ci Z l yX8_daysIn (Cond.code yX8_daysIn cX8_daysIn 3 (some .int) :: TB) ({ frames := 2, cells := 0, slots := 0, locals := 44 } : Room) 0 0 D (tq cy) [.ref a0, .int (iI x1), .int (iI x2)] L0 f0 (fun (r : Int) (L1 : List Nat) (f1 : Nat → va_E) => L0 = L1 ∧ f0 = f1 ∧ (True)) := by
  refine Ci.enter (cc := cX8_daysIn) (n := 3) rfl (plainFor_of_name (by decide)) (Nat.le_of_ble_eq_true rfl) ?_
  intro p e s m below meth c ls A hx hb hr hts hown hlocks hnm hml hK hA hAe hw hZ hl
  have hown : s.vm.findClass RX8 = some m.cls := hown
  have hl : lv_has ls 3 [(0, .ref a0), (1, .int (iI x1)), (2, .int (iI x2))] := hl
  have hN : ZN s := (zo.2.2.2.2 _ _ _ hZ).2
  refine lv_aload_n hx hb dX8_daysIn_0 rfl (lv_at hl 0 rfl) ?_
  refine lv_iload_n hx hb dX8_daysIn_1 rfl (lv_at hl 2 rfl) ?_
  refine q_call_i hA hK hw (va_runV (As := [.int (iI x2)]) (rest := []) ⟨hx, hb, hml, hown, hts⟩ (c_X8_daysUpTo zo l D cy L0 f0 a0 x2 lx2 ux2 m_a0 o_a0 hg _) (cwV 1 hts (gT (inV (mr18 _ (List.mem_of_getElem? (i := 5) rfl)) (mr18 _ (List.mem_of_getElem? (i := 6) rfl)) (mr18 _ (List.mem_of_getElem? (i := 7) rfl)) (mr12 _ (List.mem_of_getElem? (i := 15) rfl)) (mr18 _ (List.mem_of_getElem? (i := 8) rfl)))) rfl rfl rfl (by decide +kernel) ⟨Nat.le_of_ble_eq_true rfl, Nat.le_of_ble_eq_true rfl⟩) (Wd.preV zo hA hZ hw hK m_a0 o_a0 rfl) rfl rfl hl.1 rfl (lv_room (Nat.le_of_ble_eq_true rfl)) dX8_daysIn_2 ⟨Nat.le_of_ble_eq_true rfl, Nat.le_of_ble_eq_true rfl⟩) (fun x_1 L1 f1 H locs lx_1 ux_1 ex_1 hw => ?_)
  obtain ⟨rfl, rfl, ex_1⟩ := ex_1
  refine lv_aload_n hx hb dX8_daysIn_5 rfl (lv_at hl 0 rfl) ?_
  refine lv_iload_n hx hb dX8_daysIn_6 rfl (lv_at hl 1 rfl) ?_
  refine lv_aload_n hx hb dX8_daysIn_7 rfl (lv_at hl 0 rfl) ?_
  refine q_geti (ci := 6) (C := RX8) (T := TX8) (N := 6) hx hb hts (fun w h => List.mem_cons_of_mem _ (mfX80 w h)) hown hK hw m_a0 o_a0 rfl 2 (by decide) (hts _ (List.mem_cons_of_mem _ (mr16 _ (List.mem_of_getElem? (i := 6) rfl)))) (fun x9 h9 => u_same (hts _ (List.mem_cons_of_mem _ (mr16 _ (List.mem_of_getElem? (i := 7) rfl)))) x9 h9) rfl dX8_daysIn_8 (fun x_2 lx_2 ux_2 ex_2 => ?_)
  refine q_max hx hb (hml.trans hl.1.symm) hown (hts _ (List.mem_cons_of_mem _ (mr13 _ (List.mem_of_getElem? (i := 7) rfl)))) (hts _ (List.mem_cons_of_mem _ (mr13 _ (List.mem_of_getElem? (i := 0) rfl)))) (hts _ (List.mem_cons_of_mem _ (mr6 _ (List.mem_of_getElem? (i := 14) rfl)))) (hts _ (List.mem_cons_of_mem _ (mr13 _ (List.mem_of_getElem? (i := 1) rfl)))) (Nat.le_of_ble_eq_true rfl) (Nat.le_of_ble_eq_true rfl) (Nat.le_of_ble_eq_true rfl) (Nat.le_of_ble_eq_true rfl) ⟨lx1, ux1⟩ ⟨lx_2, ux_2⟩ dX8_daysIn_11 (fun x_3 lx_3 ux_3 ex_3 => ?_)
  refine q_iconst hx hb dX8_daysIn_14 ?_
  first | refine q_isub hx hb dX8_daysIn_15 ⟨by omega, by omega⟩ (fun x_4 lx_4 ux_4 ex_4 => ?_) | refine q_isubw hx hb dX8_daysIn_15 (fun x_4 lx_4 ux_4 _ => ?_)
  refine q_call_i hA hK hw (va_runV (As := [.int (iI x_4)]) (rest := [.int (iI x_1)]) ⟨hx, hb, hml, hown, hts⟩ (c_X8_daysUpTo zo l D cy L0 f0 a0 x_4 lx_4 ux_4 m_a0 o_a0 hg _) (cwV 1 hts (gT (inV (mr18 _ (List.mem_of_getElem? (i := 5) rfl)) (mr18 _ (List.mem_of_getElem? (i := 6) rfl)) (mr18 _ (List.mem_of_getElem? (i := 7) rfl)) (mr12 _ (List.mem_of_getElem? (i := 15) rfl)) (mr18 _ (List.mem_of_getElem? (i := 8) rfl)))) rfl rfl rfl (by decide +kernel) ⟨Nat.le_of_ble_eq_true rfl, Nat.le_of_ble_eq_true rfl⟩) (Wd.preV zo hA hZ hw hK m_a0 o_a0 rfl) rfl rfl hl.1 rfl (lv_room (Nat.le_of_ble_eq_true rfl)) dX8_daysIn_16 ⟨Nat.le_of_ble_eq_true rfl, Nat.le_of_ble_eq_true rfl⟩) (fun x_5 L1 f1 H locs lx_5 ux_5 ex_5 hw => ?_)
  obtain ⟨rfl, rfl, ex_5⟩ := ex_5
  first | refine q_isub hx hb dX8_daysIn_19 ⟨by omega, by omega⟩ (fun x_6 lx_6 ux_6 ex_6 => ?_) | refine q_isubw hx hb dX8_daysIn_19 (fun x_6 lx_6 ux_6 _ => ?_)
  exact q_ret_i hx hb hr hlocks hK hAe hw ⟨lx_6, ux_6⟩ (Nat.le_of_ble_eq_true rfl) (Nat.le_of_ble_eq_true rfl) dX8_daysIn_20 ⟨rfl, rfl, by trivial⟩
set_option maxHeartbeats 4000000 in
set_option maxRecDepth 100000 in
theorem c_X8_cycle {Z : Zt} (zo : Zok Z) (l : Launch) (D : va_G) (cy : Cy) (L0 : List Nat) (f0 : Nat → va_E) (a0 : Nat) (m_a0 : a0 ∈ L0) (o_a0 : Ob f0 a0 6) (hg : GI cy L0 f0) : Cl Z l yX8_cycle (Cond.code yX8_cycle cX8_cycle 1 (some .long) :: TB) ({ frames := 0, cells := 0, slots := 0, locals := 0 } : Room) 0 0 D (tq cy) [.ref a0] L0 f0 (fun (r : Int) (L1 : List Nat) (f1 : Nat → va_E) => L0 = L1 ∧ f0 = f1 ∧ (True)) := by
  refine Cl.enter (cc := cX8_cycle) (n := 1) rfl (plainFor_of_name (by decide)) (Nat.le_of_ble_eq_true rfl) ?_
  intro p e s m below meth c ls A hx hb hr hts hown hlocks hnm hml hK hA hAe hw hZ hl
  have hown : s.vm.findClass RX8 = some m.cls := hown
  have hl : lv_has ls 1 [(0, .ref a0)] := hl
  have hN : ZN s := (zo.2.2.2.2 _ _ _ hZ).2
  refine q_ldc2 (n := 7) hx hb hown (hts _ (List.mem_cons_of_mem _ (mr37 _ (List.mem_of_getElem? (i := 2) rfl)))) rfl dX8_cycle_0 ?_
  refine lv_aload_n hx hb dX8_cycle_3 rfl (lv_at hl 0 rfl) ?_
  refine q_geti (ci := 6) (C := RX8) (T := TX8) (N := 6) hx hb hts (fun w h => List.mem_cons_of_mem _ (mfX80 w h)) hown hK hw m_a0 o_a0 rfl 3 (by decide) (hts _ (List.mem_cons_of_mem _ (mr13 _ (List.mem_of_getElem? (i := 8) rfl)))) (fun _ h => h) rfl dX8_cycle_4 (fun x_1 lx_1 ux_1 ex_1 => ?_)
  have bx_1 : 1 ≤ x_1 := by rw [ex_1]; exact hg.1 _ m_a0 6 3 o_a0
  refine q_i2l hx hb dX8_cycle_7 ⟨lx_1, ux_1⟩ ?_
  obtain ⟨j_2, lj_2, uj_2, ej_2⟩ : ∃ z : Int, -9223372036854775808 ≤ z ∧ z ≤ 9223372036854775807 ∧ x_1 = z := ⟨x_1, by omega, by omega, rfl⟩
  rw [show (lJ x_1) = lJ j_2 from by rw [ej_2]]
  first | refine q_lmul hx hb dX8_cycle_8 ⟨by omega, by omega⟩ (fun j_3 lj_3 uj_3 ej_3 => ?_) | refine q_lmulw hx hb dX8_cycle_8 (fun j_3 lj_3 uj_3 ej_3 => ?_)
  exact q_ret_l hx hb hr hlocks hK hAe hw ⟨lj_3, uj_3⟩ (Nat.le_of_ble_eq_true rfl) (Nat.le_of_ble_eq_true rfl) dX8_cycle_9 ⟨rfl, rfl, by trivial⟩
set_option maxHeartbeats 4000000 in
set_option maxRecDepth 100000 in
theorem c_X8_detail {Z : Zt} (zo : Zok Z) (l : Launch) (D : va_G) (cy : Cy) (L0 : List Nat) (f0 : Nat → va_E) (a0 : Nat) (m_a0 : a0 ∈ L0) (o_a0 : Ob f0 a0 6) (hg : GI cy L0 f0) : Ci Z l yX8_detail (Cond.code yX8_detail cX8_detail 1 (some .int) :: TB) ({ frames := 0, cells := 0, slots := 0, locals := 0 } : Room) 0 0 D (tq cy) [.ref a0] L0 f0 (fun (r : Int) (L1 : List Nat) (f1 : Nat → va_E) => L0 = L1 ∧ f0 = f1 ∧ (True)) := by
  refine Ci.enter (cc := cX8_detail) (n := 1) rfl (plainFor_of_name (by decide)) (Nat.le_of_ble_eq_true rfl) ?_
  intro p e s m below meth c ls A hx hb hr hts hown hlocks hnm hml hK hA hAe hw hZ hl
  have hown : s.vm.findClass RX8 = some m.cls := hown
  have hl : lv_has ls 1 [(0, .ref a0)] := hl
  have hN : ZN s := (zo.2.2.2.2 _ _ _ hZ).2
  refine lv_aload_n hx hb dX8_detail_0 rfl (lv_at hl 0 rfl) ?_
  refine q_geti (ci := 6) (C := RX8) (T := TX8) (N := 6) hx hb hts (fun w h => List.mem_cons_of_mem _ (mfX80 w h)) hown hK hw m_a0 o_a0 rfl 4 (by decide) (hts _ (List.mem_cons_of_mem _ (mr13 _ (List.mem_of_getElem? (i := 9) rfl)))) (fun _ h => h) rfl dX8_detail_1 (fun x_1 lx_1 ux_1 ex_1 => ?_)
  exact q_ret_i hx hb hr hlocks hK hAe hw ⟨lx_1, ux_1⟩ (Nat.le_of_ble_eq_true rfl) (Nat.le_of_ble_eq_true rfl) dX8_detail_4 ⟨rfl, rfl, by trivial⟩
set_option maxHeartbeats 4000000 in
set_option maxRecDepth 100000 in
theorem c_X9_commonDivisor {Z : Zt} (zo : Zok Z) (l : Launch) (D : va_G) (cy : Cy) (L0 : List Nat) (f0 : Nat → va_E) (j0 : Int) (lj0 : -9223372036854775808 ≤ j0) (uj0 : j0 ≤ 9223372036854775807) (j2 : Int) (lj2 : -9223372036854775808 ≤ j2) (uj2 : j2 ≤ 9223372036854775807) : Cl Z l yX9_commonDivisor (Cond.code yX9_commonDivisor cX9_commonDivisor 11 (some .long) :: TB) ({ frames := 0, cells := 0, slots := 0, locals := 0 } : Room) 0 0 D (tq cy) [.long (lJ j0), .long (lJ j2)] L0 f0 (fun (r : Int) (L1 : List Nat) (f1 : Nat → va_E) => L0 = L1 ∧ f0 = f1 ∧ (True)) := by
  refine Cl.enter (cc := cX9_commonDivisor) (n := 11) rfl (plainFor_of_name (by decide)) (Nat.le_of_ble_eq_true rfl) ?_
  intro p e s m below meth c ls A hx hb hr hts hown hlocks hnm hml hK hA hAe hw hZ hl
  have hown : s.vm.findClass RX9 = some m.cls := hown
  have hl : lv_has ls 11 [(0, .long (lJ j0)), (2, .long (lJ j2))] := hl
  have hN : ZN s := (zo.2.2.2.2 _ _ _ hZ).2
  refine lv_lload_n hx hb dX9_commonDivisor_0 rfl (lv_at hl 0 rfl) ?_
  refine lv_lstore (lv' := [(4, .long (lJ j0)), (0, .long (lJ j0)), (2, .long (lJ j2))]) hx hb dX9_commonDivisor_1 hl (by decide) rfl (fun ls hl => ?_)
  refine lv_lload_n hx hb dX9_commonDivisor_3 rfl (lv_at hl 2 rfl) ?_
  refine lv_lstore (lv' := [(6, .long (lJ j2)), (4, .long (lJ j0)), (0, .long (lJ j0)), (2, .long (lJ j2))]) hx hb dX9_commonDivisor_4 hl (by decide) rfl (fun ls hl => ?_)
  refine q_iconst hx hb dX9_commonDivisor_6 ?_
  refine lv_istore (lv' := [(8, .int (iI 0)), (6, .long (lJ j2)), (4, .long (lJ j0)), (0, .long (lJ j0)), (2, .long (lJ j2))]) hx hb dX9_commonDivisor_7 hl (by decide) rfl (fun ls hl => ?_)
  have J9 : ∀ (n9 : Nat) (y4_9 : Int) (ly4_9 : -9223372036854775808 ≤ y4_9) (uy4_9 : y4_9 ≤ 9223372036854775807) (y6_9 : Int) (ly6_9 : -9223372036854775808 ≤ y6_9) (uy6_9 : y6_9 ≤ 9223372036854775807) (y8_9 : Int) (ly8_9 : -2147483648 ≤ y8_9) (uy8_9 : y8_9 ≤ 2147483647) (hn9 : ((2147483647 : Int) - y8_9).toNat < n9) (H : Heap) (locs : List Loc) (ls : Array Slot) (hw : Wd D A s.heap L0 f0 H locs) (hl : lv_has ls 11 [(4, .long (lJ y4_9)), (6, .long (lJ y6_9)), (8, .int (iI y8_9))]), W p l e ({ frames := 0, cells := 0, slots := 0, locals := 0 } : Room) s m ([.long (lJ j0), .long (lJ j2)] : List Value).toArray below meth c H locs (0) (0) (MQ below (Ql D (tq cy) L0 f0 s.heap.size (fun (r : Int) (L1 : List Nat) (f1 : Nat → va_E) => L0 = L1 ∧ f0 = f1 ∧ (True))) ([.long (lJ j0), .long (lJ j2)] : List Value).toArray s 0 0 A) (F0 m 9 ls []) := by
    intro n9
    induction n9 with
    | zero => intro y4_9 ly4_9 uy4_9 y6_9 ly6_9 uy6_9 y8_9 ly8_9 uy8_9 hn9; exact absurd hn9 (Nat.not_lt_zero _)
    | succ n9 ih9 =>
      intro y4_9 ly4_9 uy4_9 y6_9 ly6_9 uy6_9 y8_9 ly8_9 uy8_9 hn9 H locs ls hw hl
      refine lv_iload hx hb dX9_commonDivisor_9 (lv_at hl 2 rfl) ?_
      refine q_bipush hx hb dX9_commonDivisor_11 rfl ?_
      refine q_icmp_ge (tgt := 44) hx hb dX9_commonDivisor_13 (by decide) ⟨ly8_9, uy8_9⟩ ⟨by decide, by decide⟩ (fun c13 => ?_) (fun c13 => ?_)
      · refine lv_lload hx hb dX9_commonDivisor_44 (lv_at hl 0 rfl) ?_
        exact q_ret_l hx hb hr hlocks hK hAe hw ⟨ly4_9, uy4_9⟩ (Nat.le_of_ble_eq_true rfl) (Nat.le_of_ble_eq_true rfl) dX9_commonDivisor_46 ⟨rfl, rfl, by trivial⟩
      · refine lv_lload hx hb dX9_commonDivisor_16 (lv_at hl 1 rfl) ?_
        refine q_lconst0 hx hb dX9_commonDivisor_18 ?_
        refine q_lcmp hx hb dX9_commonDivisor_19 ⟨ly6_9, uy6_9⟩ ⟨by decide, by decide⟩ (fun x_1 lx_1 ux_1 ex_1 => ?_)
        refine q_if_eq (tgt := 44) hx hb dX9_commonDivisor_20 (by decide) ⟨lx_1, ux_1⟩ (fun c20 => ?_) (fun c20 => ?_)
        · refine lv_lload hx hb dX9_commonDivisor_44 (lv_at hl 0 rfl) ?_
          exact q_ret_l hx hb hr hlocks hK hAe hw ⟨ly4_9, uy4_9⟩ (Nat.le_of_ble_eq_true rfl) (Nat.le_of_ble_eq_true rfl) dX9_commonDivisor_46 ⟨rfl, rfl, by trivial⟩
        · refine lv_lload hx hb dX9_commonDivisor_23 (lv_at hl 0 rfl) ?_
          refine lv_lload hx hb dX9_commonDivisor_25 (lv_at hl 1 rfl) ?_
          first | refine q_lrem hx hb dX9_commonDivisor_27 ⟨ly4_9, uy4_9⟩ ⟨ly6_9, uy6_9⟩ (by omega) (by omega) (fun j_2 lj_2 uj_2 ej_2 => ?_) | refine q_lremw hx hb dX9_commonDivisor_27 ⟨ly4_9, uy4_9⟩ ⟨ly6_9, uy6_9⟩ (by omega) (fun j_2 lj_2 uj_2 ej_2 => ?_)
          refine lv_lstore (lv' := [(9, .long (lJ j_2)), (4, .long (lJ y4_9)), (6, .long (lJ y6_9)), (8, .int (iI y8_9))]) hx hb dX9_commonDivisor_28 hl (by decide) rfl (fun ls hl => ?_)
          refine lv_lload hx hb dX9_commonDivisor_30 (lv_at hl 2 rfl) ?_
          refine lv_lstore (lv' := [(4, .long (lJ y6_9)), (9, .long (lJ j_2)), (6, .long (lJ y6_9)), (8, .int (iI y8_9))]) hx hb dX9_commonDivisor_32 hl (by decide) rfl (fun ls hl => ?_)
          refine lv_lload hx hb dX9_commonDivisor_34 (lv_at hl 1 rfl) ?_
          refine lv_lstore (lv' := [(6, .long (lJ j_2)), (4, .long (lJ y6_9)), (9, .long (lJ j_2)), (8, .int (iI y8_9))]) hx hb dX9_commonDivisor_36 hl (by decide) rfl (fun ls hl => ?_)
          obtain ⟨x_3, lx_3, ux_3, hx_3, ex_3⟩ := q_inc y8_9 (1)
          try (replace ex_3 : x_3 = y8_9 + (1) := by omega)
          refine lv_iinc (v := iI x_3) (lv' := [(8, .int (iI x_3)), (6, .long (lJ j_2)), (4, .long (lJ y6_9)), (9, .long (lJ j_2))]) hx hb dX9_commonDivisor_38 hl (k := 3) rfl hx_3 (by decide) rfl (fun ls hl => ?_)
          refine lv_goto (tgt := 9) hx hb dX9_commonDivisor_41 (by decide) ?_
          exact ih9 y6_9 ly6_9 uy6_9 j_2 lj_2 uj_2 x_3 lx_3 ux_3 (by omega) _ _ _ hw (lv_sub hl [2, 1, 0] rfl)
  exact J9 ((((2147483647 : Int) - 0).toNat) + 1) j0 lj0 uj0 j2 lj2 uj2 0 (by decide) (by decide) (by omega) _ _ _ hw (lv_sub hl [2, 1, 0] rfl)
set_option maxHeartbeats 4000000 in
set_option maxRecDepth 100000 in
theorem c_X9_commonMultiple {Z : Zt} (zo : Zok Z) (l : Launch) (D : va_G) (cy : Cy) (L0 : List Nat) (f0 : Nat → va_E) (j0 : Int) (lj0 : -9223372036854775808 ≤ j0) (uj0 : j0 ≤ 9223372036854775807) (j2 : Int) (lj2 : -9223372036854775808 ≤ j2) (uj2 : j2 ≤ 9223372036854775807) : Cl Z l yX9_commonMultiple (Cond.code yX9_commonMultiple cX9_commonMultiple 6 (some .long) :: TB) ({ frames := 1, cells := 0, slots := 0, locals := 30 } : Room) 0 0 D (tq cy) [.long (lJ j0), .long (lJ j2)] L0 f0 (fun (r : Int) (L1 : List Nat) (f1 : Nat → va_E) => L0 = L1 ∧ f0 = f1 ∧ (True)) := by
  refine Cl.enter (cc := cX9_commonMultiple) (n := 6) rfl (plainFor_of_name (by decide)) (Nat.le_of_ble_eq_true rfl) ?_
  intro p e s m below meth c ls A hx hb hr hts hown hlocks hnm hml hK hA hAe hw hZ hl
  have hown : s.vm.findClass RX9 = some m.cls := hown
  have hl : lv_has ls 6 [(0, .long (lJ j0)), (2, .long (lJ j2))] := hl
  have hN : ZN s := (zo.2.2.2.2 _ _ _ hZ).2
  refine lv_lload_n hx hb dX9_commonMultiple_0 rfl (lv_at hl 0 rfl) ?_
  refine lv_lload_n hx hb dX9_commonMultiple_1 rfl (lv_at hl 1 rfl) ?_
  refine q_call_l hA hK hw (va_runS (As := [.long (lJ j0), .long (lJ j2)]) (rest := []) ⟨hx, hb, hml, hown, hts⟩ (c_X9_commonDivisor zo l D cy L0 f0 j0 lj0 uj0 j2 lj2 uj2 _) (va_cwS 2 hts (gT (inS (mr36 _ (List.mem_of_getElem? (i := 17) rfl)) (mr36 _ (List.mem_of_getElem? (i := 18) rfl)) (mr1 _ (List.mem_of_getElem? (i := 2) rfl)) (mr36 _ (List.mem_of_getElem? (i := 19) rfl)))) rfl rfl rfl (by decide +kernel) ⟨Nat.le_of_ble_eq_true rfl, Nat.le_of_ble_eq_true rfl⟩) (Wd.preS zo hA hZ hw hK) rfl rfl hl.1 rfl (lv_room (Nat.le_of_ble_eq_true rfl)) dX9_commonMultiple_2 ⟨Nat.le_of_ble_eq_true rfl, Nat.le_of_ble_eq_true rfl⟩) (fun x_1 L1 f1 H locs lx_1 ux_1 ex_1 hw => ?_)
  obtain ⟨rfl, rfl, ex_1⟩ := ex_1
  refine lv_lstore (lv' := [(4, .long (lJ x_1)), (0, .long (lJ j0)), (2, .long (lJ j2))]) hx hb dX9_commonMultiple_5 hl (by decide) rfl (fun ls hl => ?_)
  refine lv_lload_n hx hb dX9_commonMultiple_7 rfl (lv_at hl 1 rfl) ?_
  refine q_lconst0 hx hb dX9_commonMultiple_8 ?_
  refine q_lcmp hx hb dX9_commonMultiple_9 ⟨lj0, uj0⟩ ⟨by decide, by decide⟩ (fun x_2 lx_2 ux_2 ex_2 => ?_)
  refine q_if_eq (tgt := 26) hx hb dX9_commonMultiple_10 (by decide) ⟨lx_2, ux_2⟩ (fun c10 => ?_) (fun c10 => ?_)
  · refine q_lconst0 hx hb dX9_commonMultiple_26 ?_
    exact q_ret_l hx hb hr hlocks hK hAe hw ⟨by decide, by decide⟩ (Nat.le_of_ble_eq_true rfl) (Nat.le_of_ble_eq_true rfl) dX9_commonMultiple_27 ⟨rfl, rfl, by trivial⟩
  · refine lv_lload_n hx hb dX9_commonMultiple_13 rfl (lv_at hl 2 rfl) ?_
    refine q_lconst0 hx hb dX9_commonMultiple_14 ?_
    refine q_lcmp hx hb dX9_commonMultiple_15 ⟨lj2, uj2⟩ ⟨by decide, by decide⟩ (fun x_3 lx_3 ux_3 ex_3 => ?_)
    refine q_if_eq (tgt := 26) hx hb dX9_commonMultiple_16 (by decide) ⟨lx_3, ux_3⟩ (fun c16 => ?_) (fun c16 => ?_)
    · refine q_lconst0 hx hb dX9_commonMultiple_26 ?_
      exact q_ret_l hx hb hr hlocks hK hAe hw ⟨by decide, by decide⟩ (Nat.le_of_ble_eq_true rfl) (Nat.le_of_ble_eq_true rfl) dX9_commonMultiple_27 ⟨rfl, rfl, by trivial⟩
    · refine lv_lload hx hb dX9_commonMultiple_19 (lv_at hl 0 rfl) ?_
      refine q_lconst0 hx hb dX9_commonMultiple_21 ?_
      refine q_lcmp hx hb dX9_commonMultiple_22 ⟨lx_1, ux_1⟩ ⟨by decide, by decide⟩ (fun x_4 lx_4 ux_4 ex_4 => ?_)
      refine q_if_ne (tgt := 28) hx hb dX9_commonMultiple_23 (by decide) ⟨lx_4, ux_4⟩ (fun c23 => ?_) (fun c23 => ?_)
      · refine lv_lload_n hx hb dX9_commonMultiple_28 rfl (lv_at hl 1 rfl) ?_
        refine lv_lload hx hb dX9_commonMultiple_29 (lv_at hl 0 rfl) ?_
        first | refine q_ldiv hx hb dX9_commonMultiple_31 ⟨lj0, uj0⟩ ⟨lx_1, ux_1⟩ (by omega) (by omega) (fun j_5 lj_5 uj_5 ej_5 => ?_) | refine q_ldivw hx hb dX9_commonMultiple_31 ⟨lj0, uj0⟩ ⟨lx_1, ux_1⟩ (by omega) (fun j_5 lj_5 uj_5 ej_5 => ?_)
        refine lv_lload_n hx hb dX9_commonMultiple_32 rfl (lv_at hl 2 rfl) ?_
        first | refine q_lmul hx hb dX9_commonMultiple_33 ⟨by omega, by omega⟩ (fun j_6 lj_6 uj_6 ej_6 => ?_) | refine q_lmulw hx hb dX9_commonMultiple_33 (fun j_6 lj_6 uj_6 ej_6 => ?_)
        exact q_ret_l hx hb hr hlocks hK hAe hw ⟨lj_6, uj_6⟩ (Nat.le_of_ble_eq_true rfl) (Nat.le_of_ble_eq_true rfl) dX9_commonMultiple_34 ⟨rfl, rfl, by trivial⟩
      · refine q_lconst0 hx hb dX9_commonMultiple_26 ?_
        exact q_ret_l hx hb hr hlocks hK hAe hw ⟨by decide, by decide⟩ (Nat.le_of_ble_eq_true rfl) (Nat.le_of_ble_eq_true rfl) dX9_commonMultiple_27 ⟨rfl, rfl, by trivial⟩
set_option maxHeartbeats 4000000 in
set_option maxRecDepth 100000 in
theorem c_X9_asInt {Z : Zt} (zo : Zok Z) (l : Launch) (D : va_G) (cy : Cy) (L0 : List Nat) (f0 : Nat → va_E) (j0 : Int) (lj0 : -9223372036854775808 ≤ j0) (uj0 : j0 ≤ 9223372036854775807) : Ci Z l yX9_asInt (Cond.code yX9_asInt cX9_asInt 2 (some .int) :: TB) ({ frames := 0, cells := 0, slots := 0, locals := 0 } : Room) 0 0 D (tq cy) [.long (lJ j0)] L0 f0 (fun (r : Int) (L1 : List Nat) (f1 : Nat → va_E) => L0 = L1 ∧ f0 = f1 ∧ (True)) := by
  refine Ci.enter (cc := cX9_asInt) (n := 2) rfl (plainFor_of_name (by decide)) (Nat.le_of_ble_eq_true rfl) ?_
  intro p e s m below meth c ls A hx hb hr hts hown hlocks hnm hml hK hA hAe hw hZ hl
  have hown : s.vm.findClass RX9 = some m.cls := hown
  have hl : lv_has ls 2 [(0, .long (lJ j0))] := hl
  have hN : ZN s := (zo.2.2.2.2 _ _ _ hZ).2
  refine lv_lload_n hx hb dX9_asInt_0 rfl (lv_at hl 0 rfl) ?_
  refine q_ldc2 (n := 2147483647) hx hb hown (hts _ (List.mem_cons_of_mem _ (mr41 _ (List.mem_of_getElem? (i := 12) rfl)))) rfl dX9_asInt_1 ?_
  refine q_lcmp hx hb dX9_asInt_4 ⟨lj0, uj0⟩ ⟨by decide, by decide⟩ (fun x_1 lx_1 ux_1 ex_1 => ?_)
  refine q_if_le (tgt := 13) hx hb dX9_asInt_5 (by decide) ⟨lx_1, ux_1⟩ (fun c5 => ?_) (fun c5 => ?_)
  · refine lv_lload_n hx hb dX9_asInt_13 rfl (lv_at hl 0 rfl) ?_
    refine q_l2i hx hb dX9_asInt_14 (fun x_2 lx_2 ux_2 ex_2 => ?_)
    exact q_ret_i hx hb hr hlocks hK hAe hw ⟨lx_2, ux_2⟩ (Nat.le_of_ble_eq_true rfl) (Nat.le_of_ble_eq_true rfl) dX9_asInt_15 ⟨rfl, rfl, by trivial⟩
  · refine q_bipush hx hb dX9_asInt_8 rfl ?_
    refine lv_goto (tgt := 15) hx hb dX9_asInt_10 (by decide) ?_
    exact q_ret_i hx hb hr hlocks hK hAe hw ⟨by decide, by decide⟩ (Nat.le_of_ble_eq_true rfl) (Nat.le_of_ble_eq_true rfl) dX9_asInt_15 ⟨rfl, rfl, by trivial⟩
set_option maxHeartbeats 4000000 in
set_option maxRecDepth 100000 in
theorem c_X3_dayIn {Z : Zt} (zo : Zok Z) (l : Launch) (D : va_G) (cy : Cy) (L0 : List Nat) (f0 : Nat → va_E) (a0 : Nat) (x1 : Int) (lx1 : -2147483648 ≤ x1) (ux1 : x1 ≤ 2147483647) (m_a0 : a0 ∈ L0) (o_a0 : Ob f0 a0 2) (hg : GI cy L0 f0) : Ci Z l yX3_dayIn (Cond.code yX3_dayIn cX3_dayIn 5 (some .int) :: TB) ({ frames := 1, cells := 0, slots := 0, locals := 20 } : Room) 0 0 D (tq cy) [.ref a0, .int (iI x1)] L0 f0 (fun (r : Int) (L1 : List Nat) (f1 : Nat → va_E) => L0 = L1 ∧ f0 = f1 ∧ (True)) := by
  refine Ci.enter (cc := cX3_dayIn) (n := 5) rfl (plainFor_of_name (by decide)) (Nat.le_of_ble_eq_true rfl) ?_
  intro p e s m below meth c ls A hx hb hr hts hown hlocks hnm hml hK hA hAe hw hZ hl
  have hown : s.vm.findClass RX3 = some m.cls := hown
  have hl : lv_has ls 5 [(0, .ref a0), (1, .int (iI x1))] := hl
  have hN : ZN s := (zo.2.2.2.2 _ _ _ hZ).2
  refine lv_iload_n hx hb dX3_dayIn_0 rfl (lv_at hl 1 rfl) ?_
  refine q_call_i hA hK hw (va_runSN (As := [.int (iI x1)]) (rest := []) ⟨hx, hb, hml, hown, hts⟩ (c_X1_monthStart zo l D cy L0 f0 x1 lx1 ux1 _) ⟨va_cnB 1 hts (gT (inC (mr12 _ (List.mem_of_getElem? (i := 3) rfl)))) rfl rfl rfl (hN _ (List.mem_of_getElem? (i := 6) rfl)) (hts _ (List.mem_cons_of_mem _ (mr11 _ (List.mem_of_getElem? (i := 20) rfl)))) (by decide +kernel) ⟨Nat.le_of_ble_eq_true rfl, Nat.le_of_ble_eq_true rfl⟩, (hts _ (List.mem_cons_of_mem _ (mr12 _ (List.mem_of_getElem? (i := 2) rfl)))), trivial⟩ (Wd.preS zo hA hZ hw hK) rfl rfl hl.1 rfl (lv_room (Nat.le_of_ble_eq_true rfl)) dX3_dayIn_1 ⟨Nat.le_of_ble_eq_true rfl, Nat.le_of_ble_eq_true rfl⟩) (fun x_1 L1 f1 H locs lx_1 ux_1 ex_1 hw => ?_)
  obtain ⟨rfl, rfl, ex_1⟩ := ex_1
  refine lv_istore_n (lv' := [(2, .int (iI x_1)), (0, .ref a0), (1, .int (iI x1))]) hx hb dX3_dayIn_4 rfl hl (by decide) rfl (fun ls hl => ?_)
  refine lv_iload_n hx hb dX3_dayIn_5 rfl (lv_at hl 2 rfl) ?_
  refine q_iconst hx hb dX3_dayIn_6 ?_
  first | refine q_iadd hx hb dX3_dayIn_7 ⟨by omega, by omega⟩ (fun x_2 lx_2 ux_2 ex_2 => ?_) | refine q_iaddw hx hb dX3_dayIn_7 (fun x_2 lx_2 ux_2 _ => ?_)
  refine q_call_i hA hK hw (va_runSN (As := [.int (iI x_2)]) (rest := []) ⟨hx, hb, hml, hown, hts⟩ (c_X1_monthStart zo l D cy L0 f0 x_2 lx_2 ux_2 _) ⟨va_cnB 1 hts (gT (inC (mr12 _ (List.mem_of_getElem? (i := 3) rfl)))) rfl rfl rfl (hN _ (List.mem_of_getElem? (i := 6) rfl)) (hts _ (List.mem_cons_of_mem _ (mr11 _ (List.mem_of_getElem? (i := 20) rfl)))) (by decide +kernel) ⟨Nat.le_of_ble_eq_true rfl, Nat.le_of_ble_eq_true rfl⟩, (hts _ (List.mem_cons_of_mem _ (mr12 _ (List.mem_of_getElem? (i := 2) rfl)))), trivial⟩ (Wd.preS zo hA hZ hw hK) rfl rfl hl.1 rfl (lv_room (Nat.le_of_ble_eq_true rfl)) dX3_dayIn_8 ⟨Nat.le_of_ble_eq_true rfl, Nat.le_of_ble_eq_true rfl⟩) (fun x_3 L1 f1 H locs lx_3 ux_3 ex_3 hw => ?_)
  obtain ⟨rfl, rfl, ex_3⟩ := ex_3
  refine q_iconst hx hb dX3_dayIn_11 ?_
  first | refine q_isub hx hb dX3_dayIn_12 ⟨by omega, by omega⟩ (fun x_4 lx_4 ux_4 ex_4 => ?_) | refine q_isubw hx hb dX3_dayIn_12 (fun x_4 lx_4 ux_4 _ => ?_)
  refine lv_istore_n (lv' := [(3, .int (iI x_4)), (2, .int (iI x_1)), (0, .ref a0), (1, .int (iI x1))]) hx hb dX3_dayIn_13 rfl hl (by decide) rfl (fun ls hl => ?_)
  refine lv_aload_n hx hb dX3_dayIn_14 rfl (lv_at hl 2 rfl) ?_
  refine q_geti (ci := 2) (C := RX3) (T := TX3) (N := 7) hx hb hts (fun w h => List.mem_cons_of_mem _ (mfX30 w h)) hown hK hw m_a0 o_a0 rfl 0 (by decide) (hts _ (List.mem_cons_of_mem _ (mr15 _ (List.mem_of_getElem? (i := 20) rfl)))) (fun x9 h9 => u_same (hts _ (List.mem_cons_of_mem _ (mr15 _ (List.mem_of_getElem? (i := 21) rfl)))) x9 h9) rfl dX3_dayIn_15 (fun x_5 lx_5 ux_5 ex_5 => ?_)
  have J121 : ∀ (z4_121 : Int) (lz4_121 : -2147483648 ≤ z4_121) (uz4_121 : z4_121 ≤ 2147483647) (H : Heap) (locs : List Loc) (ls : Array Slot) (hw : Wd D A s.heap L0 f0 H locs) (hl : lv_has ls 5 [(3, .int (iI x_4)), (4, .int (iI z4_121))]), W p l e ({ frames := 1, cells := 0, slots := 0, locals := 20 } : Room) s m ([.ref a0, .int (iI x1)] : List Value).toArray below meth c H locs (0 + 0 + 0) (0 + 0 + 0) (MQ below (Qi D (tq cy) L0 f0 s.heap.size (fun (r : Int) (L1 : List Nat) (f1 : Nat → va_E) => L0 = L1 ∧ f0 = f1 ∧ (True))) ([.ref a0, .int (iI x1)] : List Value).toArray s 0 0 A) (F0 m 121 ls []) := by
    intro z4_121 lz4_121 uz4_121 H locs ls hw hl
    refine lv_iload hx hb dX3_dayIn_121 (lv_at hl 1 rfl) ?_
    refine lv_iload_n hx hb dX3_dayIn_123 rfl (lv_at hl 0 rfl) ?_
    refine q_icmp_gt (tgt := 132) hx hb dX3_dayIn_124 (by decide) ⟨lz4_121, uz4_121⟩ ⟨lx_4, ux_4⟩ (fun c124 => ?_) (fun c124 => ?_)
    · refine q_iconst hx hb dX3_dayIn_132 ?_
      exact q_ret_i hx hb hr hlocks hK hAe hw ⟨by decide, by decide⟩ (Nat.le_of_ble_eq_true rfl) (Nat.le_of_ble_eq_true rfl) dX3_dayIn_133 ⟨rfl, rfl, by trivial⟩
    · refine lv_iload hx hb dX3_dayIn_127 (lv_at hl 1 rfl) ?_
      refine lv_goto (tgt := 133) hx hb dX3_dayIn_129 (by decide) ?_
      exact q_ret_i hx hb hr hlocks hK hAe hw ⟨lz4_121, uz4_121⟩ (Nat.le_of_ble_eq_true rfl) (Nat.le_of_ble_eq_true rfl) dX3_dayIn_133 ⟨rfl, rfl, by trivial⟩
  have t18 : (iI x_5).toInt = x_5 := iI_toInt ⟨lx_5, ux_5⟩
  rcases (show (x_5 < 4 ∨ 6 < x_5) ∨ (x_5 = 4) ∨ (x_5 = 5) ∨ (x_5 = 6) by omega) with k18 | k18 | k18 | k18
  · refine lv_tableOut (tgt := 111) hx hb dX3_dayIn_18 (by rw [t18]; omega) (by decide) ?_
    refine lv_iload_n hx hb dX3_dayIn_111 rfl (lv_at hl 1 rfl) ?_
    refine lv_aload_n hx hb dX3_dayIn_112 rfl (lv_at hl 2 rfl) ?_
    refine q_geti (ci := 2) (C := RX3) (T := TX3) (N := 7) hx hb hts (fun w h => List.mem_cons_of_mem _ (mfX30 w h)) hown hK hw m_a0 o_a0 rfl 5 (by decide) (hts _ (List.mem_cons_of_mem _ (mr13 _ (List.mem_of_getElem? (i := 20) rfl)))) (fun _ h => h) rfl dX3_dayIn_113 (fun x_6 lx_6 ux_6 ex_6 => ?_)
    first | refine q_iadd hx hb dX3_dayIn_116 ⟨by omega, by omega⟩ (fun x_7 lx_7 ux_7 ex_7 => ?_) | refine q_iaddw hx hb dX3_dayIn_116 (fun x_7 lx_7 ux_7 _ => ?_)
    refine q_iconst hx hb dX3_dayIn_117 ?_
    first | refine q_isub hx hb dX3_dayIn_118 ⟨by omega, by omega⟩ (fun x_8 lx_8 ux_8 ex_8 => ?_) | refine q_isubw hx hb dX3_dayIn_118 (fun x_8 lx_8 ux_8 _ => ?_)
    refine lv_istore (lv' := [(4, .int (iI x_8)), (3, .int (iI x_4)), (2, .int (iI x_1)), (0, .ref a0), (1, .int (iI x1))]) hx hb dX3_dayIn_119 hl (by decide) rfl (fun ls hl => ?_)
    exact J121 x_8 lx_8 ux_8 _ _ _ hw (lv_sub hl [1, 0] rfl)
  · refine lv_tableIn (tgt := 44) (off := 26) hx hb dX3_dayIn_18 (by rw [t18]; omega) (by rw [t18]; omega) (by rw [t18, k18]; rfl) (by decide) ?_
    refine lv_iload_n hx hb dX3_dayIn_44 rfl (lv_at hl 0 rfl) ?_
    refine lv_aload_n hx hb dX3_dayIn_45 rfl (lv_at hl 2 rfl) ?_
    refine q_geti (ci := 2) (C := RX3) (T := TX3) (N := 7) hx hb hts (fun w h => List.mem_cons_of_mem _ (mfX30 w h)) hown hK hw m_a0 o_a0 rfl 5 (by decide) (hts _ (List.mem_cons_of_mem _ (mr13 _ (List.mem_of_getElem? (i := 20) rfl)))) (fun _ h => h) rfl dX3_dayIn_46 (fun x_9 lx_9 ux_9 ex_9 => ?_)
    first | refine q_isub hx hb dX3_dayIn_49 ⟨by omega, by omega⟩ (fun x_10 lx_10 ux_10 ex_10 => ?_) | refine q_isubw hx hb dX3_dayIn_49 (fun x_10 lx_10 ux_10 _ => ?_)
    refine q_iconst hx hb dX3_dayIn_50 ?_
    first | refine q_iadd hx hb dX3_dayIn_51 ⟨by omega, by omega⟩ (fun x_11 lx_11 ux_11 ex_11 => ?_) | refine q_iaddw hx hb dX3_dayIn_51 (fun x_11 lx_11 ux_11 _ => ?_)
    refine lv_istore (lv' := [(4, .int (iI x_11)), (3, .int (iI x_4)), (2, .int (iI x_1)), (0, .ref a0), (1, .int (iI x1))]) hx hb dX3_dayIn_52 hl (by decide) rfl (fun ls hl => ?_)
    refine lv_goto (tgt := 121) hx hb dX3_dayIn_54 (by decide) ?_
    exact J121 x_11 lx_11 ux_11 _ _ _ hw (lv_sub hl [1, 0] rfl)
  · refine lv_tableIn (tgt := 57) (off := 39) hx hb dX3_dayIn_18 (by rw [t18]; omega) (by rw [t18]; omega) (by rw [t18, k18]; rfl) (by decide) ?_
    refine lv_iload_n hx hb dX3_dayIn_57 rfl (lv_at hl 1 rfl) ?_
    refine lv_aload_n hx hb dX3_dayIn_58 rfl (lv_at hl 2 rfl) ?_
    refine q_geti (ci := 2) (C := RX3) (T := TX3) (N := 7) hx hb hts (fun w h => List.mem_cons_of_mem _ (mfX30 w h)) hown hK hw m_a0 o_a0 rfl 6 (by decide) (hts _ (List.mem_cons_of_mem _ (mr13 _ (List.mem_of_getElem? (i := 21) rfl)))) (fun _ h => h) rfl dX3_dayIn_59 (fun x_12 lx_12 ux_12 ex_12 => ?_)
    refine lv_iload_n hx hb dX3_dayIn_62 rfl (lv_at hl 1 rfl) ?_
    refine q_call_i hA hK hw (va_runSN (As := [.int (iI x_1)]) (rest := [.int (iI x_12), .int (iI x_1)]) ⟨hx, hb, hml, hown, hts⟩ (c_X1_weekdayOf zo l D cy L0 f0 x_1 lx_1 ux_1 _) ⟨va_cnB 1 hts (gT (inC (mr13 _ (List.mem_of_getElem? (i := 13) rfl)))) rfl rfl rfl (hN _ (List.mem_of_getElem? (i := 7) rfl)) (hts _ (List.mem_cons_of_mem _ (mr11 _ (List.mem_of_getElem? (i := 20) rfl)))) (by decide +kernel) ⟨Nat.le_of_ble_eq_true rfl, Nat.le_of_ble_eq_true rfl⟩, (hts _ (List.mem_cons_of_mem _ (mr13 _ (List.mem_of_getElem? (i := 12) rfl)))), trivial⟩ (Wd.preS zo hA hZ hw hK) rfl rfl hl.1 rfl (lv_room (Nat.le_of_ble_eq_true rfl)) dX3_dayIn_63 ⟨Nat.le_of_ble_eq_true rfl, Nat.le_of_ble_eq_true rfl⟩) (fun x_13 L1 f1 H locs lx_13 ux_13 ex_13 hw => ?_)
    obtain ⟨rfl, rfl, ex_13⟩ := ex_13
    first | refine q_isub hx hb dX3_dayIn_66 ⟨by omega, by omega⟩ (fun x_14 lx_14 ux_14 ex_14 => ?_) | refine q_isubw hx hb dX3_dayIn_66 (fun x_14 lx_14 ux_14 _ => ?_)
    refine q_bipush hx hb dX3_dayIn_67 rfl ?_
    first | refine q_iadd hx hb dX3_dayIn_69 ⟨by omega, by omega⟩ (fun x_15 lx_15 ux_15 ex_15 => ?_) | refine q_iaddw hx hb dX3_dayIn_69 (fun x_15 lx_15 ux_15 _ => ?_)
    refine q_bipush hx hb dX3_dayIn_70 rfl ?_
    first | refine q_irem hx hb dX3_dayIn_72 ⟨lx_15, ux_15⟩ ⟨by decide, by decide⟩ (by omega) (by omega) (fun x_16 lx_16 ux_16 ex_16 => ?_) | refine q_iremw hx hb dX3_dayIn_72 ⟨lx_15, ux_15⟩ ⟨by decide, by decide⟩ (by omega) (fun x_16 lx_16 ux_16 ex_16 => ?_)
    first | refine q_iadd hx hb dX3_dayIn_73 ⟨by omega, by omega⟩ (fun x_17 lx_17 ux_17 ex_17 => ?_) | refine q_iaddw hx hb dX3_dayIn_73 (fun x_17 lx_17 ux_17 _ => ?_)
    refine q_bipush hx hb dX3_dayIn_74 rfl ?_
    refine lv_aload_n hx hb dX3_dayIn_76 rfl (lv_at hl 2 rfl) ?_
    refine q_geti (ci := 2) (C := RX3) (T := TX3) (N := 7) hx hb hts (fun w h => List.mem_cons_of_mem _ (mfX30 w h)) hown hK hw m_a0 o_a0 rfl 5 (by decide) (hts _ (List.mem_cons_of_mem _ (mr13 _ (List.mem_of_getElem? (i := 20) rfl)))) (fun _ h => h) rfl dX3_dayIn_77 (fun x_18 lx_18 ux_18 ex_18 => ?_)
    refine q_iconst hx hb dX3_dayIn_80 ?_
    first | refine q_isub hx hb dX3_dayIn_81 ⟨by omega, by omega⟩ (fun x_19 lx_19 ux_19 ex_19 => ?_) | refine q_isubw hx hb dX3_dayIn_81 (fun x_19 lx_19 ux_19 _ => ?_)
    first | refine q_imul hx hb dX3_dayIn_82 ⟨by omega, by omega⟩ (fun x_20 lx_20 ux_20 ex_20 => ?_) | refine q_imulw hx hb dX3_dayIn_82 (fun x_20 lx_20 ux_20 _ => ?_)
    first | refine q_iadd hx hb dX3_dayIn_83 ⟨by omega, by omega⟩ (fun x_21 lx_21 ux_21 ex_21 => ?_) | refine q_iaddw hx hb dX3_dayIn_83 (fun x_21 lx_21 ux_21 _ => ?_)
    refine lv_istore (lv' := [(4, .int (iI x_21)), (3, .int (iI x_4)), (2, .int (iI x_1)), (0, .ref a0), (1, .int (iI x1))]) hx hb dX3_dayIn_84 hl (by decide) rfl (fun ls hl => ?_)
    refine lv_goto (tgt := 121) hx hb dX3_dayIn_86 (by decide) ?_
    exact J121 x_21 lx_21 ux_21 _ _ _ hw (lv_sub hl [1, 0] rfl)
  · refine lv_tableIn (tgt := 89) (off := 71) hx hb dX3_dayIn_18 (by rw [t18]; omega) (by rw [t18]; omega) (by rw [t18, k18]; rfl) (by decide) ?_
    refine lv_iload_n hx hb dX3_dayIn_89 rfl (lv_at hl 0 rfl) ?_
    refine lv_iload_n hx hb dX3_dayIn_90 rfl (lv_at hl 0 rfl) ?_
    refine q_call_i hA hK hw (va_runSN (As := [.int (iI x_4)]) (rest := [.int (iI x_4)]) ⟨hx, hb, hml, hown, hts⟩ (c_X1_weekdayOf zo l D cy L0 f0 x_4 lx_4 ux_4 _) ⟨va_cnB 1 hts (gT (inC (mr13 _ (List.mem_of_getElem? (i := 13) rfl)))) rfl rfl rfl (hN _ (List.mem_of_getElem? (i := 7) rfl)) (hts _ (List.mem_cons_of_mem _ (mr11 _ (List.mem_of_getElem? (i := 20) rfl)))) (by decide +kernel) ⟨Nat.le_of_ble_eq_true rfl, Nat.le_of_ble_eq_true rfl⟩, (hts _ (List.mem_cons_of_mem _ (mr13 _ (List.mem_of_getElem? (i := 12) rfl)))), trivial⟩ (Wd.preS zo hA hZ hw hK) rfl rfl hl.1 rfl (lv_room (Nat.le_of_ble_eq_true rfl)) dX3_dayIn_91 ⟨Nat.le_of_ble_eq_true rfl, Nat.le_of_ble_eq_true rfl⟩) (fun x_22 L1 f1 H locs lx_22 ux_22 ex_22 hw => ?_)
    obtain ⟨rfl, rfl, ex_22⟩ := ex_22
    refine lv_aload_n hx hb dX3_dayIn_94 rfl (lv_at hl 2 rfl) ?_
    refine q_geti (ci := 2) (C := RX3) (T := TX3) (N := 7) hx hb hts (fun w h => List.mem_cons_of_mem _ (mfX30 w h)) hown hK hw m_a0 o_a0 rfl 6 (by decide) (hts _ (List.mem_cons_of_mem _ (mr13 _ (List.mem_of_getElem? (i := 21) rfl)))) (fun _ h => h) rfl dX3_dayIn_95 (fun x_23 lx_23 ux_23 ex_23 => ?_)
    first | refine q_isub hx hb dX3_dayIn_98 ⟨by omega, by omega⟩ (fun x_24 lx_24 ux_24 ex_24 => ?_) | refine q_isubw hx hb dX3_dayIn_98 (fun x_24 lx_24 ux_24 _ => ?_)
    refine q_bipush hx hb dX3_dayIn_99 rfl ?_
    first | refine q_iadd hx hb dX3_dayIn_101 ⟨by omega, by omega⟩ (fun x_25 lx_25 ux_25 ex_25 => ?_) | refine q_iaddw hx hb dX3_dayIn_101 (fun x_25 lx_25 ux_25 _ => ?_)
    refine q_bipush hx hb dX3_dayIn_102 rfl ?_
    first | refine q_irem hx hb dX3_dayIn_104 ⟨lx_25, ux_25⟩ ⟨by decide, by decide⟩ (by omega) (by omega) (fun x_26 lx_26 ux_26 ex_26 => ?_) | refine q_iremw hx hb dX3_dayIn_104 ⟨lx_25, ux_25⟩ ⟨by decide, by decide⟩ (by omega) (fun x_26 lx_26 ux_26 ex_26 => ?_)
    first | refine q_isub hx hb dX3_dayIn_105 ⟨by omega, by omega⟩ (fun x_27 lx_27 ux_27 ex_27 => ?_) | refine q_isubw hx hb dX3_dayIn_105 (fun x_27 lx_27 ux_27 _ => ?_)
    refine lv_istore (lv' := [(4, .int (iI x_27)), (3, .int (iI x_4)), (2, .int (iI x_1)), (0, .ref a0), (1, .int (iI x1))]) hx hb dX3_dayIn_106 hl (by decide) rfl (fun ls hl => ?_)
    refine lv_goto (tgt := 121) hx hb dX3_dayIn_108 (by decide) ?_
    exact J121 x_27 lx_27 ux_27 _ _ _ hw (lv_sub hl [1, 0] rfl)
set_option maxHeartbeats 4000000 in
set_option maxRecDepth 100000 in
theorem c_X3_monthFrom {Z : Zt} (zo : Zok Z) (l : Launch) (D : va_G) (cy : Cy) (L0 : List Nat) (f0 : Nat → va_E) (a0 : Nat) (x1 : Int) (lx1 : -2147483648 ≤ x1) (ux1 : x1 ≤ 2147483647) (m_a0 : a0 ∈ L0) (o_a0 : Ob f0 a0 2) (hg : GI cy L0 f0) : Ci Z l yX3_monthFrom (Cond.code yX3_monthFrom cX3_monthFrom 4 (some .int) :: TB) ({ frames := 1, cells := 0, slots := 0, locals := 22 } : Room) 0 0 D (tq cy) [.ref a0, .int (iI x1)] L0 f0 (fun (r : Int) (L1 : List Nat) (f1 : Nat → va_E) => L0 = L1 ∧ f0 = f1 ∧ (True)) := by
  refine Ci.enter (cc := cX3_monthFrom) (n := 4) rfl (plainFor_of_name (by decide)) (Nat.le_of_ble_eq_true rfl) ?_
  intro p e s m below meth c ls A hx hb hr hts hown hlocks hnm hml hK hA hAe hw hZ hl
  have hown : s.vm.findClass RX3 = some m.cls := hown
  have hl : lv_has ls 4 [(0, .ref a0), (1, .int (iI x1))] := hl
  have hN : ZN s := (zo.2.2.2.2 _ _ _ hZ).2
  refine lv_iload_n hx hb dX3_monthFrom_0 rfl (lv_at hl 1 rfl) ?_
  refine q_call_i hA hK hw (va_runSN (As := [.int (iI x1)]) (rest := []) ⟨hx, hb, hml, hown, hts⟩ (c_X1_monthOf zo l D cy L0 f0 x1 lx1 ux1 _) ⟨va_cnB 1 hts (gT (inC (mr14 _ (List.mem_of_getElem? (i := 0) rfl)))) rfl rfl rfl (hN _ (List.mem_of_getElem? (i := 5) rfl)) (hts _ (List.mem_cons_of_mem _ (mr11 _ (List.mem_of_getElem? (i := 20) rfl)))) (by decide +kernel) ⟨Nat.le_of_ble_eq_true rfl, Nat.le_of_ble_eq_true rfl⟩, (hts _ (List.mem_cons_of_mem _ (mr13 _ (List.mem_of_getElem? (i := 23) rfl)))), trivial⟩ (Wd.preS zo hA hZ hw hK) rfl rfl hl.1 rfl (lv_room (Nat.le_of_ble_eq_true rfl)) dX3_monthFrom_1 ⟨Nat.le_of_ble_eq_true rfl, Nat.le_of_ble_eq_true rfl⟩) (fun x_1 L1 f1 H locs lx_1 ux_1 ex_1 hw => ?_)
  obtain ⟨rfl, rfl, ex_1⟩ := ex_1
  refine lv_istore_n (lv' := [(2, .int (iI x_1)), (0, .ref a0), (1, .int (iI x1))]) hx hb dX3_monthFrom_4 rfl hl (by decide) rfl (fun ls hl => ?_)
  refine lv_iload_n hx hb dX3_monthFrom_5 rfl (lv_at hl 0 rfl) ?_
  refine lv_aload_n hx hb dX3_monthFrom_6 rfl (lv_at hl 1 rfl) ?_
  refine q_geti (ci := 2) (C := RX3) (T := TX3) (N := 7) hx hb hts (fun w h => List.mem_cons_of_mem _ (mfX30 w h)) hown hK hw m_a0 o_a0 rfl 4 (by decide) (hts _ (List.mem_cons_of_mem _ (mr13 _ (List.mem_of_getElem? (i := 19) rfl)))) (fun _ h => h) rfl dX3_monthFrom_7 (fun x_2 lx_2 ux_2 ex_2 => ?_)
  have bx_2 : 0 ≤ x_2 ∧ x_2 ≤ 100000000 := by rw [ex_2]; exact hg.1 _ m_a0 2 4 o_a0
  first | refine q_isub hx hb dX3_monthFrom_10 ⟨by omega, by omega⟩ (fun x_3 lx_3 ux_3 ex_3 => ?_) | refine q_isubw hx hb dX3_monthFrom_10 (fun x_3 lx_3 ux_3 _ => ?_)
  refine lv_aload_n hx hb dX3_monthFrom_11 rfl (lv_at hl 1 rfl) ?_
  refine q_geti (ci := 2) (C := RX3) (T := TX3) (N := 7) hx hb hts (fun w h => List.mem_cons_of_mem _ (mfX30 w h)) hown hK hw m_a0 o_a0 rfl 3 (by decide) (hts _ (List.mem_cons_of_mem _ (mr13 _ (List.mem_of_getElem? (i := 18) rfl)))) (fun _ h => h) rfl dX3_monthFrom_12 (fun x_4 lx_4 ux_4 ex_4 => ?_)
  have bx_4 : 1 ≤ x_4 ∧ x_4 ≤ 12000 := by rw [ex_4]; exact hg.1 _ m_a0 2 3 o_a0
  first | refine q_irem hx hb dX3_monthFrom_15 ⟨lx_3, ux_3⟩ ⟨lx_4, ux_4⟩ (by omega) (by omega) (fun x_5 lx_5 ux_5 ex_5 => ?_) | refine q_iremw hx hb dX3_monthFrom_15 ⟨lx_3, ux_3⟩ ⟨lx_4, ux_4⟩ (by omega) (fun x_5 lx_5 ux_5 ex_5 => ?_)
  refine lv_istore_n (lv' := [(3, .int (iI x_5)), (2, .int (iI x_1)), (0, .ref a0), (1, .int (iI x1))]) hx hb dX3_monthFrom_16 rfl hl (by decide) rfl (fun ls hl => ?_)
  refine lv_iload_n hx hb dX3_monthFrom_17 rfl (lv_at hl 0 rfl) ?_
  refine q_if_ne (tgt := 25) hx hb dX3_monthFrom_18 (by decide) ⟨lx_5, ux_5⟩ (fun c18 => ?_) (fun c18 => ?_)
  · refine lv_iload_n hx hb dX3_monthFrom_25 rfl (lv_at hl 1 rfl) ?_
    refine lv_iload_n hx hb dX3_monthFrom_26 rfl (lv_at hl 0 rfl) ?_
    first | refine q_isub hx hb dX3_monthFrom_27 ⟨by omega, by omega⟩ (fun x_6 lx_6 ux_6 ex_6 => ?_) | refine q_isubw hx hb dX3_monthFrom_27 (fun x_6 lx_6 ux_6 _ => ?_)
    refine lv_aload_n hx hb dX3_monthFrom_28 rfl (lv_at hl 2 rfl) ?_
    refine q_geti (ci := 2) (C := RX3) (T := TX3) (N := 7) hx hb hts (fun w h => List.mem_cons_of_mem _ (mfX30 w h)) hown hK hw m_a0 o_a0 rfl 3 (by decide) (hts _ (List.mem_cons_of_mem _ (mr13 _ (List.mem_of_getElem? (i := 18) rfl)))) (fun _ h => h) rfl dX3_monthFrom_29 (fun x_7 lx_7 ux_7 ex_7 => ?_)
    have bx_7 : 1 ≤ x_7 ∧ x_7 ≤ 12000 := by rw [ex_7]; exact hg.1 _ m_a0 2 3 o_a0
    first | refine q_iadd hx hb dX3_monthFrom_32 ⟨by omega, by omega⟩ (fun x_8 lx_8 ux_8 ex_8 => ?_) | refine q_iaddw hx hb dX3_monthFrom_32 (fun x_8 lx_8 ux_8 _ => ?_)
    exact q_ret_i hx hb hr hlocks hK hAe hw ⟨lx_8, ux_8⟩ (Nat.le_of_ble_eq_true rfl) (Nat.le_of_ble_eq_true rfl) dX3_monthFrom_33 ⟨rfl, rfl, by trivial⟩
  · refine lv_iload_n hx hb dX3_monthFrom_21 rfl (lv_at hl 1 rfl) ?_
    refine lv_goto (tgt := 33) hx hb dX3_monthFrom_22 (by decide) ?_
    exact q_ret_i hx hb hr hlocks hK hAe hw ⟨lx_1, ux_1⟩ (Nat.le_of_ble_eq_true rfl) (Nat.le_of_ble_eq_true rfl) dX3_monthFrom_33 ⟨rfl, rfl, by trivial⟩
set_option maxHeartbeats 4000000 in
set_option maxRecDepth 100000 in
theorem c_X3_cycle {Z : Zt} (zo : Zok Z) (l : Launch) (D : va_G) (cy : Cy) (L0 : List Nat) (f0 : Nat → va_E) (a0 : Nat) (m_a0 : a0 ∈ L0) (o_a0 : Ob f0 a0 2) (hg : GI cy L0 f0) : Cl Z l yX3_cycle (Cond.code yX3_cycle cX3_cycle 1 (some .long) :: TB) ({ frames := 2, cells := 0, slots := 0, locals := 55 } : Room) 0 0 D (tq cy) [.ref a0] L0 f0 (fun (r : Int) (L1 : List Nat) (f1 : Nat → va_E) => L0 = L1 ∧ f0 = f1 ∧ (True)) := by
  refine Cl.enter (cc := cX3_cycle) (n := 1) rfl (plainFor_of_name (by decide)) (Nat.le_of_ble_eq_true rfl) ?_
  intro p e s m below meth c ls A hx hb hr hts hown hlocks hnm hml hK hA hAe hw hZ hl
  have hown : s.vm.findClass RX3 = some m.cls := hown
  have hl : lv_has ls 1 [(0, .ref a0)] := hl
  have hN : ZN s := (zo.2.2.2.2 _ _ _ hZ).2
  refine q_ldc2 (n := 146097) hx hb hown (hts _ (List.mem_cons_of_mem _ (mr36 _ (List.mem_of_getElem? (i := 13) rfl)))) rfl dX3_cycle_0 ?_
  refine lv_aload_n hx hb dX3_cycle_3 rfl (lv_at hl 0 rfl) ?_
  refine q_geti (ci := 2) (C := RX3) (T := TX3) (N := 7) hx hb hts (fun w h => List.mem_cons_of_mem _ (mfX30 w h)) hown hK hw m_a0 o_a0 rfl 3 (by decide) (hts _ (List.mem_cons_of_mem _ (mr13 _ (List.mem_of_getElem? (i := 18) rfl)))) (fun _ h => h) rfl dX3_cycle_4 (fun x_1 lx_1 ux_1 ex_1 => ?_)
  have bx_1 : 1 ≤ x_1 ∧ x_1 ≤ 12000 := by rw [ex_1]; exact hg.1 _ m_a0 2 3 o_a0
  refine q_i2l hx hb dX3_cycle_7 ⟨lx_1, ux_1⟩ ?_
  obtain ⟨j_2, lj_2, uj_2, ej_2⟩ : ∃ z : Int, -9223372036854775808 ≤ z ∧ z ≤ 9223372036854775807 ∧ x_1 = z := ⟨x_1, by omega, by omega, rfl⟩
  rw [show (lJ x_1) = lJ j_2 from by rw [ej_2]]
  refine q_ldc2 (n := 4800) hx hb hown (hts _ (List.mem_cons_of_mem _ (mr36 _ (List.mem_of_getElem? (i := 14) rfl)))) rfl dX3_cycle_8 ?_
  refine q_call_l hA hK hw (va_runSN (As := [.long (lJ j_2), .long (lJ 4800)]) (rest := [.long (lJ 146097)]) ⟨hx, hb, hml, hown, hts⟩ (c_X9_commonMultiple zo l D cy L0 f0 j_2 lj_2 uj_2 4800 (by decide) (by decide) _) ⟨va_cnB 2 hts (gT (inC (mr36 _ (List.mem_of_getElem? (i := 16) rfl)))) rfl rfl rfl (hN _ (List.mem_of_getElem? (i := 14) rfl)) (hts _ (List.mem_cons_of_mem _ (mr1 _ (List.mem_of_getElem? (i := 2) rfl)))) (by decide +kernel) ⟨Nat.le_of_ble_eq_true rfl, Nat.le_of_ble_eq_true rfl⟩, (hts _ (List.mem_cons_of_mem _ (mr36 _ (List.mem_of_getElem? (i := 15) rfl)))), trivial⟩ (Wd.preS zo hA hZ hw hK) rfl rfl hl.1 rfl (lv_room (Nat.le_of_ble_eq_true rfl)) dX3_cycle_11 ⟨Nat.le_of_ble_eq_true rfl, Nat.le_of_ble_eq_true rfl⟩) (fun x_3 L1 f1 H locs lx_3 ux_3 ex_3 hw => ?_)
  obtain ⟨rfl, rfl, ex_3⟩ := ex_3
  refine q_ldc2 (n := 4800) hx hb hown (hts _ (List.mem_cons_of_mem _ (mr36 _ (List.mem_of_getElem? (i := 14) rfl)))) rfl dX3_cycle_14 ?_
  first | refine q_ldiv hx hb dX3_cycle_17 ⟨lx_3, ux_3⟩ ⟨by decide, by decide⟩ (by omega) (by omega) (fun j_4 lj_4 uj_4 ej_4 => ?_) | refine q_ldivw hx hb dX3_cycle_17 ⟨lx_3, ux_3⟩ ⟨by decide, by decide⟩ (by omega) (fun j_4 lj_4 uj_4 ej_4 => ?_)
  first | refine q_lmul hx hb dX3_cycle_18 ⟨by omega, by omega⟩ (fun j_5 lj_5 uj_5 ej_5 => ?_) | refine q_lmulw hx hb dX3_cycle_18 (fun j_5 lj_5 uj_5 ej_5 => ?_)
  exact q_ret_l hx hb hr hlocks hK hAe hw ⟨lj_5, uj_5⟩ (Nat.le_of_ble_eq_true rfl) (Nat.le_of_ble_eq_true rfl) dX3_cycle_19 ⟨rfl, rfl, by trivial⟩
set_option maxHeartbeats 4000000 in
set_option maxRecDepth 100000 in
theorem c_X3_detail {Z : Zt} (zo : Zok Z) (l : Launch) (D : va_G) (cy : Cy) (L0 : List Nat) (f0 : Nat → va_E) (a0 : Nat) (m_a0 : a0 ∈ L0) (o_a0 : Ob f0 a0 2) (hg : GI cy L0 f0) : Ci Z l yX3_detail (Cond.code yX3_detail cX3_detail 1 (some .int) :: TB) ({ frames := 0, cells := 0, slots := 0, locals := 0 } : Room) 0 0 D (tq cy) [.ref a0] L0 f0 (fun (r : Int) (L1 : List Nat) (f1 : Nat → va_E) => L0 = L1 ∧ f0 = f1 ∧ (True)) := by
  refine Ci.enter (cc := cX3_detail) (n := 1) rfl (plainFor_of_name (by decide)) (Nat.le_of_ble_eq_true rfl) ?_
  intro p e s m below meth c ls A hx hb hr hts hown hlocks hnm hml hK hA hAe hw hZ hl
  have hown : s.vm.findClass RX3 = some m.cls := hown
  have hl : lv_has ls 1 [(0, .ref a0)] := hl
  have hN : ZN s := (zo.2.2.2.2 _ _ _ hZ).2
  refine lv_aload_n hx hb dX3_detail_0 rfl (lv_at hl 0 rfl) ?_
  refine q_geti (ci := 2) (C := RX3) (T := TX3) (N := 7) hx hb hts (fun w h => List.mem_cons_of_mem _ (mfX30 w h)) hown hK hw m_a0 o_a0 rfl 0 (by decide) (hts _ (List.mem_cons_of_mem _ (mr15 _ (List.mem_of_getElem? (i := 20) rfl)))) (fun x9 h9 => u_same (hts _ (List.mem_cons_of_mem _ (mr15 _ (List.mem_of_getElem? (i := 21) rfl)))) x9 h9) rfl dX3_detail_1 (fun x_1 lx_1 ux_1 ex_1 => ?_)
  refine q_bipush hx hb dX3_detail_4 rfl ?_
  refine q_icmp_ne (tgt := 11) hx hb dX3_detail_6 (by decide) ⟨lx_1, ux_1⟩ ⟨by decide, by decide⟩ (fun c6 => ?_) (fun c6 => ?_)
  · refine lv_aload_n hx hb dX3_detail_11 rfl (lv_at hl 0 rfl) ?_
    refine q_geti (ci := 2) (C := RX3) (T := TX3) (N := 7) hx hb hts (fun w h => List.mem_cons_of_mem _ (mfX30 w h)) hown hK hw m_a0 o_a0 rfl 0 (by decide) (hts _ (List.mem_cons_of_mem _ (mr15 _ (List.mem_of_getElem? (i := 20) rfl)))) (fun x9 h9 => u_same (hts _ (List.mem_cons_of_mem _ (mr15 _ (List.mem_of_getElem? (i := 21) rfl)))) x9 h9) rfl dX3_detail_12 (fun x_2 lx_2 ux_2 ex_2 => ?_)
    refine q_bipush hx hb dX3_detail_15 rfl ?_
    refine q_icmp_ne (tgt := 27) hx hb dX3_detail_17 (by decide) ⟨lx_2, ux_2⟩ ⟨by decide, by decide⟩ (fun c17 => ?_) (fun c17 => ?_)
    · refine lv_aload_n hx hb dX3_detail_27 rfl (lv_at hl 0 rfl) ?_
      refine q_geti (ci := 2) (C := RX3) (T := TX3) (N := 7) hx hb hts (fun w h => List.mem_cons_of_mem _ (mfX30 w h)) hown hK hw m_a0 o_a0 rfl 5 (by decide) (hts _ (List.mem_cons_of_mem _ (mr13 _ (List.mem_of_getElem? (i := 20) rfl)))) (fun _ h => h) rfl dX3_detail_28 (fun x_3 lx_3 ux_3 ex_3 => ?_)
      exact q_ret_i hx hb hr hlocks hK hAe hw ⟨lx_3, ux_3⟩ (Nat.le_of_ble_eq_true rfl) (Nat.le_of_ble_eq_true rfl) dX3_detail_31 ⟨rfl, rfl, by trivial⟩
    · refine lv_aload_n hx hb dX3_detail_20 rfl (lv_at hl 0 rfl) ?_
      refine q_geti (ci := 2) (C := RX3) (T := TX3) (N := 7) hx hb hts (fun w h => List.mem_cons_of_mem _ (mfX30 w h)) hown hK hw m_a0 o_a0 rfl 6 (by decide) (hts _ (List.mem_cons_of_mem _ (mr13 _ (List.mem_of_getElem? (i := 21) rfl)))) (fun _ h => h) rfl dX3_detail_21 (fun x_4 lx_4 ux_4 ex_4 => ?_)
      refine lv_goto (tgt := 31) hx hb dX3_detail_24 (by decide) ?_
      exact q_ret_i hx hb hr hlocks hK hAe hw ⟨lx_4, ux_4⟩ (Nat.le_of_ble_eq_true rfl) (Nat.le_of_ble_eq_true rfl) dX3_detail_31 ⟨rfl, rfl, by trivial⟩
  · refine q_iconst hx hb dX3_detail_9 ?_
    exact q_ret_i hx hb hr hlocks hK hAe hw ⟨by decide, by decide⟩ (Nat.le_of_ble_eq_true rfl) (Nat.le_of_ble_eq_true rfl) dX3_detail_10 ⟨rfl, rfl, by trivial⟩
set_option maxHeartbeats 4000000 in
set_option maxRecDepth 100000 in
theorem c_X3_nthWeekday {Z : Zt} (zo : Zok Z) (l : Launch) (D : va_G) (cy : Cy) (L0 : List Nat) (f0 : Nat → va_E) (a0 : Nat) (m_a0 : a0 ∈ L0) (o_a0 : Ob f0 a0 2) (hg : GI cy L0 f0) : Ci Z l yX3_nthWeekday (Cond.code yX3_nthWeekday cX3_nthWeekday 1 (some .int) :: TB) ({ frames := 0, cells := 0, slots := 0, locals := 0 } : Room) 0 0 D (tq cy) [.ref a0] L0 f0 (fun (r : Int) (L1 : List Nat) (f1 : Nat → va_E) => L0 = L1 ∧ f0 = f1 ∧ (True)) := by
  refine Ci.enter (cc := cX3_nthWeekday) (n := 1) rfl (plainFor_of_name (by decide)) (Nat.le_of_ble_eq_true rfl) ?_
  intro p e s m below meth c ls A hx hb hr hts hown hlocks hnm hml hK hA hAe hw hZ hl
  have hown : s.vm.findClass RX3 = some m.cls := hown
  have hl : lv_has ls 1 [(0, .ref a0)] := hl
  have hN : ZN s := (zo.2.2.2.2 _ _ _ hZ).2
  refine lv_aload_n hx hb dX3_nthWeekday_0 rfl (lv_at hl 0 rfl) ?_
  refine q_geti (ci := 2) (C := RX3) (T := TX3) (N := 7) hx hb hts (fun w h => List.mem_cons_of_mem _ (mfX30 w h)) hown hK hw m_a0 o_a0 rfl 0 (by decide) (hts _ (List.mem_cons_of_mem _ (mr15 _ (List.mem_of_getElem? (i := 20) rfl)))) (fun x9 h9 => u_same (hts _ (List.mem_cons_of_mem _ (mr15 _ (List.mem_of_getElem? (i := 21) rfl)))) x9 h9) rfl dX3_nthWeekday_1 (fun x_1 lx_1 ux_1 ex_1 => ?_)
  refine q_iconst hx hb dX3_nthWeekday_4 ?_
  refine q_icmp_ne (tgt := 15) hx hb dX3_nthWeekday_5 (by decide) ⟨lx_1, ux_1⟩ ⟨by decide, by decide⟩ (fun c5 => ?_) (fun c5 => ?_)
  · refine q_iconst hx hb dX3_nthWeekday_15 ?_
    exact q_ret_i hx hb hr hlocks hK hAe hw ⟨by decide, by decide⟩ (Nat.le_of_ble_eq_true rfl) (Nat.le_of_ble_eq_true rfl) dX3_nthWeekday_16 ⟨rfl, rfl, by trivial⟩
  · refine lv_aload_n hx hb dX3_nthWeekday_8 rfl (lv_at hl 0 rfl) ?_
    refine q_geti (ci := 2) (C := RX3) (T := TX3) (N := 7) hx hb hts (fun w h => List.mem_cons_of_mem _ (mfX30 w h)) hown hK hw m_a0 o_a0 rfl 6 (by decide) (hts _ (List.mem_cons_of_mem _ (mr13 _ (List.mem_of_getElem? (i := 21) rfl)))) (fun _ h => h) rfl dX3_nthWeekday_9 (fun x_2 lx_2 ux_2 ex_2 => ?_)
    refine lv_goto (tgt := 16) hx hb dX3_nthWeekday_12 (by decide) ?_
    exact q_ret_i hx hb hr hlocks hK hAe hw ⟨lx_2, ux_2⟩ (Nat.le_of_ble_eq_true rfl) (Nat.le_of_ble_eq_true rfl) dX3_nthWeekday_16 ⟨rfl, rfl, by trivial⟩
set_option maxHeartbeats 4000000 in
set_option maxRecDepth 100000 in
theorem c_X3_dayFrom {Z : Zt} (zo : Zok Z) (l : Launch) (D : va_G) (cy : Cy) (L0 : List Nat) (f0 : Nat → va_E) (a0 : Nat) (x1 : Int) (lx1 : -2147483648 ≤ x1) (ux1 : x1 ≤ 2147483647) (m_a0 : a0 ∈ L0) (o_a0 : Ob f0 a0 2) (hg : GI cy L0 f0) : Ci Z l yX3_dayFrom (Cond.code yX3_dayFrom cX3_dayFrom 5 (some .int) :: TB) ({ frames := 2, cells := 0, slots := 0, locals := 45 } : Room) 0 0 D (tq cy) [.ref a0, .int (iI x1)] L0 f0 (fun (r : Int) (L1 : List Nat) (f1 : Nat → va_E) => L0 = L1 ∧ f0 = f1 ∧ (True)) := by
  refine Ci.enter (cc := cX3_dayFrom) (n := 5) rfl (plainFor_of_name (by decide)) (Nat.le_of_ble_eq_true rfl) ?_
  intro p e s m below meth c ls A hx hb hr hts hown hlocks hnm hml hK hA hAe hw hZ hl
  have hown : s.vm.findClass RX3 = some m.cls := hown
  have hl : lv_has ls 5 [(0, .ref a0), (1, .int (iI x1))] := hl
  have hN : ZN s := (zo.2.2.2.2 _ _ _ hZ).2
  refine lv_iload_n hx hb dX3_dayFrom_0 rfl (lv_at hl 1 rfl) ?_
  refine lv_aload_n hx hb dX3_dayFrom_1 rfl (lv_at hl 0 rfl) ?_
  refine q_geti (ci := 2) (C := RX3) (T := TX3) (N := 7) hx hb hts (fun w h => List.mem_cons_of_mem _ (mfX30 w h)) hown hK hw m_a0 o_a0 rfl 2 (by decide) (hts _ (List.mem_cons_of_mem _ (mr15 _ (List.mem_of_getElem? (i := 10) rfl)))) (fun x9 h9 => u_same (hts _ (List.mem_cons_of_mem _ (mr15 _ (List.mem_of_getElem? (i := 11) rfl)))) x9 h9) rfl dX3_dayFrom_2 (fun x_1 lx_1 ux_1 ex_1 => ?_)
  refine q_max hx hb (hml.trans hl.1.symm) hown (hts _ (List.mem_cons_of_mem _ (mr13 _ (List.mem_of_getElem? (i := 17) rfl)))) (hts _ (List.mem_cons_of_mem _ (mr13 _ (List.mem_of_getElem? (i := 0) rfl)))) (hts _ (List.mem_cons_of_mem _ (mr6 _ (List.mem_of_getElem? (i := 14) rfl)))) (hts _ (List.mem_cons_of_mem _ (mr13 _ (List.mem_of_getElem? (i := 1) rfl)))) (Nat.le_of_ble_eq_true rfl) (Nat.le_of_ble_eq_true rfl) (Nat.le_of_ble_eq_true rfl) (Nat.le_of_ble_eq_true rfl) ⟨lx1, ux1⟩ ⟨lx_1, ux_1⟩ dX3_dayFrom_5 (fun x_2 lx_2 ux_2 ex_2 => ?_)
  refine lv_istore_n (lv' := [(2, .int (iI x_2)), (0, .ref a0), (1, .int (iI x1))]) hx hb dX3_dayFrom_8 rfl hl (by decide) rfl (fun ls hl => ?_)
  refine lv_aload_n hx hb dX3_dayFrom_9 rfl (lv_at hl 1 rfl) ?_
  refine lv_iload_n hx hb dX3_dayFrom_10 rfl (lv_at hl 0 rfl) ?_
  refine q_call_i hA hK hw (va_runV (As := [.int (iI x_2)]) (rest := []) ⟨hx, hb, hml, hown, hts⟩ (c_X3_monthFrom zo l D cy L0 f0 a0 x_2 lx_2 ux_2 m_a0 o_a0 hg _) (cwV 1 hts (gT (inV (mr15 _ (List.mem_of_getElem? (i := 12) rfl)) (mr15 _ (List.mem_of_getElem? (i := 13) rfl)) (mr15 _ (List.mem_of_getElem? (i := 14) rfl)) (mr12 _ (List.mem_of_getElem? (i := 18) rfl)) (mr15 _ (List.mem_of_getElem? (i := 15) rfl)))) rfl rfl rfl (by decide +kernel) ⟨Nat.le_of_ble_eq_true rfl, Nat.le_of_ble_eq_true rfl⟩) (Wd.preV zo hA hZ hw hK m_a0 o_a0 rfl) rfl rfl hl.1 rfl (lv_room (Nat.le_of_ble_eq_true rfl)) dX3_dayFrom_11 ⟨Nat.le_of_ble_eq_true rfl, Nat.le_of_ble_eq_true rfl⟩) (fun x_3 L1 f1 H locs lx_3 ux_3 ex_3 hw => ?_)
  obtain ⟨rfl, rfl, ex_3⟩ := ex_3
  refine lv_istore_n (lv' := [(3, .int (iI x_3)), (2, .int (iI x_2)), (0, .ref a0), (1, .int (iI x1))]) hx hb dX3_dayFrom_14 rfl hl (by decide) rfl (fun ls hl => ?_)
  have J15 : ∀ (n15 : Nat) (y3_15 : Int) (ly3_15 : -2147483648 ≤ y3_15) (uy3_15 : y3_15 ≤ 2147483647) (hn15 : (1300 - y3_15).toNat < n15) (H : Heap) (locs : List Loc) (ls : Array Slot) (hw : Wd D A s.heap L0 f0 H locs) (hl : lv_has ls 5 [(0, .ref a0), (2, .int (iI x_2)), (3, .int (iI y3_15))]), W p l e ({ frames := 2, cells := 0, slots := 0, locals := 45 } : Room) s m ([.ref a0, .int (iI x1)] : List Value).toArray below meth c H locs (0 + 0) (0 + 0) (MQ below (Qi D (tq cy) L0 f0 s.heap.size (fun (r : Int) (L1 : List Nat) (f1 : Nat → va_E) => L0 = L1 ∧ f0 = f1 ∧ (True))) ([.ref a0, .int (iI x1)] : List Value).toArray s 0 0 A) (F0 m 15 ls []) := by
    intro n15
    induction n15 with
    | zero => intro y3_15 ly3_15 uy3_15 hn15; exact absurd hn15 (Nat.not_lt_zero _)
    | succ n15 ih15 =>
      intro y3_15 ly3_15 uy3_15 hn15 H locs ls hw hl
      refine lv_iload_n hx hb dX3_dayFrom_15 rfl (lv_at hl 2 rfl) ?_
      refine q_sipush hx hb dX3_dayFrom_16 rfl ?_
      refine q_icmp_ge (tgt := 48) hx hb dX3_dayFrom_19 (by decide) ⟨ly3_15, uy3_15⟩ ⟨by decide, by decide⟩ (fun c19 => ?_) (fun c19 => ?_)
      · refine q_iconst hx hb dX3_dayFrom_48 ?_
        exact q_ret_i hx hb hr hlocks hK hAe hw ⟨by decide, by decide⟩ (Nat.le_of_ble_eq_true rfl) (Nat.le_of_ble_eq_true rfl) dX3_dayFrom_49 ⟨rfl, rfl, by trivial⟩
      · refine lv_aload_n hx hb dX3_dayFrom_22 rfl (lv_at hl 0 rfl) ?_
        refine lv_iload_n hx hb dX3_dayFrom_23 rfl (lv_at hl 2 rfl) ?_
        refine q_call_i hA hK hw (va_runV (As := [.int (iI y3_15)]) (rest := []) ⟨hx, hb, hml, hown, hts⟩ (c_X3_dayIn zo l D cy L0 f0 a0 y3_15 ly3_15 uy3_15 m_a0 o_a0 hg _) (cwV 1 hts (gT (inV (mr15 _ (List.mem_of_getElem? (i := 16) rfl)) (mr15 _ (List.mem_of_getElem? (i := 17) rfl)) (mr15 _ (List.mem_of_getElem? (i := 18) rfl)) (mr12 _ (List.mem_of_getElem? (i := 18) rfl)) (mr15 _ (List.mem_of_getElem? (i := 19) rfl)))) rfl rfl rfl (by decide +kernel) ⟨Nat.le_of_ble_eq_true rfl, Nat.le_of_ble_eq_true rfl⟩) (Wd.preV zo hA hZ hw hK m_a0 o_a0 rfl) rfl rfl hl.1 rfl (lv_room (Nat.le_of_ble_eq_true rfl)) dX3_dayFrom_24 ⟨Nat.le_of_ble_eq_true rfl, Nat.le_of_ble_eq_true rfl⟩) (fun x_4 L1 f1 H locs lx_4 ux_4 ex_4 hw => ?_)
        obtain ⟨rfl, rfl, ex_4⟩ := ex_4
        refine lv_istore (lv' := [(4, .int (iI x_4)), (0, .ref a0), (2, .int (iI x_2)), (3, .int (iI y3_15))]) hx hb dX3_dayFrom_27 hl (by decide) rfl (fun ls hl => ?_)
        refine lv_iload hx hb dX3_dayFrom_29 (lv_at hl 0 rfl) ?_
        refine lv_iload_n hx hb dX3_dayFrom_31 rfl (lv_at hl 2 rfl) ?_
        refine q_icmp_lt (tgt := 38) hx hb dX3_dayFrom_32 (by decide) ⟨lx_4, ux_4⟩ ⟨lx_2, ux_2⟩ (fun c32 => ?_) (fun c32 => ?_)
        · refine lv_iload_n hx hb dX3_dayFrom_38 rfl (lv_at hl 3 rfl) ?_
          refine lv_aload_n hx hb dX3_dayFrom_39 rfl (lv_at hl 1 rfl) ?_
          refine q_geti (ci := 2) (C := RX3) (T := TX3) (N := 7) hx hb hts (fun w h => List.mem_cons_of_mem _ (mfX30 w h)) hown hK hw m_a0 o_a0 rfl 3 (by decide) (hts _ (List.mem_cons_of_mem _ (mr13 _ (List.mem_of_getElem? (i := 18) rfl)))) (fun _ h => h) rfl dX3_dayFrom_40 (fun x_5 lx_5 ux_5 ex_5 => ?_)
          have bx_5 : 1 ≤ x_5 ∧ x_5 ≤ 12000 := by rw [ex_5]; exact hg.1 _ m_a0 2 3 o_a0
          first | refine q_iadd hx hb dX3_dayFrom_43 ⟨by omega, by omega⟩ (fun x_6 lx_6 ux_6 ex_6 => ?_) | refine q_iaddw hx hb dX3_dayFrom_43 (fun x_6 lx_6 ux_6 _ => ?_)
          refine lv_istore_n (lv' := [(3, .int (iI x_6)), (4, .int (iI x_4)), (0, .ref a0), (2, .int (iI x_2))]) hx hb dX3_dayFrom_44 rfl hl (by decide) rfl (fun ls hl => ?_)
          refine lv_goto (tgt := 15) hx hb dX3_dayFrom_45 (by decide) ?_
          exact ih15 x_6 lx_6 ux_6 (by omega) _ _ _ hw (lv_sub hl [2, 3, 0] rfl)
        · refine lv_iload hx hb dX3_dayFrom_35 (lv_at hl 0 rfl) ?_
          exact q_ret_i hx hb hr hlocks hK hAe hw ⟨lx_4, ux_4⟩ (Nat.le_of_ble_eq_true rfl) (Nat.le_of_ble_eq_true rfl) dX3_dayFrom_37 ⟨rfl, rfl, by trivial⟩
  exact J15 (((1300 - x_3).toNat) + 1) x_3 lx_3 ux_3 (by omega) _ _ _ hw (lv_sub hl [2, 1, 0] rfl)
set_option maxHeartbeats 4000000 in
set_option maxRecDepth 100000 in
theorem c_X3_dayTo {Z : Zt} (zo : Zok Z) (l : Launch) (D : va_G) (cy : Cy) (L0 : List Nat) (f0 : Nat → va_E) (a0 : Nat) (x1 : Int) (lx1 : -2147483648 ≤ x1) (ux1 : x1 ≤ 2147483647) (m_a0 : a0 ∈ L0) (o_a0 : Ob f0 a0 2) (hg : GI cy L0 f0) : Ci Z l yX3_dayTo (Cond.code yX3_dayTo cX3_dayTo 4 (some .int) :: TB) ({ frames := 2, cells := 0, slots := 0, locals := 44 } : Room) 0 0 D (tq cy) [.ref a0, .int (iI x1)] L0 f0 (fun (r : Int) (L1 : List Nat) (f1 : Nat → va_E) => L0 = L1 ∧ f0 = f1 ∧ (True)) := by
  refine Ci.enter (cc := cX3_dayTo) (n := 4) rfl (plainFor_of_name (by decide)) (Nat.le_of_ble_eq_true rfl) ?_
  intro p e s m below meth c ls A hx hb hr hts hown hlocks hnm hml hK hA hAe hw hZ hl
  have hown : s.vm.findClass RX3 = some m.cls := hown
  have hl : lv_has ls 4 [(0, .ref a0), (1, .int (iI x1))] := hl
  have hN : ZN s := (zo.2.2.2.2 _ _ _ hZ).2
  refine lv_iload_n hx hb dX3_dayTo_0 rfl (lv_at hl 1 rfl) ?_
  refine q_call_i hA hK hw (va_runSN (As := [.int (iI x1)]) (rest := []) ⟨hx, hb, hml, hown, hts⟩ (c_X1_monthOf zo l D cy L0 f0 x1 lx1 ux1 _) ⟨va_cnB 1 hts (gT (inC (mr14 _ (List.mem_of_getElem? (i := 0) rfl)))) rfl rfl rfl (hN _ (List.mem_of_getElem? (i := 5) rfl)) (hts _ (List.mem_cons_of_mem _ (mr11 _ (List.mem_of_getElem? (i := 20) rfl)))) (by decide +kernel) ⟨Nat.le_of_ble_eq_true rfl, Nat.le_of_ble_eq_true rfl⟩, (hts _ (List.mem_cons_of_mem _ (mr13 _ (List.mem_of_getElem? (i := 23) rfl)))), trivial⟩ (Wd.preS zo hA hZ hw hK) rfl rfl hl.1 rfl (lv_room (Nat.le_of_ble_eq_true rfl)) dX3_dayTo_1 ⟨Nat.le_of_ble_eq_true rfl, Nat.le_of_ble_eq_true rfl⟩) (fun x_1 L1 f1 H locs lx_1 ux_1 ex_1 hw => ?_)
  obtain ⟨rfl, rfl, ex_1⟩ := ex_1
  refine lv_istore_n (lv' := [(2, .int (iI x_1)), (0, .ref a0), (1, .int (iI x1))]) hx hb dX3_dayTo_4 rfl hl (by decide) rfl (fun ls hl => ?_)
  refine lv_iload_n hx hb dX3_dayTo_5 rfl (lv_at hl 0 rfl) ?_
  refine lv_iload_n hx hb dX3_dayTo_6 rfl (lv_at hl 0 rfl) ?_
  refine lv_aload_n hx hb dX3_dayTo_7 rfl (lv_at hl 1 rfl) ?_
  refine q_geti (ci := 2) (C := RX3) (T := TX3) (N := 7) hx hb hts (fun w h => List.mem_cons_of_mem _ (mfX30 w h)) hown hK hw m_a0 o_a0 rfl 4 (by decide) (hts _ (List.mem_cons_of_mem _ (mr13 _ (List.mem_of_getElem? (i := 19) rfl)))) (fun _ h => h) rfl dX3_dayTo_8 (fun x_2 lx_2 ux_2 ex_2 => ?_)
  have bx_2 : 0 ≤ x_2 ∧ x_2 ≤ 100000000 := by rw [ex_2]; exact hg.1 _ m_a0 2 4 o_a0
  first | refine q_isub hx hb dX3_dayTo_11 ⟨by omega, by omega⟩ (fun x_3 lx_3 ux_3 ex_3 => ?_) | refine q_isubw hx hb dX3_dayTo_11 (fun x_3 lx_3 ux_3 _ => ?_)
  refine lv_aload_n hx hb dX3_dayTo_12 rfl (lv_at hl 1 rfl) ?_
  refine q_geti (ci := 2) (C := RX3) (T := TX3) (N := 7) hx hb hts (fun w h => List.mem_cons_of_mem _ (mfX30 w h)) hown hK hw m_a0 o_a0 rfl 3 (by decide) (hts _ (List.mem_cons_of_mem _ (mr13 _ (List.mem_of_getElem? (i := 18) rfl)))) (fun _ h => h) rfl dX3_dayTo_13 (fun x_4 lx_4 ux_4 ex_4 => ?_)
  have bx_4 : 1 ≤ x_4 ∧ x_4 ≤ 12000 := by rw [ex_4]; exact hg.1 _ m_a0 2 3 o_a0
  first | refine q_irem hx hb dX3_dayTo_16 ⟨lx_3, ux_3⟩ ⟨lx_4, ux_4⟩ (by omega) (by omega) (fun x_5 lx_5 ux_5 ex_5 => ?_) | refine q_iremw hx hb dX3_dayTo_16 ⟨lx_3, ux_3⟩ ⟨lx_4, ux_4⟩ (by omega) (fun x_5 lx_5 ux_5 ex_5 => ?_)
  first | refine q_isub hx hb dX3_dayTo_17 ⟨by omega, by omega⟩ (fun x_6 lx_6 ux_6 ex_6 => ?_) | refine q_isubw hx hb dX3_dayTo_17 (fun x_6 lx_6 ux_6 _ => ?_)
  refine lv_istore_n (lv' := [(2, .int (iI x_6)), (0, .ref a0), (1, .int (iI x1))]) hx hb dX3_dayTo_18 rfl hl (by decide) rfl (fun ls hl => ?_)
  have J19 : ∀ (n19 : Nat) (y2_19 : Int) (ly2_19 : -2147483648 ≤ y2_19) (uy2_19 : y2_19 ≤ 2147483647) (hn19 : (y2_19 + 1).toNat < n19) (H : Heap) (locs : List Loc) (ls : Array Slot) (hw : Wd D A s.heap L0 f0 H locs) (hl : lv_has ls 4 [(0, .ref a0), (1, .int (iI x1)), (2, .int (iI y2_19))]), W p l e ({ frames := 2, cells := 0, slots := 0, locals := 44 } : Room) s m ([.ref a0, .int (iI x1)] : List Value).toArray below meth c H locs (0 + 0) (0 + 0) (MQ below (Qi D (tq cy) L0 f0 s.heap.size (fun (r : Int) (L1 : List Nat) (f1 : Nat → va_E) => L0 = L1 ∧ f0 = f1 ∧ (True))) ([.ref a0, .int (iI x1)] : List Value).toArray s 0 0 A) (F0 m 19 ls []) := by
    intro n19
    induction n19 with
    | zero => intro y2_19 ly2_19 uy2_19 hn19; exact absurd hn19 (Nat.not_lt_zero _)
    | succ n19 ih19 =>
      intro y2_19 ly2_19 uy2_19 hn19 H locs ls hw hl
      refine lv_iload_n hx hb dX3_dayTo_19 rfl (lv_at hl 2 rfl) ?_
      refine lv_aload_n hx hb dX3_dayTo_20 rfl (lv_at hl 0 rfl) ?_
      refine q_geti (ci := 2) (C := RX3) (T := TX3) (N := 7) hx hb hts (fun w h => List.mem_cons_of_mem _ (mfX30 w h)) hown hK hw m_a0 o_a0 rfl 4 (by decide) (hts _ (List.mem_cons_of_mem _ (mr13 _ (List.mem_of_getElem? (i := 19) rfl)))) (fun _ h => h) rfl dX3_dayTo_21 (fun x_7 lx_7 ux_7 ex_7 => ?_)
      have bx_7 : 0 ≤ x_7 ∧ x_7 ≤ 100000000 := by rw [ex_7]; exact hg.1 _ m_a0 2 4 o_a0
      refine q_icmp_lt (tgt := 67) hx hb dX3_dayTo_24 (by decide) ⟨ly2_19, uy2_19⟩ ⟨lx_7, ux_7⟩ (fun c24 => ?_) (fun c24 => ?_)
      · refine q_iconst hx hb dX3_dayTo_67 ?_
        exact q_ret_i hx hb hr hlocks hK hAe hw ⟨by decide, by decide⟩ (Nat.le_of_ble_eq_true rfl) (Nat.le_of_ble_eq_true rfl) dX3_dayTo_68 ⟨rfl, rfl, by trivial⟩
      · refine lv_aload_n hx hb dX3_dayTo_27 rfl (lv_at hl 0 rfl) ?_
        refine lv_iload_n hx hb dX3_dayTo_28 rfl (lv_at hl 2 rfl) ?_
        refine q_call_i hA hK hw (va_runV (As := [.int (iI y2_19)]) (rest := []) ⟨hx, hb, hml, hown, hts⟩ (c_X3_dayIn zo l D cy L0 f0 a0 y2_19 ly2_19 uy2_19 m_a0 o_a0 hg _) (cwV 1 hts (gT (inV (mr15 _ (List.mem_of_getElem? (i := 16) rfl)) (mr15 _ (List.mem_of_getElem? (i := 17) rfl)) (mr15 _ (List.mem_of_getElem? (i := 18) rfl)) (mr12 _ (List.mem_of_getElem? (i := 18) rfl)) (mr15 _ (List.mem_of_getElem? (i := 19) rfl)))) rfl rfl rfl (by decide +kernel) ⟨Nat.le_of_ble_eq_true rfl, Nat.le_of_ble_eq_true rfl⟩) (Wd.preV zo hA hZ hw hK m_a0 o_a0 rfl) rfl rfl hl.1 rfl (lv_room (Nat.le_of_ble_eq_true rfl)) dX3_dayTo_29 ⟨Nat.le_of_ble_eq_true rfl, Nat.le_of_ble_eq_true rfl⟩) (fun x_8 L1 f1 H locs lx_8 ux_8 ex_8 hw => ?_)
        obtain ⟨rfl, rfl, ex_8⟩ := ex_8
        refine lv_istore_n (lv' := [(3, .int (iI x_8)), (0, .ref a0), (1, .int (iI x1)), (2, .int (iI y2_19))]) hx hb dX3_dayTo_32 rfl hl (by decide) rfl (fun ls hl => ?_)
        refine lv_iload_n hx hb dX3_dayTo_33 rfl (lv_at hl 0 rfl) ?_
        refine q_iconst hx hb dX3_dayTo_34 ?_
        have J57 : ∀ (H : Heap) (locs : List Loc) (ls : Array Slot) (hw : Wd D A s.heap L0 f0 H locs) (hl : lv_has ls 4 [(0, .ref a0), (1, .int (iI x1)), (2, .int (iI y2_19))]), W p l e ({ frames := 2, cells := 0, slots := 0, locals := 44 } : Room) s m ([.ref a0, .int (iI x1)] : List Value).toArray below meth c H locs (0 + 0 + 0) (0 + 0 + 0) (MQ below (Qi D (tq cy) L0 f0 s.heap.size (fun (r : Int) (L1 : List Nat) (f1 : Nat → va_E) => L0 = L1 ∧ f0 = f1 ∧ (True))) ([.ref a0, .int (iI x1)] : List Value).toArray s 0 0 A) (F0 m 57 ls []) := by
          intro H locs ls hw hl
          refine lv_iload_n hx hb dX3_dayTo_57 rfl (lv_at hl 2 rfl) ?_
          refine lv_aload_n hx hb dX3_dayTo_58 rfl (lv_at hl 0 rfl) ?_
          refine q_geti (ci := 2) (C := RX3) (T := TX3) (N := 7) hx hb hts (fun w h => List.mem_cons_of_mem _ (mfX30 w h)) hown hK hw m_a0 o_a0 rfl 3 (by decide) (hts _ (List.mem_cons_of_mem _ (mr13 _ (List.mem_of_getElem? (i := 18) rfl)))) (fun _ h => h) rfl dX3_dayTo_59 (fun x_9 lx_9 ux_9 ex_9 => ?_)
          have bx_9 : 1 ≤ x_9 ∧ x_9 ≤ 12000 := by rw [ex_9]; exact hg.1 _ m_a0 2 3 o_a0
          first | refine q_isub hx hb dX3_dayTo_62 ⟨by omega, by omega⟩ (fun x_10 lx_10 ux_10 ex_10 => ?_) | refine q_isubw hx hb dX3_dayTo_62 (fun x_10 lx_10 ux_10 _ => ?_)
          refine lv_istore_n (lv' := [(2, .int (iI x_10)), (0, .ref a0), (1, .int (iI x1))]) hx hb dX3_dayTo_63 rfl hl (by decide) rfl (fun ls hl => ?_)
          refine lv_goto (tgt := 19) hx hb dX3_dayTo_64 (by decide) ?_
          exact ih19 x_10 lx_10 ux_10 (by omega) _ _ _ hw (lv_sub hl [1, 2, 0] rfl)
        refine q_icmp_eq (tgt := 57) hx hb dX3_dayTo_35 (by decide) ⟨lx_8, ux_8⟩ ⟨by decide, by decide⟩ (fun c35 => ?_) (fun c35 => ?_)
        · exact J57 _ _ _ hw (lv_sub hl [1, 2, 3] rfl)
        · refine lv_iload_n hx hb dX3_dayTo_38 rfl (lv_at hl 0 rfl) ?_
          refine lv_iload_n hx hb dX3_dayTo_39 rfl (lv_at hl 2 rfl) ?_
          refine q_icmp_gt (tgt := 57) hx hb dX3_dayTo_40 (by decide) ⟨lx_8, ux_8⟩ ⟨lx1, ux1⟩ (fun c40 => ?_) (fun c40 => ?_)
          · exact J57 _ _ _ hw (lv_sub hl [1, 2, 3] rfl)
          · refine lv_iload_n hx hb dX3_dayTo_43 rfl (lv_at hl 0 rfl) ?_
            refine lv_aload_n hx hb dX3_dayTo_44 rfl (lv_at hl 1 rfl) ?_
            refine q_geti (ci := 2) (C := RX3) (T := TX3) (N := 7) hx hb hts (fun w h => List.mem_cons_of_mem _ (mfX30 w h)) hown hK hw m_a0 o_a0 rfl 2 (by decide) (hts _ (List.mem_cons_of_mem _ (mr15 _ (List.mem_of_getElem? (i := 10) rfl)))) (fun x9 h9 => u_same (hts _ (List.mem_cons_of_mem _ (mr15 _ (List.mem_of_getElem? (i := 11) rfl)))) x9 h9) rfl dX3_dayTo_45 (fun x_11 lx_11 ux_11 ex_11 => ?_)
            refine q_icmp_lt (tgt := 55) hx hb dX3_dayTo_48 (by decide) ⟨lx_8, ux_8⟩ ⟨lx_11, ux_11⟩ (fun c48 => ?_) (fun c48 => ?_)
            · refine q_iconst hx hb dX3_dayTo_55 ?_
              exact q_ret_i hx hb hr hlocks hK hAe hw ⟨by decide, by decide⟩ (Nat.le_of_ble_eq_true rfl) (Nat.le_of_ble_eq_true rfl) dX3_dayTo_56 ⟨rfl, rfl, by trivial⟩
            · refine lv_iload_n hx hb dX3_dayTo_51 rfl (lv_at hl 0 rfl) ?_
              refine lv_goto (tgt := 56) hx hb dX3_dayTo_52 (by decide) ?_
              exact q_ret_i hx hb hr hlocks hK hAe hw ⟨lx_8, ux_8⟩ (Nat.le_of_ble_eq_true rfl) (Nat.le_of_ble_eq_true rfl) dX3_dayTo_56 ⟨rfl, rfl, by trivial⟩
  exact J19 (((x_6 + 1).toNat) + 1) x_6 lx_6 ux_6 (by omega) _ _ _ hw (lv_sub hl [1, 2, 0] rfl)
set_option maxHeartbeats 4000000 in
set_option maxRecDepth 100000 in
theorem c_X3_daysIn {Z : Zt} (zo : Zok Z) (l : Launch) (D : va_G) (cy : Cy) (L0 : List Nat) (f0 : Nat → va_E) (a0 : Nat) (x1 : Int) (lx1 : -2147483648 ≤ x1) (ux1 : x1 ≤ 2147483647) (x2 : Int) (lx2 : -2147483648 ≤ x2) (ux2 : x2 ≤ 2147483647) (m_a0 : a0 ∈ L0) (o_a0 : Ob f0 a0 2) (hg : GI cy L0 f0) : Ci Z l yX3_daysIn (Cond.code yX3_daysIn cX3_daysIn 8 (some .int) :: TB) ({ frames := 2, cells := 0, slots := 0, locals := 45 } : Room) 0 0 D (tq cy) [.ref a0, .int (iI x1), .int (iI x2)] L0 f0 (fun (r : Int) (L1 : List Nat) (f1 : Nat → va_E) => L0 = L1 ∧ f0 = f1 ∧ (True)) := by
  refine Ci.enter (cc := cX3_daysIn) (n := 8) rfl (plainFor_of_name (by decide)) (Nat.le_of_ble_eq_true rfl) ?_
  intro p e s m below meth c ls A hx hb hr hts hown hlocks hnm hml hK hA hAe hw hZ hl
  have hown : s.vm.findClass RX3 = some m.cls := hown
  have hl : lv_has ls 8 [(0, .ref a0), (1, .int (iI x1)), (2, .int (iI x2))] := hl
  have hN : ZN s := (zo.2.2.2.2 _ _ _ hZ).2
  refine lv_iload_n hx hb dX3_daysIn_0 rfl (lv_at hl 1 rfl) ?_
  refine lv_aload_n hx hb dX3_daysIn_1 rfl (lv_at hl 0 rfl) ?_
  refine q_geti (ci := 2) (C := RX3) (T := TX3) (N := 7) hx hb hts (fun w h => List.mem_cons_of_mem _ (mfX30 w h)) hown hK hw m_a0 o_a0 rfl 2 (by decide) (hts _ (List.mem_cons_of_mem _ (mr15 _ (List.mem_of_getElem? (i := 10) rfl)))) (fun x9 h9 => u_same (hts _ (List.mem_cons_of_mem _ (mr15 _ (List.mem_of_getElem? (i := 11) rfl)))) x9 h9) rfl dX3_daysIn_2 (fun x_1 lx_1 ux_1 ex_1 => ?_)
  refine q_max hx hb (hml.trans hl.1.symm) hown (hts _ (List.mem_cons_of_mem _ (mr13 _ (List.mem_of_getElem? (i := 17) rfl)))) (hts _ (List.mem_cons_of_mem _ (mr13 _ (List.mem_of_getElem? (i := 0) rfl)))) (hts _ (List.mem_cons_of_mem _ (mr6 _ (List.mem_of_getElem? (i := 14) rfl)))) (hts _ (List.mem_cons_of_mem _ (mr13 _ (List.mem_of_getElem? (i := 1) rfl)))) (Nat.le_of_ble_eq_true rfl) (Nat.le_of_ble_eq_true rfl) (Nat.le_of_ble_eq_true rfl) (Nat.le_of_ble_eq_true rfl) ⟨lx1, ux1⟩ ⟨lx_1, ux_1⟩ dX3_daysIn_5 (fun x_2 lx_2 ux_2 ex_2 => ?_)
  refine lv_istore_n (lv' := [(3, .int (iI x_2)), (0, .ref a0), (1, .int (iI x1)), (2, .int (iI x2))]) hx hb dX3_daysIn_8 rfl hl (by decide) rfl (fun ls hl => ?_)
  refine lv_iload_n hx hb dX3_daysIn_9 rfl (lv_at hl 3 rfl) ?_
  refine q_call_i hA hK hw (va_runSN (As := [.int (iI x2)]) (rest := []) ⟨hx, hb, hml, hown, hts⟩ (c_X1_monthOf zo l D cy L0 f0 x2 lx2 ux2 _) ⟨va_cnB 1 hts (gT (inC (mr14 _ (List.mem_of_getElem? (i := 0) rfl)))) rfl rfl rfl (hN _ (List.mem_of_getElem? (i := 5) rfl)) (hts _ (List.mem_cons_of_mem _ (mr11 _ (List.mem_of_getElem? (i := 20) rfl)))) (by decide +kernel) ⟨Nat.le_of_ble_eq_true rfl, Nat.le_of_ble_eq_true rfl⟩, (hts _ (List.mem_cons_of_mem _ (mr13 _ (List.mem_of_getElem? (i := 23) rfl)))), trivial⟩ (Wd.preS zo hA hZ hw hK) rfl rfl hl.1 rfl (lv_room (Nat.le_of_ble_eq_true rfl)) dX3_daysIn_10 ⟨Nat.le_of_ble_eq_true rfl, Nat.le_of_ble_eq_true rfl⟩) (fun x_3 L1 f1 H locs lx_3 ux_3 ex_3 hw => ?_)
  obtain ⟨rfl, rfl, ex_3⟩ := ex_3
  refine lv_istore (lv' := [(4, .int (iI x_3)), (3, .int (iI x_2)), (0, .ref a0), (1, .int (iI x1)), (2, .int (iI x2))]) hx hb dX3_daysIn_13 hl (by decide) rfl (fun ls hl => ?_)
  refine q_iconst hx hb dX3_daysIn_15 ?_
  refine lv_istore (lv' := [(5, .int (iI 0)), (4, .int (iI x_3)), (3, .int (iI x_2)), (0, .ref a0), (1, .int (iI x1)), (2, .int (iI x2))]) hx hb dX3_daysIn_16 hl (by decide) rfl (fun ls hl => ?_)
  refine lv_aload_n hx hb dX3_daysIn_18 rfl (lv_at hl 3 rfl) ?_
  refine lv_iload_n hx hb dX3_daysIn_19 rfl (lv_at hl 2 rfl) ?_
  refine q_call_i hA hK hw (va_runV (As := [.int (iI x_2)]) (rest := []) ⟨hx, hb, hml, hown, hts⟩ (c_X3_monthFrom zo l D cy L0 f0 a0 x_2 lx_2 ux_2 m_a0 o_a0 hg _) (cwV 1 hts (gT (inV (mr15 _ (List.mem_of_getElem? (i := 12) rfl)) (mr15 _ (List.mem_of_getElem? (i := 13) rfl)) (mr15 _ (List.mem_of_getElem? (i := 14) rfl)) (mr12 _ (List.mem_of_getElem? (i := 18) rfl)) (mr15 _ (List.mem_of_getElem? (i := 15) rfl)))) rfl rfl rfl (by decide +kernel) ⟨Nat.le_of_ble_eq_true rfl, Nat.le_of_ble_eq_true rfl⟩) (Wd.preV zo hA hZ hw hK m_a0 o_a0 rfl) rfl rfl hl.1 rfl (lv_room (Nat.le_of_ble_eq_true rfl)) dX3_daysIn_20 ⟨Nat.le_of_ble_eq_true rfl, Nat.le_of_ble_eq_true rfl⟩) (fun x_4 L1 f1 H locs lx_4 ux_4 ex_4 hw => ?_)
  obtain ⟨rfl, rfl, ex_4⟩ := ex_4
  refine lv_istore (lv' := [(6, .int (iI x_4)), (5, .int (iI 0)), (4, .int (iI x_3)), (3, .int (iI x_2)), (0, .ref a0), (1, .int (iI x1)), (2, .int (iI x2))]) hx hb dX3_daysIn_23 hl (by decide) rfl (fun ls hl => ?_)
  have J25 : ∀ (n25 : Nat) (y5_25 : Int) (ly5_25 : -2147483648 ≤ y5_25) (uy5_25 : y5_25 ≤ 2147483647) (y6_25 : Int) (ly6_25 : -2147483648 ≤ y6_25) (uy6_25 : y6_25 ≤ 2147483647) (hn25 : (100000000 - y6_25).toNat < n25) (H : Heap) (locs : List Loc) (ls : Array Slot) (hw : Wd D A s.heap L0 f0 H locs) (hl : lv_has ls 8 [(0, .ref a0), (2, .int (iI x2)), (3, .int (iI x_2)), (4, .int (iI x_3)), (5, .int (iI y5_25)), (6, .int (iI y6_25))]), W p l e ({ frames := 2, cells := 0, slots := 0, locals := 45 } : Room) s m ([.ref a0, .int (iI x1), .int (iI x2)] : List Value).toArray below meth c H locs (0 + 0 + 0) (0 + 0 + 0) (MQ below (Qi D (tq cy) L0 f0 s.heap.size (fun (r : Int) (L1 : List Nat) (f1 : Nat → va_E) => L0 = L1 ∧ f0 = f1 ∧ (True))) ([.ref a0, .int (iI x1), .int (iI x2)] : List Value).toArray s 0 0 A) (F0 m 25 ls []) := by
    intro n25
    induction n25 with
    | zero => intro y5_25 ly5_25 uy5_25 y6_25 ly6_25 uy6_25 hn25; exact absurd hn25 (Nat.not_lt_zero _)
    | succ n25 ih25 =>
      intro y5_25 ly5_25 uy5_25 y6_25 ly6_25 uy6_25 hn25 H locs ls hw hl
      refine lv_iload hx hb dX3_daysIn_25 (lv_at hl 5 rfl) ?_
      refine lv_iload hx hb dX3_daysIn_27 (lv_at hl 3 rfl) ?_
      refine q_icmp_gt (tgt := 67) hx hb dX3_daysIn_29 (by decide) ⟨ly6_25, uy6_25⟩ ⟨lx_3, ux_3⟩ (fun c29 => ?_) (fun c29 => ?_)
      · refine lv_iload hx hb dX3_daysIn_67 (lv_at hl 4 rfl) ?_
        exact q_ret_i hx hb hr hlocks hK hAe hw ⟨ly5_25, uy5_25⟩ (Nat.le_of_ble_eq_true rfl) (Nat.le_of_ble_eq_true rfl) dX3_daysIn_69 ⟨rfl, rfl, by trivial⟩
      · refine lv_aload_n hx hb dX3_daysIn_32 rfl (lv_at hl 0 rfl) ?_
        refine lv_iload hx hb dX3_daysIn_33 (lv_at hl 5 rfl) ?_
        refine q_call_i hA hK hw (va_runV (As := [.int (iI y6_25)]) (rest := []) ⟨hx, hb, hml, hown, hts⟩ (c_X3_dayIn zo l D cy L0 f0 a0 y6_25 ly6_25 uy6_25 m_a0 o_a0 hg _) (cwV 1 hts (gT (inV (mr15 _ (List.mem_of_getElem? (i := 16) rfl)) (mr15 _ (List.mem_of_getElem? (i := 17) rfl)) (mr15 _ (List.mem_of_getElem? (i := 18) rfl)) (mr12 _ (List.mem_of_getElem? (i := 18) rfl)) (mr15 _ (List.mem_of_getElem? (i := 19) rfl)))) rfl rfl rfl (by decide +kernel) ⟨Nat.le_of_ble_eq_true rfl, Nat.le_of_ble_eq_true rfl⟩) (Wd.preV zo hA hZ hw hK m_a0 o_a0 rfl) rfl rfl hl.1 rfl (lv_room (Nat.le_of_ble_eq_true rfl)) dX3_daysIn_35 ⟨Nat.le_of_ble_eq_true rfl, Nat.le_of_ble_eq_true rfl⟩) (fun x_5 L1 f1 H locs lx_5 ux_5 ex_5 hw => ?_)
        obtain ⟨rfl, rfl, ex_5⟩ := ex_5
        refine lv_istore (lv' := [(7, .int (iI x_5)), (0, .ref a0), (2, .int (iI x2)), (3, .int (iI x_2)), (4, .int (iI x_3)), (5, .int (iI y5_25)), (6, .int (iI y6_25))]) hx hb dX3_daysIn_38 hl (by decide) rfl (fun ls hl => ?_)
        refine lv_iload hx hb dX3_daysIn_40 (lv_at hl 0 rfl) ?_
        refine lv_iload_n hx hb dX3_daysIn_42 rfl (lv_at hl 3 rfl) ?_
        have J55 : ∀ (z5_55 : Int) (lz5_55 : -2147483648 ≤ z5_55) (uz5_55 : z5_55 ≤ 2147483647) (H : Heap) (locs : List Loc) (ls : Array Slot) (hw : Wd D A s.heap L0 f0 H locs) (hl : lv_has ls 8 [(0, .ref a0), (2, .int (iI x2)), (3, .int (iI x_2)), (4, .int (iI x_3)), (5, .int (iI z5_55)), (6, .int (iI y6_25))]), W p l e ({ frames := 2, cells := 0, slots := 0, locals := 45 } : Room) s m ([.ref a0, .int (iI x1), .int (iI x2)] : List Value).toArray below meth c H locs (0 + 0 + 0 + 0) (0 + 0 + 0 + 0) (MQ below (Qi D (tq cy) L0 f0 s.heap.size (fun (r : Int) (L1 : List Nat) (f1 : Nat → va_E) => L0 = L1 ∧ f0 = f1 ∧ (True))) ([.ref a0, .int (iI x1), .int (iI x2)] : List Value).toArray s 0 0 A) (F0 m 55 ls []) := by
          intro z5_55 lz5_55 uz5_55 H locs ls hw hl
          refine lv_iload hx hb dX3_daysIn_55 (lv_at hl 5 rfl) ?_
          refine lv_aload_n hx hb dX3_daysIn_57 rfl (lv_at hl 0 rfl) ?_
          refine q_geti (ci := 2) (C := RX3) (T := TX3) (N := 7) hx hb hts (fun w h => List.mem_cons_of_mem _ (mfX30 w h)) hown hK hw m_a0 o_a0 rfl 3 (by decide) (hts _ (List.mem_cons_of_mem _ (mr13 _ (List.mem_of_getElem? (i := 18) rfl)))) (fun _ h => h) rfl dX3_daysIn_58 (fun x_6 lx_6 ux_6 ex_6 => ?_)
          have bx_6 : 1 ≤ x_6 ∧ x_6 ≤ 12000 := by rw [ex_6]; exact hg.1 _ m_a0 2 3 o_a0
          first | refine q_iadd hx hb dX3_daysIn_61 ⟨by omega, by omega⟩ (fun x_7 lx_7 ux_7 ex_7 => ?_) | refine q_iaddw hx hb dX3_daysIn_61 (fun x_7 lx_7 ux_7 _ => ?_)
          refine lv_istore (lv' := [(6, .int (iI x_7)), (0, .ref a0), (2, .int (iI x2)), (3, .int (iI x_2)), (4, .int (iI x_3)), (5, .int (iI z5_55))]) hx hb dX3_daysIn_62 hl (by decide) rfl (fun ls hl => ?_)
          refine lv_goto (tgt := 25) hx hb dX3_daysIn_64 (by decide) ?_
          exact ih25 z5_55 lz5_55 uz5_55 x_7 lx_7 ux_7 (by omega) _ _ _ hw (lv_sub hl [1, 2, 3, 4, 5, 0] rfl)
        refine q_icmp_lt (tgt := 55) hx hb dX3_daysIn_43 (by decide) ⟨lx_5, ux_5⟩ ⟨lx_2, ux_2⟩ (fun c43 => ?_) (fun c43 => ?_)
        · exact J55 y5_25 ly5_25 uy5_25 _ _ _ hw (lv_sub hl [1, 2, 3, 4, 5, 6] rfl)
        · refine lv_iload hx hb dX3_daysIn_46 (lv_at hl 0 rfl) ?_
          refine lv_iload_n hx hb dX3_daysIn_48 rfl (lv_at hl 2 rfl) ?_
          refine q_icmp_gt (tgt := 55) hx hb dX3_daysIn_49 (by decide) ⟨lx_5, ux_5⟩ ⟨lx2, ux2⟩ (fun c49 => ?_) (fun c49 => ?_)
          · exact J55 y5_25 ly5_25 uy5_25 _ _ _ hw (lv_sub hl [1, 2, 3, 4, 5, 6] rfl)
          · obtain ⟨x_8, lx_8, ux_8, hx_8, ex_8⟩ := q_inc y5_25 (1)
            try (replace ex_8 : x_8 = y5_25 + (1) := by omega)
            refine lv_iinc (v := iI x_8) (lv' := [(5, .int (iI x_8)), (7, .int (iI x_5)), (0, .ref a0), (2, .int (iI x2)), (3, .int (iI x_2)), (4, .int (iI x_3)), (6, .int (iI y6_25))]) hx hb dX3_daysIn_52 hl (k := 5) rfl hx_8 (by decide) rfl (fun ls hl => ?_)
            exact J55 x_8 lx_8 ux_8 _ _ _ hw (lv_sub hl [2, 3, 4, 5, 0, 6] rfl)
  exact J25 (((100000000 - x_4).toNat) + 1) 0 (by decide) (by decide) x_4 lx_4 ux_4 (by omega) _ _ _ hw (lv_sub hl [4, 6, 3, 2, 1, 0] rfl)
