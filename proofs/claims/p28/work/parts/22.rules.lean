set_option maxHeartbeats 4000000 in
set_option maxRecDepth 100000 in
theorem c_J9_floorDiv_7cf53 {Z : Zt} (zo : Zok Z) (l : Launch) (D : va_G) (cy : Cy) (L0 : List Nat) (f0 : Nat → va_E) (x0 : Int) (lx0 : -2147483648 ≤ x0) (ux0 : x0 ≤ 2147483647) (x1 : Int) (lx1 : -2147483648 ≤ x1) (ux1 : x1 ≤ 2147483647) (h1 : 0 < x1) : Ci Z l yJ9_floorDiv_7cf53 (Cond.code yJ9_floorDiv_7cf53 cJ9_floorDiv_7cf53 3 (some .int) :: TB) ({ frames := 0, cells := 0, slots := 0, locals := 0 } : Room) 0 0 D (tq cy) [.int (iI x0), .int (iI x1)] L0 f0 (fun (r : Int) (L1 : List Nat) (f1 : Nat → va_E) => L0 = L1 ∧ f0 = f1 ∧ (True)) := by
  refine Ci.enter (cc := cJ9_floorDiv_7cf53) (n := 3) rfl (by decide) (Nat.le_of_ble_eq_true rfl) ?_
  intro p e s m below meth c ls A hx hb hr hts hown hlocks hnm hml hK hA hAe hw hZ hl
  have hown : s.vm.findClass RJ9 = some m.cls := hown
  have hl : lv_has ls 3 [(0, .int (iI x0)), (1, .int (iI x1))] := hl
  have hN : ZN s := (zo.2.2.2.2 _ _ _ hZ).2
  refine lv_iload_n hx hb dJ9_floorDiv_7cf53_0 rfl (lv_at hl 0 rfl) ?_
  refine lv_iload_n hx hb dJ9_floorDiv_7cf53_1 rfl (lv_at hl 1 rfl) ?_
  first | refine q_idiv hx hb dJ9_floorDiv_7cf53_2 ⟨lx0, ux0⟩ ⟨lx1, ux1⟩ (by omega) (by omega) (fun x_1 lx_1 ux_1 ex_1 => ?_) | refine q_idivw hx hb dJ9_floorDiv_7cf53_2 ⟨lx0, ux0⟩ ⟨lx1, ux1⟩ (by omega) (fun x_1 lx_1 ux_1 ex_1 => ?_)
  refine lv_istore_n (lv' := [(2, .int (iI x_1)), (0, .int (iI x0)), (1, .int (iI x1))]) hx hb dJ9_floorDiv_7cf53_3 rfl hl (by decide) rfl (fun ls hl => ?_)
  refine lv_iload_n hx hb dJ9_floorDiv_7cf53_4 rfl (lv_at hl 1 rfl) ?_
  refine lv_iload_n hx hb dJ9_floorDiv_7cf53_5 rfl (lv_at hl 2 rfl) ?_
  refine lv_ixor hx hb dJ9_floorDiv_7cf53_6 ?_
  refine q_num (fun x_2 lx_2 ux_2 ex_2 => ?_)
  refine q_if_ge (tgt := 21) hx hb dJ9_floorDiv_7cf53_7 (by decide) ⟨lx_2, ux_2⟩ (fun c7 => ?_) (fun c7 => ?_)
  · refine lv_iload_n hx hb dJ9_floorDiv_7cf53_21 rfl (lv_at hl 0 rfl) ?_
    exact q_ret_i hx hb hr hlocks hK hAe hw ⟨lx_1, ux_1⟩ (Nat.le_of_ble_eq_true rfl) (Nat.le_of_ble_eq_true rfl) dJ9_floorDiv_7cf53_22 ⟨rfl, rfl, by trivial⟩
  · refine lv_iload_n hx hb dJ9_floorDiv_7cf53_10 rfl (lv_at hl 0 rfl) ?_
    refine lv_iload_n hx hb dJ9_floorDiv_7cf53_11 rfl (lv_at hl 2 rfl) ?_
    first | refine q_imul hx hb dJ9_floorDiv_7cf53_12 ⟨by omega, by omega⟩ (fun x_3 lx_3 ux_3 ex_3 => ?_) | refine q_imulw hx hb dJ9_floorDiv_7cf53_12 (fun x_3 lx_3 ux_3 ex_3 => ?_)
    refine lv_iload_n hx hb dJ9_floorDiv_7cf53_13 rfl (lv_at hl 1 rfl) ?_
    refine q_icmp_eq (tgt := 21) hx hb dJ9_floorDiv_7cf53_14 (by decide) ⟨lx_3, ux_3⟩ ⟨lx0, ux0⟩ (fun c14 => ?_) (fun c14 => ?_)
    · refine lv_iload_n hx hb dJ9_floorDiv_7cf53_21 rfl (lv_at hl 0 rfl) ?_
      exact q_ret_i hx hb hr hlocks hK hAe hw ⟨lx_1, ux_1⟩ (Nat.le_of_ble_eq_true rfl) (Nat.le_of_ble_eq_true rfl) dJ9_floorDiv_7cf53_22 ⟨rfl, rfl, by trivial⟩
    · refine lv_iload_n hx hb dJ9_floorDiv_7cf53_17 rfl (lv_at hl 0 rfl) ?_
      refine q_iconst hx hb dJ9_floorDiv_7cf53_18 ?_
      first | refine q_isub hx hb dJ9_floorDiv_7cf53_19 ⟨by omega, by omega⟩ (fun x_4 lx_4 ux_4 ex_4 => ?_) | refine q_isubw hx hb dJ9_floorDiv_7cf53_19 (fun x_4 lx_4 ux_4 ex_4 => ?_)
      exact q_ret_i hx hb hr hlocks hK hAe hw ⟨lx_4, ux_4⟩ (Nat.le_of_ble_eq_true rfl) (Nat.le_of_ble_eq_true rfl) dJ9_floorDiv_7cf53_20 ⟨rfl, rfl, by trivial⟩
set_option maxHeartbeats 4000000 in
set_option maxRecDepth 100000 in
theorem c_X0_timeOf {Z : Zt} (zo : Zok Z) (l : Launch) (D : va_G) (cy : Cy) (L0 : List Nat) (f0 : Nat → va_E) (a0 : Nat) (x1 : Int) (lx1 : -2147483648 ≤ x1) (ux1 : x1 ≤ 2147483647) (m_a0 : a0 ∈ L0) (o_a0 : Ob f0 a0 0) (hg : GI cy L0 f0) : Ci Z l yX0_timeOf (Cond.code yX0_timeOf cX0_timeOf 2 (some .int) :: TB) ({ frames := 0, cells := 0, slots := 0, locals := 0 } : Room) 0 0 D (tq cy) [.ref a0, .int (iI x1)] L0 f0 (fun (r : Int) (L1 : List Nat) (f1 : Nat → va_E) => L0 = L1 ∧ f0 = f1 ∧ (True)) := by
  refine Ci.enter (cc := cX0_timeOf) (n := 2) rfl (by decide) (Nat.le_of_ble_eq_true rfl) ?_
  intro p e s m below meth c ls A hx hb hr hts hown hlocks hnm hml hK hA hAe hw hZ hl
  have hown : s.vm.findClass RX0 = some m.cls := hown
  have hl : lv_has ls 2 [(0, .ref a0), (1, .int (iI x1))] := hl
  have hN : ZN s := (zo.2.2.2.2 _ _ _ hZ).2
  refine lv_iload_n hx hb dX0_timeOf_0 rfl (lv_at hl 1 rfl) ?_
  refine q_sipush hx hb dX0_timeOf_1 rfl ?_
  first | refine q_imul hx hb dX0_timeOf_4 ⟨by omega, by omega⟩ (fun x_1 lx_1 ux_1 ex_1 => ?_) | refine q_imulw hx hb dX0_timeOf_4 (fun x_1 lx_1 ux_1 ex_1 => ?_)
  refine lv_aload_n hx hb dX0_timeOf_5 rfl (lv_at hl 0 rfl) ?_
  refine q_geti (ci := 0) (C := RX0) (T := TX0) (N := 15) hx hb hts (fun w h => List.mem_cons_of_mem _ (mfX00 w h)) hown hK hw m_a0 o_a0 rfl 1 (by decide) (hts _ (List.mem_cons_of_mem _ (mr29 _ (List.mem_of_getElem? (i := 18) rfl)))) (fun _ h => h) rfl dX0_timeOf_6 (fun x_2 lx_2 ux_2 ex_2 => ?_)
  first | refine q_iadd hx hb dX0_timeOf_9 ⟨by omega, by omega⟩ (fun x_3 lx_3 ux_3 ex_3 => ?_) | refine q_iaddw hx hb dX0_timeOf_9 (fun x_3 lx_3 ux_3 ex_3 => ?_)
  exact q_ret_i hx hb hr hlocks hK hAe hw ⟨lx_3, ux_3⟩ (Nat.le_of_ble_eq_true rfl) (Nat.le_of_ble_eq_true rfl) dX0_timeOf_10 ⟨rfl, rfl, by trivial⟩
set_option maxHeartbeats 4000000 in
set_option maxRecDepth 100000 in
theorem c_X0_ruledFrom {Z : Zt} (zo : Zok Z) (l : Launch) (D : va_G) (cy : Cy) (L0 : List Nat) (f0 : Nat → va_E) (a0 : Nat) (x1 : Int) (lx1 : -2147483648 ≤ x1) (ux1 : x1 ≤ 2147483647) (m_a0 : a0 ∈ L0) (o_a0 : Ob f0 a0 0) (hg : GI cy L0 f0) : Ci Z l yX0_ruledFrom (Cond.code yX0_ruledFrom cX0_ruledFrom 2 (some .int) :: TB) ({ frames := 1, cells := 0, slots := 0, locals := 22 } : Room) 0 0 D (tq cy) [.ref a0, .int (iI x1)] L0 f0 (fun (r : Int) (L1 : List Nat) (f1 : Nat → va_E) => L0 = L1 ∧ f0 = f1 ∧ (True)) := by
  refine Ci.enter (cc := cX0_ruledFrom) (n := 2) rfl (by decide) (Nat.le_of_ble_eq_true rfl) ?_
  intro p e s m below meth c ls A hx hb hr hts hown hlocks hnm hml hK hA hAe hw hZ hl
  have hown : s.vm.findClass RX0 = some m.cls := hown
  have hl : lv_has ls 2 [(0, .ref a0), (1, .int (iI x1))] := hl
  have hN : ZN s := (zo.2.2.2.2 _ _ _ hZ).2
  refine lv_iload_n hx hb dX0_ruledFrom_0 rfl (lv_at hl 1 rfl) ?_
  refine lv_aload_n hx hb dX0_ruledFrom_1 rfl (lv_at hl 0 rfl) ?_
  refine q_geti (ci := 0) (C := RX0) (T := TX0) (N := 15) hx hb hts (fun w h => List.mem_cons_of_mem _ (mfX00 w h)) hown hK hw m_a0 o_a0 rfl 1 (by decide) (hts _ (List.mem_cons_of_mem _ (mr29 _ (List.mem_of_getElem? (i := 18) rfl)))) (fun _ h => h) rfl dX0_ruledFrom_2 (fun x_1 lx_1 ux_1 ex_1 => ?_)
  first | refine q_isub hx hb dX0_ruledFrom_5 ⟨by omega, by omega⟩ (fun x_2 lx_2 ux_2 ex_2 => ?_) | refine q_isubw hx hb dX0_ruledFrom_5 (fun x_2 lx_2 ux_2 ex_2 => ?_)
  refine q_sipush hx hb dX0_ruledFrom_6 rfl ?_
  first | refine q_iadd hx hb dX0_ruledFrom_9 ⟨by omega, by omega⟩ (fun x_3 lx_3 ux_3 ex_3 => ?_) | refine q_iaddw hx hb dX0_ruledFrom_9 (fun x_3 lx_3 ux_3 ex_3 => ?_)
  refine q_iconst hx hb dX0_ruledFrom_10 ?_
  first | refine q_isub hx hb dX0_ruledFrom_11 ⟨by omega, by omega⟩ (fun x_4 lx_4 ux_4 ex_4 => ?_) | refine q_isubw hx hb dX0_ruledFrom_11 (fun x_4 lx_4 ux_4 ex_4 => ?_)
  refine q_sipush hx hb dX0_ruledFrom_12 rfl ?_
  refine q_call_i hA hK hw (va_runS (As := [.int (iI x_4), .int (iI 1440)]) (rest := []) ⟨hx, hb, hml, hown, hts⟩ (c_J9_floorDiv_7cf53 zo l D cy L0 f0 x_4 lx_4 ux_4 1440 (by decide) (by decide) (by omega) _) (va_cwS 2 hts (gT (inS (mr29 _ (List.mem_of_getElem? (i := 19) rfl)) (mr29 _ (List.mem_of_getElem? (i := 20) rfl)) (mr29 _ (List.mem_of_getElem? (i := 21) rfl)) (mr29 _ (List.mem_of_getElem? (i := 22) rfl)))) rfl rfl rfl (by decide +kernel) ⟨Nat.le_of_ble_eq_true rfl, Nat.le_of_ble_eq_true rfl⟩) (Wd.preS zo hA hZ hw hK) rfl rfl hl.1 rfl (lv_room (Nat.le_of_ble_eq_true rfl)) dX0_ruledFrom_15 ⟨Nat.le_of_ble_eq_true rfl, Nat.le_of_ble_eq_true rfl⟩) (fun x_5 L1 f1 H locs lx_5 ux_5 ex_5 hw => ?_)
  obtain ⟨rfl, rfl, ex_5⟩ := ex_5
  exact q_ret_i hx hb hr hlocks hK hAe hw ⟨lx_5, ux_5⟩ (Nat.le_of_ble_eq_true rfl) (Nat.le_of_ble_eq_true rfl) dX0_ruledFrom_18 ⟨rfl, rfl, by trivial⟩
set_option maxHeartbeats 4000000 in
set_option maxRecDepth 100000 in
theorem c_X0_ruledTo {Z : Zt} (zo : Zok Z) (l : Launch) (D : va_G) (cy : Cy) (L0 : List Nat) (f0 : Nat → va_E) (a0 : Nat) (x1 : Int) (lx1 : -2147483648 ≤ x1) (ux1 : x1 ≤ 2147483647) (m_a0 : a0 ∈ L0) (o_a0 : Ob f0 a0 0) (hg : GI cy L0 f0) : Ci Z l yX0_ruledTo (Cond.code yX0_ruledTo cX0_ruledTo 2 (some .int) :: TB) ({ frames := 1, cells := 0, slots := 0, locals := 22 } : Room) 0 0 D (tq cy) [.ref a0, .int (iI x1)] L0 f0 (fun (r : Int) (L1 : List Nat) (f1 : Nat → va_E) => L0 = L1 ∧ f0 = f1 ∧ (True)) := by
  refine Ci.enter (cc := cX0_ruledTo) (n := 2) rfl (by decide) (Nat.le_of_ble_eq_true rfl) ?_
  intro p e s m below meth c ls A hx hb hr hts hown hlocks hnm hml hK hA hAe hw hZ hl
  have hown : s.vm.findClass RX0 = some m.cls := hown
  have hl : lv_has ls 2 [(0, .ref a0), (1, .int (iI x1))] := hl
  have hN : ZN s := (zo.2.2.2.2 _ _ _ hZ).2
  refine lv_iload_n hx hb dX0_ruledTo_0 rfl (lv_at hl 1 rfl) ?_
  refine lv_aload_n hx hb dX0_ruledTo_1 rfl (lv_at hl 0 rfl) ?_
  refine q_geti (ci := 0) (C := RX0) (T := TX0) (N := 15) hx hb hts (fun w h => List.mem_cons_of_mem _ (mfX00 w h)) hown hK hw m_a0 o_a0 rfl 1 (by decide) (hts _ (List.mem_cons_of_mem _ (mr29 _ (List.mem_of_getElem? (i := 18) rfl)))) (fun _ h => h) rfl dX0_ruledTo_2 (fun x_1 lx_1 ux_1 ex_1 => ?_)
  first | refine q_isub hx hb dX0_ruledTo_5 ⟨by omega, by omega⟩ (fun x_2 lx_2 ux_2 ex_2 => ?_) | refine q_isubw hx hb dX0_ruledTo_5 (fun x_2 lx_2 ux_2 ex_2 => ?_)
  refine q_sipush hx hb dX0_ruledTo_6 rfl ?_
  refine q_call_i hA hK hw (va_runS (As := [.int (iI x_2), .int (iI 1440)]) (rest := []) ⟨hx, hb, hml, hown, hts⟩ (c_J9_floorDiv_7cf53 zo l D cy L0 f0 x_2 lx_2 ux_2 1440 (by decide) (by decide) (by omega) _) (va_cwS 2 hts (gT (inS (mr29 _ (List.mem_of_getElem? (i := 19) rfl)) (mr29 _ (List.mem_of_getElem? (i := 20) rfl)) (mr29 _ (List.mem_of_getElem? (i := 21) rfl)) (mr29 _ (List.mem_of_getElem? (i := 22) rfl)))) rfl rfl rfl (by decide +kernel) ⟨Nat.le_of_ble_eq_true rfl, Nat.le_of_ble_eq_true rfl⟩) (Wd.preS zo hA hZ hw hK) rfl rfl hl.1 rfl (lv_room (Nat.le_of_ble_eq_true rfl)) dX0_ruledTo_9 ⟨Nat.le_of_ble_eq_true rfl, Nat.le_of_ble_eq_true rfl⟩) (fun x_3 L1 f1 H locs lx_3 ux_3 ex_3 hw => ?_)
  obtain ⟨rfl, rfl, ex_3⟩ := ex_3
  exact q_ret_i hx hb hr hlocks hK hAe hw ⟨lx_3, ux_3⟩ (Nat.le_of_ble_eq_true rfl) (Nat.le_of_ble_eq_true rfl) dX0_ruledTo_12 ⟨rfl, rfl, by trivial⟩
set_option maxHeartbeats 4000000 in
set_option maxRecDepth 100000 in
theorem c_X0_found {Z : Zt} (zo : Zok Z) (l : Launch) (D : va_G) (cy : Cy) (L0 : List Nat) (f0 : Nat → va_E) (a0 : Nat) (x1 : Int) (lx1 : -2147483648 ≤ x1) (ux1 : x1 ≤ 2147483647) (m_a0 : a0 ∈ L0) (o_a0 : Ob f0 a0 0) (hg : GI cy L0 f0) : Ci Z l yX0_found (Cond.code yX0_found cX0_found 2 (some .int) :: TB) ({ frames := 0, cells := 0, slots := 0, locals := 0 } : Room) 0 0 D (tq cy) [.ref a0, .int (iI x1)] L0 f0 (fun (r : Int) (L1 : List Nat) (f1 : Nat → va_E) => L0 = L1 ∧ f0 = f1 ∧ (True)) := by
  refine Ci.enter (cc := cX0_found) (n := 2) rfl (by decide) (Nat.le_of_ble_eq_true rfl) ?_
  intro p e s m below meth c ls A hx hb hr hts hown hlocks hnm hml hK hA hAe hw hZ hl
  have hown : s.vm.findClass RX0 = some m.cls := hown
  have hl : lv_has ls 2 [(0, .ref a0), (1, .int (iI x1))] := hl
  have hN : ZN s := (zo.2.2.2.2 _ _ _ hZ).2
  refine lv_aload_n hx hb dX0_found_0 rfl (lv_at hl 0 rfl) ?_
  refine q_geti (ci := 0) (C := RX0) (T := TX0) (N := 15) hx hb hts (fun w h => List.mem_cons_of_mem _ (mfX00 w h)) hown hK hw m_a0 o_a0 rfl 14 (by decide) (hts _ (List.mem_cons_of_mem _ (mr29 _ (List.mem_of_getElem? (i := 11) rfl)))) (fun _ h => h) rfl dX0_found_1 (fun x_1 lx_1 ux_1 ex_1 => ?_)
  refine q_iconst hx hb dX0_found_4 ?_
  refine q_icmp_eq (tgt := 17) hx hb dX0_found_5 (by decide) ⟨lx_1, ux_1⟩ ⟨by decide, by decide⟩ (fun c5 => ?_) (fun c5 => ?_)
  · refine q_iconst hx hb dX0_found_17 ?_
    exact q_ret_i hx hb hr hlocks hK hAe hw ⟨by decide, by decide⟩ (Nat.le_of_ble_eq_true rfl) (Nat.le_of_ble_eq_true rfl) dX0_found_18 ⟨rfl, rfl, by trivial⟩
  · refine lv_iload_n hx hb dX0_found_8 rfl (lv_at hl 1 rfl) ?_
    refine q_if_lt (tgt := 17) hx hb dX0_found_9 (by decide) ⟨lx1, ux1⟩ (fun c9 => ?_) (fun c9 => ?_)
    · refine q_iconst hx hb dX0_found_17 ?_
      exact q_ret_i hx hb hr hlocks hK hAe hw ⟨by decide, by decide⟩ (Nat.le_of_ble_eq_true rfl) (Nat.le_of_ble_eq_true rfl) dX0_found_18 ⟨rfl, rfl, by trivial⟩
    · refine lv_iload_n hx hb dX0_found_12 rfl (lv_at hl 1 rfl) ?_
      refine q_iconst hx hb dX0_found_13 ?_
      refine q_icmp_le (tgt := 19) hx hb dX0_found_14 (by decide) ⟨lx1, ux1⟩ ⟨by decide, by decide⟩ (fun c14 => ?_) (fun c14 => ?_)
      · refine lv_iload_n hx hb dX0_found_19 rfl (lv_at hl 1 rfl) ?_
        refine q_if_ne (tgt := 30) hx hb dX0_found_20 (by decide) ⟨lx1, ux1⟩ (fun c20 => ?_) (fun c20 => ?_)
        · refine lv_aload_n hx hb dX0_found_30 rfl (lv_at hl 0 rfl) ?_
          refine q_geti (ci := 0) (C := RX0) (T := TX0) (N := 15) hx hb hts (fun w h => List.mem_cons_of_mem _ (mfX00 w h)) hown hK hw m_a0 o_a0 rfl 14 (by decide) (hts _ (List.mem_cons_of_mem _ (mr29 _ (List.mem_of_getElem? (i := 11) rfl)))) (fun _ h => h) rfl dX0_found_31 (fun x_2 lx_2 ux_2 ex_2 => ?_)
          exact q_ret_i hx hb hr hlocks hK hAe hw ⟨lx_2, ux_2⟩ (Nat.le_of_ble_eq_true rfl) (Nat.le_of_ble_eq_true rfl) dX0_found_34 ⟨rfl, rfl, by trivial⟩
        · refine lv_aload_n hx hb dX0_found_23 rfl (lv_at hl 0 rfl) ?_
          refine q_geti (ci := 0) (C := RX0) (T := TX0) (N := 15) hx hb hts (fun w h => List.mem_cons_of_mem _ (mfX00 w h)) hown hK hw m_a0 o_a0 rfl 13 (by decide) (hts _ (List.mem_cons_of_mem _ (mr29 _ (List.mem_of_getElem? (i := 13) rfl)))) (fun _ h => h) rfl dX0_found_24 (fun x_3 lx_3 ux_3 ex_3 => ?_)
          refine lv_goto (tgt := 34) hx hb dX0_found_27 (by decide) ?_
          exact q_ret_i hx hb hr hlocks hK hAe hw ⟨lx_3, ux_3⟩ (Nat.le_of_ble_eq_true rfl) (Nat.le_of_ble_eq_true rfl) dX0_found_34 ⟨rfl, rfl, by trivial⟩
      · refine q_iconst hx hb dX0_found_17 ?_
        exact q_ret_i hx hb hr hlocks hK hAe hw ⟨by decide, by decide⟩ (Nat.le_of_ble_eq_true rfl) (Nat.le_of_ble_eq_true rfl) dX0_found_18 ⟨rfl, rfl, by trivial⟩
set_option maxHeartbeats 4000000 in
set_option maxRecDepth 100000 in
theorem c_X4_dayFrom {Z : Zt} (zo : Zok Z) (l : Launch) (D : va_G) (cy : Cy) (L0 : List Nat) (f0 : Nat → va_E) (a0 : Nat) (x1 : Int) (lx1 : -2147483648 ≤ x1) (ux1 : x1 ≤ 2147483647) (m_a0 : a0 ∈ L0) (o_a0 : Ob f0 a0 3) (hg : GI cy L0 f0) : Ci Z l yX4_dayFrom (Cond.code yX4_dayFrom cX4_dayFrom 2 (some .int) :: TB) ({ frames := 0, cells := 0, slots := 0, locals := 0 } : Room) 0 0 D (tq cy) [.ref a0, .int (iI x1)] L0 f0 (fun (r : Int) (L1 : List Nat) (f1 : Nat → va_E) => L0 = L1 ∧ f0 = f1 ∧ (True)) := by
  refine Ci.enter (cc := cX4_dayFrom) (n := 2) rfl (by decide) (Nat.le_of_ble_eq_true rfl) ?_
  intro p e s m below meth c ls A hx hb hr hts hown hlocks hnm hml hK hA hAe hw hZ hl
  have hown : s.vm.findClass RX4 = some m.cls := hown
  have hl : lv_has ls 2 [(0, .ref a0), (1, .int (iI x1))] := hl
  have hN : ZN s := (zo.2.2.2.2 _ _ _ hZ).2
  refine lv_iload_n hx hb dX4_dayFrom_0 rfl (lv_at hl 1 rfl) ?_
  refine lv_aload_n hx hb dX4_dayFrom_1 rfl (lv_at hl 0 rfl) ?_
  refine q_geti (ci := 3) (C := RX4) (T := TX4) (N := 3) hx hb hts (fun w h => List.mem_cons_of_mem _ (mfX40 w h)) hown hK hw m_a0 o_a0 rfl 2 (by decide) (hts _ (List.mem_cons_of_mem _ (mr16 _ (List.mem_of_getElem? (i := 1) rfl)))) (fun x9 h9 => u_same (hts _ (List.mem_cons_of_mem _ (mr16 _ (List.mem_of_getElem? (i := 2) rfl)))) x9 h9) rfl dX4_dayFrom_2 (fun x_1 lx_1 ux_1 ex_1 => ?_)
  refine q_icmp_gt (tgt := 15) hx hb dX4_dayFrom_5 (by decide) ⟨lx1, ux1⟩ ⟨lx_1, ux_1⟩ (fun c5 => ?_) (fun c5 => ?_)
  · refine q_iconst hx hb dX4_dayFrom_15 ?_
    exact q_ret_i hx hb hr hlocks hK hAe hw ⟨by decide, by decide⟩ (Nat.le_of_ble_eq_true rfl) (Nat.le_of_ble_eq_true rfl) dX4_dayFrom_16 ⟨rfl, rfl, by trivial⟩
  · refine lv_aload_n hx hb dX4_dayFrom_8 rfl (lv_at hl 0 rfl) ?_
    refine q_geti (ci := 3) (C := RX4) (T := TX4) (N := 3) hx hb hts (fun w h => List.mem_cons_of_mem _ (mfX40 w h)) hown hK hw m_a0 o_a0 rfl 2 (by decide) (hts _ (List.mem_cons_of_mem _ (mr16 _ (List.mem_of_getElem? (i := 1) rfl)))) (fun x9 h9 => u_same (hts _ (List.mem_cons_of_mem _ (mr16 _ (List.mem_of_getElem? (i := 2) rfl)))) x9 h9) rfl dX4_dayFrom_9 (fun x_2 lx_2 ux_2 ex_2 => ?_)
    refine lv_goto (tgt := 16) hx hb dX4_dayFrom_12 (by decide) ?_
    exact q_ret_i hx hb hr hlocks hK hAe hw ⟨lx_2, ux_2⟩ (Nat.le_of_ble_eq_true rfl) (Nat.le_of_ble_eq_true rfl) dX4_dayFrom_16 ⟨rfl, rfl, by trivial⟩
set_option maxHeartbeats 4000000 in
set_option maxRecDepth 100000 in
theorem c_X4_dayTo {Z : Zt} (zo : Zok Z) (l : Launch) (D : va_G) (cy : Cy) (L0 : List Nat) (f0 : Nat → va_E) (a0 : Nat) (x1 : Int) (lx1 : -2147483648 ≤ x1) (ux1 : x1 ≤ 2147483647) (m_a0 : a0 ∈ L0) (o_a0 : Ob f0 a0 3) (hg : GI cy L0 f0) : Ci Z l yX4_dayTo (Cond.code yX4_dayTo cX4_dayTo 2 (some .int) :: TB) ({ frames := 0, cells := 0, slots := 0, locals := 0 } : Room) 0 0 D (tq cy) [.ref a0, .int (iI x1)] L0 f0 (fun (r : Int) (L1 : List Nat) (f1 : Nat → va_E) => L0 = L1 ∧ f0 = f1 ∧ (True)) := by
  refine Ci.enter (cc := cX4_dayTo) (n := 2) rfl (by decide) (Nat.le_of_ble_eq_true rfl) ?_
  intro p e s m below meth c ls A hx hb hr hts hown hlocks hnm hml hK hA hAe hw hZ hl
  have hown : s.vm.findClass RX4 = some m.cls := hown
  have hl : lv_has ls 2 [(0, .ref a0), (1, .int (iI x1))] := hl
  have hN : ZN s := (zo.2.2.2.2 _ _ _ hZ).2
  refine lv_iload_n hx hb dX4_dayTo_0 rfl (lv_at hl 1 rfl) ?_
  refine lv_aload_n hx hb dX4_dayTo_1 rfl (lv_at hl 0 rfl) ?_
  refine q_geti (ci := 3) (C := RX4) (T := TX4) (N := 3) hx hb hts (fun w h => List.mem_cons_of_mem _ (mfX40 w h)) hown hK hw m_a0 o_a0 rfl 2 (by decide) (hts _ (List.mem_cons_of_mem _ (mr16 _ (List.mem_of_getElem? (i := 1) rfl)))) (fun x9 h9 => u_same (hts _ (List.mem_cons_of_mem _ (mr16 _ (List.mem_of_getElem? (i := 2) rfl)))) x9 h9) rfl dX4_dayTo_2 (fun x_1 lx_1 ux_1 ex_1 => ?_)
  refine q_icmp_lt (tgt := 15) hx hb dX4_dayTo_5 (by decide) ⟨lx1, ux1⟩ ⟨lx_1, ux_1⟩ (fun c5 => ?_) (fun c5 => ?_)
  · refine q_iconst hx hb dX4_dayTo_15 ?_
    exact q_ret_i hx hb hr hlocks hK hAe hw ⟨by decide, by decide⟩ (Nat.le_of_ble_eq_true rfl) (Nat.le_of_ble_eq_true rfl) dX4_dayTo_16 ⟨rfl, rfl, by trivial⟩
  · refine lv_aload_n hx hb dX4_dayTo_8 rfl (lv_at hl 0 rfl) ?_
    refine q_geti (ci := 3) (C := RX4) (T := TX4) (N := 3) hx hb hts (fun w h => List.mem_cons_of_mem _ (mfX40 w h)) hown hK hw m_a0 o_a0 rfl 2 (by decide) (hts _ (List.mem_cons_of_mem _ (mr16 _ (List.mem_of_getElem? (i := 1) rfl)))) (fun x9 h9 => u_same (hts _ (List.mem_cons_of_mem _ (mr16 _ (List.mem_of_getElem? (i := 2) rfl)))) x9 h9) rfl dX4_dayTo_9 (fun x_2 lx_2 ux_2 ex_2 => ?_)
    refine lv_goto (tgt := 16) hx hb dX4_dayTo_12 (by decide) ?_
    exact q_ret_i hx hb hr hlocks hK hAe hw ⟨lx_2, ux_2⟩ (Nat.le_of_ble_eq_true rfl) (Nat.le_of_ble_eq_true rfl) dX4_dayTo_16 ⟨rfl, rfl, by trivial⟩
set_option maxHeartbeats 4000000 in
set_option maxRecDepth 100000 in
theorem c_X4_daysIn {Z : Zt} (zo : Zok Z) (l : Launch) (D : va_G) (cy : Cy) (L0 : List Nat) (f0 : Nat → va_E) (a0 : Nat) (x1 : Int) (lx1 : -2147483648 ≤ x1) (ux1 : x1 ≤ 2147483647) (x2 : Int) (lx2 : -2147483648 ≤ x2) (ux2 : x2 ≤ 2147483647) (m_a0 : a0 ∈ L0) (o_a0 : Ob f0 a0 3) (hg : GI cy L0 f0) : Ci Z l yX4_daysIn (Cond.code yX4_daysIn cX4_daysIn 3 (some .int) :: TB) ({ frames := 0, cells := 0, slots := 0, locals := 0 } : Room) 0 0 D (tq cy) [.ref a0, .int (iI x1), .int (iI x2)] L0 f0 (fun (r : Int) (L1 : List Nat) (f1 : Nat → va_E) => L0 = L1 ∧ f0 = f1 ∧ (True)) := by
  refine Ci.enter (cc := cX4_daysIn) (n := 3) rfl (by decide) (Nat.le_of_ble_eq_true rfl) ?_
  intro p e s m below meth c ls A hx hb hr hts hown hlocks hnm hml hK hA hAe hw hZ hl
  have hown : s.vm.findClass RX4 = some m.cls := hown
  have hl : lv_has ls 3 [(0, .ref a0), (1, .int (iI x1)), (2, .int (iI x2))] := hl
  have hN : ZN s := (zo.2.2.2.2 _ _ _ hZ).2
  refine lv_iload_n hx hb dX4_daysIn_0 rfl (lv_at hl 1 rfl) ?_
  refine lv_aload_n hx hb dX4_daysIn_1 rfl (lv_at hl 0 rfl) ?_
  refine q_geti (ci := 3) (C := RX4) (T := TX4) (N := 3) hx hb hts (fun w h => List.mem_cons_of_mem _ (mfX40 w h)) hown hK hw m_a0 o_a0 rfl 2 (by decide) (hts _ (List.mem_cons_of_mem _ (mr16 _ (List.mem_of_getElem? (i := 1) rfl)))) (fun x9 h9 => u_same (hts _ (List.mem_cons_of_mem _ (mr16 _ (List.mem_of_getElem? (i := 2) rfl)))) x9 h9) rfl dX4_daysIn_2 (fun x_1 lx_1 ux_1 ex_1 => ?_)
  refine q_icmp_gt (tgt := 20) hx hb dX4_daysIn_5 (by decide) ⟨lx1, ux1⟩ ⟨lx_1, ux_1⟩ (fun c5 => ?_) (fun c5 => ?_)
  · refine q_iconst hx hb dX4_daysIn_20 ?_
    exact q_ret_i hx hb hr hlocks hK hAe hw ⟨by decide, by decide⟩ (Nat.le_of_ble_eq_true rfl) (Nat.le_of_ble_eq_true rfl) dX4_daysIn_21 ⟨rfl, rfl, by trivial⟩
  · refine lv_aload_n hx hb dX4_daysIn_8 rfl (lv_at hl 0 rfl) ?_
    refine q_geti (ci := 3) (C := RX4) (T := TX4) (N := 3) hx hb hts (fun w h => List.mem_cons_of_mem _ (mfX40 w h)) hown hK hw m_a0 o_a0 rfl 2 (by decide) (hts _ (List.mem_cons_of_mem _ (mr16 _ (List.mem_of_getElem? (i := 1) rfl)))) (fun x9 h9 => u_same (hts _ (List.mem_cons_of_mem _ (mr16 _ (List.mem_of_getElem? (i := 2) rfl)))) x9 h9) rfl dX4_daysIn_9 (fun x_2 lx_2 ux_2 ex_2 => ?_)
    refine lv_iload_n hx hb dX4_daysIn_12 rfl (lv_at hl 2 rfl) ?_
    refine q_icmp_gt (tgt := 20) hx hb dX4_daysIn_13 (by decide) ⟨lx_2, ux_2⟩ ⟨lx2, ux2⟩ (fun c13 => ?_) (fun c13 => ?_)
    · refine q_iconst hx hb dX4_daysIn_20 ?_
      exact q_ret_i hx hb hr hlocks hK hAe hw ⟨by decide, by decide⟩ (Nat.le_of_ble_eq_true rfl) (Nat.le_of_ble_eq_true rfl) dX4_daysIn_21 ⟨rfl, rfl, by trivial⟩
    · refine q_iconst hx hb dX4_daysIn_16 ?_
      refine lv_goto (tgt := 21) hx hb dX4_daysIn_17 (by decide) ?_
      exact q_ret_i hx hb hr hlocks hK hAe hw ⟨by decide, by decide⟩ (Nat.le_of_ble_eq_true rfl) (Nat.le_of_ble_eq_true rfl) dX4_daysIn_21 ⟨rfl, rfl, by trivial⟩
set_option maxHeartbeats 4000000 in
set_option maxRecDepth 100000 in
theorem c_X4_cycle {Z : Zt} (zo : Zok Z) (l : Launch) (D : va_G) (cy : Cy) (L0 : List Nat) (f0 : Nat → va_E) (a0 : Nat) (m_a0 : a0 ∈ L0) (o_a0 : Ob f0 a0 3) (hg : GI cy L0 f0) : Cl Z l yX4_cycle (Cond.code yX4_cycle cX4_cycle 1 (some .long) :: TB) ({ frames := 0, cells := 0, slots := 0, locals := 0 } : Room) 0 0 D (tq cy) [.ref a0] L0 f0 (fun (r : Int) (L1 : List Nat) (f1 : Nat → va_E) => L0 = L1 ∧ f0 = f1 ∧ (True)) := by
  refine Cl.enter (cc := cX4_cycle) (n := 1) rfl (by decide) (Nat.le_of_ble_eq_true rfl) ?_
  intro p e s m below meth c ls A hx hb hr hts hown hlocks hnm hml hK hA hAe hw hZ hl
  have hown : s.vm.findClass RX4 = some m.cls := hown
  have hl : lv_has ls 1 [(0, .ref a0)] := hl
  have hN : ZN s := (zo.2.2.2.2 _ _ _ hZ).2
  refine q_lconst0 hx hb dX4_cycle_0 ?_
  exact q_ret_l hx hb hr hlocks hK hAe hw ⟨by decide, by decide⟩ (Nat.le_of_ble_eq_true rfl) (Nat.le_of_ble_eq_true rfl) dX4_cycle_1 ⟨rfl, rfl, by trivial⟩
set_option maxHeartbeats 4000000 in
set_option maxRecDepth 100000 in
theorem c_X2_dayFrom {Z : Zt} (zo : Zok Z) (l : Launch) (D : va_G) (cy : Cy) (L0 : List Nat) (f0 : Nat → va_E) (a0 : Nat) (x1 : Int) (lx1 : -2147483648 ≤ x1) (ux1 : x1 ≤ 2147483647) (m_a0 : a0 ∈ L0) (o_a0 : Ob f0 a0 1) (hg : GI cy L0 f0) : Ci Z l yX2_dayFrom (Cond.code yX2_dayFrom cX2_dayFrom 3 (some .int) :: TB) ({ frames := 0, cells := 0, slots := 0, locals := 0 } : Room) 0 0 D (tq cy) [.ref a0, .int (iI x1)] L0 f0 (fun (r : Int) (L1 : List Nat) (f1 : Nat → va_E) => L0 = L1 ∧ f0 = f1 ∧ (True)) := by
  refine Ci.enter (cc := cX2_dayFrom) (n := 3) rfl (by decide) (Nat.le_of_ble_eq_true rfl) ?_
  intro p e s m below meth c ls A hx hb hr hts hown hlocks hnm hml hK hA hAe hw hZ hl
  have hown : s.vm.findClass RX2 = some m.cls := hown
  have hl : lv_has ls 3 [(0, .ref a0), (1, .int (iI x1))] := hl
  have hN : ZN s := (zo.2.2.2.2 _ _ _ hZ).2
  refine lv_iload_n hx hb dX2_dayFrom_0 rfl (lv_at hl 1 rfl) ?_
  refine lv_aload_n hx hb dX2_dayFrom_1 rfl (lv_at hl 0 rfl) ?_
  refine q_geti (ci := 1) (C := RX2) (T := TX2) (N := 4) hx hb hts (fun w h => List.mem_cons_of_mem _ (mfX20 w h)) hown hK hw m_a0 o_a0 rfl 2 (by decide) (hts _ (List.mem_cons_of_mem _ (mr15 _ (List.mem_of_getElem? (i := 4) rfl)))) (fun x9 h9 => u_same (hts _ (List.mem_cons_of_mem _ (mr15 _ (List.mem_of_getElem? (i := 5) rfl)))) x9 h9) rfl dX2_dayFrom_2 (fun x_1 lx_1 ux_1 ex_1 => ?_)
  refine q_icmp_gt (tgt := 13) hx hb dX2_dayFrom_5 (by decide) ⟨lx1, ux1⟩ ⟨lx_1, ux_1⟩ (fun c5 => ?_) (fun c5 => ?_)
  · refine lv_aload_n hx hb dX2_dayFrom_13 rfl (lv_at hl 0 rfl) ?_
    refine q_geti (ci := 1) (C := RX2) (T := TX2) (N := 4) hx hb hts (fun w h => List.mem_cons_of_mem _ (mfX20 w h)) hown hK hw m_a0 o_a0 rfl 2 (by decide) (hts _ (List.mem_cons_of_mem _ (mr15 _ (List.mem_of_getElem? (i := 4) rfl)))) (fun x9 h9 => u_same (hts _ (List.mem_cons_of_mem _ (mr15 _ (List.mem_of_getElem? (i := 5) rfl)))) x9 h9) rfl dX2_dayFrom_14 (fun x_2 lx_2 ux_2 ex_2 => ?_)
    refine lv_iload_n hx hb dX2_dayFrom_17 rfl (lv_at hl 1 rfl) ?_
    refine lv_aload_n hx hb dX2_dayFrom_18 rfl (lv_at hl 0 rfl) ?_
    refine q_geti (ci := 1) (C := RX2) (T := TX2) (N := 4) hx hb hts (fun w h => List.mem_cons_of_mem _ (mfX20 w h)) hown hK hw m_a0 o_a0 rfl 2 (by decide) (hts _ (List.mem_cons_of_mem _ (mr15 _ (List.mem_of_getElem? (i := 4) rfl)))) (fun x9 h9 => u_same (hts _ (List.mem_cons_of_mem _ (mr15 _ (List.mem_of_getElem? (i := 5) rfl)))) x9 h9) rfl dX2_dayFrom_19 (fun x_3 lx_3 ux_3 ex_3 => ?_)
    first | refine q_isub hx hb dX2_dayFrom_22 ⟨by omega, by omega⟩ (fun x_4 lx_4 ux_4 ex_4 => ?_) | refine q_isubw hx hb dX2_dayFrom_22 (fun x_4 lx_4 ux_4 ex_4 => ?_)
    refine lv_aload_n hx hb dX2_dayFrom_23 rfl (lv_at hl 0 rfl) ?_
    refine q_geti (ci := 1) (C := RX2) (T := TX2) (N := 4) hx hb hts (fun w h => List.mem_cons_of_mem _ (mfX20 w h)) hown hK hw m_a0 o_a0 rfl 3 (by decide) (hts _ (List.mem_cons_of_mem _ (mr13 _ (List.mem_of_getElem? (i := 2) rfl)))) (fun _ h => h) rfl dX2_dayFrom_24 (fun x_5 lx_5 ux_5 ex_5 => ?_)
    have bx_5 : 1 ≤ x_5 := by rw [ex_5]; exact hg.1 _ m_a0 1 3 o_a0
    first | refine q_iadd hx hb dX2_dayFrom_27 ⟨by omega, by omega⟩ (fun x_6 lx_6 ux_6 ex_6 => ?_) | refine q_iaddw hx hb dX2_dayFrom_27 (fun x_6 lx_6 ux_6 ex_6 => ?_)
    refine q_iconst hx hb dX2_dayFrom_28 ?_
    first | refine q_isub hx hb dX2_dayFrom_29 ⟨by omega, by omega⟩ (fun x_7 lx_7 ux_7 ex_7 => ?_) | refine q_isubw hx hb dX2_dayFrom_29 (fun x_7 lx_7 ux_7 ex_7 => ?_)
    refine lv_aload_n hx hb dX2_dayFrom_30 rfl (lv_at hl 0 rfl) ?_
    refine q_geti (ci := 1) (C := RX2) (T := TX2) (N := 4) hx hb hts (fun w h => List.mem_cons_of_mem _ (mfX20 w h)) hown hK hw m_a0 o_a0 rfl 3 (by decide) (hts _ (List.mem_cons_of_mem _ (mr13 _ (List.mem_of_getElem? (i := 2) rfl)))) (fun _ h => h) rfl dX2_dayFrom_31 (fun x_8 lx_8 ux_8 ex_8 => ?_)
    have bx_8 : 1 ≤ x_8 := by rw [ex_8]; exact hg.1 _ m_a0 1 3 o_a0
    first | refine q_idiv hx hb dX2_dayFrom_34 ⟨lx_7, ux_7⟩ ⟨lx_8, ux_8⟩ (by omega) (by omega) (fun x_9 lx_9 ux_9 ex_9 => ?_) | refine q_idivw hx hb dX2_dayFrom_34 ⟨lx_7, ux_7⟩ ⟨lx_8, ux_8⟩ (by omega) (fun x_9 lx_9 ux_9 ex_9 => ?_)
    refine lv_aload_n hx hb dX2_dayFrom_35 rfl (lv_at hl 0 rfl) ?_
    refine q_geti (ci := 1) (C := RX2) (T := TX2) (N := 4) hx hb hts (fun w h => List.mem_cons_of_mem _ (mfX20 w h)) hown hK hw m_a0 o_a0 rfl 3 (by decide) (hts _ (List.mem_cons_of_mem _ (mr13 _ (List.mem_of_getElem? (i := 2) rfl)))) (fun _ h => h) rfl dX2_dayFrom_36 (fun x_10 lx_10 ux_10 ex_10 => ?_)
    have bx_10 : 1 ≤ x_10 := by rw [ex_10]; exact hg.1 _ m_a0 1 3 o_a0
    first | refine q_imul hx hb dX2_dayFrom_39 ⟨by omega, by omega⟩ (fun x_11 lx_11 ux_11 ex_11 => ?_) | refine q_imulw hx hb dX2_dayFrom_39 (fun x_11 lx_11 ux_11 ex_11 => ?_)
    first | refine q_iadd hx hb dX2_dayFrom_40 ⟨by omega, by omega⟩ (fun x_12 lx_12 ux_12 ex_12 => ?_) | refine q_iaddw hx hb dX2_dayFrom_40 (fun x_12 lx_12 ux_12 ex_12 => ?_)
    refine lv_istore_n (lv' := [(2, .int (iI x_12)), (0, .ref a0), (1, .int (iI x1))]) hx hb dX2_dayFrom_41 rfl hl (by decide) rfl (fun ls hl => ?_)
    refine lv_iload_n hx hb dX2_dayFrom_42 rfl (lv_at hl 0 rfl) ?_
    refine q_ldc (n := 36524) hx hb hown (hts _ (List.mem_cons_of_mem _ (mr15 _ (List.mem_of_getElem? (i := 6) rfl)))) rfl dX2_dayFrom_43 ?_
    refine q_icmp_gt (tgt := 52) hx hb dX2_dayFrom_45 (by decide) ⟨lx_12, ux_12⟩ ⟨by decide, by decide⟩ (fun c45 => ?_) (fun c45 => ?_)
    · refine q_iconst hx hb dX2_dayFrom_52 ?_
      exact q_ret_i hx hb hr hlocks hK hAe hw ⟨by decide, by decide⟩ (Nat.le_of_ble_eq_true rfl) (Nat.le_of_ble_eq_true rfl) dX2_dayFrom_53 ⟨rfl, rfl, by trivial⟩
    · refine lv_iload_n hx hb dX2_dayFrom_48 rfl (lv_at hl 0 rfl) ?_
      refine lv_goto (tgt := 53) hx hb dX2_dayFrom_49 (by decide) ?_
      exact q_ret_i hx hb hr hlocks hK hAe hw ⟨lx_12, ux_12⟩ (Nat.le_of_ble_eq_true rfl) (Nat.le_of_ble_eq_true rfl) dX2_dayFrom_53 ⟨rfl, rfl, by trivial⟩
  · refine lv_aload_n hx hb dX2_dayFrom_8 rfl (lv_at hl 0 rfl) ?_
    refine q_geti (ci := 1) (C := RX2) (T := TX2) (N := 4) hx hb hts (fun w h => List.mem_cons_of_mem _ (mfX20 w h)) hown hK hw m_a0 o_a0 rfl 2 (by decide) (hts _ (List.mem_cons_of_mem _ (mr15 _ (List.mem_of_getElem? (i := 4) rfl)))) (fun x9 h9 => u_same (hts _ (List.mem_cons_of_mem _ (mr15 _ (List.mem_of_getElem? (i := 5) rfl)))) x9 h9) rfl dX2_dayFrom_9 (fun x_13 lx_13 ux_13 ex_13 => ?_)
    exact q_ret_i hx hb hr hlocks hK hAe hw ⟨lx_13, ux_13⟩ (Nat.le_of_ble_eq_true rfl) (Nat.le_of_ble_eq_true rfl) dX2_dayFrom_12 ⟨rfl, rfl, by trivial⟩
set_option maxHeartbeats 4000000 in
set_option maxRecDepth 100000 in
theorem c_X2_dayTo {Z : Zt} (zo : Zok Z) (l : Launch) (D : va_G) (cy : Cy) (L0 : List Nat) (f0 : Nat → va_E) (a0 : Nat) (x1 : Int) (lx1 : -2147483648 ≤ x1) (ux1 : x1 ≤ 2147483647) (m_a0 : a0 ∈ L0) (o_a0 : Ob f0 a0 1) (hg : GI cy L0 f0) : Ci Z l yX2_dayTo (Cond.code yX2_dayTo cX2_dayTo 2 (some .int) :: TB) ({ frames := 0, cells := 0, slots := 0, locals := 0 } : Room) 0 0 D (tq cy) [.ref a0, .int (iI x1)] L0 f0 (fun (r : Int) (L1 : List Nat) (f1 : Nat → va_E) => L0 = L1 ∧ f0 = f1 ∧ (True)) := by
  refine Ci.enter (cc := cX2_dayTo) (n := 2) rfl (by decide) (Nat.le_of_ble_eq_true rfl) ?_
  intro p e s m below meth c ls A hx hb hr hts hown hlocks hnm hml hK hA hAe hw hZ hl
  have hown : s.vm.findClass RX2 = some m.cls := hown
  have hl : lv_has ls 2 [(0, .ref a0), (1, .int (iI x1))] := hl
  have hN : ZN s := (zo.2.2.2.2 _ _ _ hZ).2
  refine lv_iload_n hx hb dX2_dayTo_0 rfl (lv_at hl 1 rfl) ?_
  refine lv_aload_n hx hb dX2_dayTo_1 rfl (lv_at hl 0 rfl) ?_
  refine q_geti (ci := 1) (C := RX2) (T := TX2) (N := 4) hx hb hts (fun w h => List.mem_cons_of_mem _ (mfX20 w h)) hown hK hw m_a0 o_a0 rfl 2 (by decide) (hts _ (List.mem_cons_of_mem _ (mr15 _ (List.mem_of_getElem? (i := 4) rfl)))) (fun x9 h9 => u_same (hts _ (List.mem_cons_of_mem _ (mr15 _ (List.mem_of_getElem? (i := 5) rfl)))) x9 h9) rfl dX2_dayTo_2 (fun x_1 lx_1 ux_1 ex_1 => ?_)
  refine q_icmp_ge (tgt := 12) hx hb dX2_dayTo_5 (by decide) ⟨lx1, ux1⟩ ⟨lx_1, ux_1⟩ (fun c5 => ?_) (fun c5 => ?_)
  · refine lv_iload_n hx hb dX2_dayTo_12 rfl (lv_at hl 1 rfl) ?_
    refine lv_iload_n hx hb dX2_dayTo_13 rfl (lv_at hl 1 rfl) ?_
    refine lv_aload_n hx hb dX2_dayTo_14 rfl (lv_at hl 0 rfl) ?_
    refine q_geti (ci := 1) (C := RX2) (T := TX2) (N := 4) hx hb hts (fun w h => List.mem_cons_of_mem _ (mfX20 w h)) hown hK hw m_a0 o_a0 rfl 2 (by decide) (hts _ (List.mem_cons_of_mem _ (mr15 _ (List.mem_of_getElem? (i := 4) rfl)))) (fun x9 h9 => u_same (hts _ (List.mem_cons_of_mem _ (mr15 _ (List.mem_of_getElem? (i := 5) rfl)))) x9 h9) rfl dX2_dayTo_15 (fun x_2 lx_2 ux_2 ex_2 => ?_)
    first | refine q_isub hx hb dX2_dayTo_18 ⟨by omega, by omega⟩ (fun x_3 lx_3 ux_3 ex_3 => ?_) | refine q_isubw hx hb dX2_dayTo_18 (fun x_3 lx_3 ux_3 ex_3 => ?_)
    refine lv_aload_n hx hb dX2_dayTo_19 rfl (lv_at hl 0 rfl) ?_
    refine q_geti (ci := 1) (C := RX2) (T := TX2) (N := 4) hx hb hts (fun w h => List.mem_cons_of_mem _ (mfX20 w h)) hown hK hw m_a0 o_a0 rfl 3 (by decide) (hts _ (List.mem_cons_of_mem _ (mr13 _ (List.mem_of_getElem? (i := 2) rfl)))) (fun _ h => h) rfl dX2_dayTo_20 (fun x_4 lx_4 ux_4 ex_4 => ?_)
    have bx_4 : 1 ≤ x_4 := by rw [ex_4]; exact hg.1 _ m_a0 1 3 o_a0
    first | refine q_irem hx hb dX2_dayTo_23 ⟨lx_3, ux_3⟩ ⟨lx_4, ux_4⟩ (by omega) (by omega) (fun x_5 lx_5 ux_5 ex_5 => ?_) | refine q_iremw hx hb dX2_dayTo_23 ⟨lx_3, ux_3⟩ ⟨lx_4, ux_4⟩ (by omega) (fun x_5 lx_5 ux_5 ex_5 => ?_)
    first | refine q_isub hx hb dX2_dayTo_24 ⟨by omega, by omega⟩ (fun x_6 lx_6 ux_6 ex_6 => ?_) | refine q_isubw hx hb dX2_dayTo_24 (fun x_6 lx_6 ux_6 ex_6 => ?_)
    exact q_ret_i hx hb hr hlocks hK hAe hw ⟨lx_6, ux_6⟩ (Nat.le_of_ble_eq_true rfl) (Nat.le_of_ble_eq_true rfl) dX2_dayTo_25 ⟨rfl, rfl, by trivial⟩
  · refine q_iconst hx hb dX2_dayTo_8 ?_
    refine lv_goto (tgt := 25) hx hb dX2_dayTo_9 (by decide) ?_
    exact q_ret_i hx hb hr hlocks hK hAe hw ⟨by decide, by decide⟩ (Nat.le_of_ble_eq_true rfl) (Nat.le_of_ble_eq_true rfl) dX2_dayTo_25 ⟨rfl, rfl, by trivial⟩
set_option maxHeartbeats 4000000 in
set_option maxRecDepth 100000 in
theorem c_X2_daysUpTo {Z : Zt} (zo : Zok Z) (l : Launch) (D : va_G) (cy : Cy) (L0 : List Nat) (f0 : Nat → va_E) (a0 : Nat) (x1 : Int) (lx1 : -2147483648 ≤ x1) (ux1 : x1 ≤ 2147483647) (m_a0 : a0 ∈ L0) (o_a0 : Ob f0 a0 1) (hg : GI cy L0 f0) : Ci Z l yX2_daysUpTo (Cond.code yX2_daysUpTo cX2_daysUpTo 2 (some .int) :: TB) ({ frames := 0, cells := 0, slots := 0, locals := 0 } : Room) 0 0 D (tq cy) [.ref a0, .int (iI x1)] L0 f0 (fun (r : Int) (L1 : List Nat) (f1 : Nat → va_E) => L0 = L1 ∧ f0 = f1 ∧ (True)) := by
  refine Ci.enter (cc := cX2_daysUpTo) (n := 2) rfl (by decide) (Nat.le_of_ble_eq_true rfl) ?_
  intro p e s m below meth c ls A hx hb hr hts hown hlocks hnm hml hK hA hAe hw hZ hl
  have hown : s.vm.findClass RX2 = some m.cls := hown
  have hl : lv_has ls 2 [(0, .ref a0), (1, .int (iI x1))] := hl
  have hN : ZN s := (zo.2.2.2.2 _ _ _ hZ).2
  refine lv_iload_n hx hb dX2_daysUpTo_0 rfl (lv_at hl 1 rfl) ?_
  refine lv_aload_n hx hb dX2_daysUpTo_1 rfl (lv_at hl 0 rfl) ?_
  refine q_geti (ci := 1) (C := RX2) (T := TX2) (N := 4) hx hb hts (fun w h => List.mem_cons_of_mem _ (mfX20 w h)) hown hK hw m_a0 o_a0 rfl 2 (by decide) (hts _ (List.mem_cons_of_mem _ (mr15 _ (List.mem_of_getElem? (i := 4) rfl)))) (fun x9 h9 => u_same (hts _ (List.mem_cons_of_mem _ (mr15 _ (List.mem_of_getElem? (i := 5) rfl)))) x9 h9) rfl dX2_daysUpTo_2 (fun x_1 lx_1 ux_1 ex_1 => ?_)
  refine q_icmp_ge (tgt := 12) hx hb dX2_daysUpTo_5 (by decide) ⟨lx1, ux1⟩ ⟨lx_1, ux_1⟩ (fun c5 => ?_) (fun c5 => ?_)
  · refine lv_iload_n hx hb dX2_daysUpTo_12 rfl (lv_at hl 1 rfl) ?_
    refine lv_aload_n hx hb dX2_daysUpTo_13 rfl (lv_at hl 0 rfl) ?_
    refine q_geti (ci := 1) (C := RX2) (T := TX2) (N := 4) hx hb hts (fun w h => List.mem_cons_of_mem _ (mfX20 w h)) hown hK hw m_a0 o_a0 rfl 2 (by decide) (hts _ (List.mem_cons_of_mem _ (mr15 _ (List.mem_of_getElem? (i := 4) rfl)))) (fun x9 h9 => u_same (hts _ (List.mem_cons_of_mem _ (mr15 _ (List.mem_of_getElem? (i := 5) rfl)))) x9 h9) rfl dX2_daysUpTo_14 (fun x_2 lx_2 ux_2 ex_2 => ?_)
    first | refine q_isub hx hb dX2_daysUpTo_17 ⟨by omega, by omega⟩ (fun x_3 lx_3 ux_3 ex_3 => ?_) | refine q_isubw hx hb dX2_daysUpTo_17 (fun x_3 lx_3 ux_3 ex_3 => ?_)
    refine lv_aload_n hx hb dX2_daysUpTo_18 rfl (lv_at hl 0 rfl) ?_
    refine q_geti (ci := 1) (C := RX2) (T := TX2) (N := 4) hx hb hts (fun w h => List.mem_cons_of_mem _ (mfX20 w h)) hown hK hw m_a0 o_a0 rfl 3 (by decide) (hts _ (List.mem_cons_of_mem _ (mr13 _ (List.mem_of_getElem? (i := 2) rfl)))) (fun _ h => h) rfl dX2_daysUpTo_19 (fun x_4 lx_4 ux_4 ex_4 => ?_)
    have bx_4 : 1 ≤ x_4 := by rw [ex_4]; exact hg.1 _ m_a0 1 3 o_a0
    first | refine q_idiv hx hb dX2_daysUpTo_22 ⟨lx_3, ux_3⟩ ⟨lx_4, ux_4⟩ (by omega) (by omega) (fun x_5 lx_5 ux_5 ex_5 => ?_) | refine q_idivw hx hb dX2_daysUpTo_22 ⟨lx_3, ux_3⟩ ⟨lx_4, ux_4⟩ (by omega) (fun x_5 lx_5 ux_5 ex_5 => ?_)
    refine q_iconst hx hb dX2_daysUpTo_23 ?_
    first | refine q_iadd hx hb dX2_daysUpTo_24 ⟨by omega, by omega⟩ (fun x_6 lx_6 ux_6 ex_6 => ?_) | refine q_iaddw hx hb dX2_daysUpTo_24 (fun x_6 lx_6 ux_6 ex_6 => ?_)
    exact q_ret_i hx hb hr hlocks hK hAe hw ⟨lx_6, ux_6⟩ (Nat.le_of_ble_eq_true rfl) (Nat.le_of_ble_eq_true rfl) dX2_daysUpTo_25 ⟨rfl, rfl, by trivial⟩
  · refine q_iconst hx hb dX2_daysUpTo_8 ?_
    refine lv_goto (tgt := 25) hx hb dX2_daysUpTo_9 (by decide) ?_
    exact q_ret_i hx hb hr hlocks hK hAe hw ⟨by decide, by decide⟩ (Nat.le_of_ble_eq_true rfl) (Nat.le_of_ble_eq_true rfl) dX2_daysUpTo_25 ⟨rfl, rfl, by trivial⟩
set_option maxHeartbeats 4000000 in
set_option maxRecDepth 100000 in
theorem c_X2_daysIn {Z : Zt} (zo : Zok Z) (l : Launch) (D : va_G) (cy : Cy) (L0 : List Nat) (f0 : Nat → va_E) (a0 : Nat) (x1 : Int) (lx1 : -2147483648 ≤ x1) (ux1 : x1 ≤ 2147483647) (x2 : Int) (lx2 : -2147483648 ≤ x2) (ux2 : x2 ≤ 2147483647) (m_a0 : a0 ∈ L0) (o_a0 : Ob f0 a0 1) (hg : GI cy L0 f0) : Ci Z l yX2_daysIn (Cond.code yX2_daysIn cX2_daysIn 3 (some .int) :: TB) ({ frames := 1, cells := 0, slots := 0, locals := 21 } : Room) 0 0 D (tq cy) [.ref a0, .int (iI x1), .int (iI x2)] L0 f0 (fun (r : Int) (L1 : List Nat) (f1 : Nat → va_E) => L0 = L1 ∧ f0 = f1 ∧ (True)) := by
  refine Ci.enter (cc := cX2_daysIn) (n := 3) rfl (by decide) (Nat.le_of_ble_eq_true rfl) ?_
  intro p e s m below meth c ls A hx hb hr hts hown hlocks hnm hml hK hA hAe hw hZ hl
  have hown : s.vm.findClass RX2 = some m.cls := hown
  have hl : lv_has ls 3 [(0, .ref a0), (1, .int (iI x1)), (2, .int (iI x2))] := hl
  have hN : ZN s := (zo.2.2.2.2 _ _ _ hZ).2
  refine lv_aload_n hx hb dX2_daysIn_0 rfl (lv_at hl 0 rfl) ?_
  refine lv_iload_n hx hb dX2_daysIn_1 rfl (lv_at hl 2 rfl) ?_
  refine q_call_i hA hK hw (va_runV (As := [.int (iI x2)]) (rest := []) ⟨hx, hb, hml, hown, hts⟩ (c_X2_daysUpTo zo l D cy L0 f0 a0 x2 lx2 ux2 m_a0 o_a0 hg _) (cwV 1 hts (gT (inV (mr17 _ (List.mem_of_getElem? (i := 16) rfl)) (mr17 _ (List.mem_of_getElem? (i := 17) rfl)) (mr17 _ (List.mem_of_getElem? (i := 18) rfl)) (mr12 _ (List.mem_of_getElem? (i := 12) rfl)) (mr17 _ (List.mem_of_getElem? (i := 19) rfl)))) rfl rfl rfl (by decide +kernel) ⟨Nat.le_of_ble_eq_true rfl, Nat.le_of_ble_eq_true rfl⟩) (Wd.preV zo hA hZ hw hK m_a0 o_a0 rfl) rfl rfl hl.1 rfl (lv_room (Nat.le_of_ble_eq_true rfl)) dX2_daysIn_2 ⟨Nat.le_of_ble_eq_true rfl, Nat.le_of_ble_eq_true rfl⟩) (fun x_1 L1 f1 H locs lx_1 ux_1 ex_1 hw => ?_)
  obtain ⟨rfl, rfl, ex_1⟩ := ex_1
  refine lv_aload_n hx hb dX2_daysIn_5 rfl (lv_at hl 0 rfl) ?_
  refine lv_iload_n hx hb dX2_daysIn_6 rfl (lv_at hl 1 rfl) ?_
  refine q_iconst hx hb dX2_daysIn_7 ?_
  first | refine q_isub hx hb dX2_daysIn_8 ⟨by omega, by omega⟩ (fun x_2 lx_2 ux_2 ex_2 => ?_) | refine q_isubw hx hb dX2_daysIn_8 (fun x_2 lx_2 ux_2 ex_2 => ?_)
  refine q_call_i hA hK hw (va_runV (As := [.int (iI x_2)]) (rest := [.int (iI x_1)]) ⟨hx, hb, hml, hown, hts⟩ (c_X2_daysUpTo zo l D cy L0 f0 a0 x_2 lx_2 ux_2 m_a0 o_a0 hg _) (cwV 1 hts (gT (inV (mr17 _ (List.mem_of_getElem? (i := 16) rfl)) (mr17 _ (List.mem_of_getElem? (i := 17) rfl)) (mr17 _ (List.mem_of_getElem? (i := 18) rfl)) (mr12 _ (List.mem_of_getElem? (i := 12) rfl)) (mr17 _ (List.mem_of_getElem? (i := 19) rfl)))) rfl rfl rfl (by decide +kernel) ⟨Nat.le_of_ble_eq_true rfl, Nat.le_of_ble_eq_true rfl⟩) (Wd.preV zo hA hZ hw hK m_a0 o_a0 rfl) rfl rfl hl.1 rfl (lv_room (Nat.le_of_ble_eq_true rfl)) dX2_daysIn_9 ⟨Nat.le_of_ble_eq_true rfl, Nat.le_of_ble_eq_true rfl⟩) (fun x_3 L1 f1 H locs lx_3 ux_3 ex_3 hw => ?_)
  obtain ⟨rfl, rfl, ex_3⟩ := ex_3
  first | refine q_isub hx hb dX2_daysIn_12 ⟨by omega, by omega⟩ (fun x_4 lx_4 ux_4 ex_4 => ?_) | refine q_isubw hx hb dX2_daysIn_12 (fun x_4 lx_4 ux_4 ex_4 => ?_)
  exact q_ret_i hx hb hr hlocks hK hAe hw ⟨lx_4, ux_4⟩ (Nat.le_of_ble_eq_true rfl) (Nat.le_of_ble_eq_true rfl) dX2_daysIn_13 ⟨rfl, rfl, by trivial⟩
