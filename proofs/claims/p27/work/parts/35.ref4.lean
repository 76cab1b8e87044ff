set_option maxHeartbeats 4000000 in
set_option maxRecDepth 100000 in
theorem c_X10_isOfRoom {Z : Zt} (zo : Zok Z) (l : Launch) (D : va_G) (cy : Cy) (L0 : List Nat) (f0 : Nat → va_E) (a0 : Nat) (x1 : Int) (lx1 : -2147483648 ≤ x1) (ux1 : x1 ≤ 2147483647) (x2 : Int) (lx2 : -2147483648 ≤ x2) (ux2 : x2 ≤ 2147483647) (ad : Nat → Nat) (hs : MS cy L0 f0 a0 ad) (b1 : 0 ≤ x1) (b2 : x1 ≤ 11) : Ci Z l yX10_isOfRoom (Cond.code yX10_isOfRoom cX10_isOfRoom 3 (some .boolean) :: TB) ({ frames := 1, cells := 0, slots := 0, locals := 22 } : Room) 0 0 D (tq cy) [.ref a0, .int (iI x1), .int (iI x2)] L0 f0 (fun (r : Int) (L1 : List Nat) (f1 : Nat → va_E) => L0 = L1 ∧ f0 = f1 ∧ (r = 0 ∨ r = 1)) := by
  refine Ci.enter (cc := cX10_isOfRoom) (n := 3) rfl (plainFor_of_name (by decide)) (Nat.le_of_ble_eq_true rfl) ?_
  intro p e s m below meth c ls A hx hb hr hts hown hlocks hnm hml hK hA hAe hw hZ hl
  have hown : s.vm.findClass RX10 = some m.cls := hown
  have hl : lv_has ls 3 [(0, .ref a0), (1, .int (iI x1)), (2, .int (iI x2))] := hl
  have hN : ZN s := (zo.2.2.2.2 _ _ _ hZ).2
  refine lv_iload_n hx hb dX10_isOfRoom_0 rfl (lv_at hl 2 rfl) ?_
  refine q_iconst hx hb dX10_isOfRoom_1 ?_
  refine q_icmp_eq (tgt := 15) hx hb dX10_isOfRoom_2 (by decide) ⟨lx2, ux2⟩ ⟨by decide, by decide⟩ (fun c2 => ?_) (fun c2 => ?_)
  · refine q_iconst hx hb dX10_isOfRoom_15 ?_
    refine lv_goto (tgt := 20) hx hb dX10_isOfRoom_16 (by decide) ?_
    exact q_ret_z hx hb hr hlocks hK hAe hw (by omega) (Nat.le_of_ble_eq_true rfl) (Nat.le_of_ble_eq_true rfl) dX10_isOfRoom_20 ⟨rfl, rfl, by omega⟩
  · refine lv_aload_n hx hb dX10_isOfRoom_5 rfl (lv_at hl 0 rfl) ?_
    refine lv_iload_n hx hb dX10_isOfRoom_6 rfl (lv_at hl 1 rfl) ?_
    refine q_iconst hx hb dX10_isOfRoom_7 ?_
    refine q_call_i hA hK hw (va_runV (As := [.int (iI x1), .int (iI 0)]) (rest := []) ⟨hx, hb, hml, hown, hts⟩ (c_X10_get zo l D cy L0 f0 a0 x1 lx1 ux1 0 (by decide) (by decide) ad hs (by omega) (by omega) (by omega) (by omega) _) (cwV 2 hts (gT (inV (mr25 _ (List.mem_of_getElem? (i := 0) rfl)) (mr25 _ (List.mem_of_getElem? (i := 1) rfl)) (mr25 _ (List.mem_of_getElem? (i := 2) rfl)) (mr1 _ (List.mem_of_getElem? (i := 5) rfl)) (mr25 _ (List.mem_of_getElem? (i := 3) rfl)))) rfl rfl rfl (by decide +kernel) ⟨Nat.le_of_ble_eq_true rfl, Nat.le_of_ble_eq_true rfl⟩) (Wd.preV zo hA hZ hw hK hs.1 hs.2.1 rfl) rfl rfl hl.1 rfl (lv_room (Nat.le_of_ble_eq_true rfl)) dX10_isOfRoom_8 ⟨Nat.le_of_ble_eq_true rfl, Nat.le_of_ble_eq_true rfl⟩) (fun x_1 L1 f1 H locs lx_1 ux_1 ex_1 hw => ?_)
    obtain ⟨rfl, rfl, ex_1⟩ := ex_1
    refine lv_iload_n hx hb dX10_isOfRoom_11 rfl (lv_at hl 2 rfl) ?_
    refine q_icmp_ne (tgt := 19) hx hb dX10_isOfRoom_12 (by decide) ⟨lx_1, ux_1⟩ ⟨lx2, ux2⟩ (fun c12 => ?_) (fun c12 => ?_)
    · refine q_iconst hx hb dX10_isOfRoom_19 ?_
      exact q_ret_z hx hb hr hlocks hK hAe hw (by omega) (Nat.le_of_ble_eq_true rfl) (Nat.le_of_ble_eq_true rfl) dX10_isOfRoom_20 ⟨rfl, rfl, by omega⟩
    · refine q_iconst hx hb dX10_isOfRoom_15 ?_
      refine lv_goto (tgt := 20) hx hb dX10_isOfRoom_16 (by decide) ?_
      exact q_ret_z hx hb hr hlocks hK hAe hw (by omega) (Nat.le_of_ble_eq_true rfl) (Nat.le_of_ble_eq_true rfl) dX10_isOfRoom_20 ⟨rfl, rfl, by omega⟩