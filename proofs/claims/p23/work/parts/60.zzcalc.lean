set_option maxHeartbeats 4000000 in
set_option maxRecDepth 100000 in
theorem c_X1_daysOfMonth_c {Z : Zt} (zo : Zok Z) (l : Launch) (D : va_G) (cy : Cy) (L0 : List Nat) (f0 : Nat → va_E) (x0 : Int) (lx0 : -2147483648 ≤ x0) (ux0 : x0 ≤ 2147483647) (x1 : Int) (lx1 : -2147483648 ≤ x1) (ux1 : x1 ≤ 2147483647) : Ci Z l yX1_daysOfMonth (Cond.code yX1_daysOfMonth cX1_daysOfMonth 3 (some .int) :: TB) ({ frames := 1, cells := 0, slots := 0, locals := 21 } : Room) 0 0 D (tq cy) [.int (iI x0), .int (iI x1)] L0 f0 (fun (r : Int) (L1 : List Nat) (f1 : Nat → va_E) => L0 = L1 ∧ f0 = f1 ∧ ((2000 ≤ x0 ∧ x0 ≤ 2099 ∧ 1 ≤ x1 ∧ x1 ≤ 12 ∧ r = dI x0 x1) ∨ ((x0 < 2000 ∨ 2099 < x0 ∨ x1 < 1 ∨ 12 < x1) ∧ r = 0))) := by
  refine Ci.enter (cc := cX1_daysOfMonth) (n := 3) rfl (plainFor_of_name (by decide)) (Nat.le_of_ble_eq_true rfl) ?_
  intro p e s m below meth c ls A hx hb hr hts hown hlocks hnm hml hK hA hAe hw hZ hl
  have hown : s.vm.findClass RX1 = some m.cls := hown
  have hl : lv_has ls 3 [(0, .int (iI x0)), (1, .int (iI x1))] := hl
  have hN : ZN s := (zo.2.2.2.2 _ _ _ hZ).2
  refine lv_iload_n hx hb dX1_daysOfMonth_0 rfl (lv_at hl 0 rfl) ?_
  refine q_sipush hx hb dX1_daysOfMonth_1 rfl ?_
  refine q_icmp_lt (tgt := 25) hx hb dX1_daysOfMonth_4 (by decide) ⟨lx0, ux0⟩ ⟨by decide, by decide⟩ (fun c4 => ?_) (fun c4 => ?_)
  · refine q_iconst hx hb dX1_daysOfMonth_25 ?_
    exact q_ret_i hx hb hr hlocks hK hAe hw ⟨by decide, by decide⟩ (Nat.le_of_ble_eq_true rfl) (Nat.le_of_ble_eq_true rfl) dX1_daysOfMonth_26 ⟨rfl, rfl, by omega⟩
  · refine lv_iload_n hx hb dX1_daysOfMonth_7 rfl (lv_at hl 0 rfl) ?_
    refine q_sipush hx hb dX1_daysOfMonth_8 rfl ?_
    refine q_icmp_gt (tgt := 25) hx hb dX1_daysOfMonth_11 (by decide) ⟨lx0, ux0⟩ ⟨by decide, by decide⟩ (fun c11 => ?_) (fun c11 => ?_)
    · refine q_iconst hx hb dX1_daysOfMonth_25 ?_
      exact q_ret_i hx hb hr hlocks hK hAe hw ⟨by decide, by decide⟩ (Nat.le_of_ble_eq_true rfl) (Nat.le_of_ble_eq_true rfl) dX1_daysOfMonth_26 ⟨rfl, rfl, by omega⟩
    · refine lv_iload_n hx hb dX1_daysOfMonth_14 rfl (lv_at hl 1 rfl) ?_
      refine q_iconst hx hb dX1_daysOfMonth_15 ?_
      refine q_icmp_lt (tgt := 25) hx hb dX1_daysOfMonth_16 (by decide) ⟨lx1, ux1⟩ ⟨by decide, by decide⟩ (fun c16 => ?_) (fun c16 => ?_)
      · refine q_iconst hx hb dX1_daysOfMonth_25 ?_
        exact q_ret_i hx hb hr hlocks hK hAe hw ⟨by decide, by decide⟩ (Nat.le_of_ble_eq_true rfl) (Nat.le_of_ble_eq_true rfl) dX1_daysOfMonth_26 ⟨rfl, rfl, by omega⟩
      · refine lv_iload_n hx hb dX1_daysOfMonth_19 rfl (lv_at hl 1 rfl) ?_
        refine q_bipush hx hb dX1_daysOfMonth_20 rfl ?_
        refine q_icmp_le (tgt := 27) hx hb dX1_daysOfMonth_22 (by decide) ⟨lx1, ux1⟩ ⟨by decide, by decide⟩ (fun c22 => ?_) (fun c22 => ?_)
        · refine lv_iload_n hx hb dX1_daysOfMonth_27 rfl (lv_at hl 0 rfl) ?_
          refine lv_iload_n hx hb dX1_daysOfMonth_28 rfl (lv_at hl 1 rfl) ?_
          refine q_call_i hA hK hw (va_runS (As := [.int (iI x0), .int (iI x1)]) (rest := []) ⟨hx, hb, hml, hown, hts⟩ (c_X1_monthNumber zo l D cy L0 f0 x0 lx0 ux0 x1 lx1 ux1 _) (va_cwS 2 hts (gT (inS (mr11 _ (List.mem_of_getElem? (i := 22) rfl)) (mr11 _ (List.mem_of_getElem? (i := 23) rfl)) (mr11 _ (List.mem_of_getElem? (i := 20) rfl)) (mr12 _ (List.mem_of_getElem? (i := 0) rfl)))) rfl rfl rfl (by decide +kernel) ⟨Nat.le_of_ble_eq_true rfl, Nat.le_of_ble_eq_true rfl⟩) (Wd.preS zo hA hZ hw hK) rfl rfl hl.1 rfl (lv_room (Nat.le_of_ble_eq_true rfl)) dX1_daysOfMonth_29 ⟨Nat.le_of_ble_eq_true rfl, Nat.le_of_ble_eq_true rfl⟩) (fun x_1 L1 f1 H locs lx_1 ux_1 ex_1 hw => ?_)
          obtain ⟨rfl, rfl, ex_1⟩ := ex_1
          have n29 := ex_1 ⟨by omega, by omega, by omega, by omega⟩
          have mb := mst_b (y := x0) (m := x1) (by omega) (by omega) (by omega) (by omega)
          have db := dI_b x0 x1
          clear ex_1
          refine lv_istore_n (lv' := [(2, .int (iI x_1)), (0, .int (iI x0)), (1, .int (iI x1))]) hx hb dX1_daysOfMonth_32 rfl hl (by decide) rfl (fun ls hl => ?_)
          refine lv_iload_n hx hb dX1_daysOfMonth_33 rfl (lv_at hl 0 rfl) ?_
          refine q_iconst hx hb dX1_daysOfMonth_34 ?_
          first | refine q_iadd hx hb dX1_daysOfMonth_35 ⟨by omega, by omega⟩ (fun x_2 lx_2 ux_2 ex_2 => ?_) | refine q_iaddw hx hb dX1_daysOfMonth_35 (fun x_2 lx_2 ux_2 _ => ?_)
          refine q_call_i hA hK hw (va_runS (As := [.int (iI x_2)]) (rest := []) ⟨hx, hb, hml, hown, hts⟩ (c_X1_monthStart zo l D cy L0 f0 x_2 lx_2 ux_2 _) (va_cwS 1 hts (gT (inS (mr12 _ (List.mem_of_getElem? (i := 1) rfl)) (mr12 _ (List.mem_of_getElem? (i := 2) rfl)) (mr11 _ (List.mem_of_getElem? (i := 20) rfl)) (mr12 _ (List.mem_of_getElem? (i := 3) rfl)))) rfl rfl rfl (by decide +kernel) ⟨Nat.le_of_ble_eq_true rfl, Nat.le_of_ble_eq_true rfl⟩) (Wd.preS zo hA hZ hw hK) rfl rfl hl.1 rfl (lv_room (Nat.le_of_ble_eq_true rfl)) dX1_daysOfMonth_36 ⟨Nat.le_of_ble_eq_true rfl, Nat.le_of_ble_eq_true rfl⟩) (fun x_3 L1 f1 H locs lx_3 ux_3 ex_3 hw => ?_)
          obtain ⟨rfl, rfl, ex_3⟩ := ex_3
          have s36 : x_3 = mst x0 x1 + dI x0 x1 := (ex_3.2 ⟨by omega, by omega⟩).trans (Eq.trans (show cyS x_2 = cyS ((x0 - 2000) * 12 + x1) by rw [show x_2 = (x0 - 2000) * 12 + x1 by omega]) (cyS_nx (by omega) (by omega) (by omega)))
          clear ex_3
          refine lv_iload_n hx hb dX1_daysOfMonth_39 rfl (lv_at hl 0 rfl) ?_
          refine q_call_i hA hK hw (va_runS (As := [.int (iI x_1)]) (rest := [.int (iI x_3)]) ⟨hx, hb, hml, hown, hts⟩ (c_X1_monthStart zo l D cy L0 f0 x_1 lx_1 ux_1 _) (va_cwS 1 hts (gT (inS (mr12 _ (List.mem_of_getElem? (i := 1) rfl)) (mr12 _ (List.mem_of_getElem? (i := 2) rfl)) (mr11 _ (List.mem_of_getElem? (i := 20) rfl)) (mr12 _ (List.mem_of_getElem? (i := 3) rfl)))) rfl rfl rfl (by decide +kernel) ⟨Nat.le_of_ble_eq_true rfl, Nat.le_of_ble_eq_true rfl⟩) (Wd.preS zo hA hZ hw hK) rfl rfl hl.1 rfl (lv_room (Nat.le_of_ble_eq_true rfl)) dX1_daysOfMonth_40 ⟨Nat.le_of_ble_eq_true rfl, Nat.le_of_ble_eq_true rfl⟩) (fun x_4 L1 f1 H locs lx_4 ux_4 ex_4 hw => ?_)
          obtain ⟨rfl, rfl, ex_4⟩ := ex_4
          have s40 : x_4 = mst x0 x1 := (ex_4.2 ⟨by omega, by omega⟩).trans (Eq.trans (show cyS x_1 = cyS ((x0 - 2000) * 12 + x1 - 1) by rw [show x_1 = (x0 - 2000) * 12 + x1 - 1 by omega]) (cyS_mst (by omega) (by omega) (by omega)))
          clear ex_4
          first | refine q_isub hx hb dX1_daysOfMonth_43 ⟨by omega, by omega⟩ (fun x_5 lx_5 ux_5 ex_5 => ?_) | refine q_isubw hx hb dX1_daysOfMonth_43 (fun x_5 lx_5 ux_5 _ => ?_)
          exact q_ret_i hx hb hr hlocks hK hAe hw ⟨lx_5, ux_5⟩ (Nat.le_of_ble_eq_true rfl) (Nat.le_of_ble_eq_true rfl) dX1_daysOfMonth_44 ⟨rfl, rfl, by omega⟩
        · refine q_iconst hx hb dX1_daysOfMonth_25 ?_
          exact q_ret_i hx hb hr hlocks hK hAe hw ⟨by decide, by decide⟩ (Nat.le_of_ble_eq_true rfl) (Nat.le_of_ble_eq_true rfl) dX1_daysOfMonth_26 ⟨rfl, rfl, by omega⟩
set_option maxHeartbeats 4000000 in
set_option maxRecDepth 100000 in
theorem c_X10_dayOf_3 {Z : Zt} (zo : Zok Z) (l : Launch) (D : va_G) (cy : Cy) (L0 : List Nat) (f0 : Nat → va_E) (a0 : Nat) (x1 : Int) (lx1 : -2147483648 ≤ x1) (ux1 : x1 ≤ 2147483647) (x2 : Int) (lx2 : -2147483648 ≤ x2) (ux2 : x2 ≤ 2147483647) (x3 : Int) (lx3 : -2147483648 ≤ x3) (ux3 : x3 ≤ 2147483647) (ad : Nat → Nat) (hs : MS cy L0 f0 a0 ad) (y1 : 2000 ≤ x1) (y2 : x1 ≤ 2099) (hd : DT f0 ad 36525) : Ci Z l yX10_dayOf (Cond.code yX10_dayOf cX10_dayOf 5 (some .int) :: TB) ({ frames := 0, cells := 0, slots := 0, locals := 0 } : Room) 0 0 D (tq cy) [.ref a0, .int (iI x1), .int (iI x2), .int (iI x3)] L0 f0 (fun (r : Int) (L1 : List Nat) (f1 : Nat → va_E) => L0 = L1 ∧ f0 = f1 ∧ (-1 ≤ r ∧ r ≤ 36524 ∧ ((2000 ≤ x1 ∧ x1 ≤ 2099 ∧ 1 ≤ x2 ∧ x2 ≤ 12 ∧ 1 ≤ x3 ∧ x3 ≤ dI x1 x2) → r = mst x1 x2 + x3 - 1))) := by
  refine Ci.enter (cc := cX10_dayOf) (n := 5) rfl (plainFor_of_name (by decide)) (Nat.le_of_ble_eq_true rfl) ?_
  intro p e s m below meth c ls A hx hb hr hts hown hlocks hnm hml hK hA hAe hw hZ hl
  have hown : s.vm.findClass RX10 = some m.cls := hown
  have hl : lv_has ls 5 [(0, .ref a0), (1, .int (iI x1)), (2, .int (iI x2)), (3, .int (iI x3))] := hl
  have hN : ZN s := (zo.2.2.2.2 _ _ _ hZ).2
  have hr9 : (2000 ≤ x1 ∧ x1 ≤ 2099 ∧ 1 ≤ x2 ∧ x2 ≤ 12 ∧ 1 ≤ x3 ∧ x3 ≤ dI x1 x2) → 365 * (x1 - 2000) ≤ mst x1 x2 + x3 - 1 ∧ mst x1 x2 + x3 - 1 < 36525 := fun ⟨p1, p2, p3, p4, p5, p6⟩ => mst_rg p1 p2 p3 p4 p5 p6
  refine lv_iload_n hx hb dX10_dayOf_0 rfl (lv_at hl 1 rfl) ?_
  refine q_sipush hx hb dX10_dayOf_1 rfl ?_
  first | refine q_isub hx hb dX10_dayOf_4 ⟨by omega, by omega⟩ (fun x_1 lx_1 ux_1 ex_1 => ?_) | refine q_isubw hx hb dX10_dayOf_4 (fun x_1 lx_1 ux_1 ex_1 => ?_)
  refine q_sipush hx hb dX10_dayOf_5 rfl ?_
  first | refine q_imul hx hb dX10_dayOf_8 ⟨by omega, by omega⟩ (fun x_2 lx_2 ux_2 ex_2 => ?_) | refine q_imulw hx hb dX10_dayOf_8 (fun x_2 lx_2 ux_2 ex_2 => ?_)
  refine lv_istore (lv' := [(4, .int (iI x_2)), (0, .ref a0), (1, .int (iI x1)), (2, .int (iI x2)), (3, .int (iI x3))]) hx hb dX10_dayOf_9 hl (by decide) rfl (fun ls hl => ?_)
  have J11 : ∀ (n11 : Nat) (y4_11 : Int) (ly4_11 : -2147483648 ≤ y4_11) (uy4_11 : y4_11 ≤ 2147483647) (i1 : 0 ≤ y4_11) (i2 : (2000 ≤ x1 ∧ x1 ≤ 2099 ∧ 1 ≤ x2 ∧ x2 ≤ 12 ∧ 1 ≤ x3 ∧ x3 ≤ dI x1 x2) → y4_11 ≤ mst x1 x2 + x3 - 1) (hn11 : ((2147483647 : Int) - y4_11).toNat < n11) (H : Heap) (locs : List Loc) (ls : Array Slot) (hw : Wd D A s.heap L0 f0 H locs) (hl : lv_has ls 5 [(0, .ref a0), (1, .int (iI x1)), (2, .int (iI x2)), (3, .int (iI x3)), (4, .int (iI y4_11))]), W p l e ({ frames := 0, cells := 0, slots := 0, locals := 0 } : Room) s m ([.ref a0, .int (iI x1), .int (iI x2), .int (iI x3)] : List Value).toArray below meth c H locs (0) (0) (MQ below (Qi D (tq cy) L0 f0 s.heap.size (fun (r : Int) (L1 : List Nat) (f1 : Nat → va_E) => L0 = L1 ∧ f0 = f1 ∧ (-1 ≤ r ∧ r ≤ 36524 ∧ ((2000 ≤ x1 ∧ x1 ≤ 2099 ∧ 1 ≤ x2 ∧ x2 ≤ 12 ∧ 1 ≤ x3 ∧ x3 ≤ dI x1 x2) → r = mst x1 x2 + x3 - 1)))) ([.ref a0, .int (iI x1), .int (iI x2), .int (iI x3)] : List Value).toArray s 0 0 A) (F0 m 11 ls []) := by
    intro n11
    induction n11 with
    | zero => intro y4_11 ly4_11 uy4_11 i1 i2 hn11; exact absurd hn11 (Nat.not_lt_zero _)
    | succ n11 ih11 =>
      intro y4_11 ly4_11 uy4_11 i1 i2 hn11 H locs ls hw hl
      have hd9 := hd.at x1 x2 x3 y4_11
      refine lv_iload hx hb dX10_dayOf_11 (lv_at hl 4 rfl) ?_
      refine q_ldc (n := 36525) hx hb hown (hts _ (List.mem_cons_of_mem _ (mr3 _ (List.mem_of_getElem? (i := 9) rfl)))) rfl dX10_dayOf_13 ?_
      refine q_icmp_ge (tgt := 60) hx hb dX10_dayOf_15 (by decide) ⟨ly4_11, uy4_11⟩ ⟨by decide, by decide⟩ (fun c15 => ?_) (fun c15 => ?_)
      · refine q_iconst hx hb dX10_dayOf_60 ?_
        exact q_ret_i hx hb hr hlocks hK hAe hw ⟨by decide, by decide⟩ (Nat.le_of_ble_eq_true rfl) (Nat.le_of_ble_eq_true rfl) dX10_dayOf_61 ⟨rfl, rfl, by (refine ⟨by omega, by omega, fun v => ?_⟩; have w1 := i2 v; have w2 := hr9 v; omega)⟩
      · refine lv_aload_n hx hb dX10_dayOf_18 rfl (lv_at hl 0 rfl) ?_
        refine q_getr (ci := 8) (C := RX10) (T := TX10) (N := 26) hx hb hts (fun w h => List.mem_cons_of_mem _ (mfX100 w h)) hown hK hw hs.1 hs.2.1 rfl 0 (by decide) (hts _ (List.mem_cons_of_mem _ (mr3 _ (List.mem_of_getElem? (i := 10) rfl)))) (fun _ h => h) rfl (hs.2.2.1 0 rfl).1 dX10_dayOf_19 ?_
        refine lv_iload hx hb dX10_dayOf_22 (lv_at hl 4 rfl) ?_
        refine q_iald hx hb hK hw (hs.2.2.1 0 rfl).2.1 1 (hs.2.2.1 0 rfl).2.2 rfl ⟨ly4_11, uy4_11⟩ (by omega) (by show _ < ((36525 : Nat) : Int); omega) dX10_dayOf_24 (fun x_3 lx_3 ux_3 ex_3 => ?_)
        refine lv_iload_n hx hb dX10_dayOf_25 rfl (lv_at hl 1 rfl) ?_
        have J54 : ∀ (k1 : (2000 ≤ x1 ∧ x1 ≤ 2099 ∧ 1 ≤ x2 ∧ x2 ≤ 12 ∧ 1 ≤ x3 ∧ x3 ≤ dI x1 x2) → y4_11 + 1 ≤ mst x1 x2 + x3 - 1) (H : Heap) (locs : List Loc) (ls : Array Slot) (hw : Wd D A s.heap L0 f0 H locs) (hl : lv_has ls 5 [(0, .ref a0), (1, .int (iI x1)), (2, .int (iI x2)), (3, .int (iI x3)), (4, .int (iI y4_11))]), W p l e ({ frames := 0, cells := 0, slots := 0, locals := 0 } : Room) s m ([.ref a0, .int (iI x1), .int (iI x2), .int (iI x3)] : List Value).toArray below meth c H locs (0) (0) (MQ below (Qi D (tq cy) L0 f0 s.heap.size (fun (r : Int) (L1 : List Nat) (f1 : Nat → va_E) => L0 = L1 ∧ f0 = f1 ∧ (-1 ≤ r ∧ r ≤ 36524 ∧ ((2000 ≤ x1 ∧ x1 ≤ 2099 ∧ 1 ≤ x2 ∧ x2 ≤ 12 ∧ 1 ≤ x3 ∧ x3 ≤ dI x1 x2) → r = mst x1 x2 + x3 - 1)))) ([.ref a0, .int (iI x1), .int (iI x2), .int (iI x3)] : List Value).toArray s 0 0 A) (F0 m 54 ls []) := by
          intro k1 H locs ls hw hl
          obtain ⟨x_4, lx_4, ux_4, hx_4, ex_4⟩ := q_inc y4_11 (1)
          try (replace ex_4 : x_4 = y4_11 + (1) := by omega)
          refine lv_iinc (v := iI x_4) (lv' := [(4, .int (iI x_4)), (0, .ref a0), (1, .int (iI x1)), (2, .int (iI x2)), (3, .int (iI x3))]) hx hb dX10_dayOf_54 hl (k := 4) rfl hx_4 (by decide) rfl (fun ls hl => ?_)
          refine lv_goto (tgt := 11) hx hb dX10_dayOf_57 (by decide) ?_
          exact ih11 x_4 lx_4 ux_4 (by omega) (by omega) (by omega) _ _ _ hw (lv_sub hl [1, 2, 3, 4, 0] rfl)
        refine q_icmp_ne (tgt := 54) hx hb dX10_dayOf_26 (by decide) ⟨lx_3, ux_3⟩ ⟨lx1, ux1⟩ (fun c26 => ?_) (fun c26 => ?_)
        · exact J54 (by omega) _ _ _ hw (lv_sub hl [0, 1, 2, 3, 4] rfl)
        · refine lv_aload_n hx hb dX10_dayOf_29 rfl (lv_at hl 0 rfl) ?_
          refine q_getr (ci := 8) (C := RX10) (T := TX10) (N := 26) hx hb hts (fun w h => List.mem_cons_of_mem _ (mfX100 w h)) hown hK hw hs.1 hs.2.1 rfl 1 (by decide) (hts _ (List.mem_cons_of_mem _ (mr3 _ (List.mem_of_getElem? (i := 11) rfl)))) (fun _ h => h) rfl (hs.2.2.1 1 rfl).1 dX10_dayOf_30 ?_
          refine lv_iload hx hb dX10_dayOf_33 (lv_at hl 4 rfl) ?_
          refine q_iald hx hb hK hw (hs.2.2.1 1 rfl).2.1 1 (hs.2.2.1 1 rfl).2.2 rfl ⟨ly4_11, uy4_11⟩ (by omega) (by show _ < ((36525 : Nat) : Int); omega) dX10_dayOf_35 (fun x_5 lx_5 ux_5 ex_5 => ?_)
          refine lv_iload_n hx hb dX10_dayOf_36 rfl (lv_at hl 2 rfl) ?_
          refine q_icmp_ne (tgt := 54) hx hb dX10_dayOf_37 (by decide) ⟨lx_5, ux_5⟩ ⟨lx2, ux2⟩ (fun c37 => ?_) (fun c37 => ?_)
          · exact J54 (by omega) _ _ _ hw (lv_sub hl [0, 1, 2, 3, 4] rfl)
          · refine lv_aload_n hx hb dX10_dayOf_40 rfl (lv_at hl 0 rfl) ?_
            refine q_getr (ci := 8) (C := RX10) (T := TX10) (N := 26) hx hb hts (fun w h => List.mem_cons_of_mem _ (mfX100 w h)) hown hK hw hs.1 hs.2.1 rfl 2 (by decide) (hts _ (List.mem_cons_of_mem _ (mr3 _ (List.mem_of_getElem? (i := 12) rfl)))) (fun _ h => h) rfl (hs.2.2.1 2 rfl).1 dX10_dayOf_41 ?_
            refine lv_iload hx hb dX10_dayOf_44 (lv_at hl 4 rfl) ?_
            refine q_iald hx hb hK hw (hs.2.2.1 2 rfl).2.1 1 (hs.2.2.1 2 rfl).2.2 rfl ⟨ly4_11, uy4_11⟩ (by omega) (by show _ < ((36525 : Nat) : Int); omega) dX10_dayOf_46 (fun x_6 lx_6 ux_6 ex_6 => ?_)
            refine lv_iload_n hx hb dX10_dayOf_47 rfl (lv_at hl 3 rfl) ?_
            refine q_icmp_ne (tgt := 54) hx hb dX10_dayOf_48 (by decide) ⟨lx_6, ux_6⟩ ⟨lx3, ux3⟩ (fun c48 => ?_) (fun c48 => ?_)
            · exact J54 (by omega) _ _ _ hw (lv_sub hl [0, 1, 2, 3, 4] rfl)
            · refine lv_iload hx hb dX10_dayOf_51 (lv_at hl 4 rfl) ?_
              exact q_ret_i hx hb hr hlocks hK hAe hw ⟨ly4_11, uy4_11⟩ (Nat.le_of_ble_eq_true rfl) (Nat.le_of_ble_eq_true rfl) dX10_dayOf_53 ⟨rfl, rfl, by (refine ⟨by omega, by omega, fun v => ?_⟩; obtain ⟨y, mm, j, g⟩ := DV.of (d := y4_11) (by omega) (by omega); have q := hd.day g; have e1 : y = x1 := (by omega); have e2 : mm = x2 := (by omega); have e3 : j = x3 := (by omega); have g7 := g.2.2.2.2.2.2; rw [e1, e2, e3] at g7; exact g7)⟩
  exact J11 ((((2147483647 : Int) - x_2).toNat) + 1) x_2 lx_2 ux_2 (by omega) (by omega) (by omega) _ _ _ hw (lv_sub hl [1, 2, 3, 4, 0] rfl)