set_option maxHeartbeats 4000000 in
set_option maxRecDepth 100000 in
theorem c_X10_daysIn_2 {Z : Zt} (zo : Zok Z) (l : Launch) (D : va_G) (cy : Cy) (L0 : List Nat) (f0 : Nat → va_E) (x0 : Int) (lx0 : -2147483648 ≤ x0) (ux0 : x0 ≤ 2147483647) (x1 : Int) (lx1 : -2147483648 ≤ x1) (ux1 : x1 ≤ 2147483647) : Ci Z l yX10_daysIn (Cond.code yX10_daysIn cX10_daysIn 2 (some .int) :: TB) ({ frames := 0, cells := 0, slots := 0, locals := 0 } : Room) 0 0 D (tq cy) [.int (iI x0), .int (iI x1)] L0 f0 (fun (r : Int) (L1 : List Nat) (f1 : Nat → va_E) => L0 = L1 ∧ f0 = f1 ∧ (28 ≤ r ∧ r ≤ 31 ∧ (0 ≤ x0 → r = dI x0 x1))) := by
  refine Ci.enter (cc := cX10_daysIn) (n := 2) rfl (plainFor_of_name (by decide)) (Nat.le_of_ble_eq_true rfl) ?_
  intro p e s m below meth c ls A hx hb hr hts hown hlocks hnm hml hK hA hAe hw hZ hl
  have hown : s.vm.findClass RX10 = some m.cls := hown
  have hl : lv_has ls 2 [(0, .int (iI x0)), (1, .int (iI x1))] := hl
  have hN : ZN s := (zo.2.2.2.2 _ _ _ hZ).2
  refine lv_iload_n hx hb dX10_daysIn_0 rfl (lv_at hl 1 rfl) ?_
  refine q_iconst hx hb dX10_daysIn_1 ?_
  refine q_icmp_ne (tgt := 19) hx hb dX10_daysIn_2 (by decide) ⟨lx1, ux1⟩ ⟨by decide, by decide⟩ (fun c2 => ?_) (fun c2 => ?_)
  · refine lv_iload_n hx hb dX10_daysIn_19 rfl (lv_at hl 1 rfl) ?_
    refine q_iconst hx hb dX10_daysIn_20 ?_
    refine q_icmp_eq (tgt := 42) hx hb dX10_daysIn_21 (by decide) ⟨lx1, ux1⟩ ⟨by decide, by decide⟩ (fun c21 => ?_) (fun c21 => ?_)
    · refine q_bipush hx hb dX10_daysIn_42 rfl ?_
      refine lv_goto (tgt := 49) hx hb dX10_daysIn_44 (by decide) ?_
      exact q_ret_i hx hb hr hlocks hK hAe hw ⟨by decide, by decide⟩ (Nat.le_of_ble_eq_true rfl) (Nat.le_of_ble_eq_true rfl) dX10_daysIn_49 ⟨rfl, rfl, by (refine ⟨by omega, by omega, fun q => ?_⟩; unfold dI; repeat (first | rw [if_pos (by omega)] | rw [if_neg (by omega)]))⟩
    · refine lv_iload_n hx hb dX10_daysIn_24 rfl (lv_at hl 1 rfl) ?_
      refine q_bipush hx hb dX10_daysIn_25 rfl ?_
      refine q_icmp_eq (tgt := 42) hx hb dX10_daysIn_27 (by decide) ⟨lx1, ux1⟩ ⟨by decide, by decide⟩ (fun c27 => ?_) (fun c27 => ?_)
      · refine q_bipush hx hb dX10_daysIn_42 rfl ?_
        refine lv_goto (tgt := 49) hx hb dX10_daysIn_44 (by decide) ?_
        exact q_ret_i hx hb hr hlocks hK hAe hw ⟨by decide, by decide⟩ (Nat.le_of_ble_eq_true rfl) (Nat.le_of_ble_eq_true rfl) dX10_daysIn_49 ⟨rfl, rfl, by (refine ⟨by omega, by omega, fun q => ?_⟩; unfold dI; repeat (first | rw [if_pos (by omega)] | rw [if_neg (by omega)]))⟩
      · refine lv_iload_n hx hb dX10_daysIn_30 rfl (lv_at hl 1 rfl) ?_
        refine q_bipush hx hb dX10_daysIn_31 rfl ?_
        refine q_icmp_eq (tgt := 42) hx hb dX10_daysIn_33 (by decide) ⟨lx1, ux1⟩ ⟨by decide, by decide⟩ (fun c33 => ?_) (fun c33 => ?_)
        · refine q_bipush hx hb dX10_daysIn_42 rfl ?_
          refine lv_goto (tgt := 49) hx hb dX10_daysIn_44 (by decide) ?_
          exact q_ret_i hx hb hr hlocks hK hAe hw ⟨by decide, by decide⟩ (Nat.le_of_ble_eq_true rfl) (Nat.le_of_ble_eq_true rfl) dX10_daysIn_49 ⟨rfl, rfl, by (refine ⟨by omega, by omega, fun q => ?_⟩; unfold dI; repeat (first | rw [if_pos (by omega)] | rw [if_neg (by omega)]))⟩
        · refine lv_iload_n hx hb dX10_daysIn_36 rfl (lv_at hl 1 rfl) ?_
          refine q_bipush hx hb dX10_daysIn_37 rfl ?_
          refine q_icmp_ne (tgt := 47) hx hb dX10_daysIn_39 (by decide) ⟨lx1, ux1⟩ ⟨by decide, by decide⟩ (fun c39 => ?_) (fun c39 => ?_)
          · refine q_bipush hx hb dX10_daysIn_47 rfl ?_
            exact q_ret_i hx hb hr hlocks hK hAe hw ⟨by decide, by decide⟩ (Nat.le_of_ble_eq_true rfl) (Nat.le_of_ble_eq_true rfl) dX10_daysIn_49 ⟨rfl, rfl, by (refine ⟨by omega, by omega, fun q => ?_⟩; unfold dI; repeat (first | rw [if_pos (by omega)] | rw [if_neg (by omega)]))⟩
          · refine q_bipush hx hb dX10_daysIn_42 rfl ?_
            refine lv_goto (tgt := 49) hx hb dX10_daysIn_44 (by decide) ?_
            exact q_ret_i hx hb hr hlocks hK hAe hw ⟨by decide, by decide⟩ (Nat.le_of_ble_eq_true rfl) (Nat.le_of_ble_eq_true rfl) dX10_daysIn_49 ⟨rfl, rfl, by (refine ⟨by omega, by omega, fun q => ?_⟩; unfold dI; repeat (first | rw [if_pos (by omega)] | rw [if_neg (by omega)]))⟩
  · refine lv_iload_n hx hb dX10_daysIn_5 rfl (lv_at hl 0 rfl) ?_
    refine q_iconst hx hb dX10_daysIn_6 ?_
    first | refine q_irem hx hb dX10_daysIn_7 ⟨lx0, ux0⟩ ⟨by decide, by decide⟩ (by omega) (by omega) (fun x_1 lx_1 ux_1 ex_1 => ?_) | refine q_iremw hx hb dX10_daysIn_7 ⟨lx0, ux0⟩ ⟨by decide, by decide⟩ (by omega) (fun x_1 lx_1 ux_1 ex_1 => ?_)
    refine q_if_ne (tgt := 16) hx hb dX10_daysIn_8 (by decide) ⟨lx_1, ux_1⟩ (fun c8 => ?_) (fun c8 => ?_)
    · refine q_bipush hx hb dX10_daysIn_16 rfl ?_
      exact q_ret_i hx hb hr hlocks hK hAe hw ⟨by decide, by decide⟩ (Nat.le_of_ble_eq_true rfl) (Nat.le_of_ble_eq_true rfl) dX10_daysIn_18 ⟨rfl, rfl, by (refine ⟨by omega, by omega, fun q => ?_⟩; unfold dI; repeat (first | rw [if_pos (by omega)] | rw [if_neg (by omega)]))⟩
    · refine q_bipush hx hb dX10_daysIn_11 rfl ?_
      refine lv_goto (tgt := 18) hx hb dX10_daysIn_13 (by decide) ?_
      exact q_ret_i hx hb hr hlocks hK hAe hw ⟨by decide, by decide⟩ (Nat.le_of_ble_eq_true rfl) (Nat.le_of_ble_eq_true rfl) dX10_daysIn_18 ⟨rfl, rfl, by (refine ⟨by omega, by omega, fun q => ?_⟩; unfold dI; repeat (first | rw [if_pos (by omega)] | rw [if_neg (by omega)]))⟩
set_option maxHeartbeats 4000000 in
set_option maxRecDepth 100000 in
theorem c_X10_dayOf_2 {Z : Zt} (zo : Zok Z) (l : Launch) (D : va_G) (cy : Cy) (L0 : List Nat) (f0 : Nat → va_E) (a0 : Nat) (x1 : Int) (lx1 : -2147483648 ≤ x1) (ux1 : x1 ≤ 2147483647) (x2 : Int) (lx2 : -2147483648 ≤ x2) (ux2 : x2 ≤ 2147483647) (x3 : Int) (lx3 : -2147483648 ≤ x3) (ux3 : x3 ≤ 2147483647) (ad : Nat → Nat) (hs : MS cy L0 f0 a0 ad) (y1 : 2000 ≤ x1) (y2 : x1 ≤ 2099) (hd : DT f0 ad 36525) : Ci Z l yX10_dayOf (Cond.code yX10_dayOf cX10_dayOf 5 (some .int) :: TB) ({ frames := 0, cells := 0, slots := 0, locals := 0 } : Room) 0 0 D (tq cy) [.ref a0, .int (iI x1), .int (iI x2), .int (iI x3)] L0 f0 (fun (r : Int) (L1 : List Nat) (f1 : Nat → va_E) => L0 = L1 ∧ f0 = f1 ∧ (-1 ≤ r ∧ r ≤ 36524 ∧ ((2000 ≤ x1 ∧ x1 ≤ 2099 ∧ 1 ≤ x2 ∧ x2 ≤ 12 ∧ 1 ≤ x3 ∧ x3 ≤ dI x1 x2) → 0 ≤ r))) := by
  refine Ci.enter (cc := cX10_dayOf) (n := 5) rfl (plainFor_of_name (by decide)) (Nat.le_of_ble_eq_true rfl) ?_
  intro p e s m below meth c ls A hx hb hr hts hown hlocks hnm hml hK hA hAe hw hZ hl
  have hown : s.vm.findClass RX10 = some m.cls := hown
  have hl : lv_has ls 5 [(0, .ref a0), (1, .int (iI x1)), (2, .int (iI x2)), (3, .int (iI x3))] := hl
  have hN : ZN s := (zo.2.2.2.2 _ _ _ hZ).2
  have hr9 : (2000 ≤ x1 ∧ x1 ≤ 2099 ∧ 1 ≤ x2 ∧ x2 ≤ 12 ∧ 1 ≤ x3 ∧ x3 ≤ dI x1 x2) → 365 * (x1 - 2000) ≤ mst x1 x2 + x3 - 1 ∧ mst x1 x2 + x3 - 1 < 36525 := fun ⟨p1, p2, p3, p4, p5, p6⟩ => mst_rg p1 p2 p3 p4 p5 p6
  refine lv_iload_n hx hb dX10_dayOf_0 rfl (lv_at hl 1 rfl) ?_
  refine q_sipush hx hb dX10_dayOf_1 rfl ?_
  first | refine q_isub hx hb dX10_dayOf_4 ⟨by omega, by omega⟩ (fun x_1 lx_1 ux_1 ex_1 => ?_) | refine q_isubw hx hb dX10_dayOf_4 (fun x_1 lx_1 ux_1 ex_1 => ?_)
  refine q_sipush hx hb dX10_dayOf_5 rfl ?_
  first | refine q_imul hx hb dX10_dayOf_8 ⟨by omega, by omega⟩ (fun x_2 lx_2 ux_2 ex_2 => ?_) | refine q_imulw hx hb dX10_dayOf_8 (fun x_2 lx_2 ux_2 ex_2 => ?_)
  refine lv_istore (lv' := [(4, .int (iI x_2)), (0, .ref a0), (1, .int (iI x1)), (2, .int (iI x2)), (3, .int (iI x3))]) hx hb dX10_dayOf_9 hl (by decide) rfl (fun ls hl => ?_)
  have J11 : ∀ (n11 : Nat) (y4_11 : Int) (ly4_11 : -2147483648 ≤ y4_11) (uy4_11 : y4_11 ≤ 2147483647) (i1 : 0 ≤ y4_11) (i2 : (2000 ≤ x1 ∧ x1 ≤ 2099 ∧ 1 ≤ x2 ∧ x2 ≤ 12 ∧ 1 ≤ x3 ∧ x3 ≤ dI x1 x2) → y4_11 ≤ mst x1 x2 + x3 - 1) (hn11 : ((2147483647 : Int) - y4_11).toNat < n11) (H : Heap) (locs : List Loc) (ls : Array Slot) (hw : Wd D A s.heap L0 f0 H locs) (hl : lv_has ls 5 [(0, .ref a0), (1, .int (iI x1)), (2, .int (iI x2)), (3, .int (iI x3)), (4, .int (iI y4_11))]), W p l e ({ frames := 0, cells := 0, slots := 0, locals := 0 } : Room) s m ([.ref a0, .int (iI x1), .int (iI x2), .int (iI x3)] : List Value).toArray below meth c H locs (0) (0) (MQ below (Qi D (tq cy) L0 f0 s.heap.size (fun (r : Int) (L1 : List Nat) (f1 : Nat → va_E) => L0 = L1 ∧ f0 = f1 ∧ (-1 ≤ r ∧ r ≤ 36524 ∧ ((2000 ≤ x1 ∧ x1 ≤ 2099 ∧ 1 ≤ x2 ∧ x2 ≤ 12 ∧ 1 ≤ x3 ∧ x3 ≤ dI x1 x2) → 0 ≤ r)))) ([.ref a0, .int (iI x1), .int (iI x2), .int (iI x3)] : List Value).toArray s 0 0 A) (F0 m 11 ls []) := by
    intro n11
    induction n11 with
    | zero => intro y4_11 ly4_11 uy4_11 i1 i2 hn11; exact absurd hn11 (Nat.not_lt_zero _)
    | succ n11 ih11 =>
      intro y4_11 ly4_11 uy4_11 i1 i2 hn11 H locs ls hw hl
      have hd9 := hd.at x1 x2 x3 y4_11
      refine lv_iload hx hb dX10_dayOf_11 (lv_at hl 4 rfl) ?_
      refine q_ldc (n := 36525) hx hb hown (hts _ (List.mem_cons_of_mem _ (mr3 _ (List.mem_of_getElem? (i := 9) rfl)))) rfl dX10_dayOf_13 ?_
      refine q_icmp_ge (tgt := 60) hx hb dX10_dayOf_15 (by decide) ⟨ly4_11, uy4_11⟩ ⟨by decide, by decide⟩ (fun c15 => ?_) (fun c15 => ?_)
      · refine q_iconst hx hb dX10_dayOf_60 ?_
        exact q_ret_i hx hb hr hlocks hK hAe hw ⟨by decide, by decide⟩ (Nat.le_of_ble_eq_true rfl) (Nat.le_of_ble_eq_true rfl) dX10_dayOf_61 ⟨rfl, rfl, by omega⟩
      · refine lv_aload_n hx hb dX10_dayOf_18 rfl (lv_at hl 0 rfl) ?_
        refine q_getr (ci := 8) (C := RX10) (T := TX10) (N := 26) hx hb hts (fun w h => List.mem_cons_of_mem _ (mfX100 w h)) hown hK hw hs.1 hs.2.1 rfl 0 (by decide) (hts _ (List.mem_cons_of_mem _ (mr3 _ (List.mem_of_getElem? (i := 10) rfl)))) (fun _ h => h) rfl (hs.2.2.1 0 rfl).1 dX10_dayOf_19 ?_
        refine lv_iload hx hb dX10_dayOf_22 (lv_at hl 4 rfl) ?_
        refine q_iald hx hb hK hw (hs.2.2.1 0 rfl).2.1 1 (hs.2.2.1 0 rfl).2.2 rfl ⟨ly4_11, uy4_11⟩ (by omega) (by show _ < ((36525 : Nat) : Int); omega) dX10_dayOf_24 (fun x_3 lx_3 ux_3 ex_3 => ?_)
        refine lv_iload_n hx hb dX10_dayOf_25 rfl (lv_at hl 1 rfl) ?_
        have J54 : ∀ (k1 : (2000 ≤ x1 ∧ x1 ≤ 2099 ∧ 1 ≤ x2 ∧ x2 ≤ 12 ∧ 1 ≤ x3 ∧ x3 ≤ dI x1 x2) → y4_11 + 1 ≤ mst x1 x2 + x3 - 1) (H : Heap) (locs : List Loc) (ls : Array Slot) (hw : Wd D A s.heap L0 f0 H locs) (hl : lv_has ls 5 [(0, .ref a0), (1, .int (iI x1)), (2, .int (iI x2)), (3, .int (iI x3)), (4, .int (iI y4_11))]), W p l e ({ frames := 0, cells := 0, slots := 0, locals := 0 } : Room) s m ([.ref a0, .int (iI x1), .int (iI x2), .int (iI x3)] : List Value).toArray below meth c H locs (0) (0) (MQ below (Qi D (tq cy) L0 f0 s.heap.size (fun (r : Int) (L1 : List Nat) (f1 : Nat → va_E) => L0 = L1 ∧ f0 = f1 ∧ (-1 ≤ r ∧ r ≤ 36524 ∧ ((2000 ≤ x1 ∧ x1 ≤ 2099 ∧ 1 ≤ x2 ∧ x2 ≤ 12 ∧ 1 ≤ x3 ∧ x3 ≤ dI x1 x2) → 0 ≤ r)))) ([.ref a0, .int (iI x1), .int (iI x2), .int (iI x3)] : List Value).toArray s 0 0 A) (F0 m 54 ls []) := by
          intro k1 H locs ls hw hl
          obtain ⟨x_4, lx_4, ux_4, hx_4, ex_4⟩ := q_inc y4_11 (1)
          try (replace ex_4 : x_4 = y4_11 + (1) := by omega)
          refine lv_iinc (v := iI x_4) (lv' := [(4, .int (iI x_4)), (0, .ref a0), (1, .int (iI x1)), (2, .int (iI x2)), (3, .int (iI x3))]) hx hb dX10_dayOf_54 hl (k := 4) rfl hx_4 (by decide) rfl (fun ls hl => ?_)
          refine lv_goto (tgt := 11) hx hb dX10_dayOf_57 (by decide) ?_
          exact ih11 x_4 lx_4 ux_4 (by omega) (by omega) (by omega) _ _ _ hw (lv_sub hl [1, 2, 3, 4, 0] rfl)
        refine q_icmp_ne (tgt := 54) hx hb dX10_dayOf_26 (by decide) ⟨lx_3, ux_3⟩ ⟨lx1, ux1⟩ (fun c26 => ?_) (fun c26 => ?_)
        · exact J54 (by omega) _ _ _ hw (lv_sub hl [0, 1, 2, 3, 4] rfl)
        · refine lv_aload_n hx hb dX10_dayOf_29 rfl (lv_at hl 0 rfl) ?_
          refine q_getr (ci := 8) (C := RX10) (T := TX10) (N := 26) hx hb hts (fun w h => List.mem_cons_of_mem _ (mfX100 w h)) hown hK hw hs.1 hs.2.1 rfl 1 (by decide) (hts _ (List.mem_cons_of_mem _ (mr3 _ (List.mem_of_getElem? (i := 11) rfl)))) (fun _ h => h) rfl (hs.2.2.1 1 rfl).1 dX10_dayOf_30 ?_
          refine lv_iload hx hb dX10_dayOf_33 (lv_at hl 4 rfl) ?_
          refine q_iald hx hb hK hw (hs.2.2.1 1 rfl).2.1 1 (hs.2.2.1 1 rfl).2.2 rfl ⟨ly4_11, uy4_11⟩ (by omega) (by show _ < ((36525 : Nat) : Int); omega) dX10_dayOf_35 (fun x_5 lx_5 ux_5 ex_5 => ?_)
          refine lv_iload_n hx hb dX10_dayOf_36 rfl (lv_at hl 2 rfl) ?_
          refine q_icmp_ne (tgt := 54) hx hb dX10_dayOf_37 (by decide) ⟨lx_5, ux_5⟩ ⟨lx2, ux2⟩ (fun c37 => ?_) (fun c37 => ?_)
          · exact J54 (by omega) _ _ _ hw (lv_sub hl [0, 1, 2, 3, 4] rfl)
          · refine lv_aload_n hx hb dX10_dayOf_40 rfl (lv_at hl 0 rfl) ?_
            refine q_getr (ci := 8) (C := RX10) (T := TX10) (N := 26) hx hb hts (fun w h => List.mem_cons_of_mem _ (mfX100 w h)) hown hK hw hs.1 hs.2.1 rfl 2 (by decide) (hts _ (List.mem_cons_of_mem _ (mr3 _ (List.mem_of_getElem? (i := 12) rfl)))) (fun _ h => h) rfl (hs.2.2.1 2 rfl).1 dX10_dayOf_41 ?_
            refine lv_iload hx hb dX10_dayOf_44 (lv_at hl 4 rfl) ?_
            refine q_iald hx hb hK hw (hs.2.2.1 2 rfl).2.1 1 (hs.2.2.1 2 rfl).2.2 rfl ⟨ly4_11, uy4_11⟩ (by omega) (by show _ < ((36525 : Nat) : Int); omega) dX10_dayOf_46 (fun x_6 lx_6 ux_6 ex_6 => ?_)
            refine lv_iload_n hx hb dX10_dayOf_47 rfl (lv_at hl 3 rfl) ?_
            refine q_icmp_ne (tgt := 54) hx hb dX10_dayOf_48 (by decide) ⟨lx_6, ux_6⟩ ⟨lx3, ux3⟩ (fun c48 => ?_) (fun c48 => ?_)
            · exact J54 (by omega) _ _ _ hw (lv_sub hl [0, 1, 2, 3, 4] rfl)
            · refine lv_iload hx hb dX10_dayOf_51 (lv_at hl 4 rfl) ?_
              exact q_ret_i hx hb hr hlocks hK hAe hw ⟨ly4_11, uy4_11⟩ (Nat.le_of_ble_eq_true rfl) (Nat.le_of_ble_eq_true rfl) dX10_dayOf_53 ⟨rfl, rfl, by omega⟩
  exact J11 ((((2147483647 : Int) - x_2).toNat) + 1) x_2 lx_2 ux_2 (by omega) (by omega) (by omega) _ _ _ hw (lv_sub hl [1, 2, 3, 4, 0] rfl)
set_option maxHeartbeats 4000000 in
set_option maxRecDepth 100000 in
theorem c_X10_dateTold {Z : Zt} (zo : Zok Z) (l : Launch) (D : va_G) (cy : Cy) (L0 : List Nat) (f0 : Nat → va_E) (a0 : Nat) (ad : Nat → Nat) (hs : MS cy L0 f0 a0 ad) (p1 : 0 ≤ fI f0 a0 15) (p2 : fI f0 a0 15 ≤ 168) (p3 : 0 ≤ fI f0 a0 16) (p4 : fI f0 a0 16 ≤ 168) (p5 : fI f0 a0 14 ≤ 168) (p6 : 0 ≤ fI f0 a0 20) (hd : DT f0 ad 36525) : Ci Z l yX10_dateTold (Cond.code yX10_dateTold cX10_dateTold 4 (some .int) :: TB) ({ frames := 3, cells := 0, slots := 0, locals := 66 } : Room) 0 0 D (tq cy) [.ref a0] L0 f0 (fun (r : Int) (L1 : List Nat) (f1 : Nat → va_E) => L0 = L1 ∧ MS cy L0 f1 a0 ad ∧ Kp a0 ad [] [15, 16, 17, 18, 19, 20, 22] f0 f1 ∧ (0 ≤ fI f1 a0 15 ∧ fI f1 a0 15 ≤ 168 ∧ 0 ≤ fI f1 a0 16 ∧ fI f1 a0 16 ≤ 168 ∧ 0 ≤ fI f1 a0 20 ∧ (fI f1 a0 20 = 0 → fI f0 a0 20 = 0) ∧ -1 ≤ r ∧ r ≤ 36524 ∧ (fI f1 a0 20 = 0 → 0 ≤ r) ∧ 0 ≤ fI f1 a0 22 ∧ fI f1 a0 22 ≤ 168)) := by
  refine Ci.enter (cc := cX10_dateTold) (n := 4) rfl (plainFor_of_name (by decide)) (Nat.le_of_ble_eq_true rfl) ?_
  intro p e s m below meth c ls A hx hb hr hts hown hlocks hnm hml hK hA hAe hw hZ hl
  have hown : s.vm.findClass RX10 = some m.cls := hown
  have hl : lv_has ls 4 [(0, .ref a0)] := hl
  have hN : ZN s := (zo.2.2.2.2 _ _ _ hZ).2
  have hE : Kp a0 ad [] [15, 16, 17, 18, 19, 20, 22] f0 f0 := Kp.refl _ _ _ _ _
  refine lv_aload_n hx hb dX10_dateTold_0 rfl (lv_at hl 0 rfl) ?_
  refine lv_aload_n hx hb dX10_dateTold_1 rfl (lv_at hl 0 rfl) ?_
  refine q_geti (ci := 8) (C := RX10) (T := TX10) (N := 26) hx hb hts (fun w h => List.mem_cons_of_mem _ (mfX100 w h)) hown hK hw hs.1 hs.2.1 rfl 15 (by decide) (hts _ (List.mem_cons_of_mem _ (mr19 _ (List.mem_of_getElem? (i := 8) rfl)))) (fun _ h => h) rfl dX10_dateTold_2 (fun x_1 lx_1 ux_1 ex_1 => ?_)
  refine q_puti (ci := 8) (C := RX10) (T := TX10) (N := 26) hx hb hts (fun w h => List.mem_cons_of_mem _ (mfX100 w h)) hown hK hw hs.1 hs.2.1 rfl 22 (by decide) (hts _ (List.mem_cons_of_mem _ (mr21 _ (List.mem_of_getElem? (i := 20) rfl)))) (fun _ h => h) tyX10 tyX10_ok nmX10 rfl (ty := .int) (by decide +kernel) rfl rfl dX10_dateTold_5 (fun H locs hw => ?_)
  obtain ⟨f_2, ef_2⟩ : ∃ g : Nat → va_E, g = pU f0 a0 22 (.int (iI x_1)) := ⟨_, rfl⟩
  have v22_f_2 : fI f_2 a0 22 = x_1 := by rw [ef_2]; exact fI_pU_self hs.2.1 rfl ⟨lx_1, ux_1⟩
  have t14_f_2 : fI f_2 a0 14 = fI f0 a0 14 := by rw [ef_2]; exact fI_pU (Or.inr (by decide))
  have t15_f_2 : fI f_2 a0 15 = fI f0 a0 15 := by rw [ef_2]; exact fI_pU (Or.inr (by decide))
  have t16_f_2 : fI f_2 a0 16 = fI f0 a0 16 := by rw [ef_2]; exact fI_pU (Or.inr (by decide))
  have t17_f_2 : fI f_2 a0 17 = fI f0 a0 17 := by rw [ef_2]; exact fI_pU (Or.inr (by decide))
  have t20_f_2 : fI f_2 a0 20 = fI f0 a0 20 := by rw [ef_2]; exact fI_pU (Or.inr (by decide))
  have hE := hE.trans (show Kp a0 ad [] [15, 16, 17, 18, 19, 20, 22] f0 f_2 by rw [ef_2]; exact Kp_pU hs (by decide))
  have hs : MS cy L0 f_2 a0 ad := by rw [ef_2]; exact MS_pU hs rfl
  rw [← ef_2] at hw
  refine lv_aload_n hx hb dX10_dateTold_8 rfl (lv_at hl 0 rfl) ?_
  refine q_sipush hx hb dX10_dateTold_9 rfl ?_
  refine q_sipush hx hb dX10_dateTold_12 rfl ?_
  refine q_call_i hA hK hw (va_runV (As := [.int (iI 2000), .int (iI 2099)]) (rest := []) ⟨hx, hb, hml, hown, hts⟩ (c_X10_numberTold zo l D cy L0 f_2 a0 2000 (by decide) (by decide) 2099 (by decide) (by decide) ad hs (by omega) (by omega) (by omega) (by omega) (by omega) (by omega) _) (cwV 2 hts (gT (inV (mr20 _ (List.mem_of_getElem? (i := 16) rfl)) (mr20 _ (List.mem_of_getElem? (i := 17) rfl)) (mr20 _ (List.mem_of_getElem? (i := 18) rfl)) (mr1 _ (List.mem_of_getElem? (i := 5) rfl)) (mr20 _ (List.mem_of_getElem? (i := 19) rfl)))) rfl rfl rfl (by decide +kernel) ⟨Nat.le_of_ble_eq_true rfl, Nat.le_of_ble_eq_true rfl⟩) (Wd.preV zo hA hZ hw hK hs.1 hs.2.1 rfl) rfl rfl hl.1 rfl (lv_room (Nat.le_of_ble_eq_true rfl)) dX10_dateTold_15 ⟨Nat.le_of_ble_eq_true rfl, Nat.le_of_ble_eq_true rfl⟩) (fun x_3 L1 f_4 H locs lx_3 ux_3 ex_3 hw => ?_)
  obtain ⟨rfl, hs, hX, ex_3⟩ := ex_3
  have hE := hE.trans (hX.mono (rs' := []) (fs' := [15, 16, 17, 18, 19, 20, 22]) (by decide) (by decide))
  have t14_f_4 : fI f_4 a0 14 = fI f_2 a0 14 := hX.2 14 (by decide)
  have t22_f_4 : fI f_4 a0 22 = fI f_2 a0 22 := hX.2 22 (by decide)
  refine lv_istore_n (lv' := [(1, .int (iI x_3)), (0, .ref a0)]) hx hb dX10_dateTold_18 rfl hl (by decide) rfl (fun ls hl => ?_)
  refine lv_aload_n hx hb dX10_dateTold_19 rfl (lv_at hl 1 rfl) ?_
  refine q_iconst hx hb dX10_dateTold_20 ?_
  refine q_bipush hx hb dX10_dateTold_21 rfl ?_
  refine q_call_i hA hK hw (va_runV (As := [.int (iI 1), .int (iI 12)]) (rest := []) ⟨hx, hb, hml, hown, hts⟩ (c_X10_numberTold zo l D cy L0 f_4 a0 1 (by decide) (by decide) 12 (by decide) (by decide) ad hs (by omega) (by omega) (by omega) (by omega) (by omega) (by omega) _) (cwV 2 hts (gT (inV (mr20 _ (List.mem_of_getElem? (i := 16) rfl)) (mr20 _ (List.mem_of_getElem? (i := 17) rfl)) (mr20 _ (List.mem_of_getElem? (i := 18) rfl)) (mr1 _ (List.mem_of_getElem? (i := 5) rfl)) (mr20 _ (List.mem_of_getElem? (i := 19) rfl)))) rfl rfl rfl (by decide +kernel) ⟨Nat.le_of_ble_eq_true rfl, Nat.le_of_ble_eq_true rfl⟩) (Wd.preV zo hA hZ hw hK hs.1 hs.2.1 rfl) rfl rfl hl.1 rfl (lv_room (Nat.le_of_ble_eq_true rfl)) dX10_dateTold_23 ⟨Nat.le_of_ble_eq_true rfl, Nat.le_of_ble_eq_true rfl⟩) (fun x_5 L1 f_6 H locs lx_5 ux_5 ex_5 hw => ?_)
  obtain ⟨rfl, hs, hX, ex_5⟩ := ex_5
  have hE := hE.trans (hX.mono (rs' := []) (fs' := [15, 16, 17, 18, 19, 20, 22]) (by decide) (by decide))
  have t14_f_6 : fI f_6 a0 14 = fI f_4 a0 14 := hX.2 14 (by decide)
  have t22_f_6 : fI f_6 a0 22 = fI f_4 a0 22 := hX.2 22 (by decide)
  refine lv_istore_n (lv' := [(2, .int (iI x_5)), (1, .int (iI x_3)), (0, .ref a0)]) hx hb dX10_dateTold_26 rfl hl (by decide) rfl (fun ls hl => ?_)
  refine lv_aload_n hx hb dX10_dateTold_27 rfl (lv_at hl 2 rfl) ?_
  refine q_iconst hx hb dX10_dateTold_28 ?_
  refine lv_aload_n hx hb dX10_dateTold_29 rfl (lv_at hl 2 rfl) ?_
  refine q_geti (ci := 8) (C := RX10) (T := TX10) (N := 26) hx hb hts (fun w h => List.mem_cons_of_mem _ (mfX100 w h)) hown hK hw hs.1 hs.2.1 rfl 20 (by decide) (hts _ (List.mem_cons_of_mem _ (mr19 _ (List.mem_of_getElem? (i := 2) rfl)))) (fun _ h => h) rfl dX10_dateTold_30 (fun x_7 lx_7 ux_7 ex_7 => ?_)
  have J46 : ∀ (w0_46 : Int) (lw0_46 : -2147483648 ≤ w0_46) (uw0_46 : w0_46 ≤ 2147483647) (k9 : fI f_6 a0 20 = 0 → w0_46 = dI x_3 x_5) (H : Heap) (locs : List Loc) (ls : Array Slot) (hw : Wd D A s.heap L0 f_6 H locs) (hl : lv_has ls 4 [(0, .ref a0), (1, .int (iI x_3)), (2, .int (iI x_5))]), W p l e ({ frames := 3, cells := 0, slots := 0, locals := 66 } : Room) s m ([.ref a0] : List Value).toArray below meth c H locs (0 + 0 + 0) (0 + 0 + 0) (MQ below (Qi D (tq cy) L0 f0 s.heap.size (fun (r : Int) (L1 : List Nat) (f1 : Nat → va_E) => L0 = L1 ∧ MS cy L0 f1 a0 ad ∧ Kp a0 ad [] [15, 16, 17, 18, 19, 20, 22] f0 f1 ∧ (0 ≤ fI f1 a0 15 ∧ fI f1 a0 15 ≤ 168 ∧ 0 ≤ fI f1 a0 16 ∧ fI f1 a0 16 ≤ 168 ∧ 0 ≤ fI f1 a0 20 ∧ (fI f1 a0 20 = 0 → fI f0 a0 20 = 0) ∧ -1 ≤ r ∧ r ≤ 36524 ∧ (fI f1 a0 20 = 0 → 0 ≤ r) ∧ 0 ≤ fI f1 a0 22 ∧ fI f1 a0 22 ≤ 168))) ([.ref a0] : List Value).toArray s 0 0 A) (F0 m 46 ls [.int (iI w0_46), .int (iI 1), .ref a0]) := by
    intro w0_46 lw0_46 uw0_46 k9 H locs ls hw hl
    refine q_call_i hA hK hw (va_runV (As := [.int (iI 1), .int (iI w0_46)]) (rest := []) ⟨hx, hb, hml, hown, hts⟩ (c_X10_numberTold zo l D cy L0 f_6 a0 1 (by decide) (by decide) w0_46 lw0_46 uw0_46 ad hs (by omega) (by omega) (by omega) (by omega) (by omega) (by omega) _) (cwV 2 hts (gT (inV (mr20 _ (List.mem_of_getElem? (i := 16) rfl)) (mr20 _ (List.mem_of_getElem? (i := 17) rfl)) (mr20 _ (List.mem_of_getElem? (i := 18) rfl)) (mr1 _ (List.mem_of_getElem? (i := 5) rfl)) (mr20 _ (List.mem_of_getElem? (i := 19) rfl)))) rfl rfl rfl (by decide +kernel) ⟨Nat.le_of_ble_eq_true rfl, Nat.le_of_ble_eq_true rfl⟩) (Wd.preV zo hA hZ hw hK hs.1 hs.2.1 rfl) rfl rfl hl.1 rfl (lv_room (Nat.le_of_ble_eq_true rfl)) dX10_dateTold_46 ⟨Nat.le_of_ble_eq_true rfl, Nat.le_of_ble_eq_true rfl⟩) (fun x_8 L1 f_9 H locs lx_8 ux_8 ex_8 hw => ?_)
    obtain ⟨rfl, hs, hX, ex_8⟩ := ex_8
    have hE := hE.trans (hX.mono (rs' := []) (fs' := [15, 16, 17, 18, 19, 20, 22]) (by decide) (by decide))
    have t14_f_9 : fI f_9 a0 14 = fI f_6 a0 14 := hX.2 14 (by decide)
    have t22_f_9 : fI f_9 a0 22 = fI f_6 a0 22 := hX.2 22 (by decide)
    refine lv_istore_n (lv' := [(3, .int (iI x_8)), (0, .ref a0), (1, .int (iI x_3)), (2, .int (iI x_5))]) hx hb dX10_dateTold_49 rfl hl (by decide) rfl (fun ls hl => ?_)
    refine lv_aload_n hx hb dX10_dateTold_50 rfl (lv_at hl 1 rfl) ?_
    refine q_geti (ci := 8) (C := RX10) (T := TX10) (N := 26) hx hb hts (fun w h => List.mem_cons_of_mem _ (mfX100 w h)) hown hK hw hs.1 hs.2.1 rfl 20 (by decide) (hts _ (List.mem_cons_of_mem _ (mr19 _ (List.mem_of_getElem? (i := 2) rfl)))) (fun _ h => h) rfl dX10_dateTold_51 (fun x_10 lx_10 ux_10 ex_10 => ?_)
    refine q_if_le (tgt := 61) hx hb dX10_dateTold_54 (by decide) ⟨lx_10, ux_10⟩ (fun c54 => ?_) (fun c54 => ?_)
    · refine lv_aload_n hx hb dX10_dateTold_61 rfl (lv_at hl 1 rfl) ?_
      refine lv_iload_n hx hb dX10_dateTold_62 rfl (lv_at hl 2 rfl) ?_
      refine lv_iload_n hx hb dX10_dateTold_63 rfl (lv_at hl 3 rfl) ?_
      refine lv_iload_n hx hb dX10_dateTold_64 rfl (lv_at hl 0 rfl) ?_
      refine q_call_i hA hK hw (va_runV (As := [.int (iI x_3), .int (iI x_5), .int (iI x_8)]) (rest := []) ⟨hx, hb, hml, hown, hts⟩ (c_X10_dayOf_2 zo l D cy L0 f_9 a0 x_3 lx_3 ux_3 x_5 lx_5 ux_5 x_8 lx_8 ux_8 ad hs (by omega) (by omega) (by first | exact hd | exact hd.kp hE (by decide) (by decide) (by decide) (by decide)) _) (cwV 3 hts (gT (inV (mr21 _ (List.mem_of_getElem? (i := 21) rfl)) (mr21 _ (List.mem_of_getElem? (i := 22) rfl)) (mr21 _ (List.mem_of_getElem? (i := 23) rfl)) (mr1 _ (List.mem_of_getElem? (i := 5) rfl)) (mr22 _ (List.mem_of_getElem? (i := 0) rfl)))) rfl rfl rfl (by decide +kernel) ⟨Nat.le_of_ble_eq_true rfl, Nat.le_of_ble_eq_true rfl⟩) (Wd.preV zo hA hZ hw hK hs.1 hs.2.1 rfl) rfl rfl hl.1 rfl (lv_room (Nat.le_of_ble_eq_true rfl)) dX10_dateTold_65 ⟨Nat.le_of_ble_eq_true rfl, Nat.le_of_ble_eq_true rfl⟩) (fun x_11 L1 f1 H locs lx_11 ux_11 ex_11 hw => ?_)
      obtain ⟨rfl, rfl, ex_11⟩ := ex_11
      exact q_ret_i hx hb hr hlocks hK hAe hw ⟨lx_11, ux_11⟩ (Nat.le_of_ble_eq_true rfl) (Nat.le_of_ble_eq_true rfl) dX10_dateTold_68 (by exact ⟨rfl, hs, hE, by first | trivial | omega⟩)
    · refine q_iconst hx hb dX10_dateTold_57 ?_
      refine lv_goto (tgt := 68) hx hb dX10_dateTold_58 (by decide) ?_
      exact q_ret_i hx hb hr hlocks hK hAe hw ⟨by decide, by decide⟩ (Nat.le_of_ble_eq_true rfl) (Nat.le_of_ble_eq_true rfl) dX10_dateTold_68 (by exact ⟨rfl, hs, hE, by first | trivial | omega⟩)
  refine q_if_le (tgt := 41) hx hb dX10_dateTold_33 (by decide) ⟨lx_7, ux_7⟩ (fun c33 => ?_) (fun c33 => ?_)
  · refine lv_iload_n hx hb dX10_dateTold_41 rfl (lv_at hl 1 rfl) ?_
    refine lv_iload_n hx hb dX10_dateTold_42 rfl (lv_at hl 0 rfl) ?_
    refine q_call_i hA hK hw (va_runS (As := [.int (iI x_3), .int (iI x_5)]) (rest := [.int (iI 1), .ref a0]) ⟨hx, hb, hml, hown, hts⟩ (c_X10_daysIn_2 zo l D cy L0 f_6 x_3 lx_3 ux_3 x_5 lx_5 ux_5 _) (va_cwS 2 hts (gT (inS (mr4 _ (List.mem_of_getElem? (i := 3) rfl)) (mr4 _ (List.mem_of_getElem? (i := 4) rfl)) (mr1 _ (List.mem_of_getElem? (i := 5) rfl)) (mr4 _ (List.mem_of_getElem? (i := 5) rfl)))) rfl rfl rfl (by decide +kernel) ⟨Nat.le_of_ble_eq_true rfl, Nat.le_of_ble_eq_true rfl⟩) (Wd.preS zo hA hZ hw hK) rfl rfl hl.1 rfl (lv_room (Nat.le_of_ble_eq_true rfl)) dX10_dateTold_43 ⟨Nat.le_of_ble_eq_true rfl, Nat.le_of_ble_eq_true rfl⟩) (fun x_12 L1 f1 H locs lx_12 ux_12 ex_12 hw => ?_)
    obtain ⟨rfl, rfl, ex_12⟩ := ex_12
    exact J46 x_12 lx_12 ux_12 (by omega) _ _ _ hw (lv_sub hl [2, 1, 0] rfl)
  · refine q_bipush hx hb dX10_dateTold_36 rfl ?_
    refine lv_goto (tgt := 46) hx hb dX10_dateTold_38 (by decide) ?_
    exact J46 31 (by decide) (by decide) (by omega) _ _ _ hw (lv_sub hl [2, 1, 0] rfl)
