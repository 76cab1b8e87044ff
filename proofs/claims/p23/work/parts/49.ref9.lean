set_option maxHeartbeats 4000000 in
set_option maxRecDepth 100000 in
theorem c_X10_daysIn_2 {Z : Zt} (zo : Zok Z) (l : Launch) (D : va_G) (cy : Cy) (L0 : List Nat) (f0 : Nat → va_E) (x0 : Int) (lx0 : -2147483648 ≤ x0) (ux0 : x0 ≤ 2147483647) (x1 : Int) (lx1 : -2147483648 ≤ x1) (ux1 : x1 ≤ 2147483647) : Ci Z l yX10_daysIn (Cond.code yX10_daysIn cX10_daysIn 2 (some .int) :: TB) ({ frames := 0, cells := 0, slots := 0, locals := 0 } : Room) 0 0 D (tq cy) [.int (iI x0), .int (iI x1)] L0 f0 (fun (r : Int) (L1 : List Nat) (f1 : Nat → va_E) => L0 = L1 ∧ f0 = f1 ∧ (28 ≤ r ∧ r ≤ 31 ∧ (0 ≤ x0 → r = dI x0 x1))) := by
  refine Ci.enter (cc := cX10_daysIn) (n := 2) rfl (plainFor_of_name (by decide)) (Nat.le_of_ble_eq_true rfl) ?_
  intro p e s m below meth c ls A hx hb hr hts hown hlocks hnm hml hK hA hAe hw hZ hl
  have hown : s.vm.findClass RX10 = some m.cls := hown
  have hl : lv_has ls 2 [(0, .int (iI x0)), (1, .int (iI x1))] := hl
  have hN : ZN s := (zo.2.2.2.2 _ _ _ hZ).2
  refine lv_iload_n hx hb dX10_daysIn_0 rfl (lv_at hl 1 rfl) ?_
  refine q_iconst hx hb dX10_daysIn_1 ?_
  refine q_icmp_ne (tgt := 19) hx hb dX10_daysIn_2 (by decide) ⟨lx1, ux1⟩ ⟨by decide, by decide⟩ (fun c2 => ?_) (fun c2 => ?_)
  · refine lv_iload_n hx hb dX10_daysIn_19 rfl (lv_at hl 1 rfl) ?_
    refine q_iconst hx hb dX10_daysIn_20 ?_
    refine q_icmp_eq (tgt := 42) hx hb dX10_daysIn_21 (by decide) ⟨lx1, ux1⟩ ⟨by decide, by decide⟩ (fun c21 => ?_) (fun c21 => ?_)
    · refine q_bipush hx hb dX10_daysIn_42 rfl ?_
      refine lv_goto (tgt := 49) hx hb dX10_daysIn_44 (by decide) ?_
      exact q_ret_i hx hb hr hlocks hK hAe hw ⟨by decide, by decide⟩ (Nat.le_of_ble_eq_true rfl) (Nat.le_of_ble_eq_true rfl) dX10_daysIn_49 ⟨rfl, rfl, by (refine ⟨by omega, by omega, fun q => ?_⟩; unfold dI; repeat (first | rw [if_pos (by omega)] | rw [if_neg (by omega)]))⟩
    · refine lv_iload_n hx hb dX10_daysIn_24 rfl (lv_at hl 1 rfl) ?_
      refine q_bipush hx hb dX10_daysIn_25 rfl ?_
      refine q_icmp_eq (tgt := 42) hx hb dX10_daysIn_27 (by decide) ⟨lx1, ux1⟩ ⟨by decide, by decide⟩ (fun c27 => ?_) (fun c27 => ?_)
      · refine q_bipush hx hb dX10_daysIn_42 rfl ?_
        refine lv_goto (tgt := 49) hx hb dX10_daysIn_44 (by decide) ?_
        exact q_ret_i hx hb hr hlocks hK hAe hw ⟨by decide, by decide⟩ (Nat.le_of_ble_eq_true rfl) (Nat.le_of_ble_eq_true rfl) dX10_daysIn_49 ⟨rfl, rfl, by (refine ⟨by omega, by omega, fun q => ?_⟩; unfold dI; repeat (first | rw [if_pos (by omega)] | rw [if_neg (by omega)]))⟩
      · refine lv_iload_n hx hb dX10_daysIn_30 rfl (lv_at hl 1 rfl) ?_
        refine q_bipush hx hb dX10_daysIn_31 rfl ?_
        refine q_icmp_eq (tgt := 42) hx hb dX10_daysIn_33 (by decide) ⟨lx1, ux1⟩ ⟨by decide, by decide⟩ (fun c33 => ?_) (fun c33 => ?_)
        · refine q_bipush hx hb dX10_daysIn_42 rfl ?_
          refine lv_goto (tgt := 49) hx hb dX10_daysIn_44 (by decide) ?_
          exact q_ret_i hx hb hr hlocks hK hAe hw ⟨by decide, by decide⟩ (Nat.le_of_ble_eq_true rfl) (Nat.le_of_ble_eq_true rfl) dX10_daysIn_49 ⟨rfl, rfl, by (refine ⟨by omega, by omega, fun q => ?_⟩; unfold dI; repeat (first | rw [if_pos (by omega)] | rw [if_neg (by omega)]))⟩
        · refine lv_iload_n hx hb dX10_daysIn_36 rfl (lv_at hl 1 rfl) ?_
          refine q_bipush hx hb dX10_daysIn_37 rfl ?_
          refine q_icmp_ne (tgt := 47) hx hb dX10_daysIn_39 (by decide) ⟨lx1, ux1⟩ ⟨by decide, by decide⟩ (fun c39 => ?_) (fun c39 => ?_)
          · refine q_bipush hx hb dX10_daysIn_47 rfl ?_
            exact q_ret_i hx hb hr hlocks hK hAe hw ⟨by decide, by decide⟩ (Nat.le_of_ble_eq_true rfl) (Nat.le_of_ble_eq_true rfl) dX10_daysIn_49 ⟨rfl, rfl, by (refine ⟨by omega, by omega, fun q => ?_⟩; unfold dI; repeat (first | rw [if_pos (by omega)] | rw [if_neg (by omega)]))⟩
          · refine q_bipush hx hb dX10_daysIn_42 rfl ?_
            refine lv_goto (tgt := 49) hx hb dX10_daysIn_44 (by decide) ?_
            exact q_ret_i hx hb hr hlocks hK hAe hw ⟨by decide, by decide⟩ (Nat.le_of_ble_eq_true rfl) (Nat.le_of_ble_eq_true rfl) dX10_daysIn_49 ⟨rfl, rfl, by (refine ⟨by omega, by omega, fun q => ?_⟩; unfold dI; repeat (first | rw [if_pos (by omega)] | rw [if_neg (by omega)]))⟩
  · refine lv_iload_n hx hb dX10_daysIn_5 rfl (lv_at hl 0 rfl) ?_
    refine q_iconst hx hb dX10_daysIn_6 ?_
    first | refine q_irem hx hb dX10_daysIn_7 ⟨lx0, ux0⟩ ⟨by decide, by decide⟩ (by omega) (by omega) (fun x_1 lx_1 ux_1 ex_1 => ?_) | refine q_iremw hx hb dX10_daysIn_7 ⟨lx0, ux0⟩ ⟨by decide, by decide⟩ (by omega) (fun x_1 lx_1 ux_1 ex_1 => ?_)
    refine q_if_ne (tgt := 16) hx hb dX10_daysIn_8 (by decide) ⟨lx_1, ux_1⟩ (fun c8 => ?_) (fun c8 => ?_)
    · refine q_bipush hx hb dX10_daysIn_16 rfl ?_
      exact q_ret_i hx hb hr hlocks hK hAe hw ⟨by decide, by decide⟩ (Nat.le_of_ble_eq_true rfl) (Nat.le_of_ble_eq_true rfl) dX10_daysIn_18 ⟨rfl, rfl, by (refine ⟨by omega, by omega, fun q => ?_⟩; unfold dI; repeat (first | rw [if_pos (by omega)] | rw [if_neg (by omega)]))⟩
    · refine q_bipush hx hb dX10_daysIn_11 rfl ?_
      refine lv_goto (tgt := 18) hx hb dX10_daysIn_13 (by decide) ?_
      exact q_ret_i hx hb hr hlocks hK hAe hw ⟨by decide, by decide⟩ (Nat.le_of_ble_eq_true rfl) (Nat.le_of_ble_eq_true rfl) dX10_daysIn_18 ⟨rfl, rfl, by (refine ⟨by omega, by omega, fun q => ?_⟩; unfold dI; repeat (first | rw [if_pos (by omega)] | rw [if_neg (by omega)]))⟩