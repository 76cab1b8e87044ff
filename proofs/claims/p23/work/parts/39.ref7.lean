set_option maxHeartbeats 4000000 in
set_option maxRecDepth 100000 in
theorem c_X10_period {Z : Zt} (zo : Zok Z) (l : Launch) (D : va_G) (cy : Cy) (L0 : List Nat) (f0 : Nat → va_E) (a0 : Nat) (x1 : Int) (lx1 : -2147483648 ≤ x1) (ux1 : x1 ≤ 2147483647) (ad : Nat → Nat) (hs : MS cy L0 f0 a0 ad) (hv : MV f0 a0 ad) : Ci Z l yX10_period (Cond.code yX10_period cX10_period 2 (some .int) :: TB) ({ frames := 2, cells := 0, slots := 0, locals := 52 } : Room) 0 0 D (tq cy) [.ref a0, .int (iI x1)] L0 f0 (fun (r : Int) (L1 : List Nat) (f1 : Nat → va_E) => L0 = L1 ∧ MS cy L0 f1 a0 ad ∧ Kp a0 ad [] [10] f0 f1 ∧ (True)) := by
  refine Ci.enter (cc := cX10_period) (n := 2) rfl (plainFor_of_name (by decide)) (Nat.le_of_ble_eq_true rfl) ?_
  intro p e s m below meth c ls A hx hb hr hts hown hlocks hnm hml hK hA hAe hw hZ hl
  have hown : s.vm.findClass RX10 = some m.cls := hown
  have hl : lv_has ls 2 [(0, .ref a0), (1, .int (iI x1))] := hl
  have hN : ZN s := (zo.2.2.2.2 _ _ _ hZ).2
  have hE : Kp a0 ad [] [10] f0 f0 := Kp.refl _ _ _ _ _
  have m5 := hv.1
  have m6 := hv.2.1
  refine lv_aload_n hx hb dX10_period_0 rfl (lv_at hl 0 rfl) ?_
  refine q_iconst hx hb dX10_period_1 ?_
  refine q_puti (ci := 8) (C := RX10) (T := TX10) (N := 26) hx hb hts (fun w h => List.mem_cons_of_mem _ (mfX100 w h)) hown hK hw hs.1 hs.2.1 rfl 10 (by decide) (hts _ (List.mem_cons_of_mem _ (mr4 _ (List.mem_of_getElem? (i := 19) rfl)))) (fun _ h => h) tyX10 tyX10_ok nmX10 rfl (ty := .int) (by decide +kernel) rfl rfl dX10_period_2 (fun H locs hw => ?_)
  obtain ⟨f_1, ef_1⟩ : ∃ g : Nat → va_E, g = pU f0 a0 10 (.int (iI 0)) := ⟨_, rfl⟩
  have v10_f_1 : fI f_1 a0 10 = 0 := by rw [ef_1]; exact fI_pU_self hs.2.1 rfl ⟨by decide, by decide⟩
  have t5_f_1 : fI f_1 a0 5 = fI f0 a0 5 := by rw [ef_1]; exact fI_pU (Or.inr (by decide))
  have hE := hE.trans (show Kp a0 ad [] [10] f0 f_1 by rw [ef_1]; exact Kp_pU hs (by decide))
  have hs : MS cy L0 f_1 a0 ad := by rw [ef_1]; exact MS_pU hs rfl
  rw [← ef_1] at hw
  refine lv_aload_n hx hb dX10_period_5 rfl (lv_at hl 0 rfl) ?_
  refine lv_iload_n hx hb dX10_period_6 rfl (lv_at hl 1 rfl) ?_
  refine q_call_i hA hK hw (va_runV (As := [.int (iI x1)]) (rest := []) ⟨hx, hb, hml, hown, hts⟩ (c_X10_isBooking zo l D cy L0 f_1 a0 x1 lx1 ux1 ad hs (by omega) _) (cwV 1 hts (gT (inV (mr22 _ (List.mem_of_getElem? (i := 21) rfl)) (mr22 _ (List.mem_of_getElem? (i := 22) rfl)) (mr22 _ (List.mem_of_getElem? (i := 23) rfl)) (mr1 _ (List.mem_of_getElem? (i := 5) rfl)) (mr23 _ (List.mem_of_getElem? (i := 0) rfl)))) rfl rfl rfl (by decide +kernel) ⟨Nat.le_of_ble_eq_true rfl, Nat.le_of_ble_eq_true rfl⟩) (Wd.preV zo hA hZ hw hK hs.1 hs.2.1 rfl) rfl rfl hl.1 rfl (lv_room (Nat.le_of_ble_eq_true rfl)) dX10_period_7 ⟨Nat.le_of_ble_eq_true rfl, Nat.le_of_ble_eq_true rfl⟩) (fun x_2 L1 f1 H locs lx_2 ux_2 ex_2 hw => ?_)
  obtain ⟨rfl, rfl, ex_2⟩ := ex_2
  refine q_if_eq (tgt := 24) hx hb dX10_period_10 (by decide) ⟨lx_2, ux_2⟩ (fun c10 => ?_) (fun c10 => ?_)
  · refine q_iconst hx hb dX10_period_24 ?_
    exact q_ret_i hx hb hr hlocks hK hAe hw ⟨by decide, by decide⟩ (Nat.le_of_ble_eq_true rfl) (Nat.le_of_ble_eq_true rfl) dX10_period_25 (by exact ⟨rfl, hs, hE, by first | trivial | omega⟩)
  · have rv_x1 := (show MV f_1 a0 ad by first | exact hv | exact hv.kp hE (by decide) (by decide)).row x1 (by omega) (by omega)
    refine lv_aload_n hx hb dX10_period_13 rfl (lv_at hl 0 rfl) ?_
    refine lv_iload_n hx hb dX10_period_14 rfl (lv_at hl 1 rfl) ?_
    refine q_call_l hA hK hw (va_runV (As := [.int (iI x1)]) (rest := []) ⟨hx, hb, hml, hown, hts⟩ (c_X10_periodFor zo l D cy L0 f_1 a0 x1 lx1 ux1 ad hs (by omega) (by omega) (by omega) (by omega) _) (cwV 1 hts (gT (inV (mr41 _ (List.mem_of_getElem? (i := 17) rfl)) (mr41 _ (List.mem_of_getElem? (i := 18) rfl)) (mr41 _ (List.mem_of_getElem? (i := 19) rfl)) (mr1 _ (List.mem_of_getElem? (i := 5) rfl)) (mr41 _ (List.mem_of_getElem? (i := 20) rfl)))) rfl rfl rfl (by decide +kernel) ⟨Nat.le_of_ble_eq_true rfl, Nat.le_of_ble_eq_true rfl⟩) (Wd.preV zo hA hZ hw hK hs.1 hs.2.1 rfl) rfl rfl hl.1 rfl (lv_room (Nat.le_of_ble_eq_true rfl)) dX10_period_15 ⟨Nat.le_of_ble_eq_true rfl, Nat.le_of_ble_eq_true rfl⟩) (fun x_3 L1 f1 H locs lx_3 ux_3 ex_3 hw => ?_)
    obtain ⟨rfl, rfl, ex_3⟩ := ex_3
    refine q_call_i hA hK hw (va_runS (As := [.long (lJ x_3)]) (rest := []) ⟨hx, hb, hml, hown, hts⟩ (c_X10_asInt zo l D cy L0 f_1 x_3 lx_3 ux_3 _) (va_cwS 1 hts (gT (inS (mr42 _ (List.mem_of_getElem? (i := 4) rfl)) (mr42 _ (List.mem_of_getElem? (i := 5) rfl)) (mr1 _ (List.mem_of_getElem? (i := 5) rfl)) (mr42 _ (List.mem_of_getElem? (i := 6) rfl)))) rfl rfl rfl (by decide +kernel) ⟨Nat.le_of_ble_eq_true rfl, Nat.le_of_ble_eq_true rfl⟩) (Wd.preS zo hA hZ hw hK) rfl rfl hl.1 rfl (lv_room (Nat.le_of_ble_eq_true rfl)) dX10_period_18 ⟨Nat.le_of_ble_eq_true rfl, Nat.le_of_ble_eq_true rfl⟩) (fun x_4 L1 f1 H locs lx_4 ux_4 ex_4 hw => ?_)
    obtain ⟨rfl, rfl, ex_4⟩ := ex_4
    refine lv_goto (tgt := 25) hx hb dX10_period_21 (by decide) ?_
    exact q_ret_i hx hb hr hlocks hK hAe hw ⟨lx_4, ux_4⟩ (Nat.le_of_ble_eq_true rfl) (Nat.le_of_ble_eq_true rfl) dX10_period_25 (by exact ⟨rfl, hs, hE, by first | trivial | omega⟩)
set_option maxHeartbeats 4000000 in
set_option maxRecDepth 100000 in
theorem c_X10_periodOf {Z : Zt} (zo : Zok Z) (l : Launch) (D : va_G) (cy : Cy) (L0 : List Nat) (f0 : Nat → va_E) (a0 : Nat) (x1 : Int) (lx1 : -2147483648 ≤ x1) (ux1 : x1 ≤ 2147483647) (x2 : Int) (lx2 : -2147483648 ≤ x2) (ux2 : x2 ≤ 2147483647) (ad : Nat → Nat) (hs : MS cy L0 f0 a0 ad) (hv : MV f0 a0 ad) : Ci Z l yX10_periodOf (Cond.code yX10_periodOf cX10_periodOf 7 (some .int) :: TB) ({ frames := 2, cells := 0, slots := 0, locals := 52 } : Room) 0 0 D (tq cy) [.ref a0, .int (iI x1), .int (iI x2)] L0 f0 (fun (r : Int) (L1 : List Nat) (f1 : Nat → va_E) => L0 = L1 ∧ MS cy L0 f1 a0 ad ∧ Kp a0 ad [] [10] f0 f1 ∧ (True)) := by
  refine Ci.enter (cc := cX10_periodOf) (n := 7) rfl (plainFor_of_name (by decide)) (Nat.le_of_ble_eq_true rfl) ?_
  intro p e s m below meth c ls A hx hb hr hts hown hlocks hnm hml hK hA hAe hw hZ hl
  have hown : s.vm.findClass RX10 = some m.cls := hown
  have hl : lv_has ls 7 [(0, .ref a0), (1, .int (iI x1)), (2, .int (iI x2))] := hl
  have hN : ZN s := (zo.2.2.2.2 _ _ _ hZ).2
  have hE : Kp a0 ad [] [10] f0 f0 := Kp.refl _ _ _ _ _
  have m5 := hv.1
  have m6 := hv.2.1
  refine lv_aload_n hx hb dX10_periodOf_0 rfl (lv_at hl 0 rfl) ?_
  refine q_iconst hx hb dX10_periodOf_1 ?_
  refine q_puti (ci := 8) (C := RX10) (T := TX10) (N := 26) hx hb hts (fun w h => List.mem_cons_of_mem _ (mfX100 w h)) hown hK hw hs.1 hs.2.1 rfl 10 (by decide) (hts _ (List.mem_cons_of_mem _ (mr4 _ (List.mem_of_getElem? (i := 19) rfl)))) (fun _ h => h) tyX10 tyX10_ok nmX10 rfl (ty := .int) (by decide +kernel) rfl rfl dX10_periodOf_2 (fun H locs hw => ?_)
  obtain ⟨f_1, ef_1⟩ : ∃ g : Nat → va_E, g = pU f0 a0 10 (.int (iI 0)) := ⟨_, rfl⟩
  have v10_f_1 : fI f_1 a0 10 = 0 := by rw [ef_1]; exact fI_pU_self hs.2.1 rfl ⟨by decide, by decide⟩
  have t5_f_1 : fI f_1 a0 5 = fI f0 a0 5 := by rw [ef_1]; exact fI_pU (Or.inr (by decide))
  have hE := hE.trans (show Kp a0 ad [] [10] f0 f_1 by rw [ef_1]; exact Kp_pU hs (by decide))
  have hs : MS cy L0 f_1 a0 ad := by rw [ef_1]; exact MS_pU hs rfl
  rw [← ef_1] at hw
  refine lv_aload_n hx hb dX10_periodOf_5 rfl (lv_at hl 0 rfl) ?_
  refine lv_iload_n hx hb dX10_periodOf_6 rfl (lv_at hl 1 rfl) ?_
  refine q_call_i hA hK hw (va_runV (As := [.int (iI x1)]) (rest := []) ⟨hx, hb, hml, hown, hts⟩ (c_X10_isBooking zo l D cy L0 f_1 a0 x1 lx1 ux1 ad hs (by omega) _) (cwV 1 hts (gT (inV (mr22 _ (List.mem_of_getElem? (i := 21) rfl)) (mr22 _ (List.mem_of_getElem? (i := 22) rfl)) (mr22 _ (List.mem_of_getElem? (i := 23) rfl)) (mr1 _ (List.mem_of_getElem? (i := 5) rfl)) (mr23 _ (List.mem_of_getElem? (i := 0) rfl)))) rfl rfl rfl (by decide +kernel) ⟨Nat.le_of_ble_eq_true rfl, Nat.le_of_ble_eq_true rfl⟩) (Wd.preV zo hA hZ hw hK hs.1 hs.2.1 rfl) rfl rfl hl.1 rfl (lv_room (Nat.le_of_ble_eq_true rfl)) dX10_periodOf_7 ⟨Nat.le_of_ble_eq_true rfl, Nat.le_of_ble_eq_true rfl⟩) (fun x_2 L1 f1 H locs lx_2 ux_2 ex_2 hw => ?_)
  obtain ⟨rfl, rfl, ex_2⟩ := ex_2
  refine q_if_eq (tgt := 21) hx hb dX10_periodOf_10 (by decide) ⟨lx_2, ux_2⟩ (fun c10 => ?_) (fun c10 => ?_)
  · refine q_iconst hx hb dX10_periodOf_21 ?_
    exact q_ret_i hx hb hr hlocks hK hAe hw ⟨by decide, by decide⟩ (Nat.le_of_ble_eq_true rfl) (Nat.le_of_ble_eq_true rfl) dX10_periodOf_22 (by exact ⟨rfl, hs, hE, by first | trivial | omega⟩)
  · refine lv_aload_n hx hb dX10_periodOf_13 rfl (lv_at hl 0 rfl) ?_
    refine lv_iload_n hx hb dX10_periodOf_14 rfl (lv_at hl 2 rfl) ?_
    refine q_call_i hA hK hw (va_runV (As := [.int (iI x2)]) (rest := []) ⟨hx, hb, hml, hown, hts⟩ (c_X10_isBooking zo l D cy L0 f_1 a0 x2 lx2 ux2 ad hs (by omega) _) (cwV 1 hts (gT (inV (mr22 _ (List.mem_of_getElem? (i := 21) rfl)) (mr22 _ (List.mem_of_getElem? (i := 22) rfl)) (mr22 _ (List.mem_of_getElem? (i := 23) rfl)) (mr1 _ (List.mem_of_getElem? (i := 5) rfl)) (mr23 _ (List.mem_of_getElem? (i := 0) rfl)))) rfl rfl rfl (by decide +kernel) ⟨Nat.le_of_ble_eq_true rfl, Nat.le_of_ble_eq_true rfl⟩) (Wd.preV zo hA hZ hw hK hs.1 hs.2.1 rfl) rfl rfl hl.1 rfl (lv_room (Nat.le_of_ble_eq_true rfl)) dX10_periodOf_15 ⟨Nat.le_of_ble_eq_true rfl, Nat.le_of_ble_eq_true rfl⟩) (fun x_3 L1 f1 H locs lx_3 ux_3 ex_3 hw => ?_)
    obtain ⟨rfl, rfl, ex_3⟩ := ex_3
    refine q_if_ne (tgt := 23) hx hb dX10_periodOf_18 (by decide) ⟨lx_3, ux_3⟩ (fun c18 => ?_) (fun c18 => ?_)
    · have rv_x1 := (show MV f_1 a0 ad by first | exact hv | exact hv.kp hE (by decide) (by decide)).row x1 (by omega) (by omega)
      have rv_x2 := (show MV f_1 a0 ad by first | exact hv | exact hv.kp hE (by decide) (by decide)).row x2 (by omega) (by omega)
      refine lv_aload_n hx hb dX10_periodOf_23 rfl (lv_at hl 0 rfl) ?_
      refine lv_iload_n hx hb dX10_periodOf_24 rfl (lv_at hl 1 rfl) ?_
      refine q_call_l hA hK hw (va_runV (As := [.int (iI x1)]) (rest := []) ⟨hx, hb, hml, hown, hts⟩ (c_X10_periodFor zo l D cy L0 f_1 a0 x1 lx1 ux1 ad hs (by omega) (by omega) (by omega) (by omega) _) (cwV 1 hts (gT (inV (mr41 _ (List.mem_of_getElem? (i := 17) rfl)) (mr41 _ (List.mem_of_getElem? (i := 18) rfl)) (mr41 _ (List.mem_of_getElem? (i := 19) rfl)) (mr1 _ (List.mem_of_getElem? (i := 5) rfl)) (mr41 _ (List.mem_of_getElem? (i := 20) rfl)))) rfl rfl rfl (by decide +kernel) ⟨Nat.le_of_ble_eq_true rfl, Nat.le_of_ble_eq_true rfl⟩) (Wd.preV zo hA hZ hw hK hs.1 hs.2.1 rfl) rfl rfl hl.1 rfl (lv_room (Nat.le_of_ble_eq_true rfl)) dX10_periodOf_25 ⟨Nat.le_of_ble_eq_true rfl, Nat.le_of_ble_eq_true rfl⟩) (fun x_4 L1 f1 H locs lx_4 ux_4 ex_4 hw => ?_)
      obtain ⟨rfl, rfl, ex_4⟩ := ex_4
      refine lv_lstore_n (lv' := [(3, .long (lJ x_4)), (0, .ref a0), (1, .int (iI x1)), (2, .int (iI x2))]) hx hb dX10_periodOf_28 rfl hl (by decide) rfl (fun ls hl => ?_)
      refine lv_aload_n hx hb dX10_periodOf_29 rfl (lv_at hl 1 rfl) ?_
      refine lv_iload_n hx hb dX10_periodOf_30 rfl (lv_at hl 3 rfl) ?_
      refine q_call_l hA hK hw (va_runV (As := [.int (iI x2)]) (rest := []) ⟨hx, hb, hml, hown, hts⟩ (c_X10_periodFor zo l D cy L0 f_1 a0 x2 lx2 ux2 ad hs (by omega) (by omega) (by omega) (by omega) _) (cwV 1 hts (gT (inV (mr41 _ (List.mem_of_getElem? (i := 17) rfl)) (mr41 _ (List.mem_of_getElem? (i := 18) rfl)) (mr41 _ (List.mem_of_getElem? (i := 19) rfl)) (mr1 _ (List.mem_of_getElem? (i := 5) rfl)) (mr41 _ (List.mem_of_getElem? (i := 20) rfl)))) rfl rfl rfl (by decide +kernel) ⟨Nat.le_of_ble_eq_true rfl, Nat.le_of_ble_eq_true rfl⟩) (Wd.preV zo hA hZ hw hK hs.1 hs.2.1 rfl) rfl rfl hl.1 rfl (lv_room (Nat.le_of_ble_eq_true rfl)) dX10_periodOf_31 ⟨Nat.le_of_ble_eq_true rfl, Nat.le_of_ble_eq_true rfl⟩) (fun x_5 L1 f1 H locs lx_5 ux_5 ex_5 hw => ?_)
      obtain ⟨rfl, rfl, ex_5⟩ := ex_5
      refine lv_lstore (lv' := [(5, .long (lJ x_5)), (3, .long (lJ x_4)), (0, .ref a0), (1, .int (iI x1)), (2, .int (iI x2))]) hx hb dX10_periodOf_34 hl (by decide) rfl (fun ls hl => ?_)
      refine lv_lload_n hx hb dX10_periodOf_36 rfl (lv_at hl 1 rfl) ?_
      refine q_lconst0 hx hb dX10_periodOf_37 ?_
      refine q_lcmp hx hb dX10_periodOf_38 ⟨lx_4, ux_4⟩ ⟨by decide, by decide⟩ (fun x_6 lx_6 ux_6 ex_6 => ?_)
      refine q_if_eq (tgt := 49) hx hb dX10_periodOf_39 (by decide) ⟨lx_6, ux_6⟩ (fun c39 => ?_) (fun c39 => ?_)
      · refine q_iconst hx hb dX10_periodOf_49 ?_
        refine lv_goto (tgt := 67) hx hb dX10_periodOf_50 (by decide) ?_
        exact q_ret_i hx hb hr hlocks hK hAe hw ⟨by decide, by decide⟩ (Nat.le_of_ble_eq_true rfl) (Nat.le_of_ble_eq_true rfl) dX10_periodOf_67 (by exact ⟨rfl, hs, hE, by first | trivial | omega⟩)
      · refine lv_lload hx hb dX10_periodOf_42 (lv_at hl 0 rfl) ?_
        refine q_lconst0 hx hb dX10_periodOf_44 ?_
        refine q_lcmp hx hb dX10_periodOf_45 ⟨lx_5, ux_5⟩ ⟨by decide, by decide⟩ (fun x_7 lx_7 ux_7 ex_7 => ?_)
        refine q_if_ne (tgt := 53) hx hb dX10_periodOf_46 (by decide) ⟨lx_7, ux_7⟩ (fun c46 => ?_) (fun c46 => ?_)
        · refine lv_lload_n hx hb dX10_periodOf_53 rfl (lv_at hl 1 rfl) ?_
          refine lv_lload_n hx hb dX10_periodOf_54 rfl (lv_at hl 1 rfl) ?_
          refine lv_lload hx hb dX10_periodOf_55 (lv_at hl 0 rfl) ?_
          refine q_call_l hA hK hw (va_runS (As := [.long (lJ x_4), .long (lJ x_5)]) (rest := [.long (lJ x_4)]) ⟨hx, hb, hml, hown, hts⟩ (c_X10_gcd zo l D cy L0 f_1 x_4 lx_4 ux_4 x_5 lx_5 ux_5 (by omega) (by omega) _) (va_cwS 2 hts (gT (inS (mr42 _ (List.mem_of_getElem? (i := 1) rfl)) (mr42 _ (List.mem_of_getElem? (i := 2) rfl)) (mr1 _ (List.mem_of_getElem? (i := 5) rfl)) (mr42 _ (List.mem_of_getElem? (i := 3) rfl)))) rfl rfl rfl (by decide +kernel) ⟨Nat.le_of_ble_eq_true rfl, Nat.le_of_ble_eq_true rfl⟩) (Wd.preS zo hA hZ hw hK) rfl rfl hl.1 rfl (lv_room (Nat.le_of_ble_eq_true rfl)) dX10_periodOf_57 ⟨Nat.le_of_ble_eq_true rfl, Nat.le_of_ble_eq_true rfl⟩) (fun x_8 L1 f1 H locs lx_8 ux_8 ex_8 hw => ?_)
          obtain ⟨rfl, rfl, ex_8⟩ := ex_8
          first | refine q_ldiv hx hb dX10_periodOf_60 ⟨lx_4, ux_4⟩ ⟨lx_8, ux_8⟩ (by omega) (by omega) (fun j_9 lj_9 uj_9 ej_9 => ?_) | refine q_ldivw hx hb dX10_periodOf_60 ⟨lx_4, ux_4⟩ ⟨lx_8, ux_8⟩ (by omega) (fun j_9 lj_9 uj_9 ej_9 => ?_)
          refine lv_lload hx hb dX10_periodOf_61 (lv_at hl 0 rfl) ?_
          first | refine q_lmul hx hb dX10_periodOf_63 ⟨by omega, by omega⟩ (fun j_10 lj_10 uj_10 ej_10 => ?_) | refine q_lmulw hx hb dX10_periodOf_63 (fun j_10 lj_10 uj_10 ej_10 => ?_)
          refine q_call_i hA hK hw (va_runS (As := [.long (lJ j_10)]) (rest := []) ⟨hx, hb, hml, hown, hts⟩ (c_X10_asInt zo l D cy L0 f_1 j_10 lj_10 uj_10 _) (va_cwS 1 hts (gT (inS (mr42 _ (List.mem_of_getElem? (i := 4) rfl)) (mr42 _ (List.mem_of_getElem? (i := 5) rfl)) (mr1 _ (List.mem_of_getElem? (i := 5) rfl)) (mr42 _ (List.mem_of_getElem? (i := 6) rfl)))) rfl rfl rfl (by decide +kernel) ⟨Nat.le_of_ble_eq_true rfl, Nat.le_of_ble_eq_true rfl⟩) (Wd.preS zo hA hZ hw hK) rfl rfl hl.1 rfl (lv_room (Nat.le_of_ble_eq_true rfl)) dX10_periodOf_64 ⟨Nat.le_of_ble_eq_true rfl, Nat.le_of_ble_eq_true rfl⟩) (fun x_11 L1 f1 H locs lx_11 ux_11 ex_11 hw => ?_)
          obtain ⟨rfl, rfl, ex_11⟩ := ex_11
          exact q_ret_i hx hb hr hlocks hK hAe hw ⟨lx_11, ux_11⟩ (Nat.le_of_ble_eq_true rfl) (Nat.le_of_ble_eq_true rfl) dX10_periodOf_67 (by exact ⟨rfl, hs, hE, by first | trivial | omega⟩)
        · refine q_iconst hx hb dX10_periodOf_49 ?_
          refine lv_goto (tgt := 67) hx hb dX10_periodOf_50 (by decide) ?_
          exact q_ret_i hx hb hr hlocks hK hAe hw ⟨by decide, by decide⟩ (Nat.le_of_ble_eq_true rfl) (Nat.le_of_ble_eq_true rfl) dX10_periodOf_67 (by exact ⟨rfl, hs, hE, by first | trivial | omega⟩)
    · refine q_iconst hx hb dX10_periodOf_21 ?_
      exact q_ret_i hx hb hr hlocks hK hAe hw ⟨by decide, by decide⟩ (Nat.le_of_ble_eq_true rfl) (Nat.le_of_ble_eq_true rfl) dX10_periodOf_22 (by exact ⟨rfl, hs, hE, by first | trivial | omega⟩)
set_option maxHeartbeats 4000000 in
set_option maxRecDepth 100000 in
theorem c_X10_told {Z : Zt} (zo : Zok Z) (l : Launch) (D : va_G) (cy : Cy) (L0 : List Nat) (f0 : Nat → va_E) (a0 : Nat) (x1 : Int) (lx1 : -2147483648 ≤ x1) (ux1 : x1 ≤ 2147483647) (ad : Nat → Nat) (hs : MS cy L0 f0 a0 ad) (hv : MV f0 a0 ad) : Ci Z l yX10_told (Cond.code yX10_told cX10_told 4 (some .int) :: TB) ({ frames := 1, cells := 0, slots := 0, locals := 22 } : Room) 0 0 D (tq cy) [.ref a0, .int (iI x1)] L0 f0 (fun (r : Int) (L1 : List Nat) (f1 : Nat → va_E) => L0 = L1 ∧ MS cy L0 f1 a0 ad ∧ Kp a0 ad [] [10] f0 f1 ∧ (True)) := by
  refine Ci.enter (cc := cX10_told) (n := 4) rfl (plainFor_of_name (by decide)) (Nat.le_of_ble_eq_true rfl) ?_
  intro p e s m below meth c ls A hx hb hr hts hown hlocks hnm hml hK hA hAe hw hZ hl
  have hown : s.vm.findClass RX10 = some m.cls := hown
  have hl : lv_has ls 4 [(0, .ref a0), (1, .int (iI x1))] := hl
  have hN : ZN s := (zo.2.2.2.2 _ _ _ hZ).2
  have hE : Kp a0 ad [] [10] f0 f0 := Kp.refl _ _ _ _ _
  have m5 := hv.1
  have m6 := hv.2.1
  refine lv_aload_n hx hb dX10_told_0 rfl (lv_at hl 0 rfl) ?_
  refine q_iconst hx hb dX10_told_1 ?_
  refine q_puti (ci := 8) (C := RX10) (T := TX10) (N := 26) hx hb hts (fun w h => List.mem_cons_of_mem _ (mfX100 w h)) hown hK hw hs.1 hs.2.1 rfl 10 (by decide) (hts _ (List.mem_cons_of_mem _ (mr4 _ (List.mem_of_getElem? (i := 19) rfl)))) (fun _ h => h) tyX10 tyX10_ok nmX10 rfl (ty := .int) (by decide +kernel) rfl rfl dX10_told_2 (fun H locs hw => ?_)
  obtain ⟨f_1, ef_1⟩ : ∃ g : Nat → va_E, g = pU f0 a0 10 (.int (iI 0)) := ⟨_, rfl⟩
  have v10_f_1 : fI f_1 a0 10 = 0 := by rw [ef_1]; exact fI_pU_self hs.2.1 rfl ⟨by decide, by decide⟩
  have t5_f_1 : fI f_1 a0 5 = fI f0 a0 5 := by rw [ef_1]; exact fI_pU (Or.inr (by decide))
  have hE := hE.trans (show Kp a0 ad [] [10] f0 f_1 by rw [ef_1]; exact Kp_pU hs (by decide))
  have hs : MS cy L0 f_1 a0 ad := by rw [ef_1]; exact MS_pU hs rfl
  rw [← ef_1] at hw
  refine lv_iload_n hx hb dX10_told_5 rfl (lv_at hl 1 rfl) ?_
  have t6 : (iI x1).toInt = x1 := iI_toInt ⟨lx1, ux1⟩
  rcases (show (x1 < 0 ∨ 3 < x1) ∨ (x1 = 0) ∨ (x1 = 1) ∨ (x1 = 2) ∨ (x1 = 3) by omega) with k6 | k6 | k6 | k6 | k6
  · refine lv_tableOut (tgt := 107) hx hb dX10_told_6 (by rw [t6]; omega) (by decide) ?_
    refine q_iconst hx hb dX10_told_107 ?_
    exact q_ret_i hx hb hr hlocks hK hAe hw ⟨by decide, by decide⟩ (Nat.le_of_ble_eq_true rfl) (Nat.le_of_ble_eq_true rfl) dX10_told_108 (by exact ⟨rfl, hs, hE, by first | trivial | omega⟩)
  · refine lv_tableIn (tgt := 36) (off := 30) hx hb dX10_told_6 (by rw [t6]; omega) (by rw [t6]; omega) (by rw [t6, k6]; rfl) (by decide) ?_
    refine lv_aload_n hx hb dX10_told_36 rfl (lv_at hl 0 rfl) ?_
    refine q_geti (ci := 8) (C := RX10) (T := TX10) (N := 26) hx hb hts (fun w h => List.mem_cons_of_mem _ (mfX100 w h)) hown hK hw hs.1 hs.2.1 rfl 5 (by decide) (hts _ (List.mem_cons_of_mem _ (mr19 _ (List.mem_of_getElem? (i := 1) rfl)))) (fun _ h => h) rfl dX10_told_37 (fun x_2 lx_2 ux_2 ex_2 => ?_)
    exact q_ret_i hx hb hr hlocks hK hAe hw ⟨lx_2, ux_2⟩ (Nat.le_of_ble_eq_true rfl) (Nat.le_of_ble_eq_true rfl) dX10_told_40 (by exact ⟨rfl, hs, hE, by first | trivial | omega⟩)
  · refine lv_tableIn (tgt := 41) (off := 35) hx hb dX10_told_6 (by rw [t6]; omega) (by rw [t6]; omega) (by rw [t6, k6]; rfl) (by decide) ?_
    refine lv_aload_n hx hb dX10_told_41 rfl (lv_at hl 0 rfl) ?_
    refine q_geti (ci := 8) (C := RX10) (T := TX10) (N := 26) hx hb hts (fun w h => List.mem_cons_of_mem _ (mfX100 w h)) hown hK hw hs.1 hs.2.1 rfl 9 (by decide) (hts _ (List.mem_cons_of_mem _ (mr4 _ (List.mem_of_getElem? (i := 20) rfl)))) (fun _ h => h) rfl dX10_told_42 (fun x_3 lx_3 ux_3 ex_3 => ?_)
    exact q_ret_i hx hb hr hlocks hK hAe hw ⟨lx_3, ux_3⟩ (Nat.le_of_ble_eq_true rfl) (Nat.le_of_ble_eq_true rfl) dX10_told_45 (by exact ⟨rfl, hs, hE, by first | trivial | omega⟩)
  · refine lv_tableIn (tgt := 46) (off := 40) hx hb dX10_told_6 (by rw [t6]; omega) (by rw [t6]; omega) (by rw [t6, k6]; rfl) (by decide) ?_
    refine q_iconst hx hb dX10_told_46 ?_
    refine lv_istore_n (lv' := [(2, .int (iI 0)), (0, .ref a0), (1, .int (iI x1))]) hx hb dX10_told_47 rfl hl (by decide) rfl (fun ls hl => ?_)
    refine q_iconst hx hb dX10_told_48 ?_
    refine lv_istore_n (lv' := [(3, .int (iI 0)), (2, .int (iI 0)), (0, .ref a0), (1, .int (iI x1))]) hx hb dX10_told_49 rfl hl (by decide) rfl (fun ls hl => ?_)
    have J50 : ∀ (n50 : Nat) (y2_50 : Int) (ly2_50 : -2147483648 ≤ y2_50) (uy2_50 : y2_50 ≤ 2147483647) (y3_50 : Int) (ly3_50 : -2147483648 ≤ y3_50) (uy3_50 : y3_50 ≤ 2147483647) (i1 : 0 ≤ y3_50) (hn50 : ((2147483647 : Int) - y3_50).toNat < n50) (H : Heap) (locs : List Loc) (ls : Array Slot) (hw : Wd D A s.heap L0 f_1 H locs) (hl : lv_has ls 4 [(0, .ref a0), (2, .int (iI y2_50)), (3, .int (iI y3_50))]), W p l e ({ frames := 1, cells := 0, slots := 0, locals := 22 } : Room) s m ([.ref a0, .int (iI x1)] : List Value).toArray below meth c H locs (0) (0) (MQ below (Qi D (tq cy) L0 f0 s.heap.size (fun (r : Int) (L1 : List Nat) (f1 : Nat → va_E) => L0 = L1 ∧ MS cy L0 f1 a0 ad ∧ Kp a0 ad [] [10] f0 f1 ∧ (True))) ([.ref a0, .int (iI x1)] : List Value).toArray s 0 0 A) (F0 m 50 ls []) := by
      intro n50
      induction n50 with
      | zero => intro y2_50 ly2_50 uy2_50 y3_50 ly3_50 uy3_50 i1 hn50; exact absurd hn50 (Nat.not_lt_zero _)
      | succ n50 ih50 =>
        intro y2_50 ly2_50 uy2_50 y3_50 ly3_50 uy3_50 i1 hn50 H locs ls hw hl
        refine lv_iload_n hx hb dX10_told_50 rfl (lv_at hl 2 rfl) ?_
        refine lv_aload_n hx hb dX10_told_51 rfl (lv_at hl 0 rfl) ?_
        refine q_geti (ci := 8) (C := RX10) (T := TX10) (N := 26) hx hb hts (fun w h => List.mem_cons_of_mem _ (mfX100 w h)) hown hK hw hs.1 hs.2.1 rfl 5 (by decide) (hts _ (List.mem_cons_of_mem _ (mr19 _ (List.mem_of_getElem? (i := 1) rfl)))) (fun _ h => h) rfl dX10_told_52 (fun x_4 lx_4 ux_4 ex_4 => ?_)
        refine q_icmp_ge (tgt := 75) hx hb dX10_told_55 (by decide) ⟨ly3_50, uy3_50⟩ ⟨lx_4, ux_4⟩ (fun c55 => ?_) (fun c55 => ?_)
        · refine lv_iload_n hx hb dX10_told_75 rfl (lv_at hl 1 rfl) ?_
          exact q_ret_i hx hb hr hlocks hK hAe hw ⟨ly2_50, uy2_50⟩ (Nat.le_of_ble_eq_true rfl) (Nat.le_of_ble_eq_true rfl) dX10_told_76 (by exact ⟨rfl, hs, hE, by first | trivial | omega⟩)
        · refine lv_iload_n hx hb dX10_told_58 rfl (lv_at hl 1 rfl) ?_
          refine q_iconst hx hb dX10_told_59 ?_
          refine lv_aload_n hx hb dX10_told_60 rfl (lv_at hl 0 rfl) ?_
          refine lv_iload_n hx hb dX10_told_61 rfl (lv_at hl 2 rfl) ?_
          refine q_iconst hx hb dX10_told_62 ?_
          refine q_call_i hA hK hw (va_runV (As := [.int (iI y3_50), .int (iI 0)]) (rest := [.int (iI 1), .int (iI y2_50)]) ⟨hx, hb, hml, hown, hts⟩ (c_X10_get zo l D cy L0 f_1 a0 y3_50 ly3_50 uy3_50 0 (by decide) (by decide) ad hs (by omega) (by omega) (by omega) (by omega) _) (cwV 2 hts (gT (inV (mr25 _ (List.mem_of_getElem? (i := 0) rfl)) (mr25 _ (List.mem_of_getElem? (i := 1) rfl)) (mr25 _ (List.mem_of_getElem? (i := 2) rfl)) (mr1 _ (List.mem_of_getElem? (i := 5) rfl)) (mr25 _ (List.mem_of_getElem? (i := 3) rfl)))) rfl rfl rfl (by decide +kernel) ⟨Nat.le_of_ble_eq_true rfl, Nat.le_of_ble_eq_true rfl⟩) (Wd.preV zo hA hZ hw hK hs.1 hs.2.1 rfl) rfl rfl hl.1 rfl (lv_room (Nat.le_of_ble_eq_true rfl)) dX10_told_63 ⟨Nat.le_of_ble_eq_true rfl, Nat.le_of_ble_eq_true rfl⟩) (fun x_5 L1 f1 H locs lx_5 ux_5 ex_5 hw => ?_)
          obtain ⟨rfl, rfl, ex_5⟩ := ex_5
          refine lv_ishl hx hb dX10_told_66 ?_
          refine q_num (fun x_6 lx_6 ux_6 ex_6 => ?_)
          refine lv_ior hx hb dX10_told_67 ?_
          refine q_num (fun x_7 lx_7 ux_7 ex_7 => ?_)
          refine lv_istore_n (lv' := [(2, .int (iI x_7)), (0, .ref a0), (3, .int (iI y3_50))]) hx hb dX10_told_68 rfl hl (by decide) rfl (fun ls hl => ?_)
          obtain ⟨x_8, lx_8, ux_8, hx_8, ex_8⟩ := q_inc y3_50 (1)
          try (replace ex_8 : x_8 = y3_50 + (1) := by omega)
          refine lv_iinc (v := iI x_8) (lv' := [(3, .int (iI x_8)), (2, .int (iI x_7)), (0, .ref a0)]) hx hb dX10_told_69 hl (k := 2) rfl hx_8 (by decide) rfl (fun ls hl => ?_)
          refine lv_goto (tgt := 50) hx hb dX10_told_72 (by decide) ?_
          exact ih50 x_7 lx_7 ux_7 x_8 lx_8 ux_8 (by omega) (by omega) _ _ _ hw (lv_sub hl [2, 1, 0] rfl)
    exact J50 ((((2147483647 : Int) - 0).toNat) + 1) 0 (by decide) (by decide) 0 (by decide) (by decide) (by omega) (by omega) _ _ _ hw (lv_sub hl [2, 1, 0] rfl)
  · refine lv_tableIn (tgt := 77) (off := 71) hx hb dX10_told_6 (by rw [t6]; omega) (by rw [t6]; omega) (by rw [t6, k6]; rfl) (by decide) ?_
    refine lv_aload_n hx hb dX10_told_77 rfl (lv_at hl 0 rfl) ?_
    refine q_getr (ci := 8) (C := RX10) (T := TX10) (N := 26) hx hb hts (fun w h => List.mem_cons_of_mem _ (mfX100 w h)) hown hK hw hs.1 hs.2.1 rfl 7 (by decide) (hts _ (List.mem_cons_of_mem _ (mr3 _ (List.mem_of_getElem? (i := 16) rfl)))) (fun _ h => h) rfl (hs.2.2.1 7 rfl).1 dX10_told_78 ?_
    refine q_iconst hx hb dX10_told_81 ?_
    refine q_iald hx hb hK hw (hs.2.2.1 7 rfl).2.1 1 (hs.2.2.1 7 rfl).2.2 rfl ⟨by decide, by decide⟩ (by omega) (by show _ < ((2 : Nat) : Int); omega) dX10_told_82 (fun x_9 lx_9 ux_9 ex_9 => ?_)
    have J91 : ∀ (w0_91 : Int) (lw0_91 : -2147483648 ≤ w0_91) (uw0_91 : w0_91 ≤ 2147483647) (H : Heap) (locs : List Loc) (ls : Array Slot) (hw : Wd D A s.heap L0 f_1 H locs) (hl : lv_has ls 4 [(0, .ref a0)]), W p l e ({ frames := 1, cells := 0, slots := 0, locals := 22 } : Room) s m ([.ref a0, .int (iI x1)] : List Value).toArray below meth c H locs (0) (0) (MQ below (Qi D (tq cy) L0 f0 s.heap.size (fun (r : Int) (L1 : List Nat) (f1 : Nat → va_E) => L0 = L1 ∧ MS cy L0 f1 a0 ad ∧ Kp a0 ad [] [10] f0 f1 ∧ (True))) ([.ref a0, .int (iI x1)] : List Value).toArray s 0 0 A) (F0 m 91 ls [.int (iI w0_91)]) := by
      intro w0_91 lw0_91 uw0_91 H locs ls hw hl
      refine lv_aload_n hx hb dX10_told_91 rfl (lv_at hl 0 rfl) ?_
      refine q_getr (ci := 8) (C := RX10) (T := TX10) (N := 26) hx hb hts (fun w h => List.mem_cons_of_mem _ (mfX100 w h)) hown hK hw hs.1 hs.2.1 rfl 7 (by decide) (hts _ (List.mem_cons_of_mem _ (mr3 _ (List.mem_of_getElem? (i := 16) rfl)))) (fun _ h => h) rfl (hs.2.2.1 7 rfl).1 dX10_told_92 ?_
      refine q_iconst hx hb dX10_told_95 ?_
      refine q_iald hx hb hK hw (hs.2.2.1 7 rfl).2.1 1 (hs.2.2.1 7 rfl).2.2 rfl ⟨by decide, by decide⟩ (by omega) (by show _ < ((2 : Nat) : Int); omega) dX10_told_96 (fun x_10 lx_10 ux_10 ex_10 => ?_)
      refine q_if_ge (tgt := 104) hx hb dX10_told_97 (by decide) ⟨lx_10, ux_10⟩ (fun c97 => ?_) (fun c97 => ?_)
      · refine q_iconst hx hb dX10_told_104 ?_
        first | refine q_iadd hx hb dX10_told_105 ⟨by omega, by omega⟩ (fun x_11 lx_11 ux_11 ex_11 => ?_) | refine q_iaddw hx hb dX10_told_105 (fun x_11 lx_11 ux_11 ex_11 => ?_)
        exact q_ret_i hx hb hr hlocks hK hAe hw ⟨lx_11, ux_11⟩ (Nat.le_of_ble_eq_true rfl) (Nat.le_of_ble_eq_true rfl) dX10_told_106 (by exact ⟨rfl, hs, hE, by first | trivial | omega⟩)
      · refine q_iconst hx hb dX10_told_100 ?_
        refine lv_goto (tgt := 105) hx hb dX10_told_101 (by decide) ?_
        first | refine q_iadd hx hb dX10_told_105 ⟨by omega, by omega⟩ (fun x_12 lx_12 ux_12 ex_12 => ?_) | refine q_iaddw hx hb dX10_told_105 (fun x_12 lx_12 ux_12 ex_12 => ?_)
        exact q_ret_i hx hb hr hlocks hK hAe hw ⟨lx_12, ux_12⟩ (Nat.le_of_ble_eq_true rfl) (Nat.le_of_ble_eq_true rfl) dX10_told_106 (by exact ⟨rfl, hs, hE, by first | trivial | omega⟩)
    refine q_if_ge (tgt := 90) hx hb dX10_told_83 (by decide) ⟨lx_9, ux_9⟩ (fun c83 => ?_) (fun c83 => ?_)
    · refine q_iconst hx hb dX10_told_90 ?_
      exact J91 1 (by decide) (by decide) _ _ _ hw (lv_sub hl [0] rfl)
    · refine q_iconst hx hb dX10_told_86 ?_
      refine lv_goto (tgt := 91) hx hb dX10_told_87 (by decide) ?_
      exact J91 0 (by decide) (by decide) _ _ _ hw (lv_sub hl [0] rfl)
