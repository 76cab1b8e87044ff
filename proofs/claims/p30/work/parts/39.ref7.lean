set_option maxHeartbeats 4000000 in
set_option maxRecDepth 100000 in
theorem c_X10_period {Z : Zt} (zo : Zok Z) (l : Launch) (D : va_G) (cy : Cy) (L0 : List Nat) (f0 : Nat → va_E) (a0 : Nat) (x1 : Int) (lx1 : -2147483648 ≤ x1) (ux1 : x1 ≤ 2147483647) (ad : Nat → Nat) (hs : MS cy L0 f0 a0 ad) (hv : MV f0 a0 ad) : Ci Z l yX10_period (Cond.code yX10_period cX10_period 2 (some .int) :: TB) ({ frames := 2, cells := 0, slots := 0, locals := 52 } : Room) 0 0 D (tq cy) [.ref a0, .int (iI x1)] L0 f0 (fun (r : Int) (L1 : List Nat) (f1 : Nat → va_E) => L0 = L1 ∧ MS cy L0 f1 a0 ad ∧ Kp a0 ad [] [10] f0 f1 ∧ (True)) := by
  refine Ci.enter (cc := cX10_period) (n := 2) rfl (plainFor_of_name (by decide)) (Nat.le_of_ble_eq_true rfl) ?_
  intro p e s m below meth c ls A hx hb hr hts hown hlocks hnm hml hK hA hAe hw hZ hl
  have hown : s.vm.findClass RX10 = some m.cls := hown
  have hl : lv_has ls 2 [(0, .ref a0), (1, .int (iI x1))] := hl
  have hN : ZN s := (zo.2.2.2.2 _ _ _ hZ).2
  have hE : Kp a0 ad [] [10] f0 f0 := Kp.refl _ _ _ _ _
  have m5 := hv.1
  have m6 := hv.2.1
  refine lv_aload_n hx hb dX10_period_0 rfl (lv_at hl 0 rfl) ?_
  refine q_iconst hx hb dX10_period_1 ?_
  refine q_puti (ci := 8) (C := RX10) (T := TX10) (N := 26) hx hb hts (fun w h => List.mem_cons_of_mem _ (mfX100 w h)) hown hK hw hs.1 hs.2.1 rfl 10 (by decide) (hts _ (List.mem_cons_of_mem _ (mr4 _ (List.mem_of_getElem? (i := 19) rfl)))) (fun _ h => h) tyX10 tyX10_ok nmX10 rfl (ty := .int) (by decide +kernel) rfl rfl dX10_period_2 (fun H locs hw => ?_)
  obtain ⟨f_1, ef_1⟩ : ∃ g : Nat → va_E, g = pU f0 a0 10 (.int (iI 0)) := ⟨_, rfl⟩
  have v10_f_1 : fI f_1 a0 10 = 0 := by rw [ef_1]; exact fI_pU_self hs.2.1 rfl ⟨by decide, by decide⟩
  have t5_f_1 : fI f_1 a0 5 = fI f0 a0 5 := by rw [ef_1]; exact fI_pU (Or.inr (by decide))
  have hE := hE.trans (show Kp a0 ad [] [10] f0 f_1 by rw [ef_1]; exact Kp_pU hs (by decide))
  have hs : MS cy L0 f_1 a0 ad := by rw [ef_1]; exact MS_pU hs rfl
  rw [← ef_1] at hw
  refine lv_aload_n hx hb dX10_period_5 rfl (lv_at hl 0 rfl) ?_
  refine lv_iload_n hx hb dX10_period_6 rfl (lv_at hl 1 rfl) ?_
  refine q_call_i hA hK hw (va_runV (As := [.int (iI x1)]) (rest := []) ⟨hx, hb, hml, hown, hts⟩ (c_X10_isBooking zo l D cy L0 f_1 a0 x1 lx1 ux1 ad hs (by omega) _) (cwV 1 hts (gT (inV (mr22 _ (List.mem_of_getElem? (i := 21) rfl)) (mr22 _ (List.mem_of_getElem? (i := 22) rfl)) (mr22 _ (List.mem_of_getElem? (i := 23) rfl)) (mr1 _ (List.mem_of_getElem? (i := 5) rfl)) (mr23 _ (List.mem_of_getElem? (i := 0) rfl)))) rfl rfl rfl (by decide +kernel) ⟨Nat.le_of_ble_eq_true rfl, Nat.le_of_ble_eq_true rfl⟩) (Wd.preV zo hA hZ hw hK hs.1 hs.2.1 rfl) rfl rfl hl.1 rfl (lv_room (Nat.le_of_ble_eq_true rfl)) dX10_period_7 ⟨Nat.le_of_ble_eq_true rfl, Nat.le_of_ble_eq_true rfl⟩) (fun x_2 L1 f1 H locs lx_2 ux_2 ex_2 hw => ?_)
  obtain ⟨rfl, rfl, ex_2⟩ := ex_2
  refine q_if_eq (tgt := 24) hx hb dX10_period_10 (by decide) ⟨lx_2, ux_2⟩ (fun c10 => ?_) (fun c10 => ?_)
  · refine q_iconst hx hb dX10_period_24 ?_
    exact q_ret_i hx hb hr hlocks hK hAe hw ⟨by decide, by decide⟩ (Nat.le_of_ble_eq_true rfl) (Nat.le_of_ble_eq_true rfl) dX10_period_25 (by exact ⟨rfl, hs, hE, by first | trivial | omega⟩)
  · have rv_x1 := (show MV f_1 a0 ad by first | exact hv | exact hv.kp hE (by decide) (by decide)).row x1 (by omega) (by omega)
    refine lv_aload_n hx hb dX10_period_13 rfl (lv_at hl 0 rfl) ?_
    refine lv_iload_n hx hb dX10_period_14 rfl (lv_at hl 1 rfl) ?_
    refine q_call_l hA hK hw (va_runV (As := [.int (iI x1)]) (rest := []) ⟨hx, hb, hml, hown, hts⟩ (c_X10_periodFor zo l D cy L0 f_1 a0 x1 lx1 ux1 ad hs (by omega) (by omega) (by omega) (by omega) _) (cwV 1 hts (gT (inV (mr41 _ (List.mem_of_getElem? (i := 17) rfl)) (mr41 _ (List.mem_of_getElem? (i := 18) rfl)) (mr41 _ (List.mem_of_getElem? (i := 19) rfl)) (mr1 _ (List.mem_of_getElem? (i := 5) rfl)) (mr41 _ (List.mem_of_getElem? (i := 20) rfl)))) rfl rfl rfl (by decide +kernel) ⟨Nat.le_of_ble_eq_true rfl, Nat.le_of_ble_eq_true rfl⟩) (Wd.preV zo hA hZ hw hK hs.1 hs.2.1 rfl) rfl rfl hl.1 rfl (lv_room (Nat.le_of_ble_eq_true rfl)) dX10_period_15 ⟨Nat.le_of_ble_eq_true rfl, Nat.le_of_ble_eq_true rfl⟩) (fun x_3 L1 f1 H locs lx_3 ux_3 ex_3 hw => ?_)
    obtain ⟨rfl, rfl, ex_3⟩ := ex_3
    refine q_call_i hA hK hw (va_runS (As := [.long (lJ x_3)]) (rest := []) ⟨hx, hb, hml, hown, hts⟩ (c_X10_asInt zo l D cy L0 f_1 x_3 lx_3 ux_3 _) (va_cwS 1 hts (gT (inS (mr42 _ (List.mem_of_getElem? (i := 4) rfl)) (mr42 _ (List.mem_of_getElem? (i := 5) rfl)) (mr1 _ (List.mem_of_getElem? (i := 5) rfl)) (mr42 _ (List.mem_of_getElem? (i := 6) rfl)))) rfl rfl rfl (by decide +kernel) ⟨Nat.le_of_ble_eq_true rfl, Nat.le_of_ble_eq_true rfl⟩) (Wd.preS zo hA hZ hw hK) rfl rfl hl.1 rfl (lv_room (Nat.le_of_ble_eq_true rfl)) dX10_period_18 ⟨Nat.le_of_ble_eq_true rfl, Nat.le_of_ble_eq_true rfl⟩) (fun x_4 L1 f1 H locs lx_4 ux_4 ex_4 hw => ?_)
    obtain ⟨rfl, rfl, ex_4⟩ := ex_4
    refine lv_goto (tgt := 25) hx hb dX10_period_21 (by decide) ?_
    exact q_ret_i hx hb hr hlocks hK hAe hw ⟨lx_4, ux_4⟩ (Nat.le_of_ble_eq_true rfl) (Nat.le_of_ble_eq_true rfl) dX10_period_25 (by exact ⟨rfl, hs, hE, by first | trivial | omega⟩)
set_option maxHeartbeats 4000000 in
set_option maxRecDepth 100000 in
theorem c_X10_periodOf {Z : Zt} (zo : Zok Z) (l : Launch) (D : va_G) (cy : Cy) (L0 : List Nat) (f0 : Nat → va_E) (a0 : Nat) (x1 : Int) (lx1 : -2147483648 ≤ x1) (ux1 : x1 ≤ 2147483647) (x2 : Int) (lx2 : -2147483648 ≤ x2) (ux2 : x2 ≤ 2147483647) (ad : Nat → Nat) (hs : MS cy L0 f0 a0 ad) (hv : MV f0 a0 ad) : Ci Z l yX10_periodOf (Cond.code yX10_periodOf cX10_periodOf 7 (some .int) :: TB) ({ frames := 2, cells := 0, slots := 0, locals := 52 } : Room) 0 0 D (tq cy) [.ref a0, .int (iI x1), .int (iI x2)] L0 f0 (fun (r : Int) (L1 : List Nat) (f1 : Nat → va_E) => L0 = L1 ∧ MS cy L0 f1 a0 ad ∧ Kp a0 ad [] [10] f0 f1 ∧ (True)) := by
  refine Ci.enter (cc := cX10_periodOf) (n := 7) rfl (plainFor_of_name (by decide)) (Nat.le_of_ble_eq_true rfl) ?_
  intro p e s m below meth c ls A hx hb hr hts hown hlocks hnm hml hK hA hAe hw hZ hl
  have hown : s.vm.findClass RX10 = some m.cls := hown
  have hl : lv_has ls 7 [(0, .ref a0), (1, .int (iI x1)), (2, .int (iI x2))] := hl
  have hN : ZN s := (zo.2.2.2.2 _ _ _ hZ).2
  have hE : Kp a0 ad [] [10] f0 f0 := Kp.refl _ _ _ _ _
  have m5 := hv.1
  have m6 := hv.2.1
  refine lv_aload_n hx hb dX10_periodOf_0 rfl (lv_at hl 0 rfl) ?_
  refine q_iconst hx hb dX10_periodOf_1 ?_
  refine q_puti (ci := 8) (C := RX10) (T := TX10) (N := 26) hx hb hts (fun w h => List.mem_cons_of_mem _ (mfX100 w h)) hown hK hw hs.1 hs.2.1 rfl 10 (by decide) (hts _ (List.mem_cons_of_mem _ (mr4 _ (List.mem_of_getElem? (i := 19) rfl)))) (fun _ h => h) tyX10 tyX10_ok nmX10 rfl (ty := .int) (by decide +kernel) rfl rfl dX10_periodOf_2 (fun H locs hw => ?_)
  obtain ⟨f_1, ef_1⟩ : ∃ g : Nat → va_E, g = pU f0 a0 10 (.int (iI 0)) := ⟨_, rfl⟩
  have v10_f_1 : fI f_1 a0 10 = 0 := by rw [ef_1]; exact fI_pU_self hs.2.1 rfl ⟨by decide, by decide⟩
  have t5_f_1 : fI f_1 a0 5 = fI f0 a0 5 := by rw [ef_1]; exact fI_pU (Or.inr (by decide))
  have hE := hE.trans (show Kp a0 ad [] [10] f0 f_1 by rw [ef_1]; exact Kp_pU hs (by decide))
  have hs : MS cy L0 f_1 a0 ad := by rw [ef_1]; exact MS_pU hs rfl
  rw [← ef_1] at hw
  refine lv_aload_n hx hb dX10_periodOf_5 rfl (lv_at hl 0 rfl) ?_
  refine lv_iload_n hx hb dX10_periodOf_6 rfl (lv_at hl 1 rfl) ?_
  refine q_call_i hA hK hw (va_runV (As := [.int (iI x1)]) (rest := []) ⟨hx, hb, hml, hown, hts⟩ (c_X10_isBooking zo l D cy L0 f_1 a0 x1 lx1 ux1 ad hs (by omega) _) (cwV 1 hts (gT (inV (mr22 _ (List.mem_of_getElem? (i := 21) rfl)) (mr22 _ (List.mem_of_getElem? (i := 22) rfl)) (mr22 _ (List.mem_of_getElem? (i := 23) rfl)) (mr1 _ (List.mem_of_getElem? (i := 5) rfl)) (mr23 _ (List.mem_of_getElem? (i := 0) rfl)))) rfl rfl rfl (by decide +kernel) ⟨Nat.le_of_ble_eq_true rfl, Nat.le_of_ble_eq_true rfl⟩) (Wd.preV zo hA hZ hw hK hs.1 hs.2.1 rfl) rfl rfl hl.1 rfl (lv_room (Nat.le_of_ble_eq_true rfl)) dX10_periodOf_7 ⟨Nat.le_of_ble_eq_true rfl, Nat.le_of_ble_eq_true rfl⟩) (fun x_2 L1 f1 H locs lx_2 ux_2 ex_2 hw => ?_)
  obtain ⟨rfl, rfl, ex_2⟩ := ex_2
  refine q_if_eq (tgt := 21) hx hb dX10_periodOf_10 (by decide) ⟨lx_2, ux_2⟩ (fun c10 => ?_) (fun c10 => ?_)
  · refine q_iconst hx hb dX10_periodOf_21 ?_
    exact q_ret_i hx hb hr hlocks hK hAe hw ⟨by decide, by decide⟩ (Nat.le_of_ble_eq_true rfl) (Nat.le_of_ble_eq_true rfl) dX10_periodOf_22 (by exact ⟨rfl, hs, hE, by first | trivial | omega⟩)
  · refine lv_aload_n hx hb dX10_periodOf_13 rfl (lv_at hl 0 rfl) ?_
    refine lv_iload_n hx hb dX10_periodOf_14 rfl (lv_at hl 2 rfl) ?_
    refine q_call_i hA hK hw (va_runV (As := [.int (iI x2)]) (rest := []) ⟨hx, hb, hml, hown, hts⟩ (c_X10_isBooking zo l D cy L0 f_1 a0 x2 lx2 ux2 ad hs (by omega) _) (cwV 1 hts (gT (inV (mr22 _ (List.mem_of_getElem? (i := 21) rfl)) (mr22 _ (List.mem_of_getElem? (i := 22) rfl)) (mr22 _ (List.mem_of_getElem? (i := 23) rfl)) (mr1 _ (List.mem_of_getElem? (i := 5) rfl)) (mr23 _ (List.mem_of_getElem? (i := 0) rfl)))) rfl rfl rfl (by decide +kernel) ⟨Nat.le_of_ble_eq_true rfl, Nat.le_of_ble_eq_true rfl⟩) (Wd.preV zo hA hZ hw hK hs.1 hs.2.1 rfl) rfl rfl hl.1 rfl (lv_room (Nat.le_of_ble_eq_true rfl)) dX10_periodOf_15 ⟨Nat.le_of_ble_eq_true rfl, Nat.le_of_ble_eq_true rfl⟩) (fun x_3 L1 f1 H locs lx_3 ux_3 ex_3 hw => ?_)
    obtain ⟨rfl, rfl, ex_3⟩ := ex_3
    refine q_if_ne (tgt := 23) hx hb dX10_periodOf_18 (by decide) ⟨lx_3, ux_3⟩ (fun c18 => ?_) (fun c18 => ?_)
    · have rv_x1 := (show MV f_1 a0 ad by first | exact hv | exact hv.kp hE (by decide) (by decide)).row x1 (by omega) (by omega)
      have rv_x2 := (show MV f_1 a0 ad by first | exact hv | exact hv.kp hE (by decide) (by decide)).row x2 (by omega) (by omega)
      refine lv_aload_n hx hb dX10_periodOf_23 rfl (lv_at hl 0 rfl) ?_
      refine lv_iload_n hx hb dX10_periodOf_24 rfl (lv_at hl 1 rfl) ?_
      refine q_call_l hA hK hw (va_runV (As := [.int (iI x1)]) (rest := []) ⟨hx, hb, hml, hown, hts⟩ (c_X10_periodFor zo l D cy L0 f_1 a0 x1 lx1 ux1 ad hs (by omega) (by omega) (by omega) (by omega) _) (cwV 1 hts (gT (inV (mr41 _ (List.mem_of_getElem? (i := 17) rfl)) (mr41 _ (List.mem_of_getElem? (i := 18) rfl)) (mr41 _ (List.mem_of_getElem? (i := 19) rfl)) (mr1 _ (List.mem_of_getElem? (i := 5) rfl)) (mr41 _ (List.mem_of_getElem? (i := 20) rfl)))) rfl rfl rfl (by decide +kernel) ⟨Nat.le_of_ble_eq_true rfl, Nat.le_of_ble_eq_true rfl⟩) (Wd.preV zo hA hZ hw hK hs.1 hs.2.1 rfl) rfl rfl hl.1 rfl (lv_room (Nat.le_of_ble_eq_true rfl)) dX10_periodOf_25 ⟨Nat.le_of_ble_eq_true rfl, Nat.le_of_ble_eq_true rfl⟩) (fun x_4 L1 f1 H locs lx_4 ux_4 ex_4 hw => ?_)
      obtain ⟨rfl, rfl, ex_4⟩ := ex_4
      refine lv_lstore_n (lv' := [(3, .long (lJ x_4)), (0, .ref a0), (1, .int (iI x1)), (2, .int (iI x2))]) hx hb dX10_periodOf_28 rfl hl (by decide) rfl (fun ls hl => ?_)
      refine lv_aload_n hx hb dX10_periodOf_29 rfl (lv_at hl 1 rfl) ?_
      refine lv_iload_n hx hb dX10_periodOf_30 rfl (lv_at hl 3 rfl) ?_
      refine q_call_l hA hK hw (va_runV (As := [.int (iI x2)]) (rest := []) ⟨hx, hb, hml, hown, hts⟩ (c_X10_periodFor zo l D cy L0 f_1 a0 x2 lx2 ux2 ad hs (by omega) (by omega) (by omega) (by omega) _) (cwV 1 hts (gT (inV (mr41 _ (List.mem_of_getElem? (i := 17) rfl)) (mr41 _ (List.mem_of_getElem? (i := 18) rfl)) (mr41 _ (List.mem_of_getElem? (i := 19) rfl)) (mr1 _ (List.mem_of_getElem? (i := 5) rfl)) (mr41 _ (List.mem_of_getElem? (i := 20) rfl)))) rfl rfl rfl (by decide +kernel) ⟨Nat.le_of_ble_eq_true rfl, Nat.le_of_ble_eq_true rfl⟩) (Wd.preV zo hA hZ hw hK hs.1 hs.2.1 rfl) rfl rfl hl.1 rfl (lv_room (Nat.le_of_ble_eq_true rfl)) dX10_periodOf_31 ⟨Nat.le_of_ble_eq_true rfl, Nat.le_of_ble_eq_true rfl⟩) (fun x_5 L1 f1 H locs lx_5 ux_5 ex_5 hw => ?_)
      obtain ⟨rfl, rfl, ex_5⟩ := ex_5
      refine lv_lstore (lv' := [(5, .long (lJ x_5)), (3, .long (lJ x_4)), (0, .ref a0), (1, .int (iI x1)), (2, .int (iI x2))]) hx hb dX10_periodOf_34 hl (by decide) rfl (fun ls hl => ?_)
      refine lv_lload_n hx hb dX10_periodOf_36 rfl (lv_at hl 1 rfl) ?_
      refine q_lconst0 hx hb dX10_periodOf_37 ?_
      refine q_lcmp hx hb dX10_periodOf_38 ⟨lx_4, ux_4⟩ ⟨by decide, by decide⟩ (fun x_6 lx_6 ux_6 ex_6 => ?_)
      refine q_if_eq (tgt := 49) hx hb dX10_periodOf_39 (by decide) ⟨lx_6, ux_6⟩ (fun c39 => ?_) (fun c39 => ?_)
      · refine q_iconst hx hb dX10_periodOf_49 ?_
        refine lv_goto (tgt := 67) hx hb dX10_periodOf_50 (by decide) ?_
        exact q_ret_i hx hb hr hlocks hK hAe hw ⟨by decide, by decide⟩ (Nat.le_of_ble_eq_true rfl) (Nat.le_of_ble_eq_true rfl) dX10_periodOf_67 (by exact ⟨rfl, hs, hE, by first | trivial | omega⟩)
      · refine lv_lload hx hb dX10_periodOf_42 (lv_at hl 0 rfl) ?_
        refine q_lconst0 hx hb dX10_periodOf_44 ?_
        refine q_lcmp hx hb dX10_periodOf_45 ⟨lx_5, ux_5⟩ ⟨by decide, by decide⟩ (fun x_7 lx_7 ux_7 ex_7 => ?_)
        refine q_if_ne (tgt := 53) hx hb dX10_periodOf_46 (by decide) ⟨lx_7, ux_7⟩ (fun c46 => ?_) (fun c46 => ?_)
        · refine lv_lload_n hx hb dX10_periodOf_53 rfl (lv_at hl 1 rfl) ?_
          refine lv_lload_n hx hb dX10_periodOf_54 rfl (lv_at hl 1 rfl) ?_
          refine lv_lload hx hb dX10_periodOf_55 (lv_at hl 0 rfl) ?_
          refine q_call_l hA hK hw (va_runS (As := [.long (lJ x_4), .long (lJ x_5)]) (rest := [.long (lJ x_4)]) ⟨hx, hb, hml, hown, hts⟩ (c_X10_gcd zo l D cy L0 f_1 x_4 lx_4 ux_4 x_5 lx_5 ux_5 (by omega) (by omega) _) (va_cwS 2 hts (gT (inS (mr42 _ (List.mem_of_getElem? (i := 1) rfl)) (mr42 _ (List.mem_of_getElem? (i := 2) rfl)) (mr1 _ (List.mem_of_getElem? (i := 5) rfl)) (mr42 _ (List.mem_of_getElem? (i := 3) rfl)))) rfl rfl rfl (by decide +kernel) ⟨Nat.le_of_ble_eq_true rfl, Nat.le_of_ble_eq_true rfl⟩) (Wd.preS zo hA hZ hw hK) rfl rfl hl.1 rfl (lv_room (Nat.le_of_ble_eq_true rfl)) dX10_periodOf_57 ⟨Nat.le_of_ble_eq_true rfl, Nat.le_of_ble_eq_true rfl⟩) (fun x_8 L1 f1 H locs lx_8 ux_8 ex_8 hw => ?_)
          obtain ⟨rfl, rfl, ex_8⟩ := ex_8
          first | refine q_ldiv hx hb dX10_periodOf_60 ⟨lx_4, ux_4⟩ ⟨lx_8, ux_8⟩ (by omega) (by omega) (fun j_9 lj_9 uj_9 ej_9 => ?_) | refine q_ldivw hx hb dX10_periodOf_60 ⟨lx_4, ux_4⟩ ⟨lx_8, ux_8⟩ (by omega) (fun j_9 lj_9 uj_9 ej_9 => ?_)
          refine lv_lload hx hb dX10_periodOf_61 (lv_at hl 0 rfl) ?_
          first | refine q_lmul hx hb dX10_periodOf_63 ⟨by omega, by omega⟩ (fun j_10 lj_10 uj_10 ej_10 => ?_) | refine q_lmulw hx hb dX10_periodOf_63 (fun j_10 lj_10 uj_10 ej_10 => ?_)
          refine q_call_i hA hK hw (va_runS (As := [.long (lJ j_10)]) (rest := []) ⟨hx, hb, hml, hown, hts⟩ (c_X10_asInt zo l D cy L0 f_1 j_10 lj_10 uj_10 _) (va_cwS 1 hts (gT (inS (mr42 _ (List.mem_of_getElem? (i := 4) rfl)) (mr42 _ (List.mem_of_getElem? (i := 5) rfl)) (mr1 _ (List.mem_of_getElem? (i := 5) rfl)) (mr42 _ (List.mem_of_getElem? (i := 6) rfl)))) rfl rfl rfl (by decide +kernel) ⟨Nat.le_of_ble_eq_true rfl, Nat.le_of_ble_eq_true rfl⟩) (Wd.preS zo hA hZ hw hK) rfl rfl hl.1 rfl (lv_room (Nat.le_of_ble_eq_true rfl)) dX10_periodOf_64 ⟨Nat.le_of_ble_eq_true rfl, Nat.le_of_ble_eq_true rfl⟩) (fun x_11 L1 f1 H locs lx_11 ux_11 ex_11 hw => ?_)
          obtain ⟨rfl, rfl, ex_11⟩ := ex_11
          exact q_ret_i hx hb hr hlocks hK hAe hw ⟨lx_11, ux_11⟩ (Nat.le_of_ble_eq_true rfl) (Nat.le_of_ble_eq_true rfl) dX10_periodOf_67 (by exact ⟨rfl, hs, hE, by first | trivial | omega⟩)
        · refine q_iconst hx hb dX10_periodOf_49 ?_
          refine lv_goto (tgt := 67) hx hb dX10_periodOf_50 (by decide) ?_
          exact q_ret_i hx hb hr hlocks hK hAe hw ⟨by decide, by decide⟩ (Nat.le_of_ble_eq_true rfl) (Nat.le_of_ble_eq_true rfl) dX10_periodOf_67 (by exact ⟨rfl, hs, hE, by first | trivial | omega⟩)
    · refine q_iconst hx hb dX10_periodOf_21 ?_
      exact q_ret_i hx hb hr hlocks hK hAe hw ⟨by decide, by decide⟩ (Nat.le_of_ble_eq_true rfl) (Nat.le_of_ble_eq_true rfl) dX10_periodOf_22 (by exact ⟨rfl, hs, hE, by first | trivial | omega⟩)