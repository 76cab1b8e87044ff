set_option maxHeartbeats 4000000 in
set_option maxRecDepth 100000 in
theorem c_X10_isOn {Z : Zt} (zo : Zok Z) (l : Launch) (D : va_G) (cy : Cy) (L0 : List Nat) (f0 : Nat → va_E) (a0 : Nat) (x1 : Int) (lx1 : -2147483648 ≤ x1) (ux1 : x1 ≤ 2147483647) (x2 : Int) (lx2 : -2147483648 ≤ x2) (ux2 : x2 ≤ 2147483647) (ad : Nat → Nat) (hs : MS cy L0 f0 a0 ad) (b1 : 0 ≤ x1) (b2 : x1 ≤ 11) (s34 : aI f0 (ad 4) (44 * x1 + 3) = 0 ∨ 1 ≤ aI f0 (ad 4) (44 * x1 + 4)) (s5a : 0 ≤ aI f0 (ad 4) (44 * x1 + 5)) (s5b : aI f0 (ad 4) (44 * x1 + 5) ≤ 36524) (d1 : 0 ≤ x2) (d2 : x2 ≤ 36524) : Ci Z l yX10_isOn (Cond.code yX10_isOn cX10_isOn 7 (some .boolean) :: TB) ({ frames := 1, cells := 0, slots := 0, locals := 22 } : Room) 0 0 D (tq cy) [.ref a0, .int (iI x1), .int (iI x2)] L0 f0 (fun (r : Int) (L1 : List Nat) (f1 : Nat → va_E) => L0 = L1 ∧ f0 = f1 ∧ (r = 0 ∨ r = 1)) := by
  refine Ci.enter (cc := cX10_isOn) (n := 7) rfl (plainFor_of_name (by decide)) (Nat.le_of_ble_eq_true rfl) ?_
  intro p e s m below meth c ls A hx hb hr hts hown hlocks hnm hml hK hA hAe hw hZ hl
  have hown : s.vm.findClass RX10 = some m.cls := hown
  have hl : lv_has ls 7 [(0, .ref a0), (1, .int (iI x1)), (2, .int (iI x2))] := hl
  have hN : ZN s := (zo.2.2.2.2 _ _ _ hZ).2
  refine lv_aload_n hx hb dX10_isOn_0 rfl (lv_at hl 0 rfl) ?_
  refine lv_iload_n hx hb dX10_isOn_1 rfl (lv_at hl 1 rfl) ?_
  refine q_iconst hx hb dX10_isOn_2 ?_
  refine q_call_i hA hK hw (va_runV (As := [.int (iI x1), .int (iI 5)]) (rest := []) ⟨hx, hb, hml, hown, hts⟩ (c_X10_get zo l D cy L0 f0 a0 x1 lx1 ux1 5 (by decide) (by decide) ad hs (by omega) (by omega) (by omega) (by omega) _) (cwV 2 hts (gT (inV (mr25 _ (List.mem_of_getElem? (i := 0) rfl)) (mr25 _ (List.mem_of_getElem? (i := 1) rfl)) (mr25 _ (List.mem_of_getElem? (i := 2) rfl)) (mr1 _ (List.mem_of_getElem? (i := 5) rfl)) (mr25 _ (List.mem_of_getElem? (i := 3) rfl)))) rfl rfl rfl (by decide +kernel) ⟨Nat.le_of_ble_eq_true rfl, Nat.le_of_ble_eq_true rfl⟩) (Wd.preV zo hA hZ hw hK hs.1 hs.2.1 rfl) rfl rfl hl.1 rfl (lv_room (Nat.le_of_ble_eq_true rfl)) dX10_isOn_3 ⟨Nat.le_of_ble_eq_true rfl, Nat.le_of_ble_eq_true rfl⟩) (fun x_1 L1 f1 H locs lx_1 ux_1 ex_1 hw => ?_)
  obtain ⟨rfl, rfl, ex_1⟩ := ex_1
  refine lv_istore_n (lv' := [(3, .int (iI x_1)), (0, .ref a0), (1, .int (iI x1)), (2, .int (iI x2))]) hx hb dX10_isOn_6 rfl hl (by decide) rfl (fun ls hl => ?_)
  refine lv_aload_n hx hb dX10_isOn_7 rfl (lv_at hl 1 rfl) ?_
  refine lv_iload_n hx hb dX10_isOn_8 rfl (lv_at hl 2 rfl) ?_
  refine q_iconst hx hb dX10_isOn_9 ?_
  refine q_call_i hA hK hw (va_runV (As := [.int (iI x1), .int (iI 4)]) (rest := []) ⟨hx, hb, hml, hown, hts⟩ (c_X10_get zo l D cy L0 f0 a0 x1 lx1 ux1 4 (by decide) (by decide) ad hs (by omega) (by omega) (by omega) (by omega) _) (cwV 2 hts (gT (inV (mr25 _ (List.mem_of_getElem? (i := 0) rfl)) (mr25 _ (List.mem_of_getElem? (i := 1) rfl)) (mr25 _ (List.mem_of_getElem? (i := 2) rfl)) (mr1 _ (List.mem_of_getElem? (i := 5) rfl)) (mr25 _ (List.mem_of_getElem? (i := 3) rfl)))) rfl rfl rfl (by decide +kernel) ⟨Nat.le_of_ble_eq_true rfl, Nat.le_of_ble_eq_true rfl⟩) (Wd.preV zo hA hZ hw hK hs.1 hs.2.1 rfl) rfl rfl hl.1 rfl (lv_room (Nat.le_of_ble_eq_true rfl)) dX10_isOn_10 ⟨Nat.le_of_ble_eq_true rfl, Nat.le_of_ble_eq_true rfl⟩) (fun x_2 L1 f1 H locs lx_2 ux_2 ex_2 hw => ?_)
  obtain ⟨rfl, rfl, ex_2⟩ := ex_2
  refine lv_istore (lv' := [(4, .int (iI x_2)), (3, .int (iI x_1)), (0, .ref a0), (1, .int (iI x1)), (2, .int (iI x2))]) hx hb dX10_isOn_13 hl (by decide) rfl (fun ls hl => ?_)
  refine lv_aload_n hx hb dX10_isOn_15 rfl (lv_at hl 2 rfl) ?_
  refine lv_iload_n hx hb dX10_isOn_16 rfl (lv_at hl 3 rfl) ?_
  refine q_bipush hx hb dX10_isOn_17 rfl ?_
  refine q_call_i hA hK hw (va_runV (As := [.int (iI x1), .int (iI 6)]) (rest := []) ⟨hx, hb, hml, hown, hts⟩ (c_X10_get zo l D cy L0 f0 a0 x1 lx1 ux1 6 (by decide) (by decide) ad hs (by omega) (by omega) (by omega) (by omega) _) (cwV 2 hts (gT (inV (mr25 _ (List.mem_of_getElem? (i := 0) rfl)) (mr25 _ (List.mem_of_getElem? (i := 1) rfl)) (mr25 _ (List.mem_of_getElem? (i := 2) rfl)) (mr1 _ (List.mem_of_getElem? (i := 5) rfl)) (mr25 _ (List.mem_of_getElem? (i := 3) rfl)))) rfl rfl rfl (by decide +kernel) ⟨Nat.le_of_ble_eq_true rfl, Nat.le_of_ble_eq_true rfl⟩) (Wd.preV zo hA hZ hw hK hs.1 hs.2.1 rfl) rfl rfl hl.1 rfl (lv_room (Nat.le_of_ble_eq_true rfl)) dX10_isOn_19 ⟨Nat.le_of_ble_eq_true rfl, Nat.le_of_ble_eq_true rfl⟩) (fun x_3 L1 f1 H locs lx_3 ux_3 ex_3 hw => ?_)
  obtain ⟨rfl, rfl, ex_3⟩ := ex_3
  refine lv_istore (lv' := [(5, .int (iI x_3)), (4, .int (iI x_2)), (3, .int (iI x_1)), (0, .ref a0), (1, .int (iI x1)), (2, .int (iI x2))]) hx hb dX10_isOn_22 hl (by decide) rfl (fun ls hl => ?_)
  refine lv_iload_n hx hb dX10_isOn_24 rfl (lv_at hl 5 rfl) ?_
  refine lv_iload_n hx hb dX10_isOn_25 rfl (lv_at hl 2 rfl) ?_
  refine q_icmp_ge (tgt := 31) hx hb dX10_isOn_26 (by decide) ⟨lx2, ux2⟩ ⟨lx_1, ux_1⟩ (fun c26 => ?_) (fun c26 => ?_)
  · refine q_bipush hx hb dX10_isOn_31 rfl ?_
    refine lv_aload_n hx hb dX10_isOn_33 rfl (lv_at hl 3 rfl) ?_
    refine q_getr (ci := 8) (C := RX10) (T := TX10) (N := 26) hx hb hts (fun w h => List.mem_cons_of_mem _ (mfX100 w h)) hown hK hw hs.1 hs.2.1 rfl 0 (by decide) (hts _ (List.mem_cons_of_mem _ (mr3 _ (List.mem_of_getElem? (i := 10) rfl)))) (fun _ h => h) rfl (hs.2.2.1 0 rfl).1 dX10_isOn_34 ?_
    refine lv_iload_n hx hb dX10_isOn_37 rfl (lv_at hl 5 rfl) ?_
    refine q_iald hx hb hK hw (hs.2.2.1 0 rfl).2.1 1 (hs.2.2.1 0 rfl).2.2 rfl ⟨lx2, ux2⟩ (by omega) (by show _ < ((36525 : Nat) : Int); omega) dX10_isOn_38 (fun x_4 lx_4 ux_4 ex_4 => ?_)
    refine lv_aload_n hx hb dX10_isOn_39 rfl (lv_at hl 3 rfl) ?_
    refine q_getr (ci := 8) (C := RX10) (T := TX10) (N := 26) hx hb hts (fun w h => List.mem_cons_of_mem _ (mfX100 w h)) hown hK hw hs.1 hs.2.1 rfl 0 (by decide) (hts _ (List.mem_cons_of_mem _ (mr3 _ (List.mem_of_getElem? (i := 10) rfl)))) (fun _ h => h) rfl (hs.2.2.1 0 rfl).1 dX10_isOn_40 ?_
    refine lv_iload_n hx hb dX10_isOn_43 rfl (lv_at hl 2 rfl) ?_
    refine q_iald hx hb hK hw (hs.2.2.1 0 rfl).2.1 1 (hs.2.2.1 0 rfl).2.2 rfl ⟨lx_1, ux_1⟩ (by omega) (by show _ < ((36525 : Nat) : Int); omega) dX10_isOn_44 (fun x_5 lx_5 ux_5 ex_5 => ?_)
    first | refine q_isub hx hb dX10_isOn_45 ⟨by omega, by omega⟩ (fun x_6 lx_6 ux_6 ex_6 => ?_) | refine q_isubw hx hb dX10_isOn_45 (fun x_6 lx_6 ux_6 ex_6 => ?_)
    first | refine q_imul hx hb dX10_isOn_46 ⟨by omega, by omega⟩ (fun x_7 lx_7 ux_7 ex_7 => ?_) | refine q_imulw hx hb dX10_isOn_46 (fun x_7 lx_7 ux_7 ex_7 => ?_)
    refine lv_aload_n hx hb dX10_isOn_47 rfl (lv_at hl 3 rfl) ?_
    refine q_getr (ci := 8) (C := RX10) (T := TX10) (N := 26) hx hb hts (fun w h => List.mem_cons_of_mem _ (mfX100 w h)) hown hK hw hs.1 hs.2.1 rfl 1 (by decide) (hts _ (List.mem_cons_of_mem _ (mr3 _ (List.mem_of_getElem? (i := 11) rfl)))) (fun _ h => h) rfl (hs.2.2.1 1 rfl).1 dX10_isOn_48 ?_
    refine lv_iload_n hx hb dX10_isOn_51 rfl (lv_at hl 5 rfl) ?_
    refine q_iald hx hb hK hw (hs.2.2.1 1 rfl).2.1 1 (hs.2.2.1 1 rfl).2.2 rfl ⟨lx2, ux2⟩ (by omega) (by show _ < ((36525 : Nat) : Int); omega) dX10_isOn_52 (fun x_8 lx_8 ux_8 ex_8 => ?_)
    first | refine q_iadd hx hb dX10_isOn_53 ⟨by omega, by omega⟩ (fun x_9 lx_9 ux_9 ex_9 => ?_) | refine q_iaddw hx hb dX10_isOn_53 (fun x_9 lx_9 ux_9 ex_9 => ?_)
    refine lv_aload_n hx hb dX10_isOn_54 rfl (lv_at hl 3 rfl) ?_
    refine q_getr (ci := 8) (C := RX10) (T := TX10) (N := 26) hx hb hts (fun w h => List.mem_cons_of_mem _ (mfX100 w h)) hown hK hw hs.1 hs.2.1 rfl 1 (by decide) (hts _ (List.mem_cons_of_mem _ (mr3 _ (List.mem_of_getElem? (i := 11) rfl)))) (fun _ h => h) rfl (hs.2.2.1 1 rfl).1 dX10_isOn_55 ?_
    refine lv_iload_n hx hb dX10_isOn_58 rfl (lv_at hl 2 rfl) ?_
    refine q_iald hx hb hK hw (hs.2.2.1 1 rfl).2.1 1 (hs.2.2.1 1 rfl).2.2 rfl ⟨lx_1, ux_1⟩ (by omega) (by show _ < ((36525 : Nat) : Int); omega) dX10_isOn_59 (fun x_10 lx_10 ux_10 ex_10 => ?_)
    first | refine q_isub hx hb dX10_isOn_60 ⟨by omega, by omega⟩ (fun x_11 lx_11 ux_11 ex_11 => ?_) | refine q_isubw hx hb dX10_isOn_60 (fun x_11 lx_11 ux_11 ex_11 => ?_)
    refine lv_istore (lv' := [(6, .int (iI x_11)), (5, .int (iI x_3)), (4, .int (iI x_2)), (3, .int (iI x_1)), (0, .ref a0), (1, .int (iI x1)), (2, .int (iI x2))]) hx hb dX10_isOn_61 hl (by decide) rfl (fun ls hl => ?_)
    refine lv_aload_n hx hb dX10_isOn_63 rfl (lv_at hl 4 rfl) ?_
    refine lv_iload_n hx hb dX10_isOn_64 rfl (lv_at hl 5 rfl) ?_
    refine q_iconst hx hb dX10_isOn_65 ?_
    refine q_call_i hA hK hw (va_runV (As := [.int (iI x1), .int (iI 3)]) (rest := []) ⟨hx, hb, hml, hown, hts⟩ (c_X10_get zo l D cy L0 f0 a0 x1 lx1 ux1 3 (by decide) (by decide) ad hs (by omega) (by omega) (by omega) (by omega) _) (cwV 2 hts (gT (inV (mr25 _ (List.mem_of_getElem? (i := 0) rfl)) (mr25 _ (List.mem_of_getElem? (i := 1) rfl)) (mr25 _ (List.mem_of_getElem? (i := 2) rfl)) (mr1 _ (List.mem_of_getElem? (i := 5) rfl)) (mr25 _ (List.mem_of_getElem? (i := 3) rfl)))) rfl rfl rfl (by decide +kernel) ⟨Nat.le_of_ble_eq_true rfl, Nat.le_of_ble_eq_true rfl⟩) (Wd.preV zo hA hZ hw hK hs.1 hs.2.1 rfl) rfl rfl hl.1 rfl (lv_room (Nat.le_of_ble_eq_true rfl)) dX10_isOn_66 ⟨Nat.le_of_ble_eq_true rfl, Nat.le_of_ble_eq_true rfl⟩) (fun x_12 L1 f1 H locs lx_12 ux_12 ex_12 hw => ?_)
    obtain ⟨rfl, rfl, ex_12⟩ := ex_12
    have t69 : (iI x_12).toInt = x_12 := iI_toInt ⟨lx_12, ux_12⟩
    rcases (show (x_12 < 0 ∨ 6 < x_12) ∨ (x_12 = 0) ∨ (x_12 = 1) ∨ (x_12 = 2) ∨ (x_12 = 3) ∨ (x_12 = 4) ∨ (x_12 = 5) ∨ (x_12 = 6) by omega) with k69 | k69 | k69 | k69 | k69 | k69 | k69 | k69
    · refine lv_tableOut (tgt := 322) hx hb dX10_isOn_69 (by rw [t69]; omega) (by decide) ?_
      refine lv_aload_n hx hb dX10_isOn_322 rfl (lv_at hl 4 rfl) ?_
      refine q_getr (ci := 8) (C := RX10) (T := TX10) (N := 26) hx hb hts (fun w h => List.mem_cons_of_mem _ (mfX100 w h)) hown hK hw hs.1 hs.2.1 rfl 0 (by decide) (hts _ (List.mem_cons_of_mem _ (mr3 _ (List.mem_of_getElem? (i := 10) rfl)))) (fun _ h => h) rfl (hs.2.2.1 0 rfl).1 dX10_isOn_323 ?_
      refine lv_iload_n hx hb dX10_isOn_326 rfl (lv_at hl 6 rfl) ?_
      refine q_iald hx hb hK hw (hs.2.2.1 0 rfl).2.1 1 (hs.2.2.1 0 rfl).2.2 rfl ⟨lx2, ux2⟩ (by omega) (by show _ < ((36525 : Nat) : Int); omega) dX10_isOn_327 (fun x_13 lx_13 ux_13 ex_13 => ?_)
      refine lv_aload_n hx hb dX10_isOn_328 rfl (lv_at hl 4 rfl) ?_
      refine q_getr (ci := 8) (C := RX10) (T := TX10) (N := 26) hx hb hts (fun w h => List.mem_cons_of_mem _ (mfX100 w h)) hown hK hw hs.1 hs.2.1 rfl 0 (by decide) (hts _ (List.mem_cons_of_mem _ (mr3 _ (List.mem_of_getElem? (i := 10) rfl)))) (fun _ h => h) rfl (hs.2.2.1 0 rfl).1 dX10_isOn_329 ?_
      refine lv_iload_n hx hb dX10_isOn_332 rfl (lv_at hl 3 rfl) ?_
      refine q_iald hx hb hK hw (hs.2.2.1 0 rfl).2.1 1 (hs.2.2.1 0 rfl).2.2 rfl ⟨lx_1, ux_1⟩ (by omega) (by show _ < ((36525 : Nat) : Int); omega) dX10_isOn_333 (fun x_14 lx_14 ux_14 ex_14 => ?_)
      first | refine q_isub hx hb dX10_isOn_334 ⟨by omega, by omega⟩ (fun x_15 lx_15 ux_15 ex_15 => ?_) | refine q_isubw hx hb dX10_isOn_334 (fun x_15 lx_15 ux_15 ex_15 => ?_)
      refine lv_iload hx hb dX10_isOn_335 (lv_at hl 2 rfl) ?_
      first | refine q_irem hx hb dX10_isOn_337 ⟨lx_15, ux_15⟩ ⟨lx_2, ux_2⟩ (by omega) (by omega) (fun x_16 lx_16 ux_16 ex_16 => ?_) | refine q_iremw hx hb dX10_isOn_337 ⟨lx_15, ux_15⟩ ⟨lx_2, ux_2⟩ (by omega) (fun x_16 lx_16 ux_16 ex_16 => ?_)
      refine q_if_ne (tgt := 375) hx hb dX10_isOn_338 (by decide) ⟨lx_16, ux_16⟩ (fun c338 => ?_) (fun c338 => ?_)
      · refine q_iconst hx hb dX10_isOn_375 ?_
        exact q_ret_z hx hb hr hlocks hK hAe hw (by omega) (Nat.le_of_ble_eq_true rfl) (Nat.le_of_ble_eq_true rfl) dX10_isOn_376 ⟨rfl, rfl, by omega⟩
      · refine lv_aload_n hx hb dX10_isOn_341 rfl (lv_at hl 4 rfl) ?_
        refine q_getr (ci := 8) (C := RX10) (T := TX10) (N := 26) hx hb hts (fun w h => List.mem_cons_of_mem _ (mfX100 w h)) hown hK hw hs.1 hs.2.1 rfl 1 (by decide) (hts _ (List.mem_cons_of_mem _ (mr3 _ (List.mem_of_getElem? (i := 11) rfl)))) (fun _ h => h) rfl (hs.2.2.1 1 rfl).1 dX10_isOn_342 ?_
        refine lv_iload_n hx hb dX10_isOn_345 rfl (lv_at hl 6 rfl) ?_
        refine q_iald hx hb hK hw (hs.2.2.1 1 rfl).2.1 1 (hs.2.2.1 1 rfl).2.2 rfl ⟨lx2, ux2⟩ (by omega) (by show _ < ((36525 : Nat) : Int); omega) dX10_isOn_346 (fun x_17 lx_17 ux_17 ex_17 => ?_)
        refine lv_aload_n hx hb dX10_isOn_347 rfl (lv_at hl 4 rfl) ?_
        refine q_getr (ci := 8) (C := RX10) (T := TX10) (N := 26) hx hb hts (fun w h => List.mem_cons_of_mem _ (mfX100 w h)) hown hK hw hs.1 hs.2.1 rfl 1 (by decide) (hts _ (List.mem_cons_of_mem _ (mr3 _ (List.mem_of_getElem? (i := 11) rfl)))) (fun _ h => h) rfl (hs.2.2.1 1 rfl).1 dX10_isOn_348 ?_
        refine lv_iload_n hx hb dX10_isOn_351 rfl (lv_at hl 3 rfl) ?_
        refine q_iald hx hb hK hw (hs.2.2.1 1 rfl).2.1 1 (hs.2.2.1 1 rfl).2.2 rfl ⟨lx_1, ux_1⟩ (by omega) (by show _ < ((36525 : Nat) : Int); omega) dX10_isOn_352 (fun x_18 lx_18 ux_18 ex_18 => ?_)
        refine q_icmp_ne (tgt := 375) hx hb dX10_isOn_353 (by decide) ⟨lx_17, ux_17⟩ ⟨lx_18, ux_18⟩ (fun c353 => ?_) (fun c353 => ?_)
        · refine q_iconst hx hb dX10_isOn_375 ?_
          exact q_ret_z hx hb hr hlocks hK hAe hw (by omega) (Nat.le_of_ble_eq_true rfl) (Nat.le_of_ble_eq_true rfl) dX10_isOn_376 ⟨rfl, rfl, by omega⟩
        · refine lv_aload_n hx hb dX10_isOn_356 rfl (lv_at hl 4 rfl) ?_
          refine q_getr (ci := 8) (C := RX10) (T := TX10) (N := 26) hx hb hts (fun w h => List.mem_cons_of_mem _ (mfX100 w h)) hown hK hw hs.1 hs.2.1 rfl 2 (by decide) (hts _ (List.mem_cons_of_mem _ (mr3 _ (List.mem_of_getElem? (i := 12) rfl)))) (fun _ h => h) rfl (hs.2.2.1 2 rfl).1 dX10_isOn_357 ?_
          refine lv_iload_n hx hb dX10_isOn_360 rfl (lv_at hl 6 rfl) ?_
          refine q_iald hx hb hK hw (hs.2.2.1 2 rfl).2.1 1 (hs.2.2.1 2 rfl).2.2 rfl ⟨lx2, ux2⟩ (by omega) (by show _ < ((36525 : Nat) : Int); omega) dX10_isOn_361 (fun x_19 lx_19 ux_19 ex_19 => ?_)
          refine lv_aload_n hx hb dX10_isOn_362 rfl (lv_at hl 4 rfl) ?_
          refine q_getr (ci := 8) (C := RX10) (T := TX10) (N := 26) hx hb hts (fun w h => List.mem_cons_of_mem _ (mfX100 w h)) hown hK hw hs.1 hs.2.1 rfl 2 (by decide) (hts _ (List.mem_cons_of_mem _ (mr3 _ (List.mem_of_getElem? (i := 12) rfl)))) (fun _ h => h) rfl (hs.2.2.1 2 rfl).1 dX10_isOn_363 ?_
          refine lv_iload_n hx hb dX10_isOn_366 rfl (lv_at hl 3 rfl) ?_
          refine q_iald hx hb hK hw (hs.2.2.1 2 rfl).2.1 1 (hs.2.2.1 2 rfl).2.2 rfl ⟨lx_1, ux_1⟩ (by omega) (by show _ < ((36525 : Nat) : Int); omega) dX10_isOn_367 (fun x_20 lx_20 ux_20 ex_20 => ?_)
          refine q_icmp_ne (tgt := 375) hx hb dX10_isOn_368 (by decide) ⟨lx_19, ux_19⟩ ⟨lx_20, ux_20⟩ (fun c368 => ?_) (fun c368 => ?_)
          · refine q_iconst hx hb dX10_isOn_375 ?_
            exact q_ret_z hx hb hr hlocks hK hAe hw (by omega) (Nat.le_of_ble_eq_true rfl) (Nat.le_of_ble_eq_true rfl) dX10_isOn_376 ⟨rfl, rfl, by omega⟩
          · refine q_iconst hx hb dX10_isOn_371 ?_
            refine lv_goto (tgt := 376) hx hb dX10_isOn_372 (by decide) ?_
            exact q_ret_z hx hb hr hlocks hK hAe hw (by omega) (Nat.le_of_ble_eq_true rfl) (Nat.le_of_ble_eq_true rfl) dX10_isOn_376 ⟨rfl, rfl, by omega⟩
    · refine lv_tableIn (tgt := 112) (off := 43) hx hb dX10_isOn_69 (by rw [t69]; omega) (by rw [t69]; omega) (by rw [t69, k69]; rfl) (by decide) ?_
      refine lv_iload_n hx hb dX10_isOn_112 rfl (lv_at hl 6 rfl) ?_
      refine lv_iload_n hx hb dX10_isOn_113 rfl (lv_at hl 3 rfl) ?_
      refine q_icmp_ne (tgt := 121) hx hb dX10_isOn_114 (by decide) ⟨lx2, ux2⟩ ⟨lx_1, ux_1⟩ (fun c114 => ?_) (fun c114 => ?_)
      · refine q_iconst hx hb dX10_isOn_121 ?_
        exact q_ret_z hx hb hr hlocks hK hAe hw (by omega) (Nat.le_of_ble_eq_true rfl) (Nat.le_of_ble_eq_true rfl) dX10_isOn_122 ⟨rfl, rfl, by omega⟩
      · refine q_iconst hx hb dX10_isOn_117 ?_
        refine lv_goto (tgt := 122) hx hb dX10_isOn_118 (by decide) ?_
        exact q_ret_z hx hb hr hlocks hK hAe hw (by omega) (Nat.le_of_ble_eq_true rfl) (Nat.le_of_ble_eq_true rfl) dX10_isOn_122 ⟨rfl, rfl, by omega⟩
    · refine lv_tableIn (tgt := 123) (off := 54) hx hb dX10_isOn_69 (by rw [t69]; omega) (by rw [t69]; omega) (by rw [t69, k69]; rfl) (by decide) ?_
      refine lv_iload_n hx hb dX10_isOn_123 rfl (lv_at hl 6 rfl) ?_
      refine lv_iload_n hx hb dX10_isOn_124 rfl (lv_at hl 3 rfl) ?_
      first | refine q_isub hx hb dX10_isOn_125 ⟨by omega, by omega⟩ (fun x_21 lx_21 ux_21 ex_21 => ?_) | refine q_isubw hx hb dX10_isOn_125 (fun x_21 lx_21 ux_21 ex_21 => ?_)
      refine lv_iload hx hb dX10_isOn_126 (lv_at hl 2 rfl) ?_
      first | refine q_irem hx hb dX10_isOn_128 ⟨lx_21, ux_21⟩ ⟨lx_2, ux_2⟩ (by omega) (by omega) (fun x_22 lx_22 ux_22 ex_22 => ?_) | refine q_iremw hx hb dX10_isOn_128 ⟨lx_21, ux_21⟩ ⟨lx_2, ux_2⟩ (by omega) (fun x_22 lx_22 ux_22 ex_22 => ?_)
      refine q_if_ne (tgt := 136) hx hb dX10_isOn_129 (by decide) ⟨lx_22, ux_22⟩ (fun c129 => ?_) (fun c129 => ?_)
      · refine q_iconst hx hb dX10_isOn_136 ?_
        exact q_ret_z hx hb hr hlocks hK hAe hw (by omega) (Nat.le_of_ble_eq_true rfl) (Nat.le_of_ble_eq_true rfl) dX10_isOn_137 ⟨rfl, rfl, by omega⟩
      · refine q_iconst hx hb dX10_isOn_132 ?_
        refine lv_goto (tgt := 137) hx hb dX10_isOn_133 (by decide) ?_
        exact q_ret_z hx hb hr hlocks hK hAe hw (by omega) (Nat.le_of_ble_eq_true rfl) (Nat.le_of_ble_eq_true rfl) dX10_isOn_137 ⟨rfl, rfl, by omega⟩
    · refine lv_tableIn (tgt := 138) (off := 69) hx hb dX10_isOn_69 (by rw [t69]; omega) (by rw [t69]; omega) (by rw [t69, k69]; rfl) (by decide) ?_
      refine lv_iload hx hb dX10_isOn_138 (lv_at hl 1 rfl) ?_
      refine lv_iload_n hx hb dX10_isOn_140 rfl (lv_at hl 6 rfl) ?_
      refine q_call_i hA hK hw (va_runS (As := [.int (iI x2)]) (rest := [.int (iI x_3)]) ⟨hx, hb, hml, hown, hts⟩ (c_X10_weekdayOf zo l D cy L0 f0 x2 lx2 ux2 _) (va_cwS 1 hts (gT (inS (mr24 _ (List.mem_of_getElem? (i := 1) rfl)) (mr24 _ (List.mem_of_getElem? (i := 2) rfl)) (mr1 _ (List.mem_of_getElem? (i := 5) rfl)) (mr24 _ (List.mem_of_getElem? (i := 3) rfl)))) rfl rfl rfl (by decide +kernel) ⟨Nat.le_of_ble_eq_true rfl, Nat.le_of_ble_eq_true rfl⟩) (Wd.preS zo hA hZ hw hK) rfl rfl hl.1 rfl (lv_room (Nat.le_of_ble_eq_true rfl)) dX10_isOn_141 ⟨Nat.le_of_ble_eq_true rfl, Nat.le_of_ble_eq_true rfl⟩) (fun x_23 L1 f1 H locs lx_23 ux_23 ex_23 hw => ?_)
      obtain ⟨rfl, rfl, ex_23⟩ := ex_23
      refine lv_ishr hx hb dX10_isOn_144 ?_
      refine q_num (fun x_24 lx_24 ux_24 ex_24 => ?_)
      refine q_iconst hx hb dX10_isOn_145 ?_
      refine lv_iand hx hb dX10_isOn_146 ?_
      refine q_num (fun x_25 lx_25 ux_25 ex_25 => ?_)
      refine q_iconst hx hb dX10_isOn_147 ?_
      refine q_icmp_ne (tgt := 174) hx hb dX10_isOn_148 (by decide) ⟨lx_25, ux_25⟩ ⟨by decide, by decide⟩ (fun c148 => ?_) (fun c148 => ?_)
      · refine q_iconst hx hb dX10_isOn_174 ?_
        exact q_ret_z hx hb hr hlocks hK hAe hw (by omega) (Nat.le_of_ble_eq_true rfl) (Nat.le_of_ble_eq_true rfl) dX10_isOn_175 ⟨rfl, rfl, by omega⟩
      · refine lv_iload_n hx hb dX10_isOn_151 rfl (lv_at hl 6 rfl) ?_
        refine q_iconst hx hb dX10_isOn_152 ?_
        first | refine q_iadd hx hb dX10_isOn_153 ⟨by omega, by omega⟩ (fun x_26 lx_26 ux_26 ex_26 => ?_) | refine q_iaddw hx hb dX10_isOn_153 (fun x_26 lx_26 ux_26 ex_26 => ?_)
        refine q_bipush hx hb dX10_isOn_154 rfl ?_
        first | refine q_idiv hx hb dX10_isOn_156 ⟨lx_26, ux_26⟩ ⟨by decide, by decide⟩ (by omega) (by omega) (fun x_27 lx_27 ux_27 ex_27 => ?_) | refine q_idivw hx hb dX10_isOn_156 ⟨lx_26, ux_26⟩ ⟨by decide, by decide⟩ (by omega) (fun x_27 lx_27 ux_27 ex_27 => ?_)
        refine lv_iload_n hx hb dX10_isOn_157 rfl (lv_at hl 3 rfl) ?_
        refine q_iconst hx hb dX10_isOn_158 ?_
        first | refine q_iadd hx hb dX10_isOn_159 ⟨by omega, by omega⟩ (fun x_28 lx_28 ux_28 ex_28 => ?_) | refine q_iaddw hx hb dX10_isOn_159 (fun x_28 lx_28 ux_28 ex_28 => ?_)
        refine q_bipush hx hb dX10_isOn_160 rfl ?_
        first | refine q_idiv hx hb dX10_isOn_162 ⟨lx_28, ux_28⟩ ⟨by decide, by decide⟩ (by omega) (by omega) (fun x_29 lx_29 ux_29 ex_29 => ?_) | refine q_idivw hx hb dX10_isOn_162 ⟨lx_28, ux_28⟩ ⟨by decide, by decide⟩ (by omega) (fun x_29 lx_29 ux_29 ex_29 => ?_)
        first | refine q_isub hx hb dX10_isOn_163 ⟨by omega, by omega⟩ (fun x_30 lx_30 ux_30 ex_30 => ?_) | refine q_isubw hx hb dX10_isOn_163 (fun x_30 lx_30 ux_30 ex_30 => ?_)
        refine lv_iload hx hb dX10_isOn_164 (lv_at hl 2 rfl) ?_
        first | refine q_irem hx hb dX10_isOn_166 ⟨lx_30, ux_30⟩ ⟨lx_2, ux_2⟩ (by omega) (by omega) (fun x_31 lx_31 ux_31 ex_31 => ?_) | refine q_iremw hx hb dX10_isOn_166 ⟨lx_30, ux_30⟩ ⟨lx_2, ux_2⟩ (by omega) (fun x_31 lx_31 ux_31 ex_31 => ?_)
        refine q_if_ne (tgt := 174) hx hb dX10_isOn_167 (by decide) ⟨lx_31, ux_31⟩ (fun c167 => ?_) (fun c167 => ?_)
        · refine q_iconst hx hb dX10_isOn_174 ?_
          exact q_ret_z hx hb hr hlocks hK hAe hw (by omega) (Nat.le_of_ble_eq_true rfl) (Nat.le_of_ble_eq_true rfl) dX10_isOn_175 ⟨rfl, rfl, by omega⟩
        · refine q_iconst hx hb dX10_isOn_170 ?_
          refine lv_goto (tgt := 175) hx hb dX10_isOn_171 (by decide) ?_
          exact q_ret_z hx hb hr hlocks hK hAe hw (by omega) (Nat.le_of_ble_eq_true rfl) (Nat.le_of_ble_eq_true rfl) dX10_isOn_175 ⟨rfl, rfl, by omega⟩
    · refine lv_tableIn (tgt := 176) (off := 107) hx hb dX10_isOn_69 (by rw [t69]; omega) (by rw [t69]; omega) (by rw [t69, k69]; rfl) (by decide) ?_
      refine lv_iload hx hb dX10_isOn_176 (lv_at hl 0 rfl) ?_
      refine lv_iload hx hb dX10_isOn_178 (lv_at hl 2 rfl) ?_
      first | refine q_irem hx hb dX10_isOn_180 ⟨lx_11, ux_11⟩ ⟨lx_2, ux_2⟩ (by omega) (by omega) (fun x_32 lx_32 ux_32 ex_32 => ?_) | refine q_iremw hx hb dX10_isOn_180 ⟨lx_11, ux_11⟩ ⟨lx_2, ux_2⟩ (by omega) (fun x_32 lx_32 ux_32 ex_32 => ?_)
      refine q_if_ne (tgt := 199) hx hb dX10_isOn_181 (by decide) ⟨lx_32, ux_32⟩ (fun c181 => ?_) (fun c181 => ?_)
      · refine q_iconst hx hb dX10_isOn_199 ?_
        exact q_ret_z hx hb hr hlocks hK hAe hw (by omega) (Nat.le_of_ble_eq_true rfl) (Nat.le_of_ble_eq_true rfl) dX10_isOn_200 ⟨rfl, rfl, by omega⟩
      · refine lv_aload_n hx hb dX10_isOn_184 rfl (lv_at hl 4 rfl) ?_
        refine q_getr (ci := 8) (C := RX10) (T := TX10) (N := 26) hx hb hts (fun w h => List.mem_cons_of_mem _ (mfX100 w h)) hown hK hw hs.1 hs.2.1 rfl 2 (by decide) (hts _ (List.mem_cons_of_mem _ (mr3 _ (List.mem_of_getElem? (i := 12) rfl)))) (fun _ h => h) rfl (hs.2.2.1 2 rfl).1 dX10_isOn_185 ?_
        refine lv_iload_n hx hb dX10_isOn_188 rfl (lv_at hl 6 rfl) ?_
        refine q_iald hx hb hK hw (hs.2.2.1 2 rfl).2.1 1 (hs.2.2.1 2 rfl).2.2 rfl ⟨lx2, ux2⟩ (by omega) (by show _ < ((36525 : Nat) : Int); omega) dX10_isOn_189 (fun x_33 lx_33 ux_33 ex_33 => ?_)
        refine lv_iload hx hb dX10_isOn_190 (lv_at hl 1 rfl) ?_
        refine q_icmp_ne (tgt := 199) hx hb dX10_isOn_192 (by decide) ⟨lx_33, ux_33⟩ ⟨lx_3, ux_3⟩ (fun c192 => ?_) (fun c192 => ?_)
        · refine q_iconst hx hb dX10_isOn_199 ?_
          exact q_ret_z hx hb hr hlocks hK hAe hw (by omega) (Nat.le_of_ble_eq_true rfl) (Nat.le_of_ble_eq_true rfl) dX10_isOn_200 ⟨rfl, rfl, by omega⟩
        · refine q_iconst hx hb dX10_isOn_195 ?_
          refine lv_goto (tgt := 200) hx hb dX10_isOn_196 (by decide) ?_
          exact q_ret_z hx hb hr hlocks hK hAe hw (by omega) (Nat.le_of_ble_eq_true rfl) (Nat.le_of_ble_eq_true rfl) dX10_isOn_200 ⟨rfl, rfl, by omega⟩
    · refine lv_tableIn (tgt := 201) (off := 132) hx hb dX10_isOn_69 (by rw [t69]; omega) (by rw [t69]; omega) (by rw [t69, k69]; rfl) (by decide) ?_
      refine lv_iload hx hb dX10_isOn_201 (lv_at hl 0 rfl) ?_
      refine lv_iload hx hb dX10_isOn_203 (lv_at hl 2 rfl) ?_
      first | refine q_irem hx hb dX10_isOn_205 ⟨lx_11, ux_11⟩ ⟨lx_2, ux_2⟩ (by omega) (by omega) (fun x_34 lx_34 ux_34 ex_34 => ?_) | refine q_iremw hx hb dX10_isOn_205 ⟨lx_11, ux_11⟩ ⟨lx_2, ux_2⟩ (by omega) (fun x_34 lx_34 ux_34 ex_34 => ?_)
      refine q_if_ne (tgt := 233) hx hb dX10_isOn_206 (by decide) ⟨lx_34, ux_34⟩ (fun c206 => ?_) (fun c206 => ?_)
      · refine q_iconst hx hb dX10_isOn_233 ?_
        exact q_ret_z hx hb hr hlocks hK hAe hw (by omega) (Nat.le_of_ble_eq_true rfl) (Nat.le_of_ble_eq_true rfl) dX10_isOn_234 ⟨rfl, rfl, by omega⟩
      · refine lv_aload_n hx hb dX10_isOn_209 rfl (lv_at hl 4 rfl) ?_
        refine q_getr (ci := 8) (C := RX10) (T := TX10) (N := 26) hx hb hts (fun w h => List.mem_cons_of_mem _ (mfX100 w h)) hown hK hw hs.1 hs.2.1 rfl 2 (by decide) (hts _ (List.mem_cons_of_mem _ (mr3 _ (List.mem_of_getElem? (i := 12) rfl)))) (fun _ h => h) rfl (hs.2.2.1 2 rfl).1 dX10_isOn_210 ?_
        refine lv_iload_n hx hb dX10_isOn_213 rfl (lv_at hl 6 rfl) ?_
        refine q_iald hx hb hK hw (hs.2.2.1 2 rfl).2.1 1 (hs.2.2.1 2 rfl).2.2 rfl ⟨lx2, ux2⟩ (by omega) (by show _ < ((36525 : Nat) : Int); omega) dX10_isOn_214 (fun x_35 lx_35 ux_35 ex_35 => ?_)
        refine lv_aload_n hx hb dX10_isOn_215 rfl (lv_at hl 4 rfl) ?_
        refine q_getr (ci := 8) (C := RX10) (T := TX10) (N := 26) hx hb hts (fun w h => List.mem_cons_of_mem _ (mfX100 w h)) hown hK hw hs.1 hs.2.1 rfl 3 (by decide) (hts _ (List.mem_cons_of_mem _ (mr3 _ (List.mem_of_getElem? (i := 13) rfl)))) (fun _ h => h) rfl (hs.2.2.1 3 rfl).1 dX10_isOn_216 ?_
        refine lv_iload_n hx hb dX10_isOn_219 rfl (lv_at hl 6 rfl) ?_
        refine q_iald hx hb hK hw (hs.2.2.1 3 rfl).2.1 1 (hs.2.2.1 3 rfl).2.2 rfl ⟨lx2, ux2⟩ (by omega) (by show _ < ((36525 : Nat) : Int); omega) dX10_isOn_220 (fun x_36 lx_36 ux_36 ex_36 => ?_)
        refine lv_iload hx hb dX10_isOn_221 (lv_at hl 1 rfl) ?_
        first | refine q_isub hx hb dX10_isOn_223 ⟨by omega, by omega⟩ (fun x_37 lx_37 ux_37 ex_37 => ?_) | refine q_isubw hx hb dX10_isOn_223 (fun x_37 lx_37 ux_37 ex_37 => ?_)
        refine q_iconst hx hb dX10_isOn_224 ?_
        first | refine q_iadd hx hb dX10_isOn_225 ⟨by omega, by omega⟩ (fun x_38 lx_38 ux_38 ex_38 => ?_) | refine q_iaddw hx hb dX10_isOn_225 (fun x_38 lx_38 ux_38 ex_38 => ?_)
        refine q_icmp_ne (tgt := 233) hx hb dX10_isOn_226 (by decide) ⟨lx_35, ux_35⟩ ⟨lx_38, ux_38⟩ (fun c226 => ?_) (fun c226 => ?_)
        · refine q_iconst hx hb dX10_isOn_233 ?_
          exact q_ret_z hx hb hr hlocks hK hAe hw (by omega) (Nat.le_of_ble_eq_true rfl) (Nat.le_of_ble_eq_true rfl) dX10_isOn_234 ⟨rfl, rfl, by omega⟩
        · refine q_iconst hx hb dX10_isOn_229 ?_
          refine lv_goto (tgt := 234) hx hb dX10_isOn_230 (by decide) ?_
          exact q_ret_z hx hb hr hlocks hK hAe hw (by omega) (Nat.le_of_ble_eq_true rfl) (Nat.le_of_ble_eq_true rfl) dX10_isOn_234 ⟨rfl, rfl, by omega⟩
    · refine lv_tableIn (tgt := 235) (off := 166) hx hb dX10_isOn_69 (by rw [t69]; omega) (by rw [t69]; omega) (by rw [t69, k69]; rfl) (by decide) ?_
      refine lv_iload hx hb dX10_isOn_235 (lv_at hl 0 rfl) ?_
      refine lv_iload hx hb dX10_isOn_237 (lv_at hl 2 rfl) ?_
      first | refine q_irem hx hb dX10_isOn_239 ⟨lx_11, ux_11⟩ ⟨lx_2, ux_2⟩ (by omega) (by omega) (fun x_39 lx_39 ux_39 ex_39 => ?_) | refine q_iremw hx hb dX10_isOn_239 ⟨lx_11, ux_11⟩ ⟨lx_2, ux_2⟩ (by omega) (fun x_39 lx_39 ux_39 ex_39 => ?_)
      refine q_if_ne (tgt := 279) hx hb dX10_isOn_240 (by decide) ⟨lx_39, ux_39⟩ (fun c240 => ?_) (fun c240 => ?_)
      · refine q_iconst hx hb dX10_isOn_279 ?_
        exact q_ret_z hx hb hr hlocks hK hAe hw (by omega) (Nat.le_of_ble_eq_true rfl) (Nat.le_of_ble_eq_true rfl) dX10_isOn_280 ⟨rfl, rfl, by omega⟩
      · refine lv_iload_n hx hb dX10_isOn_243 rfl (lv_at hl 6 rfl) ?_
        refine q_call_i hA hK hw (va_runS (As := [.int (iI x2)]) (rest := []) ⟨hx, hb, hml, hown, hts⟩ (c_X10_weekdayOf zo l D cy L0 f0 x2 lx2 ux2 _) (va_cwS 1 hts (gT (inS (mr24 _ (List.mem_of_getElem? (i := 1) rfl)) (mr24 _ (List.mem_of_getElem? (i := 2) rfl)) (mr1 _ (List.mem_of_getElem? (i := 5) rfl)) (mr24 _ (List.mem_of_getElem? (i := 3) rfl)))) rfl rfl rfl (by decide +kernel) ⟨Nat.le_of_ble_eq_true rfl, Nat.le_of_ble_eq_true rfl⟩) (Wd.preS zo hA hZ hw hK) rfl rfl hl.1 rfl (lv_room (Nat.le_of_ble_eq_true rfl)) dX10_isOn_244 ⟨Nat.le_of_ble_eq_true rfl, Nat.le_of_ble_eq_true rfl⟩) (fun x_40 L1 f1 H locs lx_40 ux_40 ex_40 hw => ?_)
        obtain ⟨rfl, rfl, ex_40⟩ := ex_40
        refine lv_aload_n hx hb dX10_isOn_247 rfl (lv_at hl 4 rfl) ?_
        refine lv_iload_n hx hb dX10_isOn_248 rfl (lv_at hl 5 rfl) ?_
        refine q_bipush hx hb dX10_isOn_249 rfl ?_
        refine q_call_i hA hK hw (va_runV (As := [.int (iI x1), .int (iI 7)]) (rest := [.int (iI x_40)]) ⟨hx, hb, hml, hown, hts⟩ (c_X10_get zo l D cy L0 f0 a0 x1 lx1 ux1 7 (by decide) (by decide) ad hs (by omega) (by omega) (by omega) (by omega) _) (cwV 2 hts (gT (inV (mr25 _ (List.mem_of_getElem? (i := 0) rfl)) (mr25 _ (List.mem_of_getElem? (i := 1) rfl)) (mr25 _ (List.mem_of_getElem? (i := 2) rfl)) (mr1 _ (List.mem_of_getElem? (i := 5) rfl)) (mr25 _ (List.mem_of_getElem? (i := 3) rfl)))) rfl rfl rfl (by decide +kernel) ⟨Nat.le_of_ble_eq_true rfl, Nat.le_of_ble_eq_true rfl⟩) (Wd.preV zo hA hZ hw hK hs.1 hs.2.1 rfl) rfl rfl hl.1 rfl (lv_room (Nat.le_of_ble_eq_true rfl)) dX10_isOn_251 ⟨Nat.le_of_ble_eq_true rfl, Nat.le_of_ble_eq_true rfl⟩) (fun x_41 L1 f1 H locs lx_41 ux_41 ex_41 hw => ?_)
        obtain ⟨rfl, rfl, ex_41⟩ := ex_41
        refine q_icmp_ne (tgt := 279) hx hb dX10_isOn_254 (by decide) ⟨lx_40, ux_40⟩ ⟨lx_41, ux_41⟩ (fun c254 => ?_) (fun c254 => ?_)
        · refine q_iconst hx hb dX10_isOn_279 ?_
          exact q_ret_z hx hb hr hlocks hK hAe hw (by omega) (Nat.le_of_ble_eq_true rfl) (Nat.le_of_ble_eq_true rfl) dX10_isOn_280 ⟨rfl, rfl, by omega⟩
        · refine lv_aload_n hx hb dX10_isOn_257 rfl (lv_at hl 4 rfl) ?_
          refine q_getr (ci := 8) (C := RX10) (T := TX10) (N := 26) hx hb hts (fun w h => List.mem_cons_of_mem _ (mfX100 w h)) hown hK hw hs.1 hs.2.1 rfl 2 (by decide) (hts _ (List.mem_cons_of_mem _ (mr3 _ (List.mem_of_getElem? (i := 12) rfl)))) (fun _ h => h) rfl (hs.2.2.1 2 rfl).1 dX10_isOn_258 ?_
          refine lv_iload_n hx hb dX10_isOn_261 rfl (lv_at hl 6 rfl) ?_
          refine q_iald hx hb hK hw (hs.2.2.1 2 rfl).2.1 1 (hs.2.2.1 2 rfl).2.2 rfl ⟨lx2, ux2⟩ (by omega) (by show _ < ((36525 : Nat) : Int); omega) dX10_isOn_262 (fun x_42 lx_42 ux_42 ex_42 => ?_)
          refine q_iconst hx hb dX10_isOn_263 ?_
          first | refine q_isub hx hb dX10_isOn_264 ⟨by omega, by omega⟩ (fun x_43 lx_43 ux_43 ex_43 => ?_) | refine q_isubw hx hb dX10_isOn_264 (fun x_43 lx_43 ux_43 ex_43 => ?_)
          refine q_bipush hx hb dX10_isOn_265 rfl ?_
          first | refine q_idiv hx hb dX10_isOn_267 ⟨lx_43, ux_43⟩ ⟨by decide, by decide⟩ (by omega) (by omega) (fun x_44 lx_44 ux_44 ex_44 => ?_) | refine q_idivw hx hb dX10_isOn_267 ⟨lx_43, ux_43⟩ ⟨by decide, by decide⟩ (by omega) (fun x_44 lx_44 ux_44 ex_44 => ?_)
          refine q_iconst hx hb dX10_isOn_268 ?_
          first | refine q_iadd hx hb dX10_isOn_269 ⟨by omega, by omega⟩ (fun x_45 lx_45 ux_45 ex_45 => ?_) | refine q_iaddw hx hb dX10_isOn_269 (fun x_45 lx_45 ux_45 ex_45 => ?_)
          refine lv_iload hx hb dX10_isOn_270 (lv_at hl 1 rfl) ?_
          refine q_icmp_ne (tgt := 279) hx hb dX10_isOn_272 (by decide) ⟨lx_45, ux_45⟩ ⟨lx_3, ux_3⟩ (fun c272 => ?_) (fun c272 => ?_)
          · refine q_iconst hx hb dX10_isOn_279 ?_
            exact q_ret_z hx hb hr hlocks hK hAe hw (by omega) (Nat.le_of_ble_eq_true rfl) (Nat.le_of_ble_eq_true rfl) dX10_isOn_280 ⟨rfl, rfl, by omega⟩
          · refine q_iconst hx hb dX10_isOn_275 ?_
            refine lv_goto (tgt := 280) hx hb dX10_isOn_276 (by decide) ?_
            exact q_ret_z hx hb hr hlocks hK hAe hw (by omega) (Nat.le_of_ble_eq_true rfl) (Nat.le_of_ble_eq_true rfl) dX10_isOn_280 ⟨rfl, rfl, by omega⟩
    · refine lv_tableIn (tgt := 281) (off := 212) hx hb dX10_isOn_69 (by rw [t69]; omega) (by rw [t69]; omega) (by rw [t69, k69]; rfl) (by decide) ?_
      refine lv_iload hx hb dX10_isOn_281 (lv_at hl 0 rfl) ?_
      refine lv_iload hx hb dX10_isOn_283 (lv_at hl 2 rfl) ?_
      first | refine q_irem hx hb dX10_isOn_285 ⟨lx_11, ux_11⟩ ⟨lx_2, ux_2⟩ (by omega) (by omega) (fun x_46 lx_46 ux_46 ex_46 => ?_) | refine q_iremw hx hb dX10_isOn_285 ⟨lx_11, ux_11⟩ ⟨lx_2, ux_2⟩ (by omega) (fun x_46 lx_46 ux_46 ex_46 => ?_)
      refine q_if_ne (tgt := 320) hx hb dX10_isOn_286 (by decide) ⟨lx_46, ux_46⟩ (fun c286 => ?_) (fun c286 => ?_)
      · refine q_iconst hx hb dX10_isOn_320 ?_
        exact q_ret_z hx hb hr hlocks hK hAe hw (by omega) (Nat.le_of_ble_eq_true rfl) (Nat.le_of_ble_eq_true rfl) dX10_isOn_321 ⟨rfl, rfl, by omega⟩
      · refine lv_iload_n hx hb dX10_isOn_289 rfl (lv_at hl 6 rfl) ?_
        refine q_call_i hA hK hw (va_runS (As := [.int (iI x2)]) (rest := []) ⟨hx, hb, hml, hown, hts⟩ (c_X10_weekdayOf zo l D cy L0 f0 x2 lx2 ux2 _) (va_cwS 1 hts (gT (inS (mr24 _ (List.mem_of_getElem? (i := 1) rfl)) (mr24 _ (List.mem_of_getElem? (i := 2) rfl)) (mr1 _ (List.mem_of_getElem? (i := 5) rfl)) (mr24 _ (List.mem_of_getElem? (i := 3) rfl)))) rfl rfl rfl (by decide +kernel) ⟨Nat.le_of_ble_eq_true rfl, Nat.le_of_ble_eq_true rfl⟩) (Wd.preS zo hA hZ hw hK) rfl rfl hl.1 rfl (lv_room (Nat.le_of_ble_eq_true rfl)) dX10_isOn_290 ⟨Nat.le_of_ble_eq_true rfl, Nat.le_of_ble_eq_true rfl⟩) (fun x_47 L1 f1 H locs lx_47 ux_47 ex_47 hw => ?_)
        obtain ⟨rfl, rfl, ex_47⟩ := ex_47
        refine lv_iload hx hb dX10_isOn_293 (lv_at hl 1 rfl) ?_
        refine q_icmp_ne (tgt := 320) hx hb dX10_isOn_295 (by decide) ⟨lx_47, ux_47⟩ ⟨lx_3, ux_3⟩ (fun c295 => ?_) (fun c295 => ?_)
        · refine q_iconst hx hb dX10_isOn_320 ?_
          exact q_ret_z hx hb hr hlocks hK hAe hw (by omega) (Nat.le_of_ble_eq_true rfl) (Nat.le_of_ble_eq_true rfl) dX10_isOn_321 ⟨rfl, rfl, by omega⟩
        · refine lv_aload_n hx hb dX10_isOn_298 rfl (lv_at hl 4 rfl) ?_
          refine q_getr (ci := 8) (C := RX10) (T := TX10) (N := 26) hx hb hts (fun w h => List.mem_cons_of_mem _ (mfX100 w h)) hown hK hw hs.1 hs.2.1 rfl 2 (by decide) (hts _ (List.mem_cons_of_mem _ (mr3 _ (List.mem_of_getElem? (i := 12) rfl)))) (fun _ h => h) rfl (hs.2.2.1 2 rfl).1 dX10_isOn_299 ?_
          refine lv_iload_n hx hb dX10_isOn_302 rfl (lv_at hl 6 rfl) ?_
          refine q_iald hx hb hK hw (hs.2.2.1 2 rfl).2.1 1 (hs.2.2.1 2 rfl).2.2 rfl ⟨lx2, ux2⟩ (by omega) (by show _ < ((36525 : Nat) : Int); omega) dX10_isOn_303 (fun x_48 lx_48 ux_48 ex_48 => ?_)
          refine q_bipush hx hb dX10_isOn_304 rfl ?_
          first | refine q_iadd hx hb dX10_isOn_306 ⟨by omega, by omega⟩ (fun x_49 lx_49 ux_49 ex_49 => ?_) | refine q_iaddw hx hb dX10_isOn_306 (fun x_49 lx_49 ux_49 ex_49 => ?_)
          refine lv_aload_n hx hb dX10_isOn_307 rfl (lv_at hl 4 rfl) ?_
          refine q_getr (ci := 8) (C := RX10) (T := TX10) (N := 26) hx hb hts (fun w h => List.mem_cons_of_mem _ (mfX100 w h)) hown hK hw hs.1 hs.2.1 rfl 3 (by decide) (hts _ (List.mem_cons_of_mem _ (mr3 _ (List.mem_of_getElem? (i := 13) rfl)))) (fun _ h => h) rfl (hs.2.2.1 3 rfl).1 dX10_isOn_308 ?_
          refine lv_iload_n hx hb dX10_isOn_311 rfl (lv_at hl 6 rfl) ?_
          refine q_iald hx hb hK hw (hs.2.2.1 3 rfl).2.1 1 (hs.2.2.1 3 rfl).2.2 rfl ⟨lx2, ux2⟩ (by omega) (by show _ < ((36525 : Nat) : Int); omega) dX10_isOn_312 (fun x_50 lx_50 ux_50 ex_50 => ?_)
          refine q_icmp_le (tgt := 320) hx hb dX10_isOn_313 (by decide) ⟨lx_49, ux_49⟩ ⟨lx_50, ux_50⟩ (fun c313 => ?_) (fun c313 => ?_)
          · refine q_iconst hx hb dX10_isOn_320 ?_
            exact q_ret_z hx hb hr hlocks hK hAe hw (by omega) (Nat.le_of_ble_eq_true rfl) (Nat.le_of_ble_eq_true rfl) dX10_isOn_321 ⟨rfl, rfl, by omega⟩
          · refine q_iconst hx hb dX10_isOn_316 ?_
            refine lv_goto (tgt := 321) hx hb dX10_isOn_317 (by decide) ?_
            exact q_ret_z hx hb hr hlocks hK hAe hw (by omega) (Nat.le_of_ble_eq_true rfl) (Nat.le_of_ble_eq_true rfl) dX10_isOn_321 ⟨rfl, rfl, by omega⟩
  · refine q_iconst hx hb dX10_isOn_29 ?_
    exact q_ret_z hx hb hr hlocks hK hAe hw (by omega) (Nat.le_of_ble_eq_true rfl) (Nat.le_of_ble_eq_true rfl) dX10_isOn_30 ⟨rfl, rfl, by omega⟩
