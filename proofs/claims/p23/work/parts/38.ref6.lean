set_option maxHeartbeats 4000000 in
set_option maxRecDepth 100000 in
theorem c_X10_of {Z : Zt} (zo : Zok Z) (l : Launch) (D : va_G) (cy : Cy) (L0 : List Nat) (f0 : Nat → va_E) (a0 : Nat) (x1 : Int) (lx1 : -2147483648 ≤ x1) (ux1 : x1 ≤ 2147483647) (x2 : Int) (lx2 : -2147483648 ≤ x2) (ux2 : x2 ≤ 2147483647) (ad : Nat → Nat) (hs : MS cy L0 f0 a0 ad) (hv : MV f0 a0 ad) : Ci Z l yX10_of (Cond.code yX10_of cX10_of 4 (some .int) :: TB) ({ frames := 3, cells := 0, slots := 0, locals := 74 } : Room) 0 0 D (tq cy) [.ref a0, .int (iI x1), .int (iI x2)] L0 f0 (fun (r : Int) (L1 : List Nat) (f1 : Nat → va_E) => L0 = L1 ∧ MS cy L0 f1 a0 ad ∧ Kp a0 ad [12, 13] [10] f0 f1 ∧ (True)) := by
  refine Ci.enter (cc := cX10_of) (n := 4) rfl (plainFor_of_name (by decide)) (Nat.le_of_ble_eq_true rfl) ?_
  intro p e s m below meth c ls A hx hb hr hts hown hlocks hnm hml hK hA hAe hw hZ hl
  have hown : s.vm.findClass RX10 = some m.cls := hown
  have hl : lv_has ls 4 [(0, .ref a0), (1, .int (iI x1)), (2, .int (iI x2))] := hl
  have hN : ZN s := (zo.2.2.2.2 _ _ _ hZ).2
  have hE : Kp a0 ad [12, 13] [10] f0 f0 := Kp.refl _ _ _ _ _
  have m5 := hv.1
  have m6 := hv.2.1
  refine lv_aload_n hx hb dX10_of_0 rfl (lv_at hl 0 rfl) ?_
  refine q_iconst hx hb dX10_of_1 ?_
  refine q_puti (ci := 8) (C := RX10) (T := TX10) (N := 26) hx hb hts (fun w h => List.mem_cons_of_mem _ (mfX100 w h)) hown hK hw hs.1 hs.2.1 rfl 10 (by decide) (hts _ (List.mem_cons_of_mem _ (mr4 _ (List.mem_of_getElem? (i := 19) rfl)))) (fun _ h => h) tyX10 tyX10_ok nmX10 rfl (ty := .int) (by decide +kernel) rfl rfl dX10_of_2 (fun H locs hw => ?_)
  obtain ⟨f_1, ef_1⟩ : ∃ g : Nat → va_E, g = pU f0 a0 10 (.int (iI 0)) := ⟨_, rfl⟩
  have v10_f_1 : fI f_1 a0 10 = 0 := by rw [ef_1]; exact fI_pU_self hs.2.1 rfl ⟨by decide, by decide⟩
  have t5_f_1 : fI f_1 a0 5 = fI f0 a0 5 := by rw [ef_1]; exact fI_pU (Or.inr (by decide))
  have hE := hE.trans (show Kp a0 ad [12, 13] [10] f0 f_1 by rw [ef_1]; exact Kp_pU hs (by decide))
  have hs : MS cy L0 f_1 a0 ad := by rw [ef_1]; exact MS_pU hs rfl
  rw [← ef_1] at hw
  refine lv_aload_n hx hb dX10_of_5 rfl (lv_at hl 0 rfl) ?_
  refine lv_iload_n hx hb dX10_of_6 rfl (lv_at hl 1 rfl) ?_
  refine q_call_i hA hK hw (va_runV (As := [.int (iI x1)]) (rest := []) ⟨hx, hb, hml, hown, hts⟩ (c_X10_isBooking zo l D cy L0 f_1 a0 x1 lx1 ux1 ad hs (by omega) _) (cwV 1 hts (gT (inV (mr22 _ (List.mem_of_getElem? (i := 21) rfl)) (mr22 _ (List.mem_of_getElem? (i := 22) rfl)) (mr22 _ (List.mem_of_getElem? (i := 23) rfl)) (mr1 _ (List.mem_of_getElem? (i := 5) rfl)) (mr23 _ (List.mem_of_getElem? (i := 0) rfl)))) rfl rfl rfl (by decide +kernel) ⟨Nat.le_of_ble_eq_true rfl, Nat.le_of_ble_eq_true rfl⟩) (Wd.preV zo hA hZ hw hK hs.1 hs.2.1 rfl) rfl rfl hl.1 rfl (lv_room (Nat.le_of_ble_eq_true rfl)) dX10_of_7 ⟨Nat.le_of_ble_eq_true rfl, Nat.le_of_ble_eq_true rfl⟩) (fun x_2 L1 f1 H locs lx_2 ux_2 ex_2 hw => ?_)
  obtain ⟨rfl, rfl, ex_2⟩ := ex_2
  refine q_if_eq (tgt := 23) hx hb dX10_of_10 (by decide) ⟨lx_2, ux_2⟩ (fun c10 => ?_) (fun c10 => ?_)
  · refine q_bipush hx hb dX10_of_23 rfl ?_
    exact q_ret_i hx hb hr hlocks hK hAe hw ⟨by decide, by decide⟩ (Nat.le_of_ble_eq_true rfl) (Nat.le_of_ble_eq_true rfl) dX10_of_25 (by exact ⟨rfl, hs, hE, by first | trivial | omega⟩)
  · refine lv_iload_n hx hb dX10_of_13 rfl (lv_at hl 2 rfl) ?_
    refine q_iconst hx hb dX10_of_14 ?_
    refine q_bipush hx hb dX10_of_15 rfl ?_
    refine q_call_i hA hK hw (va_runS (As := [.int (iI x2), .int (iI 0), .int (iI 13)]) (rest := []) ⟨hx, hb, hml, hown, hts⟩ (c_X10_within zo l D cy L0 f_1 x2 lx2 ux2 0 (by decide) (by decide) 13 (by decide) (by decide) _) (va_cwS 3 hts (gT (inS (mr5 _ (List.mem_of_getElem? (i := 9) rfl)) (mr5 _ (List.mem_of_getElem? (i := 10) rfl)) (mr1 _ (List.mem_of_getElem? (i := 5) rfl)) (mr5 _ (List.mem_of_getElem? (i := 11) rfl)))) rfl rfl rfl (by decide +kernel) ⟨Nat.le_of_ble_eq_true rfl, Nat.le_of_ble_eq_true rfl⟩) (Wd.preS zo hA hZ hw hK) rfl rfl hl.1 rfl (lv_room (Nat.le_of_ble_eq_true rfl)) dX10_of_17 ⟨Nat.le_of_ble_eq_true rfl, Nat.le_of_ble_eq_true rfl⟩) (fun x_3 L1 f1 H locs lx_3 ux_3 ex_3 hw => ?_)
    obtain ⟨rfl, rfl, ex_3⟩ := ex_3
    try have rv_x1 := (show MV f_1 a0 ad by first | exact hv | exact hv.kp hE (by decide) (by decide)).row x1 (by omega) (by omega)
    refine q_if_ne (tgt := 26) hx hb dX10_of_20 (by decide) ⟨lx_3, ux_3⟩ (fun c20 => ?_) (fun c20 => ?_)
    · refine lv_iload_n hx hb dX10_of_26 rfl (lv_at hl 2 rfl) ?_
      refine q_bipush hx hb dX10_of_27 rfl ?_
      refine q_icmp_ge (tgt := 39) hx hb dX10_of_29 (by decide) ⟨lx2, ux2⟩ ⟨by decide, by decide⟩ (fun c29 => ?_) (fun c29 => ?_)
      · refine lv_iload_n hx hb dX10_of_39 rfl (lv_at hl 2 rfl) ?_
        refine q_bipush hx hb dX10_of_40 rfl ?_
        refine q_icmp_ge (tgt := 62) hx hb dX10_of_42 (by decide) ⟨lx2, ux2⟩ ⟨by decide, by decide⟩ (fun c42 => ?_) (fun c42 => ?_)
        · refine lv_aload_n hx hb dX10_of_62 rfl (lv_at hl 0 rfl) ?_
          refine lv_iload_n hx hb dX10_of_63 rfl (lv_at hl 1 rfl) ?_
          refine q_iconst hx hb dX10_of_64 ?_
          refine q_call_i hA hK hw (va_runV (As := [.int (iI x1), .int (iI 0)]) (rest := []) ⟨hx, hb, hml, hown, hts⟩ (c_X10_laysKeys zo l D cy L0 f_1 a0 x1 lx1 ux1 0 (by decide) (by decide) ad hs (by omega) (by omega) (by omega) (by omega) (by omega) (by omega) (by omega) (by omega) (by omega) (by omega) (by omega) _) (cwV 2 hts (gT (inV (mr24 _ (List.mem_of_getElem? (i := 20) rfl)) (mr24 _ (List.mem_of_getElem? (i := 21) rfl)) (mr24 _ (List.mem_of_getElem? (i := 22) rfl)) (mr1 _ (List.mem_of_getElem? (i := 5) rfl)) (mr24 _ (List.mem_of_getElem? (i := 23) rfl)))) rfl rfl rfl (by decide +kernel) ⟨Nat.le_of_ble_eq_true rfl, Nat.le_of_ble_eq_true rfl⟩) (Wd.preV zo hA hZ hw hK hs.1 hs.2.1 rfl) rfl rfl hl.1 rfl (lv_room (Nat.le_of_ble_eq_true rfl)) dX10_of_65 ⟨Nat.le_of_ble_eq_true rfl, Nat.le_of_ble_eq_true rfl⟩) (fun x_4 L1 f_5 H locs lx_4 ux_4 ex_4 hw => ?_)
          obtain ⟨rfl, hs, hX, ex_4⟩ := ex_4
          have hE := hE.trans (hX.mono (rs' := [12, 13]) (fs' := [10]) (by decide) (by decide))
          have t5_f_5 : fI f_5 a0 5 = fI f_1 a0 5 := hX.2 5 (by decide)
          refine lv_istore_n (lv' := [(3, .int (iI x_4)), (0, .ref a0), (1, .int (iI x1)), (2, .int (iI x2))]) hx hb dX10_of_68 rfl hl (by decide) rfl (fun ls hl => ?_)
          refine lv_iload_n hx hb dX10_of_69 rfl (lv_at hl 0 rfl) ?_
          refine q_if_ne (tgt := 77) hx hb dX10_of_70 (by decide) ⟨lx_4, ux_4⟩ (fun c70 => ?_) (fun c70 => ?_)
          · refine lv_iload_n hx hb dX10_of_77 rfl (lv_at hl 3 rfl) ?_
            refine q_bipush hx hb dX10_of_78 rfl ?_
            refine q_icmp_ne (tgt := 92) hx hb dX10_of_80 (by decide) ⟨lx2, ux2⟩ ⟨by decide, by decide⟩ (fun c80 => ?_) (fun c80 => ?_)
            · refine lv_aload_n hx hb dX10_of_92 rfl (lv_at hl 1 rfl) ?_
              refine q_getr (ci := 8) (C := RX10) (T := TX10) (N := 26) hx hb hts (fun w h => List.mem_cons_of_mem _ (mfX100 w h)) hown hK hw hs.1 hs.2.1 rfl 12 (by decide) (hts _ (List.mem_cons_of_mem _ (mr3 _ (List.mem_of_getElem? (i := 20) rfl)))) (fun _ h => h) rfl (hs.2.2.1 12 rfl).1 dX10_of_93 ?_
              refine lv_iload_n hx hb dX10_of_96 rfl (lv_at hl 0 rfl) ?_
              refine q_iconst hx hb dX10_of_97 ?_
              first | refine q_isub hx hb dX10_of_98 ⟨by omega, by omega⟩ (fun x_6 lx_6 ux_6 ex_6 => ?_) | refine q_isubw hx hb dX10_of_98 (fun x_6 lx_6 ux_6 ex_6 => ?_)
              refine q_iald hx hb hK hw (hs.2.2.1 12 rfl).2.1 1 (hs.2.2.1 12 rfl).2.2 rfl ⟨lx_6, ux_6⟩ (by omega) (by show _ < ((73050 : Nat) : Int); omega) dX10_of_99 (fun x_7 lx_7 ux_7 ex_7 => ?_)
              exact q_ret_i hx hb hr hlocks hK hAe hw ⟨lx_7, ux_7⟩ (Nat.le_of_ble_eq_true rfl) (Nat.le_of_ble_eq_true rfl) dX10_of_100 (by exact ⟨rfl, hs, hE, by first | trivial | omega⟩)
            · refine lv_aload_n hx hb dX10_of_83 rfl (lv_at hl 1 rfl) ?_
              refine q_getr (ci := 8) (C := RX10) (T := TX10) (N := 26) hx hb hts (fun w h => List.mem_cons_of_mem _ (mfX100 w h)) hown hK hw hs.1 hs.2.1 rfl 12 (by decide) (hts _ (List.mem_cons_of_mem _ (mr3 _ (List.mem_of_getElem? (i := 20) rfl)))) (fun _ h => h) rfl (hs.2.2.1 12 rfl).1 dX10_of_84 ?_
              refine q_iconst hx hb dX10_of_87 ?_
              refine q_iald hx hb hK hw (hs.2.2.1 12 rfl).2.1 1 (hs.2.2.1 12 rfl).2.2 rfl ⟨by decide, by decide⟩ (by omega) (by show _ < ((73050 : Nat) : Int); omega) dX10_of_88 (fun x_8 lx_8 ux_8 ex_8 => ?_)
              refine lv_goto (tgt := 100) hx hb dX10_of_89 (by decide) ?_
              exact q_ret_i hx hb hr hlocks hK hAe hw ⟨lx_8, ux_8⟩ (Nat.le_of_ble_eq_true rfl) (Nat.le_of_ble_eq_true rfl) dX10_of_100 (by exact ⟨rfl, hs, hE, by first | trivial | omega⟩)
          · refine q_iconst hx hb dX10_of_73 ?_
            refine lv_goto (tgt := 100) hx hb dX10_of_74 (by decide) ?_
            exact q_ret_i hx hb hr hlocks hK hAe hw ⟨by decide, by decide⟩ (Nat.le_of_ble_eq_true rfl) (Nat.le_of_ble_eq_true rfl) dX10_of_100 (by exact ⟨rfl, hs, hE, by first | trivial | omega⟩)
        · refine lv_aload_n hx hb dX10_of_45 rfl (lv_at hl 0 rfl) ?_
          refine lv_iload_n hx hb dX10_of_46 rfl (lv_at hl 1 rfl) ?_
          refine lv_iload_n hx hb dX10_of_47 rfl (lv_at hl 2 rfl) ?_
          refine q_bipush hx hb dX10_of_48 rfl ?_
          refine q_icmp_ne (tgt := 57) hx hb dX10_of_50 (by decide) ⟨lx2, ux2⟩ ⟨by decide, by decide⟩ (fun c50 => ?_) (fun c50 => ?_)
          · refine q_iconst hx hb dX10_of_57 ?_
            refine q_call_i hA hK hw (va_runV (As := [.int (iI x1), .int (iI 0)]) (rest := []) ⟨hx, hb, hml, hown, hts⟩ (c_X10_oddMany zo l D cy L0 f_1 a0 x1 lx1 ux1 0 (by decide) (by decide) ad hs (by omega) (by omega) (by omega) (by omega) _) (cwV 2 hts (gT (inV (mr44 _ (List.mem_of_getElem? (i := 10) rfl)) (mr44 _ (List.mem_of_getElem? (i := 11) rfl)) (mr44 _ (List.mem_of_getElem? (i := 12) rfl)) (mr1 _ (List.mem_of_getElem? (i := 5) rfl)) (mr44 _ (List.mem_of_getElem? (i := 13) rfl)))) rfl rfl rfl (by decide +kernel) ⟨Nat.le_of_ble_eq_true rfl, Nat.le_of_ble_eq_true rfl⟩) (Wd.preV zo hA hZ hw hK hs.1 hs.2.1 rfl) rfl rfl hl.1 rfl (lv_room (Nat.le_of_ble_eq_true rfl)) dX10_of_58 ⟨Nat.le_of_ble_eq_true rfl, Nat.le_of_ble_eq_true rfl⟩) (fun x_9 L1 f1 H locs lx_9 ux_9 ex_9 hw => ?_)
            obtain ⟨rfl, rfl, ex_9⟩ := ex_9
            exact q_ret_i hx hb hr hlocks hK hAe hw ⟨lx_9, ux_9⟩ (Nat.le_of_ble_eq_true rfl) (Nat.le_of_ble_eq_true rfl) dX10_of_61 (by exact ⟨rfl, hs, hE, by first | trivial | omega⟩)
          · refine q_iconst hx hb dX10_of_53 ?_
            refine lv_goto (tgt := 58) hx hb dX10_of_54 (by decide) ?_
            refine q_call_i hA hK hw (va_runV (As := [.int (iI x1), .int (iI 1)]) (rest := []) ⟨hx, hb, hml, hown, hts⟩ (c_X10_oddMany zo l D cy L0 f_1 a0 x1 lx1 ux1 1 (by decide) (by decide) ad hs (by omega) (by omega) (by omega) (by omega) _) (cwV 2 hts (gT (inV (mr44 _ (List.mem_of_getElem? (i := 10) rfl)) (mr44 _ (List.mem_of_getElem? (i := 11) rfl)) (mr44 _ (List.mem_of_getElem? (i := 12) rfl)) (mr1 _ (List.mem_of_getElem? (i := 5) rfl)) (mr44 _ (List.mem_of_getElem? (i := 13) rfl)))) rfl rfl rfl (by decide +kernel) ⟨Nat.le_of_ble_eq_true rfl, Nat.le_of_ble_eq_true rfl⟩) (Wd.preV zo hA hZ hw hK hs.1 hs.2.1 rfl) rfl rfl hl.1 rfl (lv_room (Nat.le_of_ble_eq_true rfl)) dX10_of_58 ⟨Nat.le_of_ble_eq_true rfl, Nat.le_of_ble_eq_true rfl⟩) (fun x_10 L1 f1 H locs lx_10 ux_10 ex_10 hw => ?_)
            obtain ⟨rfl, rfl, ex_10⟩ := ex_10
            exact q_ret_i hx hb hr hlocks hK hAe hw ⟨lx_10, ux_10⟩ (Nat.le_of_ble_eq_true rfl) (Nat.le_of_ble_eq_true rfl) dX10_of_61 (by exact ⟨rfl, hs, hE, by first | trivial | omega⟩)
      · refine lv_aload_n hx hb dX10_of_32 rfl (lv_at hl 0 rfl) ?_
        refine lv_iload_n hx hb dX10_of_33 rfl (lv_at hl 1 rfl) ?_
        refine lv_iload_n hx hb dX10_of_34 rfl (lv_at hl 2 rfl) ?_
        refine q_call_i hA hK hw (va_runV (As := [.int (iI x1), .int (iI x2)]) (rest := []) ⟨hx, hb, hml, hown, hts⟩ (c_X10_get zo l D cy L0 f_1 a0 x1 lx1 ux1 x2 lx2 ux2 ad hs (by omega) (by omega) (by omega) (by omega) _) (cwV 2 hts (gT (inV (mr25 _ (List.mem_of_getElem? (i := 0) rfl)) (mr25 _ (List.mem_of_getElem? (i := 1) rfl)) (mr25 _ (List.mem_of_getElem? (i := 2) rfl)) (mr1 _ (List.mem_of_getElem? (i := 5) rfl)) (mr25 _ (List.mem_of_getElem? (i := 3) rfl)))) rfl rfl rfl (by decide +kernel) ⟨Nat.le_of_ble_eq_true rfl, Nat.le_of_ble_eq_true rfl⟩) (Wd.preV zo hA hZ hw hK hs.1 hs.2.1 rfl) rfl rfl hl.1 rfl (lv_room (Nat.le_of_ble_eq_true rfl)) dX10_of_35 ⟨Nat.le_of_ble_eq_true rfl, Nat.le_of_ble_eq_true rfl⟩) (fun x_11 L1 f1 H locs lx_11 ux_11 ex_11 hw => ?_)
        obtain ⟨rfl, rfl, ex_11⟩ := ex_11
        exact q_ret_i hx hb hr hlocks hK hAe hw ⟨lx_11, ux_11⟩ (Nat.le_of_ble_eq_true rfl) (Nat.le_of_ble_eq_true rfl) dX10_of_38 (by exact ⟨rfl, hs, hE, by first | trivial | omega⟩)
    · refine q_bipush hx hb dX10_of_23 rfl ?_
      exact q_ret_i hx hb hr hlocks hK hAe hw ⟨by decide, by decide⟩ (Nat.le_of_ble_eq_true rfl) (Nat.le_of_ble_eq_true rfl) dX10_of_25 (by exact ⟨rfl, hs, hE, by first | trivial | omega⟩)
set_option maxHeartbeats 4000000 in
set_option maxRecDepth 100000 in
theorem c_X10_periodFor {Z : Zt} (zo : Zok Z) (l : Launch) (D : va_G) (cy : Cy) (L0 : List Nat) (f0 : Nat → va_E) (a0 : Nat) (x1 : Int) (lx1 : -2147483648 ≤ x1) (ux1 : x1 ≤ 2147483647) (ad : Nat → Nat) (hs : MS cy L0 f0 a0 ad) (b1 : 0 ≤ x1) (b2 : x1 ≤ 11) (s4a : 0 ≤ aI f0 (ad 4) (44 * x1 + 4)) (s4b : aI f0 (ad 4) (44 * x1 + 4) ≤ 999) : Cl Z l yX10_periodFor (Cond.code yX10_periodFor cX10_periodFor 4 (some .long) :: TB) ({ frames := 1, cells := 0, slots := 0, locals := 29 } : Room) 0 0 D (tq cy) [.ref a0, .int (iI x1)] L0 f0 (fun (r : Int) (L1 : List Nat) (f1 : Nat → va_E) => L0 = L1 ∧ f0 = f1 ∧ (0 ≤ r)) := by
  refine Cl.enter (cc := cX10_periodFor) (n := 4) rfl (plainFor_of_name (by decide)) (Nat.le_of_ble_eq_true rfl) ?_
  intro p e s m below meth c ls A hx hb hr hts hown hlocks hnm hml hK hA hAe hw hZ hl
  have hown : s.vm.findClass RX10 = some m.cls := hown
  have hl : lv_has ls 4 [(0, .ref a0), (1, .int (iI x1))] := hl
  have hN : ZN s := (zo.2.2.2.2 _ _ _ hZ).2
  refine lv_aload_n hx hb dX10_periodFor_0 rfl (lv_at hl 0 rfl) ?_
  refine lv_iload_n hx hb dX10_periodFor_1 rfl (lv_at hl 1 rfl) ?_
  refine q_iconst hx hb dX10_periodFor_2 ?_
  refine q_call_i hA hK hw (va_runV (As := [.int (iI x1), .int (iI 4)]) (rest := []) ⟨hx, hb, hml, hown, hts⟩ (c_X10_get zo l D cy L0 f0 a0 x1 lx1 ux1 4 (by decide) (by decide) ad hs (by omega) (by omega) (by omega) (by omega) _) (cwV 2 hts (gT (inV (mr25 _ (List.mem_of_getElem? (i := 0) rfl)) (mr25 _ (List.mem_of_getElem? (i := 1) rfl)) (mr25 _ (List.mem_of_getElem? (i := 2) rfl)) (mr1 _ (List.mem_of_getElem? (i := 5) rfl)) (mr25 _ (List.mem_of_getElem? (i := 3) rfl)))) rfl rfl rfl (by decide +kernel) ⟨Nat.le_of_ble_eq_true rfl, Nat.le_of_ble_eq_true rfl⟩) (Wd.preV zo hA hZ hw hK hs.1 hs.2.1 rfl) rfl rfl hl.1 rfl (lv_room (Nat.le_of_ble_eq_true rfl)) dX10_periodFor_3 ⟨Nat.le_of_ble_eq_true rfl, Nat.le_of_ble_eq_true rfl⟩) (fun x_1 L1 f1 H locs lx_1 ux_1 ex_1 hw => ?_)
  obtain ⟨rfl, rfl, ex_1⟩ := ex_1
  refine q_i2l hx hb dX10_periodFor_6 ⟨lx_1, ux_1⟩ ?_
  obtain ⟨j_2, lj_2, uj_2, ej_2⟩ : ∃ z : Int, -9223372036854775808 ≤ z ∧ z ≤ 9223372036854775807 ∧ x_1 = z := ⟨x_1, by omega, by omega, rfl⟩
  rw [show (lJ x_1) = lJ j_2 from by rw [ej_2]]
  refine lv_lstore_n (lv' := [(2, .long (lJ j_2)), (0, .ref a0), (1, .int (iI x1))]) hx hb dX10_periodFor_7 rfl hl (by decide) rfl (fun ls hl => ?_)
  refine lv_aload_n hx hb dX10_periodFor_8 rfl (lv_at hl 1 rfl) ?_
  refine lv_iload_n hx hb dX10_periodFor_9 rfl (lv_at hl 2 rfl) ?_
  refine q_iconst hx hb dX10_periodFor_10 ?_
  refine q_call_i hA hK hw (va_runV (As := [.int (iI x1), .int (iI 3)]) (rest := []) ⟨hx, hb, hml, hown, hts⟩ (c_X10_get zo l D cy L0 f0 a0 x1 lx1 ux1 3 (by decide) (by decide) ad hs (by omega) (by omega) (by omega) (by omega) _) (cwV 2 hts (gT (inV (mr25 _ (List.mem_of_getElem? (i := 0) rfl)) (mr25 _ (List.mem_of_getElem? (i := 1) rfl)) (mr25 _ (List.mem_of_getElem? (i := 2) rfl)) (mr1 _ (List.mem_of_getElem? (i := 5) rfl)) (mr25 _ (List.mem_of_getElem? (i := 3) rfl)))) rfl rfl rfl (by decide +kernel) ⟨Nat.le_of_ble_eq_true rfl, Nat.le_of_ble_eq_true rfl⟩) (Wd.preV zo hA hZ hw hK hs.1 hs.2.1 rfl) rfl rfl hl.1 rfl (lv_room (Nat.le_of_ble_eq_true rfl)) dX10_periodFor_11 ⟨Nat.le_of_ble_eq_true rfl, Nat.le_of_ble_eq_true rfl⟩) (fun x_3 L1 f1 H locs lx_3 ux_3 ex_3 hw => ?_)
  obtain ⟨rfl, rfl, ex_3⟩ := ex_3
  have t14 : (iI x_3).toInt = x_3 := iI_toInt ⟨lx_3, ux_3⟩
  rcases (show (x_3 < 0 ∨ 7 < x_3) ∨ (x_3 = 0) ∨ (x_3 = 1) ∨ (x_3 = 2) ∨ (x_3 = 3) ∨ (x_3 = 4) ∨ (x_3 = 5) ∨ (x_3 = 6) ∨ (x_3 = 7) by omega) with k14 | k14 | k14 | k14 | k14 | k14 | k14 | k14 | k14
  · refine lv_tableOut (tgt := 92) hx hb dX10_periodFor_14 (by rw [t14]; omega) (by decide) ?_
    refine q_ldc2 (n := 146097) hx hb hown (hts _ (List.mem_cons_of_mem _ (mr41 _ (List.mem_of_getElem? (i := 22) rfl)))) rfl dX10_periodFor_92 ?_
    refine lv_lload_n hx hb dX10_periodFor_95 rfl (lv_at hl 0 rfl) ?_
    refine lv_lload_n hx hb dX10_periodFor_96 rfl (lv_at hl 0 rfl) ?_
    refine q_ldc2 (n := 4800) hx hb hown (hts _ (List.mem_cons_of_mem _ (mr42 _ (List.mem_of_getElem? (i := 0) rfl)))) rfl dX10_periodFor_97 ?_
    refine q_call_l hA hK hw (va_runS (As := [.long (lJ j_2), .long (lJ 4800)]) (rest := [.long (lJ j_2), .long (lJ 146097)]) ⟨hx, hb, hml, hown, hts⟩ (c_X10_gcd zo l D cy L0 f0 j_2 lj_2 uj_2 4800 (by decide) (by decide) (by omega) (by omega) _) (va_cwS 2 hts (gT (inS (mr42 _ (List.mem_of_getElem? (i := 1) rfl)) (mr42 _ (List.mem_of_getElem? (i := 2) rfl)) (mr1 _ (List.mem_of_getElem? (i := 5) rfl)) (mr42 _ (List.mem_of_getElem? (i := 3) rfl)))) rfl rfl rfl (by decide +kernel) ⟨Nat.le_of_ble_eq_true rfl, Nat.le_of_ble_eq_true rfl⟩) (Wd.preS zo hA hZ hw hK) rfl rfl hl.1 rfl (lv_room (Nat.le_of_ble_eq_true rfl)) dX10_periodFor_100 ⟨Nat.le_of_ble_eq_true rfl, Nat.le_of_ble_eq_true rfl⟩) (fun x_4 L1 f1 H locs lx_4 ux_4 ex_4 hw => ?_)
    obtain ⟨rfl, rfl, ex_4⟩ := ex_4
    first | refine q_ldiv hx hb dX10_periodFor_103 ⟨lj_2, uj_2⟩ ⟨lx_4, ux_4⟩ (by omega) (by omega) (fun j_5 lj_5 uj_5 ej_5 => ?_) | refine q_ldivw hx hb dX10_periodFor_103 ⟨lj_2, uj_2⟩ ⟨lx_4, ux_4⟩ (by omega) (fun j_5 lj_5 uj_5 ej_5 => ?_)
    first | refine q_lmul hx hb dX10_periodFor_104 ⟨by omega, by omega⟩ (fun j_6 lj_6 uj_6 ej_6 => ?_) | refine q_lmulw hx hb dX10_periodFor_104 (fun j_6 lj_6 uj_6 ej_6 => ?_)
    exact q_ret_l hx hb hr hlocks hK hAe hw ⟨lj_6, uj_6⟩ (Nat.le_of_ble_eq_true rfl) (Nat.le_of_ble_eq_true rfl) dX10_periodFor_105 ⟨rfl, rfl, by omega⟩
  · refine lv_tableIn (tgt := 60) (off := 46) hx hb dX10_periodFor_14 (by rw [t14]; omega) (by rw [t14]; omega) (by rw [t14, k14]; rfl) (by decide) ?_
    refine q_lconst0 hx hb dX10_periodFor_60 ?_
    exact q_ret_l hx hb hr hlocks hK hAe hw ⟨by decide, by decide⟩ (Nat.le_of_ble_eq_true rfl) (Nat.le_of_ble_eq_true rfl) dX10_periodFor_61 ⟨rfl, rfl, by omega⟩
  · refine lv_tableIn (tgt := 62) (off := 48) hx hb dX10_periodFor_14 (by rw [t14]; omega) (by rw [t14]; omega) (by rw [t14, k14]; rfl) (by decide) ?_
    refine lv_lload_n hx hb dX10_periodFor_62 rfl (lv_at hl 0 rfl) ?_
    exact q_ret_l hx hb hr hlocks hK hAe hw ⟨lj_2, uj_2⟩ (Nat.le_of_ble_eq_true rfl) (Nat.le_of_ble_eq_true rfl) dX10_periodFor_63 ⟨rfl, rfl, by omega⟩
  · refine lv_tableIn (tgt := 64) (off := 50) hx hb dX10_periodFor_14 (by rw [t14]; omega) (by rw [t14]; omega) (by rw [t14, k14]; rfl) (by decide) ?_
    refine q_ldc2 (n := 7) hx hb hown (hts _ (List.mem_cons_of_mem _ (mr41 _ (List.mem_of_getElem? (i := 21) rfl)))) rfl dX10_periodFor_64 ?_
    refine lv_lload_n hx hb dX10_periodFor_67 rfl (lv_at hl 0 rfl) ?_
    first | refine q_lmul hx hb dX10_periodFor_68 ⟨by omega, by omega⟩ (fun j_7 lj_7 uj_7 ej_7 => ?_) | refine q_lmulw hx hb dX10_periodFor_68 (fun j_7 lj_7 uj_7 ej_7 => ?_)
    exact q_ret_l hx hb hr hlocks hK hAe hw ⟨lj_7, uj_7⟩ (Nat.le_of_ble_eq_true rfl) (Nat.le_of_ble_eq_true rfl) dX10_periodFor_69 ⟨rfl, rfl, by omega⟩
  · refine lv_tableIn (tgt := 92) (off := 78) hx hb dX10_periodFor_14 (by rw [t14]; omega) (by rw [t14]; omega) (by rw [t14, k14]; rfl) (by decide) ?_
    refine q_ldc2 (n := 146097) hx hb hown (hts _ (List.mem_cons_of_mem _ (mr41 _ (List.mem_of_getElem? (i := 22) rfl)))) rfl dX10_periodFor_92 ?_
    refine lv_lload_n hx hb dX10_periodFor_95 rfl (lv_at hl 0 rfl) ?_
    refine lv_lload_n hx hb dX10_periodFor_96 rfl (lv_at hl 0 rfl) ?_
    refine q_ldc2 (n := 4800) hx hb hown (hts _ (List.mem_cons_of_mem _ (mr42 _ (List.mem_of_getElem? (i := 0) rfl)))) rfl dX10_periodFor_97 ?_
    refine q_call_l hA hK hw (va_runS (As := [.long (lJ j_2), .long (lJ 4800)]) (rest := [.long (lJ j_2), .long (lJ 146097)]) ⟨hx, hb, hml, hown, hts⟩ (c_X10_gcd zo l D cy L0 f0 j_2 lj_2 uj_2 4800 (by decide) (by decide) (by omega) (by omega) _) (va_cwS 2 hts (gT (inS (mr42 _ (List.mem_of_getElem? (i := 1) rfl)) (mr42 _ (List.mem_of_getElem? (i := 2) rfl)) (mr1 _ (List.mem_of_getElem? (i := 5) rfl)) (mr42 _ (List.mem_of_getElem? (i := 3) rfl)))) rfl rfl rfl (by decide +kernel) ⟨Nat.le_of_ble_eq_true rfl, Nat.le_of_ble_eq_true rfl⟩) (Wd.preS zo hA hZ hw hK) rfl rfl hl.1 rfl (lv_room (Nat.le_of_ble_eq_true rfl)) dX10_periodFor_100 ⟨Nat.le_of_ble_eq_true rfl, Nat.le_of_ble_eq_true rfl⟩) (fun x_8 L1 f1 H locs lx_8 ux_8 ex_8 hw => ?_)
    obtain ⟨rfl, rfl, ex_8⟩ := ex_8
    first | refine q_ldiv hx hb dX10_periodFor_103 ⟨lj_2, uj_2⟩ ⟨lx_8, ux_8⟩ (by omega) (by omega) (fun j_9 lj_9 uj_9 ej_9 => ?_) | refine q_ldivw hx hb dX10_periodFor_103 ⟨lj_2, uj_2⟩ ⟨lx_8, ux_8⟩ (by omega) (fun j_9 lj_9 uj_9 ej_9 => ?_)
    first | refine q_lmul hx hb dX10_periodFor_104 ⟨by omega, by omega⟩ (fun j_10 lj_10 uj_10 ej_10 => ?_) | refine q_lmulw hx hb dX10_periodFor_104 (fun j_10 lj_10 uj_10 ej_10 => ?_)
    exact q_ret_l hx hb hr hlocks hK hAe hw ⟨lj_10, uj_10⟩ (Nat.le_of_ble_eq_true rfl) (Nat.le_of_ble_eq_true rfl) dX10_periodFor_105 ⟨rfl, rfl, by omega⟩
  · refine lv_tableIn (tgt := 92) (off := 78) hx hb dX10_periodFor_14 (by rw [t14]; omega) (by rw [t14]; omega) (by rw [t14, k14]; rfl) (by decide) ?_
    refine q_ldc2 (n := 146097) hx hb hown (hts _ (List.mem_cons_of_mem _ (mr41 _ (List.mem_of_getElem? (i := 22) rfl)))) rfl dX10_periodFor_92 ?_
    refine lv_lload_n hx hb dX10_periodFor_95 rfl (lv_at hl 0 rfl) ?_
    refine lv_lload_n hx hb dX10_periodFor_96 rfl (lv_at hl 0 rfl) ?_
    refine q_ldc2 (n := 4800) hx hb hown (hts _ (List.mem_cons_of_mem _ (mr42 _ (List.mem_of_getElem? (i := 0) rfl)))) rfl dX10_periodFor_97 ?_
    refine q_call_l hA hK hw (va_runS (As := [.long (lJ j_2), .long (lJ 4800)]) (rest := [.long (lJ j_2), .long (lJ 146097)]) ⟨hx, hb, hml, hown, hts⟩ (c_X10_gcd zo l D cy L0 f0 j_2 lj_2 uj_2 4800 (by decide) (by decide) (by omega) (by omega) _) (va_cwS 2 hts (gT (inS (mr42 _ (List.mem_of_getElem? (i := 1) rfl)) (mr42 _ (List.mem_of_getElem? (i := 2) rfl)) (mr1 _ (List.mem_of_getElem? (i := 5) rfl)) (mr42 _ (List.mem_of_getElem? (i := 3) rfl)))) rfl rfl rfl (by decide +kernel) ⟨Nat.le_of_ble_eq_true rfl, Nat.le_of_ble_eq_true rfl⟩) (Wd.preS zo hA hZ hw hK) rfl rfl hl.1 rfl (lv_room (Nat.le_of_ble_eq_true rfl)) dX10_periodFor_100 ⟨Nat.le_of_ble_eq_true rfl, Nat.le_of_ble_eq_true rfl⟩) (fun x_11 L1 f1 H locs lx_11 ux_11 ex_11 hw => ?_)
    obtain ⟨rfl, rfl, ex_11⟩ := ex_11
    first | refine q_ldiv hx hb dX10_periodFor_103 ⟨lj_2, uj_2⟩ ⟨lx_11, ux_11⟩ (by omega) (by omega) (fun j_12 lj_12 uj_12 ej_12 => ?_) | refine q_ldivw hx hb dX10_periodFor_103 ⟨lj_2, uj_2⟩ ⟨lx_11, ux_11⟩ (by omega) (fun j_12 lj_12 uj_12 ej_12 => ?_)
    first | refine q_lmul hx hb dX10_periodFor_104 ⟨by omega, by omega⟩ (fun j_13 lj_13 uj_13 ej_13 => ?_) | refine q_lmulw hx hb dX10_periodFor_104 (fun j_13 lj_13 uj_13 ej_13 => ?_)
    exact q_ret_l hx hb hr hlocks hK hAe hw ⟨lj_13, uj_13⟩ (Nat.le_of_ble_eq_true rfl) (Nat.le_of_ble_eq_true rfl) dX10_periodFor_105 ⟨rfl, rfl, by omega⟩
  · refine lv_tableIn (tgt := 92) (off := 78) hx hb dX10_periodFor_14 (by rw [t14]; omega) (by rw [t14]; omega) (by rw [t14, k14]; rfl) (by decide) ?_
    refine q_ldc2 (n := 146097) hx hb hown (hts _ (List.mem_cons_of_mem _ (mr41 _ (List.mem_of_getElem? (i := 22) rfl)))) rfl dX10_periodFor_92 ?_
    refine lv_lload_n hx hb dX10_periodFor_95 rfl (lv_at hl 0 rfl) ?_
    refine lv_lload_n hx hb dX10_periodFor_96 rfl (lv_at hl 0 rfl) ?_
    refine q_ldc2 (n := 4800) hx hb hown (hts _ (List.mem_cons_of_mem _ (mr42 _ (List.mem_of_getElem? (i := 0) rfl)))) rfl dX10_periodFor_97 ?_
    refine q_call_l hA hK hw (va_runS (As := [.long (lJ j_2), .long (lJ 4800)]) (rest := [.long (lJ j_2), .long (lJ 146097)]) ⟨hx, hb, hml, hown, hts⟩ (c_X10_gcd zo l D cy L0 f0 j_2 lj_2 uj_2 4800 (by decide) (by decide) (by omega) (by omega) _) (va_cwS 2 hts (gT (inS (mr42 _ (List.mem_of_getElem? (i := 1) rfl)) (mr42 _ (List.mem_of_getElem? (i := 2) rfl)) (mr1 _ (List.mem_of_getElem? (i := 5) rfl)) (mr42 _ (List.mem_of_getElem? (i := 3) rfl)))) rfl rfl rfl (by decide +kernel) ⟨Nat.le_of_ble_eq_true rfl, Nat.le_of_ble_eq_true rfl⟩) (Wd.preS zo hA hZ hw hK) rfl rfl hl.1 rfl (lv_room (Nat.le_of_ble_eq_true rfl)) dX10_periodFor_100 ⟨Nat.le_of_ble_eq_true rfl, Nat.le_of_ble_eq_true rfl⟩) (fun x_14 L1 f1 H locs lx_14 ux_14 ex_14 hw => ?_)
    obtain ⟨rfl, rfl, ex_14⟩ := ex_14
    first | refine q_ldiv hx hb dX10_periodFor_103 ⟨lj_2, uj_2⟩ ⟨lx_14, ux_14⟩ (by omega) (by omega) (fun j_15 lj_15 uj_15 ej_15 => ?_) | refine q_ldivw hx hb dX10_periodFor_103 ⟨lj_2, uj_2⟩ ⟨lx_14, ux_14⟩ (by omega) (fun j_15 lj_15 uj_15 ej_15 => ?_)
    first | refine q_lmul hx hb dX10_periodFor_104 ⟨by omega, by omega⟩ (fun j_16 lj_16 uj_16 ej_16 => ?_) | refine q_lmulw hx hb dX10_periodFor_104 (fun j_16 lj_16 uj_16 ej_16 => ?_)
    exact q_ret_l hx hb hr hlocks hK hAe hw ⟨lj_16, uj_16⟩ (Nat.le_of_ble_eq_true rfl) (Nat.le_of_ble_eq_true rfl) dX10_periodFor_105 ⟨rfl, rfl, by omega⟩
  · refine lv_tableIn (tgt := 92) (off := 78) hx hb dX10_periodFor_14 (by rw [t14]; omega) (by rw [t14]; omega) (by rw [t14, k14]; rfl) (by decide) ?_
    refine q_ldc2 (n := 146097) hx hb hown (hts _ (List.mem_cons_of_mem _ (mr41 _ (List.mem_of_getElem? (i := 22) rfl)))) rfl dX10_periodFor_92 ?_
    refine lv_lload_n hx hb dX10_periodFor_95 rfl (lv_at hl 0 rfl) ?_
    refine lv_lload_n hx hb dX10_periodFor_96 rfl (lv_at hl 0 rfl) ?_
    refine q_ldc2 (n := 4800) hx hb hown (hts _ (List.mem_cons_of_mem _ (mr42 _ (List.mem_of_getElem? (i := 0) rfl)))) rfl dX10_periodFor_97 ?_
    refine q_call_l hA hK hw (va_runS (As := [.long (lJ j_2), .long (lJ 4800)]) (rest := [.long (lJ j_2), .long (lJ 146097)]) ⟨hx, hb, hml, hown, hts⟩ (c_X10_gcd zo l D cy L0 f0 j_2 lj_2 uj_2 4800 (by decide) (by decide) (by omega) (by omega) _) (va_cwS 2 hts (gT (inS (mr42 _ (List.mem_of_getElem? (i := 1) rfl)) (mr42 _ (List.mem_of_getElem? (i := 2) rfl)) (mr1 _ (List.mem_of_getElem? (i := 5) rfl)) (mr42 _ (List.mem_of_getElem? (i := 3) rfl)))) rfl rfl rfl (by decide +kernel) ⟨Nat.le_of_ble_eq_true rfl, Nat.le_of_ble_eq_true rfl⟩) (Wd.preS zo hA hZ hw hK) rfl rfl hl.1 rfl (lv_room (Nat.le_of_ble_eq_true rfl)) dX10_periodFor_100 ⟨Nat.le_of_ble_eq_true rfl, Nat.le_of_ble_eq_true rfl⟩) (fun x_17 L1 f1 H locs lx_17 ux_17 ex_17 hw => ?_)
    obtain ⟨rfl, rfl, ex_17⟩ := ex_17
    first | refine q_ldiv hx hb dX10_periodFor_103 ⟨lj_2, uj_2⟩ ⟨lx_17, ux_17⟩ (by omega) (by omega) (fun j_18 lj_18 uj_18 ej_18 => ?_) | refine q_ldivw hx hb dX10_periodFor_103 ⟨lj_2, uj_2⟩ ⟨lx_17, ux_17⟩ (by omega) (fun j_18 lj_18 uj_18 ej_18 => ?_)
    first | refine q_lmul hx hb dX10_periodFor_104 ⟨by omega, by omega⟩ (fun j_19 lj_19 uj_19 ej_19 => ?_) | refine q_lmulw hx hb dX10_periodFor_104 (fun j_19 lj_19 uj_19 ej_19 => ?_)
    exact q_ret_l hx hb hr hlocks hK hAe hw ⟨lj_19, uj_19⟩ (Nat.le_of_ble_eq_true rfl) (Nat.le_of_ble_eq_true rfl) dX10_periodFor_105 ⟨rfl, rfl, by omega⟩
  · refine lv_tableIn (tgt := 70) (off := 56) hx hb dX10_periodFor_14 (by rw [t14]; omega) (by rw [t14]; omega) (by rw [t14, k14]; rfl) (by decide) ?_
    refine q_ldc2 (n := 146097) hx hb hown (hts _ (List.mem_cons_of_mem _ (mr41 _ (List.mem_of_getElem? (i := 22) rfl)))) rfl dX10_periodFor_70 ?_
    refine q_ldc2 (n := 12) hx hb hown (hts _ (List.mem_cons_of_mem _ (mr41 _ (List.mem_of_getElem? (i := 23) rfl)))) rfl dX10_periodFor_73 ?_
    refine lv_lload_n hx hb dX10_periodFor_76 rfl (lv_at hl 0 rfl) ?_
    first | refine q_lmul hx hb dX10_periodFor_77 ⟨by omega, by omega⟩ (fun j_20 lj_20 uj_20 ej_20 => ?_) | refine q_lmulw hx hb dX10_periodFor_77 (fun j_20 lj_20 uj_20 ej_20 => ?_)
    refine q_ldc2 (n := 12) hx hb hown (hts _ (List.mem_cons_of_mem _ (mr41 _ (List.mem_of_getElem? (i := 23) rfl)))) rfl dX10_periodFor_78 ?_
    refine lv_lload_n hx hb dX10_periodFor_81 rfl (lv_at hl 0 rfl) ?_
    first | refine q_lmul hx hb dX10_periodFor_82 ⟨by omega, by omega⟩ (fun j_21 lj_21 uj_21 ej_21 => ?_) | refine q_lmulw hx hb dX10_periodFor_82 (fun j_21 lj_21 uj_21 ej_21 => ?_)
    refine q_ldc2 (n := 4800) hx hb hown (hts _ (List.mem_cons_of_mem _ (mr42 _ (List.mem_of_getElem? (i := 0) rfl)))) rfl dX10_periodFor_83 ?_
    refine q_call_l hA hK hw (va_runS (As := [.long (lJ j_21), .long (lJ 4800)]) (rest := [.long (lJ j_20), .long (lJ 146097)]) ⟨hx, hb, hml, hown, hts⟩ (c_X10_gcd zo l D cy L0 f0 j_21 lj_21 uj_21 4800 (by decide) (by decide) (by omega) (by omega) _) (va_cwS 2 hts (gT (inS (mr42 _ (List.mem_of_getElem? (i := 1) rfl)) (mr42 _ (List.mem_of_getElem? (i := 2) rfl)) (mr1 _ (List.mem_of_getElem? (i := 5) rfl)) (mr42 _ (List.mem_of_getElem? (i := 3) rfl)))) rfl rfl rfl (by decide +kernel) ⟨Nat.le_of_ble_eq_true rfl, Nat.le_of_ble_eq_true rfl⟩) (Wd.preS zo hA hZ hw hK) rfl rfl hl.1 rfl (lv_room (Nat.le_of_ble_eq_true rfl)) dX10_periodFor_86 ⟨Nat.le_of_ble_eq_true rfl, Nat.le_of_ble_eq_true rfl⟩) (fun x_22 L1 f1 H locs lx_22 ux_22 ex_22 hw => ?_)
    obtain ⟨rfl, rfl, ex_22⟩ := ex_22
    first | refine q_ldiv hx hb dX10_periodFor_89 ⟨lj_20, uj_20⟩ ⟨lx_22, ux_22⟩ (by omega) (by omega) (fun j_23 lj_23 uj_23 ej_23 => ?_) | refine q_ldivw hx hb dX10_periodFor_89 ⟨lj_20, uj_20⟩ ⟨lx_22, ux_22⟩ (by omega) (fun j_23 lj_23 uj_23 ej_23 => ?_)
    first | refine q_lmul hx hb dX10_periodFor_90 ⟨by omega, by omega⟩ (fun j_24 lj_24 uj_24 ej_24 => ?_) | refine q_lmulw hx hb dX10_periodFor_90 (fun j_24 lj_24 uj_24 ej_24 => ?_)
    exact q_ret_l hx hb hr hlocks hK hAe hw ⟨lj_24, uj_24⟩ (Nat.le_of_ble_eq_true rfl) (Nat.le_of_ble_eq_true rfl) dX10_periodFor_91 ⟨rfl, rfl, by omega⟩
