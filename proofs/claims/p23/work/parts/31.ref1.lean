set_option maxHeartbeats 4000000 in
set_option maxRecDepth 100000 in
theorem c_X10_isBooking {Z : Zt} (zo : Zok Z) (l : Launch) (D : va_G) (cy : Cy) (L0 : List Nat) (f0 : Nat → va_E) (a0 : Nat) (x1 : Int) (lx1 : -2147483648 ≤ x1) (ux1 : x1 ≤ 2147483647) (ad : Nat → Nat) (hs : MS cy L0 f0 a0 ad) (h5 : -2147483647 ≤ fI f0 a0 5) : Ci Z l yX10_isBooking (Cond.code yX10_isBooking cX10_isBooking 2 (some .boolean) :: TB) ({ frames := 1, cells := 0, slots := 0, locals := 22 } : Room) 0 0 D (tq cy) [.ref a0, .int (iI x1)] L0 f0 (fun (r : Int) (L1 : List Nat) (f1 : Nat → va_E) => L0 = L1 ∧ f0 = f1 ∧ (r = 1 ∧ 0 ≤ x1 ∧ x1 < fI f0 a0 5 ∨ r = 0 ∧ (x1 < 0 ∨ fI f0 a0 5 ≤ x1))) := by
  refine Ci.enter (cc := cX10_isBooking) (n := 2) rfl (plainFor_of_name (by decide)) (Nat.le_of_ble_eq_true rfl) ?_
  intro p e s m below meth c ls A hx hb hr hts hown hlocks hnm hml hK hA hAe hw hZ hl
  have hown : s.vm.findClass RX10 = some m.cls := hown
  have hl : lv_has ls 2 [(0, .ref a0), (1, .int (iI x1))] := hl
  have hN : ZN s := (zo.2.2.2.2 _ _ _ hZ).2
  refine lv_iload_n hx hb dX10_isBooking_0 rfl (lv_at hl 1 rfl) ?_
  refine q_iconst hx hb dX10_isBooking_1 ?_
  refine lv_aload_n hx hb dX10_isBooking_2 rfl (lv_at hl 0 rfl) ?_
  refine q_geti (ci := 8) (C := RX10) (T := TX10) (N := 26) hx hb hts (fun w h => List.mem_cons_of_mem _ (mfX100 w h)) hown hK hw hs.1 hs.2.1 rfl 5 (by decide) (hts _ (List.mem_cons_of_mem _ (mr19 _ (List.mem_of_getElem? (i := 1) rfl)))) (fun _ h => h) rfl dX10_isBooking_3 (fun x_1 lx_1 ux_1 ex_1 => ?_)
  refine q_iconst hx hb dX10_isBooking_6 ?_
  first | refine q_isub hx hb dX10_isBooking_7 ⟨by omega, by omega⟩ (fun x_2 lx_2 ux_2 ex_2 => ?_) | refine q_isubw hx hb dX10_isBooking_7 (fun x_2 lx_2 ux_2 ex_2 => ?_)
  refine q_call_i hA hK hw (va_runS (As := [.int (iI x1), .int (iI 0), .int (iI x_2)]) (rest := []) ⟨hx, hb, hml, hown, hts⟩ (c_X10_within zo l D cy L0 f0 x1 lx1 ux1 0 (by decide) (by decide) x_2 lx_2 ux_2 _) (va_cwS 3 hts (gT (inS (mr5 _ (List.mem_of_getElem? (i := 9) rfl)) (mr5 _ (List.mem_of_getElem? (i := 10) rfl)) (mr1 _ (List.mem_of_getElem? (i := 5) rfl)) (mr5 _ (List.mem_of_getElem? (i := 11) rfl)))) rfl rfl rfl (by decide +kernel) ⟨Nat.le_of_ble_eq_true rfl, Nat.le_of_ble_eq_true rfl⟩) (Wd.preS zo hA hZ hw hK) rfl rfl hl.1 rfl (lv_room (Nat.le_of_ble_eq_true rfl)) dX10_isBooking_8 ⟨Nat.le_of_ble_eq_true rfl, Nat.le_of_ble_eq_true rfl⟩) (fun x_3 L1 f1 H locs lx_3 ux_3 ex_3 hw => ?_)
  obtain ⟨rfl, rfl, ex_3⟩ := ex_3
  exact q_ret_z hx hb hr hlocks hK hAe hw (by omega) (Nat.le_of_ble_eq_true rfl) (Nat.le_of_ble_eq_true rfl) dX10_isBooking_11 ⟨rfl, rfl, by omega⟩
set_option maxHeartbeats 4000000 in
set_option maxRecDepth 100000 in
theorem c_X10_get {Z : Zt} (zo : Zok Z) (l : Launch) (D : va_G) (cy : Cy) (L0 : List Nat) (f0 : Nat → va_E) (a0 : Nat) (x1 : Int) (lx1 : -2147483648 ≤ x1) (ux1 : x1 ≤ 2147483647) (x2 : Int) (lx2 : -2147483648 ≤ x2) (ux2 : x2 ≤ 2147483647) (ad : Nat → Nat) (hs : MS cy L0 f0 a0 ad) (h1 : 0 ≤ x1) (h2 : x1 ≤ 11) (h3 : 0 ≤ x2) (h4 : x2 ≤ 43) : Ci Z l yX10_get (Cond.code yX10_get cX10_get 3 (some .int) :: TB) ({ frames := 0, cells := 0, slots := 0, locals := 0 } : Room) 0 0 D (tq cy) [.ref a0, .int (iI x1), .int (iI x2)] L0 f0 (fun (r : Int) (L1 : List Nat) (f1 : Nat → va_E) => L0 = L1 ∧ f0 = f1 ∧ (r = aI f0 (ad 4) (44 * x1 + x2))) := by
  refine Ci.enter (cc := cX10_get) (n := 3) rfl (plainFor_of_name (by decide)) (Nat.le_of_ble_eq_true rfl) ?_
  intro p e s m below meth c ls A hx hb hr hts hown hlocks hnm hml hK hA hAe hw hZ hl
  have hown : s.vm.findClass RX10 = some m.cls := hown
  have hl : lv_has ls 3 [(0, .ref a0), (1, .int (iI x1)), (2, .int (iI x2))] := hl
  have hN : ZN s := (zo.2.2.2.2 _ _ _ hZ).2
  refine lv_aload_n hx hb dX10_get_0 rfl (lv_at hl 0 rfl) ?_
  refine q_getr (ci := 8) (C := RX10) (T := TX10) (N := 26) hx hb hts (fun w h => List.mem_cons_of_mem _ (mfX100 w h)) hown hK hw hs.1 hs.2.1 rfl 4 (by decide) (hts _ (List.mem_cons_of_mem _ (mr3 _ (List.mem_of_getElem? (i := 14) rfl)))) (fun _ h => h) rfl (hs.2.2.1 4 rfl).1 dX10_get_1 ?_
  refine q_bipush hx hb dX10_get_4 rfl ?_
  refine lv_iload_n hx hb dX10_get_6 rfl (lv_at hl 1 rfl) ?_
  first | refine q_imul hx hb dX10_get_7 ⟨by omega, by omega⟩ (fun x_1 lx_1 ux_1 ex_1 => ?_) | refine q_imulw hx hb dX10_get_7 (fun x_1 lx_1 ux_1 ex_1 => ?_)
  refine lv_iload_n hx hb dX10_get_8 rfl (lv_at hl 2 rfl) ?_
  first | refine q_iadd hx hb dX10_get_9 ⟨by omega, by omega⟩ (fun x_2 lx_2 ux_2 ex_2 => ?_) | refine q_iaddw hx hb dX10_get_9 (fun x_2 lx_2 ux_2 ex_2 => ?_)
  refine q_iald hx hb hK hw (hs.2.2.1 4 rfl).2.1 1 (hs.2.2.1 4 rfl).2.2 rfl ⟨lx_2, ux_2⟩ (by omega) (by show _ < ((528 : Nat) : Int); omega) dX10_get_10 (fun x_3 lx_3 ux_3 ex_3 => ?_)
  exact q_ret_i hx hb hr hlocks hK hAe hw ⟨lx_3, ux_3⟩ (Nat.le_of_ble_eq_true rfl) (Nat.le_of_ble_eq_true rfl) dX10_get_11 ⟨rfl, rfl, by rw [ex_3, ex_2, ex_1]⟩
set_option maxHeartbeats 4000000 in
set_option maxRecDepth 100000 in
theorem c_X10_byteAt {Z : Zt} (zo : Zok Z) (l : Launch) (D : va_G) (cy : Cy) (L0 : List Nat) (f0 : Nat → va_E) (a0 : Nat) (x1 : Int) (lx1 : -2147483648 ≤ x1) (ux1 : x1 ≤ 2147483647) (ad : Nat → Nat) (hs : MS cy L0 f0 a0 ad) (h1 : 0 ≤ x1) (h2 : fI f0 a0 14 ≤ 168) : Ci Z l yX10_byteAt (Cond.code yX10_byteAt cX10_byteAt 2 (some .int) :: TB) ({ frames := 0, cells := 0, slots := 0, locals := 0 } : Room) 0 0 D (tq cy) [.ref a0, .int (iI x1)] L0 f0 (fun (r : Int) (L1 : List Nat) (f1 : Nat → va_E) => L0 = L1 ∧ f0 = f1 ∧ (r = -1 ∧ fI f0 a0 14 ≤ x1 ∨ x1 < fI f0 a0 14 ∧ r = aI f0 (ad 8) x1)) := by
  refine Ci.enter (cc := cX10_byteAt) (n := 2) rfl (plainFor_of_name (by decide)) (Nat.le_of_ble_eq_true rfl) ?_
  intro p e s m below meth c ls A hx hb hr hts hown hlocks hnm hml hK hA hAe hw hZ hl
  have hown : s.vm.findClass RX10 = some m.cls := hown
  have hl : lv_has ls 2 [(0, .ref a0), (1, .int (iI x1))] := hl
  have hN : ZN s := (zo.2.2.2.2 _ _ _ hZ).2
  refine lv_iload_n hx hb dX10_byteAt_0 rfl (lv_at hl 1 rfl) ?_
  refine lv_aload_n hx hb dX10_byteAt_1 rfl (lv_at hl 0 rfl) ?_
  refine q_geti (ci := 8) (C := RX10) (T := TX10) (N := 26) hx hb hts (fun w h => List.mem_cons_of_mem _ (mfX100 w h)) hown hK hw hs.1 hs.2.1 rfl 14 (by decide) (hts _ (List.mem_cons_of_mem _ (mr19 _ (List.mem_of_getElem? (i := 0) rfl)))) (fun _ h => h) rfl dX10_byteAt_2 (fun x_1 lx_1 ux_1 ex_1 => ?_)
  refine q_icmp_ge (tgt := 17) hx hb dX10_byteAt_5 (by decide) ⟨lx1, ux1⟩ ⟨lx_1, ux_1⟩ (fun c5 => ?_) (fun c5 => ?_)
  · refine q_iconst hx hb dX10_byteAt_17 ?_
    exact q_ret_i hx hb hr hlocks hK hAe hw ⟨by decide, by decide⟩ (Nat.le_of_ble_eq_true rfl) (Nat.le_of_ble_eq_true rfl) dX10_byteAt_18 ⟨rfl, rfl, by omega⟩
  · refine lv_aload_n hx hb dX10_byteAt_8 rfl (lv_at hl 0 rfl) ?_
    refine q_getr (ci := 8) (C := RX10) (T := TX10) (N := 26) hx hb hts (fun w h => List.mem_cons_of_mem _ (mfX100 w h)) hown hK hw hs.1 hs.2.1 rfl 8 (by decide) (hts _ (List.mem_cons_of_mem _ (mr3 _ (List.mem_of_getElem? (i := 17) rfl)))) (fun _ h => h) rfl (hs.2.2.1 8 rfl).1 dX10_byteAt_9 ?_
    refine lv_iload_n hx hb dX10_byteAt_12 rfl (lv_at hl 1 rfl) ?_
    refine q_iald hx hb hK hw (hs.2.2.1 8 rfl).2.1 1 (hs.2.2.1 8 rfl).2.2 rfl ⟨lx1, ux1⟩ (by omega) (by show _ < ((168 : Nat) : Int); omega) dX10_byteAt_13 (fun x_2 lx_2 ux_2 ex_2 => ?_)
    refine lv_goto (tgt := 18) hx hb dX10_byteAt_14 (by decide) ?_
    exact q_ret_i hx hb hr hlocks hK hAe hw ⟨lx_2, ux_2⟩ (Nat.le_of_ble_eq_true rfl) (Nat.le_of_ble_eq_true rfl) dX10_byteAt_18 ⟨rfl, rfl, by omega⟩
set_option maxHeartbeats 4000000 in
set_option maxRecDepth 100000 in
theorem c_X10_end {Z : Zt} (zo : Zok Z) (l : Launch) (D : va_G) (cy : Cy) (L0 : List Nat) (f0 : Nat → va_E) (a0 : Nat) (x1 : Int) (lx1 : -2147483648 ≤ x1) (ux1 : x1 ≤ 2147483647) (ad : Nat → Nat) (hs : MS cy L0 f0 a0 ad) : Ci Z l yX10_end (Cond.code yX10_end cX10_end 2 (some .int) :: TB) ({ frames := 1, cells := 0, slots := 0, locals := 22 } : Room) 0 0 D (tq cy) [.ref a0, .int (iI x1)] L0 f0 (fun (r : Int) (L1 : List Nat) (f1 : Nat → va_E) => L0 = L1 ∧ MS cy L0 f1 a0 ad ∧ Kp a0 ad [] [9, 10] f0 f1 ∧ (r = -1 ∧ (x1 < 0 ∨ fI f0 a0 9 < x1) ∧ fI f1 a0 9 = fI f0 a0 9 ∨ 0 ≤ x1 ∧ x1 ≤ fI f0 a0 9 ∧ r = x1 ∧ fI f1 a0 9 = x1)) := by
  refine Ci.enter (cc := cX10_end) (n := 2) rfl (plainFor_of_name (by decide)) (Nat.le_of_ble_eq_true rfl) ?_
  intro p e s m below meth c ls A hx hb hr hts hown hlocks hnm hml hK hA hAe hw hZ hl
  have hown : s.vm.findClass RX10 = some m.cls := hown
  have hl : lv_has ls 2 [(0, .ref a0), (1, .int (iI x1))] := hl
  have hN : ZN s := (zo.2.2.2.2 _ _ _ hZ).2
  have hE : Kp a0 ad [] [9, 10] f0 f0 := Kp.refl _ _ _ _ _
  refine lv_aload_n hx hb dX10_end_0 rfl (lv_at hl 0 rfl) ?_
  refine q_iconst hx hb dX10_end_1 ?_
  refine q_puti (ci := 8) (C := RX10) (T := TX10) (N := 26) hx hb hts (fun w h => List.mem_cons_of_mem _ (mfX100 w h)) hown hK hw hs.1 hs.2.1 rfl 10 (by decide) (hts _ (List.mem_cons_of_mem _ (mr4 _ (List.mem_of_getElem? (i := 19) rfl)))) (fun _ h => h) tyX10 tyX10_ok nmX10 rfl (ty := .int) (by decide +kernel) rfl rfl dX10_end_2 (fun H locs hw => ?_)
  obtain ⟨f_1, ef_1⟩ : ∃ g : Nat → va_E, g = pU f0 a0 10 (.int (iI 0)) := ⟨_, rfl⟩
  have v10_f_1 : fI f_1 a0 10 = 0 := by rw [ef_1]; exact fI_pU_self hs.2.1 rfl ⟨by decide, by decide⟩
  have t9_f_1 : fI f_1 a0 9 = fI f0 a0 9 := by rw [ef_1]; exact fI_pU (Or.inr (by decide))
  have hE := hE.trans (show Kp a0 ad [] [9, 10] f0 f_1 by rw [ef_1]; exact Kp_pU hs (by decide))
  have hs : MS cy L0 f_1 a0 ad := by rw [ef_1]; exact MS_pU hs rfl
  rw [← ef_1] at hw
  refine lv_iload_n hx hb dX10_end_5 rfl (lv_at hl 1 rfl) ?_
  refine q_iconst hx hb dX10_end_6 ?_
  refine lv_aload_n hx hb dX10_end_7 rfl (lv_at hl 0 rfl) ?_
  refine q_geti (ci := 8) (C := RX10) (T := TX10) (N := 26) hx hb hts (fun w h => List.mem_cons_of_mem _ (mfX100 w h)) hown hK hw hs.1 hs.2.1 rfl 9 (by decide) (hts _ (List.mem_cons_of_mem _ (mr4 _ (List.mem_of_getElem? (i := 20) rfl)))) (fun _ h => h) rfl dX10_end_8 (fun x_2 lx_2 ux_2 ex_2 => ?_)
  refine q_call_i hA hK hw (va_runS (As := [.int (iI x1), .int (iI 0), .int (iI x_2)]) (rest := []) ⟨hx, hb, hml, hown, hts⟩ (c_X10_within zo l D cy L0 f_1 x1 lx1 ux1 0 (by decide) (by decide) x_2 lx_2 ux_2 _) (va_cwS 3 hts (gT (inS (mr5 _ (List.mem_of_getElem? (i := 9) rfl)) (mr5 _ (List.mem_of_getElem? (i := 10) rfl)) (mr1 _ (List.mem_of_getElem? (i := 5) rfl)) (mr5 _ (List.mem_of_getElem? (i := 11) rfl)))) rfl rfl rfl (by decide +kernel) ⟨Nat.le_of_ble_eq_true rfl, Nat.le_of_ble_eq_true rfl⟩) (Wd.preS zo hA hZ hw hK) rfl rfl hl.1 rfl (lv_room (Nat.le_of_ble_eq_true rfl)) dX10_end_11 ⟨Nat.le_of_ble_eq_true rfl, Nat.le_of_ble_eq_true rfl⟩) (fun x_3 L1 f1 H locs lx_3 ux_3 ex_3 hw => ?_)
  obtain ⟨rfl, rfl, ex_3⟩ := ex_3
  refine q_if_ne (tgt := 19) hx hb dX10_end_14 (by decide) ⟨lx_3, ux_3⟩ (fun c14 => ?_) (fun c14 => ?_)
  · refine lv_aload_n hx hb dX10_end_19 rfl (lv_at hl 0 rfl) ?_
    refine lv_iload_n hx hb dX10_end_20 rfl (lv_at hl 1 rfl) ?_
    refine q_puti (ci := 8) (C := RX10) (T := TX10) (N := 26) hx hb hts (fun w h => List.mem_cons_of_mem _ (mfX100 w h)) hown hK hw hs.1 hs.2.1 rfl 9 (by decide) (hts _ (List.mem_cons_of_mem _ (mr4 _ (List.mem_of_getElem? (i := 20) rfl)))) (fun _ h => h) tyX10 tyX10_ok nmX10 rfl (ty := .int) (by decide +kernel) rfl rfl dX10_end_21 (fun H locs hw => ?_)
    obtain ⟨f_4, ef_4⟩ : ∃ g : Nat → va_E, g = pU f_1 a0 9 (.int (iI x1)) := ⟨_, rfl⟩
    have v9_f_4 : fI f_4 a0 9 = x1 := by rw [ef_4]; exact fI_pU_self hs.2.1 rfl ⟨lx1, ux1⟩
    have hE := hE.trans (show Kp a0 ad [] [9, 10] f_1 f_4 by rw [ef_4]; exact Kp_pU hs (by decide))
    have hs : MS cy L0 f_4 a0 ad := by rw [ef_4]; exact MS_pU hs rfl
    rw [← ef_4] at hw
    refine lv_iload_n hx hb dX10_end_24 rfl (lv_at hl 1 rfl) ?_
    exact q_ret_i hx hb hr hlocks hK hAe hw ⟨lx1, ux1⟩ (Nat.le_of_ble_eq_true rfl) (Nat.le_of_ble_eq_true rfl) dX10_end_25 (by exact ⟨rfl, hs, hE, by first | trivial | omega⟩)
  · refine q_iconst hx hb dX10_end_17 ?_
    exact q_ret_i hx hb hr hlocks hK hAe hw ⟨by decide, by decide⟩ (Nat.le_of_ble_eq_true rfl) (Nat.le_of_ble_eq_true rfl) dX10_end_18 (by exact ⟨rfl, hs, hE, by first | trivial | omega⟩)
set_option maxHeartbeats 4000000 in
set_option maxRecDepth 100000 in
theorem c_X10_wrong {Z : Zt} (zo : Zok Z) (l : Launch) (D : va_G) (cy : Cy) (L0 : List Nat) (f0 : Nat → va_E) (a0 : Nat) (x1 : Int) (lx1 : -2147483648 ≤ x1) (ux1 : x1 ≤ 2147483647) (ad : Nat → Nat) (hs : MS cy L0 f0 a0 ad) (h1 : 0 ≤ fI f0 a0 15) (h2 : fI f0 a0 15 ≤ 168) (h3 : 0 ≤ x1) (h4 : x1 ≤ 3) : Cv Z l yX10_wrong (Cond.code yX10_wrong cX10_wrong 2 none :: TB) ({ frames := 0, cells := 0, slots := 0, locals := 0 } : Room) 0 0 D (tq cy) [.ref a0, .int (iI x1)] L0 f0 (fun (L1 : List Nat) (f1 : Nat → va_E) => L0 = L1 ∧ MS cy L0 f1 a0 ad ∧ Kp a0 ad [] [20] f0 f1 ∧ ((fI f0 a0 20 = 0 ∧ fI f1 a0 20 = 8 * fI f0 a0 15 + x1) ∨ (fI f0 a0 20 ≠ 0 ∧ fI f1 a0 20 = fI f0 a0 20))) := by
  refine Cv.enter (cc := cX10_wrong) (n := 2) rfl (plainFor_of_name (by decide)) (Nat.le_of_ble_eq_true rfl) ?_
  intro p e s m below meth c ls A hx hb hr hts hown hlocks hnm hml hK hA hAe hw hZ hl
  have hown : s.vm.findClass RX10 = some m.cls := hown
  have hl : lv_has ls 2 [(0, .ref a0), (1, .int (iI x1))] := hl
  have hN : ZN s := (zo.2.2.2.2 _ _ _ hZ).2
  have hE : Kp a0 ad [] [20] f0 f0 := Kp.refl _ _ _ _ _
  refine lv_aload_n hx hb dX10_wrong_0 rfl (lv_at hl 0 rfl) ?_
  refine q_geti (ci := 8) (C := RX10) (T := TX10) (N := 26) hx hb hts (fun w h => List.mem_cons_of_mem _ (mfX100 w h)) hown hK hw hs.1 hs.2.1 rfl 20 (by decide) (hts _ (List.mem_cons_of_mem _ (mr19 _ (List.mem_of_getElem? (i := 2) rfl)))) (fun _ h => h) rfl dX10_wrong_1 (fun x_1 lx_1 ux_1 ex_1 => ?_)
  refine q_if_ne (tgt := 20) hx hb dX10_wrong_4 (by decide) ⟨lx_1, ux_1⟩ (fun c4 => ?_) (fun c4 => ?_)
  · exact q_ret_v hx hb hr hlocks hK hAe hw (Nat.le_of_ble_eq_true rfl) (Nat.le_of_ble_eq_true rfl) dX10_wrong_20 (by exact ⟨rfl, hs, hE, by first | trivial | omega⟩)
  · refine lv_aload_n hx hb dX10_wrong_7 rfl (lv_at hl 0 rfl) ?_
    refine q_bipush hx hb dX10_wrong_8 rfl ?_
    refine lv_aload_n hx hb dX10_wrong_10 rfl (lv_at hl 0 rfl) ?_
    refine q_geti (ci := 8) (C := RX10) (T := TX10) (N := 26) hx hb hts (fun w h => List.mem_cons_of_mem _ (mfX100 w h)) hown hK hw hs.1 hs.2.1 rfl 15 (by decide) (hts _ (List.mem_cons_of_mem _ (mr19 _ (List.mem_of_getElem? (i := 8) rfl)))) (fun _ h => h) rfl dX10_wrong_11 (fun x_2 lx_2 ux_2 ex_2 => ?_)
    first | refine q_imul hx hb dX10_wrong_14 ⟨by omega, by omega⟩ (fun x_3 lx_3 ux_3 ex_3 => ?_) | refine q_imulw hx hb dX10_wrong_14 (fun x_3 lx_3 ux_3 ex_3 => ?_)
    refine lv_iload_n hx hb dX10_wrong_15 rfl (lv_at hl 1 rfl) ?_
    first | refine q_iadd hx hb dX10_wrong_16 ⟨by omega, by omega⟩ (fun x_4 lx_4 ux_4 ex_4 => ?_) | refine q_iaddw hx hb dX10_wrong_16 (fun x_4 lx_4 ux_4 ex_4 => ?_)
    refine q_puti (ci := 8) (C := RX10) (T := TX10) (N := 26) hx hb hts (fun w h => List.mem_cons_of_mem _ (mfX100 w h)) hown hK hw hs.1 hs.2.1 rfl 20 (by decide) (hts _ (List.mem_cons_of_mem _ (mr19 _ (List.mem_of_getElem? (i := 2) rfl)))) (fun _ h => h) tyX10 tyX10_ok nmX10 rfl (ty := .int) (by decide +kernel) rfl rfl dX10_wrong_17 (fun H locs hw => ?_)
    obtain ⟨f_5, ef_5⟩ : ∃ g : Nat → va_E, g = pU f0 a0 20 (.int (iI x_4)) := ⟨_, rfl⟩
    have v20_f_5 : fI f_5 a0 20 = x_4 := by rw [ef_5]; exact fI_pU_self hs.2.1 rfl ⟨lx_4, ux_4⟩
    have t15_f_5 : fI f_5 a0 15 = fI f0 a0 15 := by rw [ef_5]; exact fI_pU (Or.inr (by decide))
    have hE := hE.trans (show Kp a0 ad [] [20] f0 f_5 by rw [ef_5]; exact Kp_pU hs (by decide))
    have hs : MS cy L0 f_5 a0 ad := by rw [ef_5]; exact MS_pU hs rfl
    rw [← ef_5] at hw
    exact q_ret_v hx hb hr hlocks hK hAe hw (Nat.le_of_ble_eq_true rfl) (Nat.le_of_ble_eq_true rfl) dX10_wrong_20 (by exact ⟨rfl, hs, hE, by first | trivial | omega⟩)
