set_option maxHeartbeats 4000000 in
set_option maxRecDepth 100000 in
theorem c_X10_isKey {Z : Zt} (zo : Zok Z) (l : Launch) (D : va_G) (cy : Cy) (L0 : List Nat) (f0 : Nat → va_E) (a0 : Nat) (x1 : Int) (lx1 : -2147483648 ≤ x1) (ux1 : x1 ≤ 2147483647) (x2 : Int) (lx2 : -2147483648 ≤ x2) (ux2 : x2 ≤ 2147483647) (ad : Nat → Nat) (hs : MS cy L0 f0 a0 ad) (hv : MV f0 a0 ad) : Ci Z l yX10_isKey (Cond.code yX10_isKey cX10_isKey 5 (some .boolean) :: TB) ({ frames := 3, cells := 0, slots := 0, locals := 74 } : Room) 0 0 D (tq cy) [.ref a0, .int (iI x1), .int (iI x2)] L0 f0 (fun (r : Int) (L1 : List Nat) (f1 : Nat → va_E) => L0 = L1 ∧ MS cy L0 f1 a0 ad ∧ Kp a0 ad [12, 13] [] f0 f1 ∧ (r = 0 ∨ r = 1)) := by
  refine Ci.enter (cc := cX10_isKey) (n := 5) rfl (plainFor_of_name (by decide)) (Nat.le_of_ble_eq_true rfl) ?_
  intro p e s m below meth c ls A hx hb hr hts hown hlocks hnm hml hK hA hAe hw hZ hl
  have hown : s.vm.findClass RX10 = some m.cls := hown
  have hl : lv_has ls 5 [(0, .ref a0), (1, .int (iI x1)), (2, .int (iI x2))] := hl
  have hN : ZN s := (zo.2.2.2.2 _ _ _ hZ).2
  have hE : Kp a0 ad [12, 13] [] f0 f0 := Kp.refl _ _ _ _ _
  have m5 := hv.1
  have m6 := hv.2.1
  refine lv_aload_n hx hb dX10_isKey_0 rfl (lv_at hl 0 rfl) ?_
  refine lv_iload_n hx hb dX10_isKey_1 rfl (lv_at hl 1 rfl) ?_
  refine q_call_i hA hK hw (va_runV (As := [.int (iI x1)]) (rest := []) ⟨hx, hb, hml, hown, hts⟩ (c_X10_isBooking zo l D cy L0 f0 a0 x1 lx1 ux1 ad hs (by omega) _) (cwV 1 hts (gT (inV (mr22 _ (List.mem_of_getElem? (i := 21) rfl)) (mr22 _ (List.mem_of_getElem? (i := 22) rfl)) (mr22 _ (List.mem_of_getElem? (i := 23) rfl)) (mr1 _ (List.mem_of_getElem? (i := 5) rfl)) (mr23 _ (List.mem_of_getElem? (i := 0) rfl)))) rfl rfl rfl (by decide +kernel) ⟨Nat.le_of_ble_eq_true rfl, Nat.le_of_ble_eq_true rfl⟩) (Wd.preV zo hA hZ hw hK hs.1 hs.2.1 rfl) rfl rfl hl.1 rfl (lv_room (Nat.le_of_ble_eq_true rfl)) dX10_isKey_2 ⟨Nat.le_of_ble_eq_true rfl, Nat.le_of_ble_eq_true rfl⟩) (fun x_1 L1 f1 H locs lx_1 ux_1 ex_1 hw => ?_)
  obtain ⟨rfl, rfl, ex_1⟩ := ex_1
  refine q_if_eq (tgt := 15) hx hb dX10_isKey_5 (by decide) ⟨lx_1, ux_1⟩ (fun c5 => ?_) (fun c5 => ?_)
  · refine q_iconst hx hb dX10_isKey_15 ?_
    exact q_ret_z hx hb hr hlocks hK hAe hw (by omega) (Nat.le_of_ble_eq_true rfl) (Nat.le_of_ble_eq_true rfl) dX10_isKey_16 (by exact ⟨rfl, hs, hE, by first | trivial | omega⟩)
  · refine lv_iload_n hx hb dX10_isKey_8 rfl (lv_at hl 2 rfl) ?_
    refine q_call_i hA hK hw (va_runS (As := [.int (iI x2)]) (rest := []) ⟨hx, hb, hml, hown, hts⟩ (c_X10_isDay zo l D cy L0 f0 x2 lx2 ux2 _) (va_cwS 1 hts (gT (inS (mr23 _ (List.mem_of_getElem? (i := 21) rfl)) (mr23 _ (List.mem_of_getElem? (i := 22) rfl)) (mr1 _ (List.mem_of_getElem? (i := 5) rfl)) (mr23 _ (List.mem_of_getElem? (i := 23) rfl)))) rfl rfl rfl (by decide +kernel) ⟨Nat.le_of_ble_eq_true rfl, Nat.le_of_ble_eq_true rfl⟩) (Wd.preS zo hA hZ hw hK) rfl rfl hl.1 rfl (lv_room (Nat.le_of_ble_eq_true rfl)) dX10_isKey_9 ⟨Nat.le_of_ble_eq_true rfl, Nat.le_of_ble_eq_true rfl⟩) (fun x_2 L1 f1 H locs lx_2 ux_2 ex_2 hw => ?_)
    obtain ⟨rfl, rfl, ex_2⟩ := ex_2
    have rv_x1 := (show MV f0 a0 ad by first | exact hv | exact hv.kp hE (by decide) (by decide)).row x1 (by omega) (by omega)
    refine q_if_ne (tgt := 17) hx hb dX10_isKey_12 (by decide) ⟨lx_2, ux_2⟩ (fun c12 => ?_) (fun c12 => ?_)
    · refine lv_aload_n hx hb dX10_isKey_17 rfl (lv_at hl 0 rfl) ?_
      refine lv_iload_n hx hb dX10_isKey_18 rfl (lv_at hl 1 rfl) ?_
      refine q_iconst hx hb dX10_isKey_19 ?_
      refine q_call_i hA hK hw (va_runV (As := [.int (iI x1), .int (iI 0)]) (rest := []) ⟨hx, hb, hml, hown, hts⟩ (c_X10_laysKeys zo l D cy L0 f0 a0 x1 lx1 ux1 0 (by decide) (by decide) ad hs (by omega) (by omega) (by omega) (by omega) (by omega) (by omega) (by omega) (by omega) (by omega) (by omega) (by omega) _) (cwV 2 hts (gT (inV (mr24 _ (List.mem_of_getElem? (i := 20) rfl)) (mr24 _ (List.mem_of_getElem? (i := 21) rfl)) (mr24 _ (List.mem_of_getElem? (i := 22) rfl)) (mr1 _ (List.mem_of_getElem? (i := 5) rfl)) (mr24 _ (List.mem_of_getElem? (i := 23) rfl)))) rfl rfl rfl (by decide +kernel) ⟨Nat.le_of_ble_eq_true rfl, Nat.le_of_ble_eq_true rfl⟩) (Wd.preV zo hA hZ hw hK hs.1 hs.2.1 rfl) rfl rfl hl.1 rfl (lv_room (Nat.le_of_ble_eq_true rfl)) dX10_isKey_20 ⟨Nat.le_of_ble_eq_true rfl, Nat.le_of_ble_eq_true rfl⟩) (fun x_3 L1 f_4 H locs lx_3 ux_3 ex_3 hw => ?_)
      obtain ⟨rfl, hs, hX, ex_3⟩ := ex_3
      have hE := hE.trans (hX.mono (rs' := [12, 13]) (fs' := []) (by decide) (by decide))
      refine lv_istore_n (lv' := [(3, .int (iI x_3)), (0, .ref a0), (1, .int (iI x1)), (2, .int (iI x2))]) hx hb dX10_isKey_23 rfl hl (by decide) rfl (fun ls hl => ?_)
      refine q_iconst hx hb dX10_isKey_24 ?_
      refine lv_istore (lv' := [(4, .int (iI 0)), (3, .int (iI x_3)), (0, .ref a0), (1, .int (iI x1)), (2, .int (iI x2))]) hx hb dX10_isKey_25 hl (by decide) rfl (fun ls hl => ?_)
      have J27 : ∀ (n27 : Nat) (y4_27 : Int) (ly4_27 : -2147483648 ≤ y4_27) (uy4_27 : y4_27 ≤ 2147483647) (i1 : 0 ≤ y4_27) (hn27 : ((2147483647 : Int) - y4_27).toNat < n27) (H : Heap) (locs : List Loc) (ls : Array Slot) (hw : Wd D A s.heap L0 f_4 H locs) (hl : lv_has ls 5 [(0, .ref a0), (2, .int (iI x2)), (3, .int (iI x_3)), (4, .int (iI y4_27))]), W p l e ({ frames := 3, cells := 0, slots := 0, locals := 74 } : Room) s m ([.ref a0, .int (iI x1), .int (iI x2)] : List Value).toArray below meth c H locs (0 + 0 + 0 + 0) (0 + 0 + 0 + 0) (MQ below (Qi D (tq cy) L0 f0 s.heap.size (fun (r : Int) (L1 : List Nat) (f1 : Nat → va_E) => L0 = L1 ∧ MS cy L0 f1 a0 ad ∧ Kp a0 ad [12, 13] [] f0 f1 ∧ (r = 0 ∨ r = 1))) ([.ref a0, .int (iI x1), .int (iI x2)] : List Value).toArray s 0 0 A) (F0 m 27 ls []) := by
        intro n27
        induction n27 with
        | zero => intro y4_27 ly4_27 uy4_27 i1 hn27; exact absurd hn27 (Nat.not_lt_zero _)
        | succ n27 ih27 =>
          intro y4_27 ly4_27 uy4_27 i1 hn27 H locs ls hw hl
          refine lv_iload hx hb dX10_isKey_27 (lv_at hl 3 rfl) ?_
          refine lv_iload_n hx hb dX10_isKey_29 rfl (lv_at hl 2 rfl) ?_
          refine q_icmp_ge (tgt := 52) hx hb dX10_isKey_30 (by decide) ⟨ly4_27, uy4_27⟩ ⟨lx_3, ux_3⟩ (fun c30 => ?_) (fun c30 => ?_)
          · refine q_iconst hx hb dX10_isKey_52 ?_
            exact q_ret_z hx hb hr hlocks hK hAe hw (by omega) (Nat.le_of_ble_eq_true rfl) (Nat.le_of_ble_eq_true rfl) dX10_isKey_53 (by exact ⟨rfl, hs, hE, by first | trivial | omega⟩)
          · refine lv_aload_n hx hb dX10_isKey_33 rfl (lv_at hl 0 rfl) ?_
            refine q_getr (ci := 8) (C := RX10) (T := TX10) (N := 26) hx hb hts (fun w h => List.mem_cons_of_mem _ (mfX100 w h)) hown hK hw hs.1 hs.2.1 rfl 12 (by decide) (hts _ (List.mem_cons_of_mem _ (mr3 _ (List.mem_of_getElem? (i := 20) rfl)))) (fun _ h => h) rfl (hs.2.2.1 12 rfl).1 dX10_isKey_34 ?_
            refine lv_iload hx hb dX10_isKey_37 (lv_at hl 3 rfl) ?_
            refine q_iald hx hb hK hw (hs.2.2.1 12 rfl).2.1 1 (hs.2.2.1 12 rfl).2.2 rfl ⟨ly4_27, uy4_27⟩ (by omega) (by show _ < ((73050 : Nat) : Int); omega) dX10_isKey_39 (fun x_5 lx_5 ux_5 ex_5 => ?_)
            refine lv_iload_n hx hb dX10_isKey_40 rfl (lv_at hl 1 rfl) ?_
            refine q_icmp_ne (tgt := 46) hx hb dX10_isKey_41 (by decide) ⟨lx_5, ux_5⟩ ⟨lx2, ux2⟩ (fun c41 => ?_) (fun c41 => ?_)
            · obtain ⟨x_6, lx_6, ux_6, hx_6, ex_6⟩ := q_inc y4_27 (1)
              try (replace ex_6 : x_6 = y4_27 + (1) := by omega)
              refine lv_iinc (v := iI x_6) (lv' := [(4, .int (iI x_6)), (0, .ref a0), (2, .int (iI x2)), (3, .int (iI x_3))]) hx hb dX10_isKey_46 hl (k := 3) rfl hx_6 (by decide) rfl (fun ls hl => ?_)
              refine lv_goto (tgt := 27) hx hb dX10_isKey_49 (by decide) ?_
              exact ih27 x_6 lx_6 ux_6 (by omega) (by omega) _ _ _ hw (lv_sub hl [1, 2, 3, 0] rfl)
            · refine q_iconst hx hb dX10_isKey_44 ?_
              exact q_ret_z hx hb hr hlocks hK hAe hw (by omega) (Nat.le_of_ble_eq_true rfl) (Nat.le_of_ble_eq_true rfl) dX10_isKey_45 (by exact ⟨rfl, hs, hE, by first | trivial | omega⟩)
      exact J27 ((((2147483647 : Int) - 0).toNat) + 1) 0 (by decide) (by decide) (by omega) (by omega) _ _ _ hw (lv_sub hl [2, 4, 1, 0] rfl)
    · refine q_iconst hx hb dX10_isKey_15 ?_
      exact q_ret_z hx hb hr hlocks hK hAe hw (by omega) (Nat.le_of_ble_eq_true rfl) (Nat.le_of_ble_eq_true rfl) dX10_isKey_16 (by exact ⟨rfl, hs, hE, by first | trivial | omega⟩)
set_option maxHeartbeats 4000000 in
set_option maxRecDepth 100000 in
theorem c_X10_key {Z : Zt} (zo : Zok Z) (l : Launch) (D : va_G) (cy : Cy) (L0 : List Nat) (f0 : Nat → va_E) (a0 : Nat) (x1 : Int) (lx1 : -2147483648 ≤ x1) (ux1 : x1 ≤ 2147483647) (x2 : Int) (lx2 : -2147483648 ≤ x2) (ux2 : x2 ≤ 2147483647) (ad : Nat → Nat) (hs : MS cy L0 f0 a0 ad) (hv : MV f0 a0 ad) : Ci Z l yX10_key (Cond.code yX10_key cX10_key 5 (some .int) :: TB) ({ frames := 3, cells := 0, slots := 0, locals := 74 } : Room) 0 0 D (tq cy) [.ref a0, .int (iI x1), .int (iI x2)] L0 f0 (fun (r : Int) (L1 : List Nat) (f1 : Nat → va_E) => L0 = L1 ∧ MS cy L0 f1 a0 ad ∧ Kp a0 ad [12, 13] [10] f0 f1 ∧ (True)) := by
  refine Ci.enter (cc := cX10_key) (n := 5) rfl (plainFor_of_name (by decide)) (Nat.le_of_ble_eq_true rfl) ?_
  intro p e s m below meth c ls A hx hb hr hts hown hlocks hnm hml hK hA hAe hw hZ hl
  have hown : s.vm.findClass RX10 = some m.cls := hown
  have hl : lv_has ls 5 [(0, .ref a0), (1, .int (iI x1)), (2, .int (iI x2))] := hl
  have hN : ZN s := (zo.2.2.2.2 _ _ _ hZ).2
  have hE : Kp a0 ad [12, 13] [10] f0 f0 := Kp.refl _ _ _ _ _
  have m5 := hv.1
  have m6 := hv.2.1
  refine lv_aload_n hx hb dX10_key_0 rfl (lv_at hl 0 rfl) ?_
  refine q_iconst hx hb dX10_key_1 ?_
  refine q_puti (ci := 8) (C := RX10) (T := TX10) (N := 26) hx hb hts (fun w h => List.mem_cons_of_mem _ (mfX100 w h)) hown hK hw hs.1 hs.2.1 rfl 10 (by decide) (hts _ (List.mem_cons_of_mem _ (mr4 _ (List.mem_of_getElem? (i := 19) rfl)))) (fun _ h => h) tyX10 tyX10_ok nmX10 rfl (ty := .int) (by decide +kernel) rfl rfl dX10_key_2 (fun H locs hw => ?_)
  obtain ⟨f_1, ef_1⟩ : ∃ g : Nat → va_E, g = pU f0 a0 10 (.int (iI 0)) := ⟨_, rfl⟩
  have v10_f_1 : fI f_1 a0 10 = 0 := by rw [ef_1]; exact fI_pU_self hs.2.1 rfl ⟨by decide, by decide⟩
  have t5_f_1 : fI f_1 a0 5 = fI f0 a0 5 := by rw [ef_1]; exact fI_pU (Or.inr (by decide))
  have hE := hE.trans (show Kp a0 ad [12, 13] [10] f0 f_1 by rw [ef_1]; exact Kp_pU hs (by decide))
  have hs : MS cy L0 f_1 a0 ad := by rw [ef_1]; exact MS_pU hs rfl
  rw [← ef_1] at hw
  refine lv_aload_n hx hb dX10_key_5 rfl (lv_at hl 0 rfl) ?_
  refine lv_iload_n hx hb dX10_key_6 rfl (lv_at hl 1 rfl) ?_
  refine q_call_i hA hK hw (va_runV (As := [.int (iI x1)]) (rest := []) ⟨hx, hb, hml, hown, hts⟩ (c_X10_isBooking zo l D cy L0 f_1 a0 x1 lx1 ux1 ad hs (by omega) _) (cwV 1 hts (gT (inV (mr22 _ (List.mem_of_getElem? (i := 21) rfl)) (mr22 _ (List.mem_of_getElem? (i := 22) rfl)) (mr22 _ (List.mem_of_getElem? (i := 23) rfl)) (mr1 _ (List.mem_of_getElem? (i := 5) rfl)) (mr23 _ (List.mem_of_getElem? (i := 0) rfl)))) rfl rfl rfl (by decide +kernel) ⟨Nat.le_of_ble_eq_true rfl, Nat.le_of_ble_eq_true rfl⟩) (Wd.preV zo hA hZ hw hK hs.1 hs.2.1 rfl) rfl rfl hl.1 rfl (lv_room (Nat.le_of_ble_eq_true rfl)) dX10_key_7 ⟨Nat.le_of_ble_eq_true rfl, Nat.le_of_ble_eq_true rfl⟩) (fun x_2 L1 f1 H locs lx_2 ux_2 ex_2 hw => ?_)
  obtain ⟨rfl, rfl, ex_2⟩ := ex_2
  refine q_if_eq (tgt := 20) hx hb dX10_key_10 (by decide) ⟨lx_2, ux_2⟩ (fun c10 => ?_) (fun c10 => ?_)
  · refine q_iconst hx hb dX10_key_20 ?_
    exact q_ret_i hx hb hr hlocks hK hAe hw ⟨by decide, by decide⟩ (Nat.le_of_ble_eq_true rfl) (Nat.le_of_ble_eq_true rfl) dX10_key_21 (by exact ⟨rfl, hs, hE, by first | trivial | omega⟩)
  · refine lv_iload_n hx hb dX10_key_13 rfl (lv_at hl 2 rfl) ?_
    refine q_call_i hA hK hw (va_runS (As := [.int (iI x2)]) (rest := []) ⟨hx, hb, hml, hown, hts⟩ (c_X10_isDay zo l D cy L0 f_1 x2 lx2 ux2 _) (va_cwS 1 hts (gT (inS (mr23 _ (List.mem_of_getElem? (i := 21) rfl)) (mr23 _ (List.mem_of_getElem? (i := 22) rfl)) (mr1 _ (List.mem_of_getElem? (i := 5) rfl)) (mr23 _ (List.mem_of_getElem? (i := 23) rfl)))) rfl rfl rfl (by decide +kernel) ⟨Nat.le_of_ble_eq_true rfl, Nat.le_of_ble_eq_true rfl⟩) (Wd.preS zo hA hZ hw hK) rfl rfl hl.1 rfl (lv_room (Nat.le_of_ble_eq_true rfl)) dX10_key_14 ⟨Nat.le_of_ble_eq_true rfl, Nat.le_of_ble_eq_true rfl⟩) (fun x_3 L1 f1 H locs lx_3 ux_3 ex_3 hw => ?_)
    obtain ⟨rfl, rfl, ex_3⟩ := ex_3
    have rv_x1 := (show MV f_1 a0 ad by first | exact hv | exact hv.kp hE (by decide) (by decide)).row x1 (by omega) (by omega)
    refine q_if_ne (tgt := 22) hx hb dX10_key_17 (by decide) ⟨lx_3, ux_3⟩ (fun c17 => ?_) (fun c17 => ?_)
    · refine lv_aload_n hx hb dX10_key_22 rfl (lv_at hl 0 rfl) ?_
      refine lv_iload_n hx hb dX10_key_23 rfl (lv_at hl 1 rfl) ?_
      refine q_iconst hx hb dX10_key_24 ?_
      refine q_call_i hA hK hw (va_runV (As := [.int (iI x1), .int (iI 0)]) (rest := []) ⟨hx, hb, hml, hown, hts⟩ (c_X10_laysKeys zo l D cy L0 f_1 a0 x1 lx1 ux1 0 (by decide) (by decide) ad hs (by omega) (by omega) (by omega) (by omega) (by omega) (by omega) (by omega) (by omega) (by omega) (by omega) (by omega) _) (cwV 2 hts (gT (inV (mr24 _ (List.mem_of_getElem? (i := 20) rfl)) (mr24 _ (List.mem_of_getElem? (i := 21) rfl)) (mr24 _ (List.mem_of_getElem? (i := 22) rfl)) (mr1 _ (List.mem_of_getElem? (i := 5) rfl)) (mr24 _ (List.mem_of_getElem? (i := 23) rfl)))) rfl rfl rfl (by decide +kernel) ⟨Nat.le_of_ble_eq_true rfl, Nat.le_of_ble_eq_true rfl⟩) (Wd.preV zo hA hZ hw hK hs.1 hs.2.1 rfl) rfl rfl hl.1 rfl (lv_room (Nat.le_of_ble_eq_true rfl)) dX10_key_25 ⟨Nat.le_of_ble_eq_true rfl, Nat.le_of_ble_eq_true rfl⟩) (fun x_4 L1 f_5 H locs lx_4 ux_4 ex_4 hw => ?_)
      obtain ⟨rfl, hs, hX, ex_4⟩ := ex_4
      have hE := hE.trans (hX.mono (rs' := [12, 13]) (fs' := [10]) (by decide) (by decide))
      have t5_f_5 : fI f_5 a0 5 = fI f_1 a0 5 := hX.2 5 (by decide)
      refine lv_istore_n (lv' := [(3, .int (iI x_4)), (0, .ref a0), (1, .int (iI x1)), (2, .int (iI x2))]) hx hb dX10_key_28 rfl hl (by decide) rfl (fun ls hl => ?_)
      refine q_iconst hx hb dX10_key_29 ?_
      refine lv_istore (lv' := [(4, .int (iI 0)), (3, .int (iI x_4)), (0, .ref a0), (1, .int (iI x1)), (2, .int (iI x2))]) hx hb dX10_key_30 hl (by decide) rfl (fun ls hl => ?_)
      have J32 : ∀ (n32 : Nat) (y4_32 : Int) (ly4_32 : -2147483648 ≤ y4_32) (uy4_32 : y4_32 ≤ 2147483647) (i1 : 0 ≤ y4_32) (hn32 : ((2147483647 : Int) - y4_32).toNat < n32) (H : Heap) (locs : List Loc) (ls : Array Slot) (hw : Wd D A s.heap L0 f_5 H locs) (hl : lv_has ls 5 [(0, .ref a0), (2, .int (iI x2)), (3, .int (iI x_4)), (4, .int (iI y4_32))]), W p l e ({ frames := 3, cells := 0, slots := 0, locals := 74 } : Room) s m ([.ref a0, .int (iI x1), .int (iI x2)] : List Value).toArray below meth c H locs (0 + 0 + 0 + 0) (0 + 0 + 0 + 0) (MQ below (Qi D (tq cy) L0 f0 s.heap.size (fun (r : Int) (L1 : List Nat) (f1 : Nat → va_E) => L0 = L1 ∧ MS cy L0 f1 a0 ad ∧ Kp a0 ad [12, 13] [10] f0 f1 ∧ (True))) ([.ref a0, .int (iI x1), .int (iI x2)] : List Value).toArray s 0 0 A) (F0 m 32 ls []) := by
        intro n32
        induction n32 with
        | zero => intro y4_32 ly4_32 uy4_32 i1 hn32; exact absurd hn32 (Nat.not_lt_zero _)
        | succ n32 ih32 =>
          intro y4_32 ly4_32 uy4_32 i1 hn32 H locs ls hw hl
          refine lv_iload hx hb dX10_key_32 (lv_at hl 3 rfl) ?_
          refine lv_iload_n hx hb dX10_key_34 rfl (lv_at hl 2 rfl) ?_
          refine q_icmp_ge (tgt := 63) hx hb dX10_key_35 (by decide) ⟨ly4_32, uy4_32⟩ ⟨lx_4, ux_4⟩ (fun c35 => ?_) (fun c35 => ?_)
          · refine q_iconst hx hb dX10_key_63 ?_
            exact q_ret_i hx hb hr hlocks hK hAe hw ⟨by decide, by decide⟩ (Nat.le_of_ble_eq_true rfl) (Nat.le_of_ble_eq_true rfl) dX10_key_64 (by exact ⟨rfl, hs, hE, by first | trivial | omega⟩)
          · refine lv_aload_n hx hb dX10_key_38 rfl (lv_at hl 0 rfl) ?_
            refine q_getr (ci := 8) (C := RX10) (T := TX10) (N := 26) hx hb hts (fun w h => List.mem_cons_of_mem _ (mfX100 w h)) hown hK hw hs.1 hs.2.1 rfl 12 (by decide) (hts _ (List.mem_cons_of_mem _ (mr3 _ (List.mem_of_getElem? (i := 20) rfl)))) (fun _ h => h) rfl (hs.2.2.1 12 rfl).1 dX10_key_39 ?_
            refine lv_iload hx hb dX10_key_42 (lv_at hl 3 rfl) ?_
            refine q_iald hx hb hK hw (hs.2.2.1 12 rfl).2.1 1 (hs.2.2.1 12 rfl).2.2 rfl ⟨ly4_32, uy4_32⟩ (by omega) (by show _ < ((73050 : Nat) : Int); omega) dX10_key_44 (fun x_6 lx_6 ux_6 ex_6 => ?_)
            refine lv_iload_n hx hb dX10_key_45 rfl (lv_at hl 1 rfl) ?_
            refine q_icmp_lt (tgt := 57) hx hb dX10_key_46 (by decide) ⟨lx_6, ux_6⟩ ⟨lx2, ux2⟩ (fun c46 => ?_) (fun c46 => ?_)
            · obtain ⟨x_7, lx_7, ux_7, hx_7, ex_7⟩ := q_inc y4_32 (1)
              try (replace ex_7 : x_7 = y4_32 + (1) := by omega)
              refine lv_iinc (v := iI x_7) (lv' := [(4, .int (iI x_7)), (0, .ref a0), (2, .int (iI x2)), (3, .int (iI x_4))]) hx hb dX10_key_57 hl (k := 3) rfl hx_7 (by decide) rfl (fun ls hl => ?_)
              refine lv_goto (tgt := 32) hx hb dX10_key_60 (by decide) ?_
              exact ih32 x_7 lx_7 ux_7 (by omega) (by omega) _ _ _ hw (lv_sub hl [1, 2, 3, 0] rfl)
            · refine lv_aload_n hx hb dX10_key_49 rfl (lv_at hl 0 rfl) ?_
              refine q_getr (ci := 8) (C := RX10) (T := TX10) (N := 26) hx hb hts (fun w h => List.mem_cons_of_mem _ (mfX100 w h)) hown hK hw hs.1 hs.2.1 rfl 12 (by decide) (hts _ (List.mem_cons_of_mem _ (mr3 _ (List.mem_of_getElem? (i := 20) rfl)))) (fun _ h => h) rfl (hs.2.2.1 12 rfl).1 dX10_key_50 ?_
              refine lv_iload hx hb dX10_key_53 (lv_at hl 3 rfl) ?_
              refine q_iald hx hb hK hw (hs.2.2.1 12 rfl).2.1 1 (hs.2.2.1 12 rfl).2.2 rfl ⟨ly4_32, uy4_32⟩ (by omega) (by show _ < ((73050 : Nat) : Int); omega) dX10_key_55 (fun x_8 lx_8 ux_8 ex_8 => ?_)
              exact q_ret_i hx hb hr hlocks hK hAe hw ⟨lx_8, ux_8⟩ (Nat.le_of_ble_eq_true rfl) (Nat.le_of_ble_eq_true rfl) dX10_key_56 (by exact ⟨rfl, hs, hE, by first | trivial | omega⟩)
      exact J32 ((((2147483647 : Int) - 0).toNat) + 1) 0 (by decide) (by decide) (by omega) (by omega) _ _ _ hw (lv_sub hl [2, 4, 1, 0] rfl)
    · refine q_iconst hx hb dX10_key_20 ?_
      exact q_ret_i hx hb hr hlocks hK hAe hw ⟨by decide, by decide⟩ (Nat.le_of_ble_eq_true rfl) (Nat.le_of_ble_eq_true rfl) dX10_key_21 (by exact ⟨rfl, hs, hE, by first | trivial | omega⟩)
set_option maxHeartbeats 4000000 in
set_option maxRecDepth 100000 in
theorem c_X10_keys {Z : Zt} (zo : Zok Z) (l : Launch) (D : va_G) (cy : Cy) (L0 : List Nat) (f0 : Nat → va_E) (a0 : Nat) (x1 : Int) (lx1 : -2147483648 ≤ x1) (ux1 : x1 ≤ 2147483647) (x2 : Int) (lx2 : -2147483648 ≤ x2) (ux2 : x2 ≤ 2147483647) (x3 : Int) (lx3 : -2147483648 ≤ x3) (ux3 : x3 ≤ 2147483647) (ad : Nat → Nat) (hs : MS cy L0 f0 a0 ad) (hv : MV f0 a0 ad) : Ci Z l yX10_keys (Cond.code yX10_keys cX10_keys 7 (some .int) :: TB) ({ frames := 3, cells := 0, slots := 0, locals := 74 } : Room) 0 0 D (tq cy) [.ref a0, .int (iI x1), .int (iI x2), .int (iI x3)] L0 f0 (fun (r : Int) (L1 : List Nat) (f1 : Nat → va_E) => L0 = L1 ∧ MS cy L0 f1 a0 ad ∧ Kp a0 ad [12, 13] [10] f0 f1 ∧ (True)) := by
  refine Ci.enter (cc := cX10_keys) (n := 7) rfl (plainFor_of_name (by decide)) (Nat.le_of_ble_eq_true rfl) ?_
  intro p e s m below meth c ls A hx hb hr hts hown hlocks hnm hml hK hA hAe hw hZ hl
  have hown : s.vm.findClass RX10 = some m.cls := hown
  have hl : lv_has ls 7 [(0, .ref a0), (1, .int (iI x1)), (2, .int (iI x2)), (3, .int (iI x3))] := hl
  have hN : ZN s := (zo.2.2.2.2 _ _ _ hZ).2
  have hE : Kp a0 ad [12, 13] [10] f0 f0 := Kp.refl _ _ _ _ _
  have m5 := hv.1
  have m6 := hv.2.1
  refine lv_aload_n hx hb dX10_keys_0 rfl (lv_at hl 0 rfl) ?_
  refine q_iconst hx hb dX10_keys_1 ?_
  refine q_puti (ci := 8) (C := RX10) (T := TX10) (N := 26) hx hb hts (fun w h => List.mem_cons_of_mem _ (mfX100 w h)) hown hK hw hs.1 hs.2.1 rfl 10 (by decide) (hts _ (List.mem_cons_of_mem _ (mr4 _ (List.mem_of_getElem? (i := 19) rfl)))) (fun _ h => h) tyX10 tyX10_ok nmX10 rfl (ty := .int) (by decide +kernel) rfl rfl dX10_keys_2 (fun H locs hw => ?_)
  obtain ⟨f_1, ef_1⟩ : ∃ g : Nat → va_E, g = pU f0 a0 10 (.int (iI 0)) := ⟨_, rfl⟩
  have v10_f_1 : fI f_1 a0 10 = 0 := by rw [ef_1]; exact fI_pU_self hs.2.1 rfl ⟨by decide, by decide⟩
  have t5_f_1 : fI f_1 a0 5 = fI f0 a0 5 := by rw [ef_1]; exact fI_pU (Or.inr (by decide))
  have hE := hE.trans (show Kp a0 ad [12, 13] [10] f0 f_1 by rw [ef_1]; exact Kp_pU hs (by decide))
  have hs : MS cy L0 f_1 a0 ad := by rw [ef_1]; exact MS_pU hs rfl
  rw [← ef_1] at hw
  refine lv_aload_n hx hb dX10_keys_5 rfl (lv_at hl 0 rfl) ?_
  refine lv_iload_n hx hb dX10_keys_6 rfl (lv_at hl 1 rfl) ?_
  refine q_call_i hA hK hw (va_runV (As := [.int (iI x1)]) (rest := []) ⟨hx, hb, hml, hown, hts⟩ (c_X10_isBooking zo l D cy L0 f_1 a0 x1 lx1 ux1 ad hs (by omega) _) (cwV 1 hts (gT (inV (mr22 _ (List.mem_of_getElem? (i := 21) rfl)) (mr22 _ (List.mem_of_getElem? (i := 22) rfl)) (mr22 _ (List.mem_of_getElem? (i := 23) rfl)) (mr1 _ (List.mem_of_getElem? (i := 5) rfl)) (mr23 _ (List.mem_of_getElem? (i := 0) rfl)))) rfl rfl rfl (by decide +kernel) ⟨Nat.le_of_ble_eq_true rfl, Nat.le_of_ble_eq_true rfl⟩) (Wd.preV zo hA hZ hw hK hs.1 hs.2.1 rfl) rfl rfl hl.1 rfl (lv_room (Nat.le_of_ble_eq_true rfl)) dX10_keys_7 ⟨Nat.le_of_ble_eq_true rfl, Nat.le_of_ble_eq_true rfl⟩) (fun x_2 L1 f1 H locs lx_2 ux_2 ex_2 hw => ?_)
  obtain ⟨rfl, rfl, ex_2⟩ := ex_2
  refine q_if_eq (tgt := 32) hx hb dX10_keys_10 (by decide) ⟨lx_2, ux_2⟩ (fun c10 => ?_) (fun c10 => ?_)
  · refine q_iconst hx hb dX10_keys_32 ?_
    exact q_ret_i hx hb hr hlocks hK hAe hw ⟨by decide, by decide⟩ (Nat.le_of_ble_eq_true rfl) (Nat.le_of_ble_eq_true rfl) dX10_keys_33 (by exact ⟨rfl, hs, hE, by first | trivial | omega⟩)
  · refine lv_iload_n hx hb dX10_keys_13 rfl (lv_at hl 2 rfl) ?_
    refine q_call_i hA hK hw (va_runS (As := [.int (iI x2)]) (rest := []) ⟨hx, hb, hml, hown, hts⟩ (c_X10_isDay zo l D cy L0 f_1 x2 lx2 ux2 _) (va_cwS 1 hts (gT (inS (mr23 _ (List.mem_of_getElem? (i := 21) rfl)) (mr23 _ (List.mem_of_getElem? (i := 22) rfl)) (mr1 _ (List.mem_of_getElem? (i := 5) rfl)) (mr23 _ (List.mem_of_getElem? (i := 23) rfl)))) rfl rfl rfl (by decide +kernel) ⟨Nat.le_of_ble_eq_true rfl, Nat.le_of_ble_eq_true rfl⟩) (Wd.preS zo hA hZ hw hK) rfl rfl hl.1 rfl (lv_room (Nat.le_of_ble_eq_true rfl)) dX10_keys_14 ⟨Nat.le_of_ble_eq_true rfl, Nat.le_of_ble_eq_true rfl⟩) (fun x_3 L1 f1 H locs lx_3 ux_3 ex_3 hw => ?_)
    obtain ⟨rfl, rfl, ex_3⟩ := ex_3
    have rv_x1 := (show MV f_1 a0 ad by first | exact hv | exact hv.kp hE (by decide) (by decide)).row x1 (by omega) (by omega)
    refine q_if_eq (tgt := 32) hx hb dX10_keys_17 (by decide) ⟨lx_3, ux_3⟩ (fun c17 => ?_) (fun c17 => ?_)
    · refine q_iconst hx hb dX10_keys_32 ?_
      exact q_ret_i hx hb hr hlocks hK hAe hw ⟨by decide, by decide⟩ (Nat.le_of_ble_eq_true rfl) (Nat.le_of_ble_eq_true rfl) dX10_keys_33 (by exact ⟨rfl, hs, hE, by first | trivial | omega⟩)
    · refine lv_iload_n hx hb dX10_keys_20 rfl (lv_at hl 3 rfl) ?_
      refine q_call_i hA hK hw (va_runS (As := [.int (iI x3)]) (rest := []) ⟨hx, hb, hml, hown, hts⟩ (c_X10_isDay zo l D cy L0 f_1 x3 lx3 ux3 _) (va_cwS 1 hts (gT (inS (mr23 _ (List.mem_of_getElem? (i := 21) rfl)) (mr23 _ (List.mem_of_getElem? (i := 22) rfl)) (mr1 _ (List.mem_of_getElem? (i := 5) rfl)) (mr23 _ (List.mem_of_getElem? (i := 23) rfl)))) rfl rfl rfl (by decide +kernel) ⟨Nat.le_of_ble_eq_true rfl, Nat.le_of_ble_eq_true rfl⟩) (Wd.preS zo hA hZ hw hK) rfl rfl hl.1 rfl (lv_room (Nat.le_of_ble_eq_true rfl)) dX10_keys_21 ⟨Nat.le_of_ble_eq_true rfl, Nat.le_of_ble_eq_true rfl⟩) (fun x_4 L1 f1 H locs lx_4 ux_4 ex_4 hw => ?_)
      obtain ⟨rfl, rfl, ex_4⟩ := ex_4
      refine q_if_eq (tgt := 32) hx hb dX10_keys_24 (by decide) ⟨lx_4, ux_4⟩ (fun c24 => ?_) (fun c24 => ?_)
      · refine q_iconst hx hb dX10_keys_32 ?_
        exact q_ret_i hx hb hr hlocks hK hAe hw ⟨by decide, by decide⟩ (Nat.le_of_ble_eq_true rfl) (Nat.le_of_ble_eq_true rfl) dX10_keys_33 (by exact ⟨rfl, hs, hE, by first | trivial | omega⟩)
      · refine lv_iload_n hx hb dX10_keys_27 rfl (lv_at hl 3 rfl) ?_
        refine lv_iload_n hx hb dX10_keys_28 rfl (lv_at hl 2 rfl) ?_
        refine q_icmp_ge (tgt := 34) hx hb dX10_keys_29 (by decide) ⟨lx3, ux3⟩ ⟨lx2, ux2⟩ (fun c29 => ?_) (fun c29 => ?_)
        · refine lv_aload_n hx hb dX10_keys_34 rfl (lv_at hl 0 rfl) ?_
          refine lv_iload_n hx hb dX10_keys_35 rfl (lv_at hl 1 rfl) ?_
          refine q_iconst hx hb dX10_keys_36 ?_
          refine q_call_i hA hK hw (va_runV (As := [.int (iI x1), .int (iI 0)]) (rest := []) ⟨hx, hb, hml, hown, hts⟩ (c_X10_laysKeys zo l D cy L0 f_1 a0 x1 lx1 ux1 0 (by decide) (by decide) ad hs (by omega) (by omega) (by omega) (by omega) (by omega) (by omega) (by omega) (by omega) (by omega) (by omega) (by omega) _) (cwV 2 hts (gT (inV (mr24 _ (List.mem_of_getElem? (i := 20) rfl)) (mr24 _ (List.mem_of_getElem? (i := 21) rfl)) (mr24 _ (List.mem_of_getElem? (i := 22) rfl)) (mr1 _ (List.mem_of_getElem? (i := 5) rfl)) (mr24 _ (List.mem_of_getElem? (i := 23) rfl)))) rfl rfl rfl (by decide +kernel) ⟨Nat.le_of_ble_eq_true rfl, Nat.le_of_ble_eq_true rfl⟩) (Wd.preV zo hA hZ hw hK hs.1 hs.2.1 rfl) rfl rfl hl.1 rfl (lv_room (Nat.le_of_ble_eq_true rfl)) dX10_keys_37 ⟨Nat.le_of_ble_eq_true rfl, Nat.le_of_ble_eq_true rfl⟩) (fun x_5 L1 f_6 H locs lx_5 ux_5 ex_5 hw => ?_)
          obtain ⟨rfl, hs, hX, ex_5⟩ := ex_5
          have hE := hE.trans (hX.mono (rs' := [12, 13]) (fs' := [10]) (by decide) (by decide))
          have t5_f_6 : fI f_6 a0 5 = fI f_1 a0 5 := hX.2 5 (by decide)
          refine lv_istore (lv' := [(4, .int (iI x_5)), (0, .ref a0), (1, .int (iI x1)), (2, .int (iI x2)), (3, .int (iI x3))]) hx hb dX10_keys_40 hl (by decide) rfl (fun ls hl => ?_)
          refine q_iconst hx hb dX10_keys_42 ?_
          refine lv_istore (lv' := [(5, .int (iI 0)), (4, .int (iI x_5)), (0, .ref a0), (1, .int (iI x1)), (2, .int (iI x2)), (3, .int (iI x3))]) hx hb dX10_keys_43 hl (by decide) rfl (fun ls hl => ?_)
          refine q_iconst hx hb dX10_keys_45 ?_
          refine lv_istore (lv' := [(6, .int (iI 0)), (5, .int (iI 0)), (4, .int (iI x_5)), (0, .ref a0), (1, .int (iI x1)), (2, .int (iI x2)), (3, .int (iI x3))]) hx hb dX10_keys_46 hl (by decide) rfl (fun ls hl => ?_)
          have J48 : ∀ (n48 : Nat) (y5_48 : Int) (ly5_48 : -2147483648 ≤ y5_48) (uy5_48 : y5_48 ≤ 2147483647) (y6_48 : Int) (ly6_48 : -2147483648 ≤ y6_48) (uy6_48 : y6_48 ≤ 2147483647) (i1 : 0 ≤ y6_48) (hn48 : ((2147483647 : Int) - y6_48).toNat < n48) (H : Heap) (locs : List Loc) (ls : Array Slot) (hw : Wd D A s.heap L0 f_6 H locs) (hl : lv_has ls 7 [(0, .ref a0), (2, .int (iI x2)), (3, .int (iI x3)), (4, .int (iI x_5)), (5, .int (iI y5_48)), (6, .int (iI y6_48))]), W p l e ({ frames := 3, cells := 0, slots := 0, locals := 74 } : Room) s m ([.ref a0, .int (iI x1), .int (iI x2), .int (iI x3)] : List Value).toArray below meth c H locs (0 + 0 + 0 + 0 + 0) (0 + 0 + 0 + 0 + 0) (MQ below (Qi D (tq cy) L0 f0 s.heap.size (fun (r : Int) (L1 : List Nat) (f1 : Nat → va_E) => L0 = L1 ∧ MS cy L0 f1 a0 ad ∧ Kp a0 ad [12, 13] [10] f0 f1 ∧ (True))) ([.ref a0, .int (iI x1), .int (iI x2), .int (iI x3)] : List Value).toArray s 0 0 A) (F0 m 48 ls []) := by
            intro n48
            induction n48 with
            | zero => intro y5_48 ly5_48 uy5_48 y6_48 ly6_48 uy6_48 i1 hn48; exact absurd hn48 (Nat.not_lt_zero _)
            | succ n48 ih48 =>
              intro y5_48 ly5_48 uy5_48 y6_48 ly6_48 uy6_48 i1 hn48 H locs ls hw hl
              refine lv_iload hx hb dX10_keys_48 (lv_at hl 5 rfl) ?_
              refine lv_iload hx hb dX10_keys_50 (lv_at hl 3 rfl) ?_
              refine q_icmp_ge (tgt := 79) hx hb dX10_keys_52 (by decide) ⟨ly6_48, uy6_48⟩ ⟨lx_5, ux_5⟩ (fun c52 => ?_) (fun c52 => ?_)
              · refine lv_iload hx hb dX10_keys_79 (lv_at hl 4 rfl) ?_
                exact q_ret_i hx hb hr hlocks hK hAe hw ⟨ly5_48, uy5_48⟩ (Nat.le_of_ble_eq_true rfl) (Nat.le_of_ble_eq_true rfl) dX10_keys_81 (by exact ⟨rfl, hs, hE, by first | trivial | omega⟩)
              · refine lv_aload_n hx hb dX10_keys_55 rfl (lv_at hl 0 rfl) ?_
                refine q_getr (ci := 8) (C := RX10) (T := TX10) (N := 26) hx hb hts (fun w h => List.mem_cons_of_mem _ (mfX100 w h)) hown hK hw hs.1 hs.2.1 rfl 12 (by decide) (hts _ (List.mem_cons_of_mem _ (mr3 _ (List.mem_of_getElem? (i := 20) rfl)))) (fun _ h => h) rfl (hs.2.2.1 12 rfl).1 dX10_keys_56 ?_
                refine lv_iload hx hb dX10_keys_59 (lv_at hl 5 rfl) ?_
                refine q_iald hx hb hK hw (hs.2.2.1 12 rfl).2.1 1 (hs.2.2.1 12 rfl).2.2 rfl ⟨ly6_48, uy6_48⟩ (by omega) (by show _ < ((73050 : Nat) : Int); omega) dX10_keys_61 (fun x_7 lx_7 ux_7 ex_7 => ?_)
                refine lv_iload_n hx hb dX10_keys_62 rfl (lv_at hl 1 rfl) ?_
                refine lv_iload_n hx hb dX10_keys_63 rfl (lv_at hl 2 rfl) ?_
                refine q_call_i hA hK hw (va_runS (As := [.int (iI x_7), .int (iI x2), .int (iI x3)]) (rest := []) ⟨hx, hb, hml, hown, hts⟩ (c_X10_within zo l D cy L0 f_6 x_7 lx_7 ux_7 x2 lx2 ux2 x3 lx3 ux3 _) (va_cwS 3 hts (gT (inS (mr5 _ (List.mem_of_getElem? (i := 9) rfl)) (mr5 _ (List.mem_of_getElem? (i := 10) rfl)) (mr1 _ (List.mem_of_getElem? (i := 5) rfl)) (mr5 _ (List.mem_of_getElem? (i := 11) rfl)))) rfl rfl rfl (by decide +kernel) ⟨Nat.le_of_ble_eq_true rfl, Nat.le_of_ble_eq_true rfl⟩) (Wd.preS zo hA hZ hw hK) rfl rfl hl.1 rfl (lv_room (Nat.le_of_ble_eq_true rfl)) dX10_keys_64 ⟨Nat.le_of_ble_eq_true rfl, Nat.le_of_ble_eq_true rfl⟩) (fun x_8 L1 f1 H locs lx_8 ux_8 ex_8 hw => ?_)
                obtain ⟨rfl, rfl, ex_8⟩ := ex_8
                have J73 : ∀ (z5_73 : Int) (lz5_73 : -2147483648 ≤ z5_73) (uz5_73 : z5_73 ≤ 2147483647) (H : Heap) (locs : List Loc) (ls : Array Slot) (hw : Wd D A s.heap L0 f_6 H locs) (hl : lv_has ls 7 [(0, .ref a0), (2, .int (iI x2)), (3, .int (iI x3)), (4, .int (iI x_5)), (5, .int (iI z5_73)), (6, .int (iI y6_48))]), W p l e ({ frames := 3, cells := 0, slots := 0, locals := 74 } : Room) s m ([.ref a0, .int (iI x1), .int (iI x2), .int (iI x3)] : List Value).toArray below meth c H locs (0 + 0 + 0 + 0 + 0 + 0) (0 + 0 + 0 + 0 + 0 + 0) (MQ below (Qi D (tq cy) L0 f0 s.heap.size (fun (r : Int) (L1 : List Nat) (f1 : Nat → va_E) => L0 = L1 ∧ MS cy L0 f1 a0 ad ∧ Kp a0 ad [12, 13] [10] f0 f1 ∧ (True))) ([.ref a0, .int (iI x1), .int (iI x2), .int (iI x3)] : List Value).toArray s 0 0 A) (F0 m 73 ls []) := by
                  intro z5_73 lz5_73 uz5_73 H locs ls hw hl
                  obtain ⟨x_9, lx_9, ux_9, hx_9, ex_9⟩ := q_inc y6_48 (1)
                  try (replace ex_9 : x_9 = y6_48 + (1) := by omega)
                  refine lv_iinc (v := iI x_9) (lv' := [(6, .int (iI x_9)), (0, .ref a0), (2, .int (iI x2)), (3, .int (iI x3)), (4, .int (iI x_5)), (5, .int (iI z5_73))]) hx hb dX10_keys_73 hl (k := 5) rfl hx_9 (by decide) rfl (fun ls hl => ?_)
                  refine lv_goto (tgt := 48) hx hb dX10_keys_76 (by decide) ?_
                  exact ih48 z5_73 lz5_73 uz5_73 x_9 lx_9 ux_9 (by omega) (by omega) _ _ _ hw (lv_sub hl [1, 2, 3, 4, 5, 0] rfl)
                refine q_if_eq (tgt := 73) hx hb dX10_keys_67 (by decide) ⟨lx_8, ux_8⟩ (fun c67 => ?_) (fun c67 => ?_)
                · exact J73 y5_48 ly5_48 uy5_48 _ _ _ hw (lv_sub hl [0, 1, 2, 3, 4, 5] rfl)
                · obtain ⟨x_10, lx_10, ux_10, hx_10, ex_10⟩ := q_inc y5_48 (1)
                  try (replace ex_10 : x_10 = y5_48 + (1) := by omega)
                  refine lv_iinc (v := iI x_10) (lv' := [(5, .int (iI x_10)), (0, .ref a0), (2, .int (iI x2)), (3, .int (iI x3)), (4, .int (iI x_5)), (6, .int (iI y6_48))]) hx hb dX10_keys_70 hl (k := 4) rfl hx_10 (by decide) rfl (fun ls hl => ?_)
                  exact J73 x_10 lx_10 ux_10 _ _ _ hw (lv_sub hl [1, 2, 3, 4, 0, 5] rfl)
          exact J48 ((((2147483647 : Int) - 0).toNat) + 1) 0 (by decide) (by decide) 0 (by decide) (by decide) (by omega) (by omega) _ _ _ hw (lv_sub hl [3, 5, 6, 2, 1, 0] rfl)
        · refine q_iconst hx hb dX10_keys_32 ?_
          exact q_ret_i hx hb hr hlocks hK hAe hw ⟨by decide, by decide⟩ (Nat.le_of_ble_eq_true rfl) (Nat.le_of_ble_eq_true rfl) dX10_keys_33 (by exact ⟨rfl, hs, hE, by first | trivial | omega⟩)
set_option maxHeartbeats 4000000 in
set_option maxRecDepth 100000 in
theorem c_X10_of {Z : Zt} (zo : Zok Z) (l : Launch) (D : va_G) (cy : Cy) (L0 : List Nat) (f0 : Nat → va_E) (a0 : Nat) (x1 : Int) (lx1 : -2147483648 ≤ x1) (ux1 : x1 ≤ 2147483647) (x2 : Int) (lx2 : -2147483648 ≤ x2) (ux2 : x2 ≤ 2147483647) (ad : Nat → Nat) (hs : MS cy L0 f0 a0 ad) (hv : MV f0 a0 ad) : Ci Z l yX10_of (Cond.code yX10_of cX10_of 4 (some .int) :: TB) ({ frames := 3, cells := 0, slots := 0, locals := 74 } : Room) 0 0 D (tq cy) [.ref a0, .int (iI x1), .int (iI x2)] L0 f0 (fun (r : Int) (L1 : List Nat) (f1 : Nat → va_E) => L0 = L1 ∧ MS cy L0 f1 a0 ad ∧ Kp a0 ad [12, 13] [10] f0 f1 ∧ (True)) := by
  refine Ci.enter (cc := cX10_of) (n := 4) rfl (plainFor_of_name (by decide)) (Nat.le_of_ble_eq_true rfl) ?_
  intro p e s m below meth c ls A hx hb hr hts hown hlocks hnm hml hK hA hAe hw hZ hl
  have hown : s.vm.findClass RX10 = some m.cls := hown
  have hl : lv_has ls 4 [(0, .ref a0), (1, .int (iI x1)), (2, .int (iI x2))] := hl
  have hN : ZN s := (zo.2.2.2.2 _ _ _ hZ).2
  have hE : Kp a0 ad [12, 13] [10] f0 f0 := Kp.refl _ _ _ _ _
  have m5 := hv.1
  have m6 := hv.2.1
  refine lv_aload_n hx hb dX10_of_0 rfl (lv_at hl 0 rfl) ?_
  refine q_iconst hx hb dX10_of_1 ?_
  refine q_puti (ci := 8) (C := RX10) (T := TX10) (N := 26) hx hb hts (fun w h => List.mem_cons_of_mem _ (mfX100 w h)) hown hK hw hs.1 hs.2.1 rfl 10 (by decide) (hts _ (List.mem_cons_of_mem _ (mr4 _ (List.mem_of_getElem? (i := 19) rfl)))) (fun _ h => h) tyX10 tyX10_ok nmX10 rfl (ty := .int) (by decide +kernel) rfl rfl dX10_of_2 (fun H locs hw => ?_)
  obtain ⟨f_1, ef_1⟩ : ∃ g : Nat → va_E, g = pU f0 a0 10 (.int (iI 0)) := ⟨_, rfl⟩
  have v10_f_1 : fI f_1 a0 10 = 0 := by rw [ef_1]; exact fI_pU_self hs.2.1 rfl ⟨by decide, by decide⟩
  have t5_f_1 : fI f_1 a0 5 = fI f0 a0 5 := by rw [ef_1]; exact fI_pU (Or.inr (by decide))
  have hE := hE.trans (show Kp a0 ad [12, 13] [10] f0 f_1 by rw [ef_1]; exact Kp_pU hs (by decide))
  have hs : MS cy L0 f_1 a0 ad := by rw [ef_1]; exact MS_pU hs rfl
  rw [← ef_1] at hw
  refine lv_aload_n hx hb dX10_of_5 rfl (lv_at hl 0 rfl) ?_
  refine lv_iload_n hx hb dX10_of_6 rfl (lv_at hl 1 rfl) ?_
  refine q_call_i hA hK hw (va_runV (As := [.int (iI x1)]) (rest := []) ⟨hx, hb, hml, hown, hts⟩ (c_X10_isBooking zo l D cy L0 f_1 a0 x1 lx1 ux1 ad hs (by omega) _) (cwV 1 hts (gT (inV (mr22 _ (List.mem_of_getElem? (i := 21) rfl)) (mr22 _ (List.mem_of_getElem? (i := 22) rfl)) (mr22 _ (List.mem_of_getElem? (i := 23) rfl)) (mr1 _ (List.mem_of_getElem? (i := 5) rfl)) (mr23 _ (List.mem_of_getElem? (i := 0) rfl)))) rfl rfl rfl (by decide +kernel) ⟨Nat.le_of_ble_eq_true rfl, Nat.le_of_ble_eq_true rfl⟩) (Wd.preV zo hA hZ hw hK hs.1 hs.2.1 rfl) rfl rfl hl.1 rfl (lv_room (Nat.le_of_ble_eq_true rfl)) dX10_of_7 ⟨Nat.le_of_ble_eq_true rfl, Nat.le_of_ble_eq_true rfl⟩) (fun x_2 L1 f1 H locs lx_2 ux_2 ex_2 hw => ?_)
  obtain ⟨rfl, rfl, ex_2⟩ := ex_2
  refine q_if_eq (tgt := 23) hx hb dX10_of_10 (by decide) ⟨lx_2, ux_2⟩ (fun c10 => ?_) (fun c10 => ?_)
  · refine q_bipush hx hb dX10_of_23 rfl ?_
    exact q_ret_i hx hb hr hlocks hK hAe hw ⟨by decide, by decide⟩ (Nat.le_of_ble_eq_true rfl) (Nat.le_of_ble_eq_true rfl) dX10_of_25 (by exact ⟨rfl, hs, hE, by first | trivial | omega⟩)
  · refine lv_iload_n hx hb dX10_of_13 rfl (lv_at hl 2 rfl) ?_
    refine q_iconst hx hb dX10_of_14 ?_
    refine q_bipush hx hb dX10_of_15 rfl ?_
    refine q_call_i hA hK hw (va_runS (As := [.int (iI x2), .int (iI 0), .int (iI 13)]) (rest := []) ⟨hx, hb, hml, hown, hts⟩ (c_X10_within zo l D cy L0 f_1 x2 lx2 ux2 0 (by decide) (by decide) 13 (by decide) (by decide) _) (va_cwS 3 hts (gT (inS (mr5 _ (List.mem_of_getElem? (i := 9) rfl)) (mr5 _ (List.mem_of_getElem? (i := 10) rfl)) (mr1 _ (List.mem_of_getElem? (i := 5) rfl)) (mr5 _ (List.mem_of_getElem? (i := 11) rfl)))) rfl rfl rfl (by decide +kernel) ⟨Nat.le_of_ble_eq_true rfl, Nat.le_of_ble_eq_true rfl⟩) (Wd.preS zo hA hZ hw hK) rfl rfl hl.1 rfl (lv_room (Nat.le_of_ble_eq_true rfl)) dX10_of_17 ⟨Nat.le_of_ble_eq_true rfl, Nat.le_of_ble_eq_true rfl⟩) (fun x_3 L1 f1 H locs lx_3 ux_3 ex_3 hw => ?_)
    obtain ⟨rfl, rfl, ex_3⟩ := ex_3
    try have rv_x1 := (show MV f_1 a0 ad by first | exact hv | exact hv.kp hE (by decide) (by decide)).row x1 (by omega) (by omega)
    refine q_if_ne (tgt := 26) hx hb dX10_of_20 (by decide) ⟨lx_3, ux_3⟩ (fun c20 => ?_) (fun c20 => ?_)
    · refine lv_iload_n hx hb dX10_of_26 rfl (lv_at hl 2 rfl) ?_
      refine q_bipush hx hb dX10_of_27 rfl ?_
      refine q_icmp_ge (tgt := 39) hx hb dX10_of_29 (by decide) ⟨lx2, ux2⟩ ⟨by decide, by decide⟩ (fun c29 => ?_) (fun c29 => ?_)
      · refine lv_iload_n hx hb dX10_of_39 rfl (lv_at hl 2 rfl) ?_
        refine q_bipush hx hb dX10_of_40 rfl ?_
        refine q_icmp_ge (tgt := 62) hx hb dX10_of_42 (by decide) ⟨lx2, ux2⟩ ⟨by decide, by decide⟩ (fun c42 => ?_) (fun c42 => ?_)
        · refine lv_aload_n hx hb dX10_of_62 rfl (lv_at hl 0 rfl) ?_
          refine lv_iload_n hx hb dX10_of_63 rfl (lv_at hl 1 rfl) ?_
          refine q_iconst hx hb dX10_of_64 ?_
          refine q_call_i hA hK hw (va_runV (As := [.int (iI x1), .int (iI 0)]) (rest := []) ⟨hx, hb, hml, hown, hts⟩ (c_X10_laysKeys zo l D cy L0 f_1 a0 x1 lx1 ux1 0 (by decide) (by decide) ad hs (by omega) (by omega) (by omega) (by omega) (by omega) (by omega) (by omega) (by omega) (by omega) (by omega) (by omega) _) (cwV 2 hts (gT (inV (mr24 _ (List.mem_of_getElem? (i := 20) rfl)) (mr24 _ (List.mem_of_getElem? (i := 21) rfl)) (mr24 _ (List.mem_of_getElem? (i := 22) rfl)) (mr1 _ (List.mem_of_getElem? (i := 5) rfl)) (mr24 _ (List.mem_of_getElem? (i := 23) rfl)))) rfl rfl rfl (by decide +kernel) ⟨Nat.le_of_ble_eq_true rfl, Nat.le_of_ble_eq_true rfl⟩) (Wd.preV zo hA hZ hw hK hs.1 hs.2.1 rfl) rfl rfl hl.1 rfl (lv_room (Nat.le_of_ble_eq_true rfl)) dX10_of_65 ⟨Nat.le_of_ble_eq_true rfl, Nat.le_of_ble_eq_true rfl⟩) (fun x_4 L1 f_5 H locs lx_4 ux_4 ex_4 hw => ?_)
          obtain ⟨rfl, hs, hX, ex_4⟩ := ex_4
          have hE := hE.trans (hX.mono (rs' := [12, 13]) (fs' := [10]) (by decide) (by decide))
          have t5_f_5 : fI f_5 a0 5 = fI f_1 a0 5 := hX.2 5 (by decide)
          refine lv_istore_n (lv' := [(3, .int (iI x_4)), (0, .ref a0), (1, .int (iI x1)), (2, .int (iI x2))]) hx hb dX10_of_68 rfl hl (by decide) rfl (fun ls hl => ?_)
          refine lv_iload_n hx hb dX10_of_69 rfl (lv_at hl 0 rfl) ?_
          refine q_if_ne (tgt := 77) hx hb dX10_of_70 (by decide) ⟨lx_4, ux_4⟩ (fun c70 => ?_) (fun c70 => ?_)
          · refine lv_iload_n hx hb dX10_of_77 rfl (lv_at hl 3 rfl) ?_
            refine q_bipush hx hb dX10_of_78 rfl ?_
            refine q_icmp_ne (tgt := 92) hx hb dX10_of_80 (by decide) ⟨lx2, ux2⟩ ⟨by decide, by decide⟩ (fun c80 => ?_) (fun c80 => ?_)
            · refine lv_aload_n hx hb dX10_of_92 rfl (lv_at hl 1 rfl) ?_
              refine q_getr (ci := 8) (C := RX10) (T := TX10) (N := 26) hx hb hts (fun w h => List.mem_cons_of_mem _ (mfX100 w h)) hown hK hw hs.1 hs.2.1 rfl 12 (by decide) (hts _ (List.mem_cons_of_mem _ (mr3 _ (List.mem_of_getElem? (i := 20) rfl)))) (fun _ h => h) rfl (hs.2.2.1 12 rfl).1 dX10_of_93 ?_
              refine lv_iload_n hx hb dX10_of_96 rfl (lv_at hl 0 rfl) ?_
              refine q_iconst hx hb dX10_of_97 ?_
              first | refine q_isub hx hb dX10_of_98 ⟨by omega, by omega⟩ (fun x_6 lx_6 ux_6 ex_6 => ?_) | refine q_isubw hx hb dX10_of_98 (fun x_6 lx_6 ux_6 ex_6 => ?_)
              refine q_iald hx hb hK hw (hs.2.2.1 12 rfl).2.1 1 (hs.2.2.1 12 rfl).2.2 rfl ⟨lx_6, ux_6⟩ (by omega) (by show _ < ((73050 : Nat) : Int); omega) dX10_of_99 (fun x_7 lx_7 ux_7 ex_7 => ?_)
              exact q_ret_i hx hb hr hlocks hK hAe hw ⟨lx_7, ux_7⟩ (Nat.le_of_ble_eq_true rfl) (Nat.le_of_ble_eq_true rfl) dX10_of_100 (by exact ⟨rfl, hs, hE, by first | trivial | omega⟩)
            · refine lv_aload_n hx hb dX10_of_83 rfl (lv_at hl 1 rfl) ?_
              refine q_getr (ci := 8) (C := RX10) (T := TX10) (N := 26) hx hb hts (fun w h => List.mem_cons_of_mem _ (mfX100 w h)) hown hK hw hs.1 hs.2.1 rfl 12 (by decide) (hts _ (List.mem_cons_of_mem _ (mr3 _ (List.mem_of_getElem? (i := 20) rfl)))) (fun _ h => h) rfl (hs.2.2.1 12 rfl).1 dX10_of_84 ?_
              refine q_iconst hx hb dX10_of_87 ?_
              refine q_iald hx hb hK hw (hs.2.2.1 12 rfl).2.1 1 (hs.2.2.1 12 rfl).2.2 rfl ⟨by decide, by decide⟩ (by omega) (by show _ < ((73050 : Nat) : Int); omega) dX10_of_88 (fun x_8 lx_8 ux_8 ex_8 => ?_)
              refine lv_goto (tgt := 100) hx hb dX10_of_89 (by decide) ?_
              exact q_ret_i hx hb hr hlocks hK hAe hw ⟨lx_8, ux_8⟩ (Nat.le_of_ble_eq_true rfl) (Nat.le_of_ble_eq_true rfl) dX10_of_100 (by exact ⟨rfl, hs, hE, by first | trivial | omega⟩)
          · refine q_iconst hx hb dX10_of_73 ?_
            refine lv_goto (tgt := 100) hx hb dX10_of_74 (by decide) ?_
            exact q_ret_i hx hb hr hlocks hK hAe hw ⟨by decide, by decide⟩ (Nat.le_of_ble_eq_true rfl) (Nat.le_of_ble_eq_true rfl) dX10_of_100 (by exact ⟨rfl, hs, hE, by first | trivial | omega⟩)
        · refine lv_aload_n hx hb dX10_of_45 rfl (lv_at hl 0 rfl) ?_
          refine lv_iload_n hx hb dX10_of_46 rfl (lv_at hl 1 rfl) ?_
          refine lv_iload_n hx hb dX10_of_47 rfl (lv_at hl 2 rfl) ?_
          refine q_bipush hx hb dX10_of_48 rfl ?_
          refine q_icmp_ne (tgt := 57) hx hb dX10_of_50 (by decide) ⟨lx2, ux2⟩ ⟨by decide, by decide⟩ (fun c50 => ?_) (fun c50 => ?_)
          · refine q_iconst hx hb dX10_of_57 ?_
            refine q_call_i hA hK hw (va_runV (As := [.int (iI x1), .int (iI 0)]) (rest := []) ⟨hx, hb, hml, hown, hts⟩ (c_X10_oddMany zo l D cy L0 f_1 a0 x1 lx1 ux1 0 (by decide) (by decide) ad hs (by omega) (by omega) (by omega) (by omega) _) (cwV 2 hts (gT (inV (mr44 _ (List.mem_of_getElem? (i := 10) rfl)) (mr44 _ (List.mem_of_getElem? (i := 11) rfl)) (mr44 _ (List.mem_of_getElem? (i := 12) rfl)) (mr1 _ (List.mem_of_getElem? (i := 5) rfl)) (mr44 _ (List.mem_of_getElem? (i := 13) rfl)))) rfl rfl rfl (by decide +kernel) ⟨Nat.le_of_ble_eq_true rfl, Nat.le_of_ble_eq_true rfl⟩) (Wd.preV zo hA hZ hw hK hs.1 hs.2.1 rfl) rfl rfl hl.1 rfl (lv_room (Nat.le_of_ble_eq_true rfl)) dX10_of_58 ⟨Nat.le_of_ble_eq_true rfl, Nat.le_of_ble_eq_true rfl⟩) (fun x_9 L1 f1 H locs lx_9 ux_9 ex_9 hw => ?_)
            obtain ⟨rfl, rfl, ex_9⟩ := ex_9
            exact q_ret_i hx hb hr hlocks hK hAe hw ⟨lx_9, ux_9⟩ (Nat.le_of_ble_eq_true rfl) (Nat.le_of_ble_eq_true rfl) dX10_of_61 (by exact ⟨rfl, hs, hE, by first | trivial | omega⟩)
          · refine q_iconst hx hb dX10_of_53 ?_
            refine lv_goto (tgt := 58) hx hb dX10_of_54 (by decide) ?_
            refine q_call_i hA hK hw (va_runV (As := [.int (iI x1), .int (iI 1)]) (rest := []) ⟨hx, hb, hml, hown, hts⟩ (c_X10_oddMany zo l D cy L0 f_1 a0 x1 lx1 ux1 1 (by decide) (by decide) ad hs (by omega) (by omega) (by omega) (by omega) _) (cwV 2 hts (gT (inV (mr44 _ (List.mem_of_getElem? (i := 10) rfl)) (mr44 _ (List.mem_of_getElem? (i := 11) rfl)) (mr44 _ (List.mem_of_getElem? (i := 12) rfl)) (mr1 _ (List.mem_of_getElem? (i := 5) rfl)) (mr44 _ (List.mem_of_getElem? (i := 13) rfl)))) rfl rfl rfl (by decide +kernel) ⟨Nat.le_of_ble_eq_true rfl, Nat.le_of_ble_eq_true rfl⟩) (Wd.preV zo hA hZ hw hK hs.1 hs.2.1 rfl) rfl rfl hl.1 rfl (lv_room (Nat.le_of_ble_eq_true rfl)) dX10_of_58 ⟨Nat.le_of_ble_eq_true rfl, Nat.le_of_ble_eq_true rfl⟩) (fun x_10 L1 f1 H locs lx_10 ux_10 ex_10 hw => ?_)
            obtain ⟨rfl, rfl, ex_10⟩ := ex_10
            exact q_ret_i hx hb hr hlocks hK hAe hw ⟨lx_10, ux_10⟩ (Nat.le_of_ble_eq_true rfl) (Nat.le_of_ble_eq_true rfl) dX10_of_61 (by exact ⟨rfl, hs, hE, by first | trivial | omega⟩)
      · refine lv_aload_n hx hb dX10_of_32 rfl (lv_at hl 0 rfl) ?_
        refine lv_iload_n hx hb dX10_of_33 rfl (lv_at hl 1 rfl) ?_
        refine lv_iload_n hx hb dX10_of_34 rfl (lv_at hl 2 rfl) ?_
        refine q_call_i hA hK hw (va_runV (As := [.int (iI x1), .int (iI x2)]) (rest := []) ⟨hx, hb, hml, hown, hts⟩ (c_X10_get zo l D cy L0 f_1 a0 x1 lx1 ux1 x2 lx2 ux2 ad hs (by omega) (by omega) (by omega) (by omega) _) (cwV 2 hts (gT (inV (mr25 _ (List.mem_of_getElem? (i := 0) rfl)) (mr25 _ (List.mem_of_getElem? (i := 1) rfl)) (mr25 _ (List.mem_of_getElem? (i := 2) rfl)) (mr1 _ (List.mem_of_getElem? (i := 5) rfl)) (mr25 _ (List.mem_of_getElem? (i := 3) rfl)))) rfl rfl rfl (by decide +kernel) ⟨Nat.le_of_ble_eq_true rfl, Nat.le_of_ble_eq_true rfl⟩) (Wd.preV zo hA hZ hw hK hs.1 hs.2.1 rfl) rfl rfl hl.1 rfl (lv_room (Nat.le_of_ble_eq_true rfl)) dX10_of_35 ⟨Nat.le_of_ble_eq_true rfl, Nat.le_of_ble_eq_true rfl⟩) (fun x_11 L1 f1 H locs lx_11 ux_11 ex_11 hw => ?_)
        obtain ⟨rfl, rfl, ex_11⟩ := ex_11
        exact q_ret_i hx hb hr hlocks hK hAe hw ⟨lx_11, ux_11⟩ (Nat.le_of_ble_eq_true rfl) (Nat.le_of_ble_eq_true rfl) dX10_of_38 (by exact ⟨rfl, hs, hE, by first | trivial | omega⟩)
    · refine q_bipush hx hb dX10_of_23 rfl ?_
      exact q_ret_i hx hb hr hlocks hK hAe hw ⟨by decide, by decide⟩ (Nat.le_of_ble_eq_true rfl) (Nat.le_of_ble_eq_true rfl) dX10_of_25 (by exact ⟨rfl, hs, hE, by first | trivial | omega⟩)
set_option maxHeartbeats 4000000 in
set_option maxRecDepth 100000 in
theorem c_X10_periodFor {Z : Zt} (zo : Zok Z) (l : Launch) (D : va_G) (cy : Cy) (L0 : List Nat) (f0 : Nat → va_E) (a0 : Nat) (x1 : Int) (lx1 : -2147483648 ≤ x1) (ux1 : x1 ≤ 2147483647) (ad : Nat → Nat) (hs : MS cy L0 f0 a0 ad) (b1 : 0 ≤ x1) (b2 : x1 ≤ 11) (s4a : 0 ≤ aI f0 (ad 4) (44 * x1 + 4)) (s4b : aI f0 (ad 4) (44 * x1 + 4) ≤ 999) : Cl Z l yX10_periodFor (Cond.code yX10_periodFor cX10_periodFor 4 (some .long) :: TB) ({ frames := 1, cells := 0, slots := 0, locals := 29 } : Room) 0 0 D (tq cy) [.ref a0, .int (iI x1)] L0 f0 (fun (r : Int) (L1 : List Nat) (f1 : Nat → va_E) => L0 = L1 ∧ f0 = f1 ∧ (0 ≤ r)) := by
  refine Cl.enter (cc := cX10_periodFor) (n := 4) rfl (plainFor_of_name (by decide)) (Nat.le_of_ble_eq_true rfl) ?_
  intro p e s m below meth c ls A hx hb hr hts hown hlocks hnm hml hK hA hAe hw hZ hl
  have hown : s.vm.findClass RX10 = some m.cls := hown
  have hl : lv_has ls 4 [(0, .ref a0), (1, .int (iI x1))] := hl
  have hN : ZN s := (zo.2.2.2.2 _ _ _ hZ).2
  refine lv_aload_n hx hb dX10_periodFor_0 rfl (lv_at hl 0 rfl) ?_
  refine lv_iload_n hx hb dX10_periodFor_1 rfl (lv_at hl 1 rfl) ?_
  refine q_iconst hx hb dX10_periodFor_2 ?_
  refine q_call_i hA hK hw (va_runV (As := [.int (iI x1), .int (iI 4)]) (rest := []) ⟨hx, hb, hml, hown, hts⟩ (c_X10_get zo l D cy L0 f0 a0 x1 lx1 ux1 4 (by decide) (by decide) ad hs (by omega) (by omega) (by omega) (by omega) _) (cwV 2 hts (gT (inV (mr25 _ (List.mem_of_getElem? (i := 0) rfl)) (mr25 _ (List.mem_of_getElem? (i := 1) rfl)) (mr25 _ (List.mem_of_getElem? (i := 2) rfl)) (mr1 _ (List.mem_of_getElem? (i := 5) rfl)) (mr25 _ (List.mem_of_getElem? (i := 3) rfl)))) rfl rfl rfl (by decide +kernel) ⟨Nat.le_of_ble_eq_true rfl, Nat.le_of_ble_eq_true rfl⟩) (Wd.preV zo hA hZ hw hK hs.1 hs.2.1 rfl) rfl rfl hl.1 rfl (lv_room (Nat.le_of_ble_eq_true rfl)) dX10_periodFor_3 ⟨Nat.le_of_ble_eq_true rfl, Nat.le_of_ble_eq_true rfl⟩) (fun x_1 L1 f1 H locs lx_1 ux_1 ex_1 hw => ?_)
  obtain ⟨rfl, rfl, ex_1⟩ := ex_1
  refine q_i2l hx hb dX10_periodFor_6 ⟨lx_1, ux_1⟩ ?_
  obtain ⟨j_2, lj_2, uj_2, ej_2⟩ : ∃ z : Int, -9223372036854775808 ≤ z ∧ z ≤ 9223372036854775807 ∧ x_1 = z := ⟨x_1, by omega, by omega, rfl⟩
  rw [show (lJ x_1) = lJ j_2 from by rw [ej_2]]
  refine lv_lstore_n (lv' := [(2, .long (lJ j_2)), (0, .ref a0), (1, .int (iI x1))]) hx hb dX10_periodFor_7 rfl hl (by decide) rfl (fun ls hl => ?_)
  refine lv_aload_n hx hb dX10_periodFor_8 rfl (lv_at hl 1 rfl) ?_
  refine lv_iload_n hx hb dX10_periodFor_9 rfl (lv_at hl 2 rfl) ?_
  refine q_iconst hx hb dX10_periodFor_10 ?_
  refine q_call_i hA hK hw (va_runV (As := [.int (iI x1), .int (iI 3)]) (rest := []) ⟨hx, hb, hml, hown, hts⟩ (c_X10_get zo l D cy L0 f0 a0 x1 lx1 ux1 3 (by decide) (by decide) ad hs (by omega) (by omega) (by omega) (by omega) _) (cwV 2 hts (gT (inV (mr25 _ (List.mem_of_getElem? (i := 0) rfl)) (mr25 _ (List.mem_of_getElem? (i := 1) rfl)) (mr25 _ (List.mem_of_getElem? (i := 2) rfl)) (mr1 _ (List.mem_of_getElem? (i := 5) rfl)) (mr25 _ (List.mem_of_getElem? (i := 3) rfl)))) rfl rfl rfl (by decide +kernel) ⟨Nat.le_of_ble_eq_true rfl, Nat.le_of_ble_eq_true rfl⟩) (Wd.preV zo hA hZ hw hK hs.1 hs.2.1 rfl) rfl rfl hl.1 rfl (lv_room (Nat.le_of_ble_eq_true rfl)) dX10_periodFor_11 ⟨Nat.le_of_ble_eq_true rfl, Nat.le_of_ble_eq_true rfl⟩) (fun x_3 L1 f1 H locs lx_3 ux_3 ex_3 hw => ?_)
  obtain ⟨rfl, rfl, ex_3⟩ := ex_3
  have t14 : (iI x_3).toInt = x_3 := iI_toInt ⟨lx_3, ux_3⟩
  rcases (show (x_3 < 0 ∨ 7 < x_3) ∨ (x_3 = 0) ∨ (x_3 = 1) ∨ (x_3 = 2) ∨ (x_3 = 3) ∨ (x_3 = 4) ∨ (x_3 = 5) ∨ (x_3 = 6) ∨ (x_3 = 7) by omega) with k14 | k14 | k14 | k14 | k14 | k14 | k14 | k14 | k14
  · refine lv_tableOut (tgt := 92) hx hb dX10_periodFor_14 (by rw [t14]; omega) (by decide) ?_
    refine q_ldc2 (n := 146097) hx hb hown (hts _ (List.mem_cons_of_mem _ (mr41 _ (List.mem_of_getElem? (i := 22) rfl)))) rfl dX10_periodFor_92 ?_
    refine lv_lload_n hx hb dX10_periodFor_95 rfl (lv_at hl 0 rfl) ?_
    refine lv_lload_n hx hb dX10_periodFor_96 rfl (lv_at hl 0 rfl) ?_
    refine q_ldc2 (n := 4800) hx hb hown (hts _ (List.mem_cons_of_mem _ (mr42 _ (List.mem_of_getElem? (i := 0) rfl)))) rfl dX10_periodFor_97 ?_
    refine q_call_l hA hK hw (va_runS (As := [.long (lJ j_2), .long (lJ 4800)]) (rest := [.long (lJ j_2), .long (lJ 146097)]) ⟨hx, hb, hml, hown, hts⟩ (c_X10_gcd zo l D cy L0 f0 j_2 lj_2 uj_2 4800 (by decide) (by decide) (by omega) (by omega) _) (va_cwS 2 hts (gT (inS (mr42 _ (List.mem_of_getElem? (i := 1) rfl)) (mr42 _ (List.mem_of_getElem? (i := 2) rfl)) (mr1 _ (List.mem_of_getElem? (i := 5) rfl)) (mr42 _ (List.mem_of_getElem? (i := 3) rfl)))) rfl rfl rfl (by decide +kernel) ⟨Nat.le_of_ble_eq_true rfl, Nat.le_of_ble_eq_true rfl⟩) (Wd.preS zo hA hZ hw hK) rfl rfl hl.1 rfl (lv_room (Nat.le_of_ble_eq_true rfl)) dX10_periodFor_100 ⟨Nat.le_of_ble_eq_true rfl, Nat.le_of_ble_eq_true rfl⟩) (fun x_4 L1 f1 H locs lx_4 ux_4 ex_4 hw => ?_)
    obtain ⟨rfl, rfl, ex_4⟩ := ex_4
    first | refine q_ldiv hx hb dX10_periodFor_103 ⟨lj_2, uj_2⟩ ⟨lx_4, ux_4⟩ (by omega) (by omega) (fun j_5 lj_5 uj_5 ej_5 => ?_) | refine q_ldivw hx hb dX10_periodFor_103 ⟨lj_2, uj_2⟩ ⟨lx_4, ux_4⟩ (by omega) (fun j_5 lj_5 uj_5 ej_5 => ?_)
    first | refine q_lmul hx hb dX10_periodFor_104 ⟨by omega, by omega⟩ (fun j_6 lj_6 uj_6 ej_6 => ?_) | refine q_lmulw hx hb dX10_periodFor_104 (fun j_6 lj_6 uj_6 ej_6 => ?_)
    exact q_ret_l hx hb hr hlocks hK hAe hw ⟨lj_6, uj_6⟩ (Nat.le_of_ble_eq_true rfl) (Nat.le_of_ble_eq_true rfl) dX10_periodFor_105 ⟨rfl, rfl, by omega⟩
  · refine lv_tableIn (tgt := 60) (off := 46) hx hb dX10_periodFor_14 (by rw [t14]; omega) (by rw [t14]; omega) (by rw [t14, k14]; rfl) (by decide) ?_
    refine q_lconst0 hx hb dX10_periodFor_60 ?_
    exact q_ret_l hx hb hr hlocks hK hAe hw ⟨by decide, by decide⟩ (Nat.le_of_ble_eq_true rfl) (Nat.le_of_ble_eq_true rfl) dX10_periodFor_61 ⟨rfl, rfl, by omega⟩
  · refine lv_tableIn (tgt := 62) (off := 48) hx hb dX10_periodFor_14 (by rw [t14]; omega) (by rw [t14]; omega) (by rw [t14, k14]; rfl) (by decide) ?_
    refine lv_lload_n hx hb dX10_periodFor_62 rfl (lv_at hl 0 rfl) ?_
    exact q_ret_l hx hb hr hlocks hK hAe hw ⟨lj_2, uj_2⟩ (Nat.le_of_ble_eq_true rfl) (Nat.le_of_ble_eq_true rfl) dX10_periodFor_63 ⟨rfl, rfl, by omega⟩
  · refine lv_tableIn (tgt := 64) (off := 50) hx hb dX10_periodFor_14 (by rw [t14]; omega) (by rw [t14]; omega) (by rw [t14, k14]; rfl) (by decide) ?_
    refine q_ldc2 (n := 7) hx hb hown (hts _ (List.mem_cons_of_mem _ (mr41 _ (List.mem_of_getElem? (i := 21) rfl)))) rfl dX10_periodFor_64 ?_
    refine lv_lload_n hx hb dX10_periodFor_67 rfl (lv_at hl 0 rfl) ?_
    first | refine q_lmul hx hb dX10_periodFor_68 ⟨by omega, by omega⟩ (fun j_7 lj_7 uj_7 ej_7 => ?_) | refine q_lmulw hx hb dX10_periodFor_68 (fun j_7 lj_7 uj_7 ej_7 => ?_)
    exact q_ret_l hx hb hr hlocks hK hAe hw ⟨lj_7, uj_7⟩ (Nat.le_of_ble_eq_true rfl) (Nat.le_of_ble_eq_true rfl) dX10_periodFor_69 ⟨rfl, rfl, by omega⟩
  · refine lv_tableIn (tgt := 92) (off := 78) hx hb dX10_periodFor_14 (by rw [t14]; omega) (by rw [t14]; omega) (by rw [t14, k14]; rfl) (by decide) ?_
    refine q_ldc2 (n := 146097) hx hb hown (hts _ (List.mem_cons_of_mem _ (mr41 _ (List.mem_of_getElem? (i := 22) rfl)))) rfl dX10_periodFor_92 ?_
    refine lv_lload_n hx hb dX10_periodFor_95 rfl (lv_at hl 0 rfl) ?_
    refine lv_lload_n hx hb dX10_periodFor_96 rfl (lv_at hl 0 rfl) ?_
    refine q_ldc2 (n := 4800) hx hb hown (hts _ (List.mem_cons_of_mem _ (mr42 _ (List.mem_of_getElem? (i := 0) rfl)))) rfl dX10_periodFor_97 ?_
    refine q_call_l hA hK hw (va_runS (As := [.long (lJ j_2), .long (lJ 4800)]) (rest := [.long (lJ j_2), .long (lJ 146097)]) ⟨hx, hb, hml, hown, hts⟩ (c_X10_gcd zo l D cy L0 f0 j_2 lj_2 uj_2 4800 (by decide) (by decide) (by omega) (by omega) _) (va_cwS 2 hts (gT (inS (mr42 _ (List.mem_of_getElem? (i := 1) rfl)) (mr42 _ (List.mem_of_getElem? (i := 2) rfl)) (mr1 _ (List.mem_of_getElem? (i := 5) rfl)) (mr42 _ (List.mem_of_getElem? (i := 3) rfl)))) rfl rfl rfl (by decide +kernel) ⟨Nat.le_of_ble_eq_true rfl, Nat.le_of_ble_eq_true rfl⟩) (Wd.preS zo hA hZ hw hK) rfl rfl hl.1 rfl (lv_room (Nat.le_of_ble_eq_true rfl)) dX10_periodFor_100 ⟨Nat.le_of_ble_eq_true rfl, Nat.le_of_ble_eq_true rfl⟩) (fun x_8 L1 f1 H locs lx_8 ux_8 ex_8 hw => ?_)
    obtain ⟨rfl, rfl, ex_8⟩ := ex_8
    first | refine q_ldiv hx hb dX10_periodFor_103 ⟨lj_2, uj_2⟩ ⟨lx_8, ux_8⟩ (by omega) (by omega) (fun j_9 lj_9 uj_9 ej_9 => ?_) | refine q_ldivw hx hb dX10_periodFor_103 ⟨lj_2, uj_2⟩ ⟨lx_8, ux_8⟩ (by omega) (fun j_9 lj_9 uj_9 ej_9 => ?_)
    first | refine q_lmul hx hb dX10_periodFor_104 ⟨by omega, by omega⟩ (fun j_10 lj_10 uj_10 ej_10 => ?_) | refine q_lmulw hx hb dX10_periodFor_104 (fun j_10 lj_10 uj_10 ej_10 => ?_)
    exact q_ret_l hx hb hr hlocks hK hAe hw ⟨lj_10, uj_10⟩ (Nat.le_of_ble_eq_true rfl) (Nat.le_of_ble_eq_true rfl) dX10_periodFor_105 ⟨rfl, rfl, by omega⟩
  · refine lv_tableIn (tgt := 92) (off := 78) hx hb dX10_periodFor_14 (by rw [t14]; omega) (by rw [t14]; omega) (by rw [t14, k14]; rfl) (by decide) ?_
    refine q_ldc2 (n := 146097) hx hb hown (hts _ (List.mem_cons_of_mem _ (mr41 _ (List.mem_of_getElem? (i := 22) rfl)))) rfl dX10_periodFor_92 ?_
    refine lv_lload_n hx hb dX10_periodFor_95 rfl (lv_at hl 0 rfl) ?_
    refine lv_lload_n hx hb dX10_periodFor_96 rfl (lv_at hl 0 rfl) ?_
    refine q_ldc2 (n := 4800) hx hb hown (hts _ (List.mem_cons_of_mem _ (mr42 _ (List.mem_of_getElem? (i := 0) rfl)))) rfl dX10_periodFor_97 ?_
    refine q_call_l hA hK hw (va_runS (As := [.long (lJ j_2), .long (lJ 4800)]) (rest := [.long (lJ j_2), .long (lJ 146097)]) ⟨hx, hb, hml, hown, hts⟩ (c_X10_gcd zo l D cy L0 f0 j_2 lj_2 uj_2 4800 (by decide) (by decide) (by omega) (by omega) _) (va_cwS 2 hts (gT (inS (mr42 _ (List.mem_of_getElem? (i := 1) rfl)) (mr42 _ (List.mem_of_getElem? (i := 2) rfl)) (mr1 _ (List.mem_of_getElem? (i := 5) rfl)) (mr42 _ (List.mem_of_getElem? (i := 3) rfl)))) rfl rfl rfl (by decide +kernel) ⟨Nat.le_of_ble_eq_true rfl, Nat.le_of_ble_eq_true rfl⟩) (Wd.preS zo hA hZ hw hK) rfl rfl hl.1 rfl (lv_room (Nat.le_of_ble_eq_true rfl)) dX10_periodFor_100 ⟨Nat.le_of_ble_eq_true rfl, Nat.le_of_ble_eq_true rfl⟩) (fun x_11 L1 f1 H locs lx_11 ux_11 ex_11 hw => ?_)
    obtain ⟨rfl, rfl, ex_11⟩ := ex_11
    first | refine q_ldiv hx hb dX10_periodFor_103 ⟨lj_2, uj_2⟩ ⟨lx_11, ux_11⟩ (by omega) (by omega) (fun j_12 lj_12 uj_12 ej_12 => ?_) | refine q_ldivw hx hb dX10_periodFor_103 ⟨lj_2, uj_2⟩ ⟨lx_11, ux_11⟩ (by omega) (fun j_12 lj_12 uj_12 ej_12 => ?_)
    first | refine q_lmul hx hb dX10_periodFor_104 ⟨by omega, by omega⟩ (fun j_13 lj_13 uj_13 ej_13 => ?_) | refine q_lmulw hx hb dX10_periodFor_104 (fun j_13 lj_13 uj_13 ej_13 => ?_)
    exact q_ret_l hx hb hr hlocks hK hAe hw ⟨lj_13, uj_13⟩ (Nat.le_of_ble_eq_true rfl) (Nat.le_of_ble_eq_true rfl) dX10_periodFor_105 ⟨rfl, rfl, by omega⟩
  · refine lv_tableIn (tgt := 92) (off := 78) hx hb dX10_periodFor_14 (by rw [t14]; omega) (by rw [t14]; omega) (by rw [t14, k14]; rfl) (by decide) ?_
    refine q_ldc2 (n := 146097) hx hb hown (hts _ (List.mem_cons_of_mem _ (mr41 _ (List.mem_of_getElem? (i := 22) rfl)))) rfl dX10_periodFor_92 ?_
    refine lv_lload_n hx hb dX10_periodFor_95 rfl (lv_at hl 0 rfl) ?_
    refine lv_lload_n hx hb dX10_periodFor_96 rfl (lv_at hl 0 rfl) ?_
    refine q_ldc2 (n := 4800) hx hb hown (hts _ (List.mem_cons_of_mem _ (mr42 _ (List.mem_of_getElem? (i := 0) rfl)))) rfl dX10_periodFor_97 ?_
    refine q_call_l hA hK hw (va_runS (As := [.long (lJ j_2), .long (lJ 4800)]) (rest := [.long (lJ j_2), .long (lJ 146097)]) ⟨hx, hb, hml, hown, hts⟩ (c_X10_gcd zo l D cy L0 f0 j_2 lj_2 uj_2 4800 (by decide) (by decide) (by omega) (by omega) _) (va_cwS 2 hts (gT (inS (mr42 _ (List.mem_of_getElem? (i := 1) rfl)) (mr42 _ (List.mem_of_getElem? (i := 2) rfl)) (mr1 _ (List.mem_of_getElem? (i := 5) rfl)) (mr42 _ (List.mem_of_getElem? (i := 3) rfl)))) rfl rfl rfl (by decide +kernel) ⟨Nat.le_of_ble_eq_true rfl, Nat.le_of_ble_eq_true rfl⟩) (Wd.preS zo hA hZ hw hK) rfl rfl hl.1 rfl (lv_room (Nat.le_of_ble_eq_true rfl)) dX10_periodFor_100 ⟨Nat.le_of_ble_eq_true rfl, Nat.le_of_ble_eq_true rfl⟩) (fun x_14 L1 f1 H locs lx_14 ux_14 ex_14 hw => ?_)
    obtain ⟨rfl, rfl, ex_14⟩ := ex_14
    first | refine q_ldiv hx hb dX10_periodFor_103 ⟨lj_2, uj_2⟩ ⟨lx_14, ux_14⟩ (by omega) (by omega) (fun j_15 lj_15 uj_15 ej_15 => ?_) | refine q_ldivw hx hb dX10_periodFor_103 ⟨lj_2, uj_2⟩ ⟨lx_14, ux_14⟩ (by omega) (fun j_15 lj_15 uj_15 ej_15 => ?_)
    first | refine q_lmul hx hb dX10_periodFor_104 ⟨by omega, by omega⟩ (fun j_16 lj_16 uj_16 ej_16 => ?_) | refine q_lmulw hx hb dX10_periodFor_104 (fun j_16 lj_16 uj_16 ej_16 => ?_)
    exact q_ret_l hx hb hr hlocks hK hAe hw ⟨lj_16, uj_16⟩ (Nat.le_of_ble_eq_true rfl) (Nat.le_of_ble_eq_true rfl) dX10_periodFor_105 ⟨rfl, rfl, by omega⟩
  · refine lv_tableIn (tgt := 92) (off := 78) hx hb dX10_periodFor_14 (by rw [t14]; omega) (by rw [t14]; omega) (by rw [t14, k14]; rfl) (by decide) ?_
    refine q_ldc2 (n := 146097) hx hb hown (hts _ (List.mem_cons_of_mem _ (mr41 _ (List.mem_of_getElem? (i := 22) rfl)))) rfl dX10_periodFor_92 ?_
    refine lv_lload_n hx hb dX10_periodFor_95 rfl (lv_at hl 0 rfl) ?_
    refine lv_lload_n hx hb dX10_periodFor_96 rfl (lv_at hl 0 rfl) ?_
    refine q_ldc2 (n := 4800) hx hb hown (hts _ (List.mem_cons_of_mem _ (mr42 _ (List.mem_of_getElem? (i := 0) rfl)))) rfl dX10_periodFor_97 ?_
    refine q_call_l hA hK hw (va_runS (As := [.long (lJ j_2), .long (lJ 4800)]) (rest := [.long (lJ j_2), .long (lJ 146097)]) ⟨hx, hb, hml, hown, hts⟩ (c_X10_gcd zo l D cy L0 f0 j_2 lj_2 uj_2 4800 (by decide) (by decide) (by omega) (by omega) _) (va_cwS 2 hts (gT (inS (mr42 _ (List.mem_of_getElem? (i := 1) rfl)) (mr42 _ (List.mem_of_getElem? (i := 2) rfl)) (mr1 _ (List.mem_of_getElem? (i := 5) rfl)) (mr42 _ (List.mem_of_getElem? (i := 3) rfl)))) rfl rfl rfl (by decide +kernel) ⟨Nat.le_of_ble_eq_true rfl, Nat.le_of_ble_eq_true rfl⟩) (Wd.preS zo hA hZ hw hK) rfl rfl hl.1 rfl (lv_room (Nat.le_of_ble_eq_true rfl)) dX10_periodFor_100 ⟨Nat.le_of_ble_eq_true rfl, Nat.le_of_ble_eq_true rfl⟩) (fun x_17 L1 f1 H locs lx_17 ux_17 ex_17 hw => ?_)
    obtain ⟨rfl, rfl, ex_17⟩ := ex_17
    first | refine q_ldiv hx hb dX10_periodFor_103 ⟨lj_2, uj_2⟩ ⟨lx_17, ux_17⟩ (by omega) (by omega) (fun j_18 lj_18 uj_18 ej_18 => ?_) | refine q_ldivw hx hb dX10_periodFor_103 ⟨lj_2, uj_2⟩ ⟨lx_17, ux_17⟩ (by omega) (fun j_18 lj_18 uj_18 ej_18 => ?_)
    first | refine q_lmul hx hb dX10_periodFor_104 ⟨by omega, by omega⟩ (fun j_19 lj_19 uj_19 ej_19 => ?_) | refine q_lmulw hx hb dX10_periodFor_104 (fun j_19 lj_19 uj_19 ej_19 => ?_)
    exact q_ret_l hx hb hr hlocks hK hAe hw ⟨lj_19, uj_19⟩ (Nat.le_of_ble_eq_true rfl) (Nat.le_of_ble_eq_true rfl) dX10_periodFor_105 ⟨rfl, rfl, by omega⟩
  · refine lv_tableIn (tgt := 70) (off := 56) hx hb dX10_periodFor_14 (by rw [t14]; omega) (by rw [t14]; omega) (by rw [t14, k14]; rfl) (by decide) ?_
    refine q_ldc2 (n := 146097) hx hb hown (hts _ (List.mem_cons_of_mem _ (mr41 _ (List.mem_of_getElem? (i := 22) rfl)))) rfl dX10_periodFor_70 ?_
    refine q_ldc2 (n := 12) hx hb hown (hts _ (List.mem_cons_of_mem _ (mr41 _ (List.mem_of_getElem? (i := 23) rfl)))) rfl dX10_periodFor_73 ?_
    refine lv_lload_n hx hb dX10_periodFor_76 rfl (lv_at hl 0 rfl) ?_
    first | refine q_lmul hx hb dX10_periodFor_77 ⟨by omega, by omega⟩ (fun j_20 lj_20 uj_20 ej_20 => ?_) | refine q_lmulw hx hb dX10_periodFor_77 (fun j_20 lj_20 uj_20 ej_20 => ?_)
    refine q_ldc2 (n := 12) hx hb hown (hts _ (List.mem_cons_of_mem _ (mr41 _ (List.mem_of_getElem? (i := 23) rfl)))) rfl dX10_periodFor_78 ?_
    refine lv_lload_n hx hb dX10_periodFor_81 rfl (lv_at hl 0 rfl) ?_
    first | refine q_lmul hx hb dX10_periodFor_82 ⟨by omega, by omega⟩ (fun j_21 lj_21 uj_21 ej_21 => ?_) | refine q_lmulw hx hb dX10_periodFor_82 (fun j_21 lj_21 uj_21 ej_21 => ?_)
    refine q_ldc2 (n := 4800) hx hb hown (hts _ (List.mem_cons_of_mem _ (mr42 _ (List.mem_of_getElem? (i := 0) rfl)))) rfl dX10_periodFor_83 ?_
    refine q_call_l hA hK hw (va_runS (As := [.long (lJ j_21), .long (lJ 4800)]) (rest := [.long (lJ j_20), .long (lJ 146097)]) ⟨hx, hb, hml, hown, hts⟩ (c_X10_gcd zo l D cy L0 f0 j_21 lj_21 uj_21 4800 (by decide) (by decide) (by omega) (by omega) _) (va_cwS 2 hts (gT (inS (mr42 _ (List.mem_of_getElem? (i := 1) rfl)) (mr42 _ (List.mem_of_getElem? (i := 2) rfl)) (mr1 _ (List.mem_of_getElem? (i := 5) rfl)) (mr42 _ (List.mem_of_getElem? (i := 3) rfl)))) rfl rfl rfl (by decide +kernel) ⟨Nat.le_of_ble_eq_true rfl, Nat.le_of_ble_eq_true rfl⟩) (Wd.preS zo hA hZ hw hK) rfl rfl hl.1 rfl (lv_room (Nat.le_of_ble_eq_true rfl)) dX10_periodFor_86 ⟨Nat.le_of_ble_eq_true rfl, Nat.le_of_ble_eq_true rfl⟩) (fun x_22 L1 f1 H locs lx_22 ux_22 ex_22 hw => ?_)
    obtain ⟨rfl, rfl, ex_22⟩ := ex_22
    first | refine q_ldiv hx hb dX10_periodFor_89 ⟨lj_20, uj_20⟩ ⟨lx_22, ux_22⟩ (by omega) (by omega) (fun j_23 lj_23 uj_23 ej_23 => ?_) | refine q_ldivw hx hb dX10_periodFor_89 ⟨lj_20, uj_20⟩ ⟨lx_22, ux_22⟩ (by omega) (fun j_23 lj_23 uj_23 ej_23 => ?_)
    first | refine q_lmul hx hb dX10_periodFor_90 ⟨by omega, by omega⟩ (fun j_24 lj_24 uj_24 ej_24 => ?_) | refine q_lmulw hx hb dX10_periodFor_90 (fun j_24 lj_24 uj_24 ej_24 => ?_)
    exact q_ret_l hx hb hr hlocks hK hAe hw ⟨lj_24, uj_24⟩ (Nat.le_of_ble_eq_true rfl) (Nat.le_of_ble_eq_true rfl) dX10_periodFor_91 ⟨rfl, rfl, by omega⟩
