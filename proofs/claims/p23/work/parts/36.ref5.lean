set_option maxHeartbeats 4000000 in
set_option maxRecDepth 100000 in
theorem c_X10_dayOf {Z : Zt} (zo : Zok Z) (l : Launch) (D : va_G) (cy : Cy) (L0 : List Nat) (f0 : Nat → va_E) (a0 : Nat) (x1 : Int) (lx1 : -2147483648 ≤ x1) (ux1 : x1 ≤ 2147483647) (x2 : Int) (lx2 : -2147483648 ≤ x2) (ux2 : x2 ≤ 2147483647) (x3 : Int) (lx3 : -2147483648 ≤ x3) (ux3 : x3 ≤ 2147483647) (ad : Nat → Nat) (hs : MS cy L0 f0 a0 ad) (y1 : 2000 ≤ x1) (y2 : x1 ≤ 2099) : Ci Z l yX10_dayOf (Cond.code yX10_dayOf cX10_dayOf 5 (some .int) :: TB) ({ frames := 0, cells := 0, slots := 0, locals := 0 } : Room) 0 0 D (tq cy) [.ref a0, .int (iI x1), .int (iI x2), .int (iI x3)] L0 f0 (fun (r : Int) (L1 : List Nat) (f1 : Nat → va_E) => L0 = L1 ∧ f0 = f1 ∧ (-1 ≤ r ∧ r ≤ 36524)) := by
  refine Ci.enter (cc := cX10_dayOf) (n := 5) rfl (plainFor_of_name (by decide)) (Nat.le_of_ble_eq_true rfl) ?_
  intro p e s m below meth c ls A hx hb hr hts hown hlocks hnm hml hK hA hAe hw hZ hl
  have hown : s.vm.findClass RX10 = some m.cls := hown
  have hl : lv_has ls 5 [(0, .ref a0), (1, .int (iI x1)), (2, .int (iI x2)), (3, .int (iI x3))] := hl
  have hN : ZN s := (zo.2.2.2.2 _ _ _ hZ).2
  refine lv_iload_n hx hb dX10_dayOf_0 rfl (lv_at hl 1 rfl) ?_
  refine q_sipush hx hb dX10_dayOf_1 rfl ?_
  first | refine q_isub hx hb dX10_dayOf_4 ⟨by omega, by omega⟩ (fun x_1 lx_1 ux_1 ex_1 => ?_) | refine q_isubw hx hb dX10_dayOf_4 (fun x_1 lx_1 ux_1 ex_1 => ?_)
  refine q_sipush hx hb dX10_dayOf_5 rfl ?_
  first | refine q_imul hx hb dX10_dayOf_8 ⟨by omega, by omega⟩ (fun x_2 lx_2 ux_2 ex_2 => ?_) | refine q_imulw hx hb dX10_dayOf_8 (fun x_2 lx_2 ux_2 ex_2 => ?_)
  refine lv_istore (lv' := [(4, .int (iI x_2)), (0, .ref a0), (1, .int (iI x1)), (2, .int (iI x2)), (3, .int (iI x3))]) hx hb dX10_dayOf_9 hl (by decide) rfl (fun ls hl => ?_)
  have J11 : ∀ (n11 : Nat) (y4_11 : Int) (ly4_11 : -2147483648 ≤ y4_11) (uy4_11 : y4_11 ≤ 2147483647) (i1 : 0 ≤ y4_11) (hn11 : ((2147483647 : Int) - y4_11).toNat < n11) (H : Heap) (locs : List Loc) (ls : Array Slot) (hw : Wd D A s.heap L0 f0 H locs) (hl : lv_has ls 5 [(0, .ref a0), (1, .int (iI x1)), (2, .int (iI x2)), (3, .int (iI x3)), (4, .int (iI y4_11))]), W p l e ({ frames := 0, cells := 0, slots := 0, locals := 0 } : Room) s m ([.ref a0, .int (iI x1), .int (iI x2), .int (iI x3)] : List Value).toArray below meth c H locs (0) (0) (MQ below (Qi D (tq cy) L0 f0 s.heap.size (fun (r : Int) (L1 : List Nat) (f1 : Nat → va_E) => L0 = L1 ∧ f0 = f1 ∧ (-1 ≤ r ∧ r ≤ 36524))) ([.ref a0, .int (iI x1), .int (iI x2), .int (iI x3)] : List Value).toArray s 0 0 A) (F0 m 11 ls []) := by
    intro n11
    induction n11 with
    | zero => intro y4_11 ly4_11 uy4_11 i1 hn11; exact absurd hn11 (Nat.not_lt_zero _)
    | succ n11 ih11 =>
      intro y4_11 ly4_11 uy4_11 i1 hn11 H locs ls hw hl
      refine lv_iload hx hb dX10_dayOf_11 (lv_at hl 4 rfl) ?_
      refine q_ldc (n := 36525) hx hb hown (hts _ (List.mem_cons_of_mem _ (mr3 _ (List.mem_of_getElem? (i := 9) rfl)))) rfl dX10_dayOf_13 ?_
      refine q_icmp_ge (tgt := 60) hx hb dX10_dayOf_15 (by decide) ⟨ly4_11, uy4_11⟩ ⟨by decide, by decide⟩ (fun c15 => ?_) (fun c15 => ?_)
      · refine q_iconst hx hb dX10_dayOf_60 ?_
        exact q_ret_i hx hb hr hlocks hK hAe hw ⟨by decide, by decide⟩ (Nat.le_of_ble_eq_true rfl) (Nat.le_of_ble_eq_true rfl) dX10_dayOf_61 ⟨rfl, rfl, by omega⟩
      · refine lv_aload_n hx hb dX10_dayOf_18 rfl (lv_at hl 0 rfl) ?_
        refine q_getr (ci := 8) (C := RX10) (T := TX10) (N := 26) hx hb hts (fun w h => List.mem_cons_of_mem _ (mfX100 w h)) hown hK hw hs.1 hs.2.1 rfl 0 (by decide) (hts _ (List.mem_cons_of_mem _ (mr3 _ (List.mem_of_getElem? (i := 10) rfl)))) (fun _ h => h) rfl (hs.2.2.1 0 rfl).1 dX10_dayOf_19 ?_
        refine lv_iload hx hb dX10_dayOf_22 (lv_at hl 4 rfl) ?_
        refine q_iald hx hb hK hw (hs.2.2.1 0 rfl).2.1 1 (hs.2.2.1 0 rfl).2.2 rfl ⟨ly4_11, uy4_11⟩ (by omega) (by show _ < ((36525 : Nat) : Int); omega) dX10_dayOf_24 (fun x_3 lx_3 ux_3 ex_3 => ?_)
        refine lv_iload_n hx hb dX10_dayOf_25 rfl (lv_at hl 1 rfl) ?_
        have J54 : ∀ (H : Heap) (locs : List Loc) (ls : Array Slot) (hw : Wd D A s.heap L0 f0 H locs) (hl : lv_has ls 5 [(0, .ref a0), (1, .int (iI x1)), (2, .int (iI x2)), (3, .int (iI x3)), (4, .int (iI y4_11))]), W p l e ({ frames := 0, cells := 0, slots := 0, locals := 0 } : Room) s m ([.ref a0, .int (iI x1), .int (iI x2), .int (iI x3)] : List Value).toArray below meth c H locs (0) (0) (MQ below (Qi D (tq cy) L0 f0 s.heap.size (fun (r : Int) (L1 : List Nat) (f1 : Nat → va_E) => L0 = L1 ∧ f0 = f1 ∧ (-1 ≤ r ∧ r ≤ 36524))) ([.ref a0, .int (iI x1), .int (iI x2), .int (iI x3)] : List Value).toArray s 0 0 A) (F0 m 54 ls []) := by
          intro H locs ls hw hl
          obtain ⟨x_4, lx_4, ux_4, hx_4, ex_4⟩ := q_inc y4_11 (1)
          try (replace ex_4 : x_4 = y4_11 + (1) := by omega)
          refine lv_iinc (v := iI x_4) (lv' := [(4, .int (iI x_4)), (0, .ref a0), (1, .int (iI x1)), (2, .int (iI x2)), (3, .int (iI x3))]) hx hb dX10_dayOf_54 hl (k := 4) rfl hx_4 (by decide) rfl (fun ls hl => ?_)
          refine lv_goto (tgt := 11) hx hb dX10_dayOf_57 (by decide) ?_
          exact ih11 x_4 lx_4 ux_4 (by omega) (by omega) _ _ _ hw (lv_sub hl [1, 2, 3, 4, 0] rfl)
        refine q_icmp_ne (tgt := 54) hx hb dX10_dayOf_26 (by decide) ⟨lx_3, ux_3⟩ ⟨lx1, ux1⟩ (fun c26 => ?_) (fun c26 => ?_)
        · exact J54 _ _ _ hw (lv_sub hl [0, 1, 2, 3, 4] rfl)
        · refine lv_aload_n hx hb dX10_dayOf_29 rfl (lv_at hl 0 rfl) ?_
          refine q_getr (ci := 8) (C := RX10) (T := TX10) (N := 26) hx hb hts (fun w h => List.mem_cons_of_mem _ (mfX100 w h)) hown hK hw hs.1 hs.2.1 rfl 1 (by decide) (hts _ (List.mem_cons_of_mem _ (mr3 _ (List.mem_of_getElem? (i := 11) rfl)))) (fun _ h => h) rfl (hs.2.2.1 1 rfl).1 dX10_dayOf_30 ?_
          refine lv_iload hx hb dX10_dayOf_33 (lv_at hl 4 rfl) ?_
          refine q_iald hx hb hK hw (hs.2.2.1 1 rfl).2.1 1 (hs.2.2.1 1 rfl).2.2 rfl ⟨ly4_11, uy4_11⟩ (by omega) (by show _ < ((36525 : Nat) : Int); omega) dX10_dayOf_35 (fun x_5 lx_5 ux_5 ex_5 => ?_)
          refine lv_iload_n hx hb dX10_dayOf_36 rfl (lv_at hl 2 rfl) ?_
          refine q_icmp_ne (tgt := 54) hx hb dX10_dayOf_37 (by decide) ⟨lx_5, ux_5⟩ ⟨lx2, ux2⟩ (fun c37 => ?_) (fun c37 => ?_)
          · exact J54 _ _ _ hw (lv_sub hl [0, 1, 2, 3, 4] rfl)
          · refine lv_aload_n hx hb dX10_dayOf_40 rfl (lv_at hl 0 rfl) ?_
            refine q_getr (ci := 8) (C := RX10) (T := TX10) (N := 26) hx hb hts (fun w h => List.mem_cons_of_mem _ (mfX100 w h)) hown hK hw hs.1 hs.2.1 rfl 2 (by decide) (hts _ (List.mem_cons_of_mem _ (mr3 _ (List.mem_of_getElem? (i := 12) rfl)))) (fun _ h => h) rfl (hs.2.2.1 2 rfl).1 dX10_dayOf_41 ?_
            refine lv_iload hx hb dX10_dayOf_44 (lv_at hl 4 rfl) ?_
            refine q_iald hx hb hK hw (hs.2.2.1 2 rfl).2.1 1 (hs.2.2.1 2 rfl).2.2 rfl ⟨ly4_11, uy4_11⟩ (by omega) (by show _ < ((36525 : Nat) : Int); omega) dX10_dayOf_46 (fun x_6 lx_6 ux_6 ex_6 => ?_)
            refine lv_iload_n hx hb dX10_dayOf_47 rfl (lv_at hl 3 rfl) ?_
            refine q_icmp_ne (tgt := 54) hx hb dX10_dayOf_48 (by decide) ⟨lx_6, ux_6⟩ ⟨lx3, ux3⟩ (fun c48 => ?_) (fun c48 => ?_)
            · exact J54 _ _ _ hw (lv_sub hl [0, 1, 2, 3, 4] rfl)
            · refine lv_iload hx hb dX10_dayOf_51 (lv_at hl 4 rfl) ?_
              exact q_ret_i hx hb hr hlocks hK hAe hw ⟨ly4_11, uy4_11⟩ (Nat.le_of_ble_eq_true rfl) (Nat.le_of_ble_eq_true rfl) dX10_dayOf_53 ⟨rfl, rfl, by omega⟩
  exact J11 ((((2147483647 : Int) - x_2).toNat) + 1) x_2 lx_2 ux_2 (by omega) (by omega) _ _ _ hw (lv_sub hl [1, 2, 3, 4, 0] rfl)
set_option maxHeartbeats 4000000 in
set_option maxRecDepth 100000 in
theorem c_X10_day {Z : Zt} (zo : Zok Z) (l : Launch) (D : va_G) (cy : Cy) (L0 : List Nat) (f0 : Nat → va_E) (a0 : Nat) (x1 : Int) (lx1 : -2147483648 ≤ x1) (ux1 : x1 ≤ 2147483647) (x2 : Int) (lx2 : -2147483648 ≤ x2) (ux2 : x2 ≤ 2147483647) (x3 : Int) (lx3 : -2147483648 ≤ x3) (ux3 : x3 ≤ 2147483647) (ad : Nat → Nat) (hs : MS cy L0 f0 a0 ad) : Ci Z l yX10_day (Cond.code yX10_day cX10_day 4 (some .int) :: TB) ({ frames := 1, cells := 0, slots := 0, locals := 24 } : Room) 0 0 D (tq cy) [.ref a0, .int (iI x1), .int (iI x2), .int (iI x3)] L0 f0 (fun (r : Int) (L1 : List Nat) (f1 : Nat → va_E) => L0 = L1 ∧ MS cy L0 f1 a0 ad ∧ Kp a0 ad [] [10] f0 f1 ∧ (-1 ≤ r ∧ r ≤ 36524)) := by
  refine Ci.enter (cc := cX10_day) (n := 4) rfl (plainFor_of_name (by decide)) (Nat.le_of_ble_eq_true rfl) ?_
  intro p e s m below meth c ls A hx hb hr hts hown hlocks hnm hml hK hA hAe hw hZ hl
  have hown : s.vm.findClass RX10 = some m.cls := hown
  have hl : lv_has ls 4 [(0, .ref a0), (1, .int (iI x1)), (2, .int (iI x2)), (3, .int (iI x3))] := hl
  have hN : ZN s := (zo.2.2.2.2 _ _ _ hZ).2
  have hE : Kp a0 ad [] [10] f0 f0 := Kp.refl _ _ _ _ _
  refine lv_aload_n hx hb dX10_day_0 rfl (lv_at hl 0 rfl) ?_
  refine q_iconst hx hb dX10_day_1 ?_
  refine q_puti (ci := 8) (C := RX10) (T := TX10) (N := 26) hx hb hts (fun w h => List.mem_cons_of_mem _ (mfX100 w h)) hown hK hw hs.1 hs.2.1 rfl 10 (by decide) (hts _ (List.mem_cons_of_mem _ (mr4 _ (List.mem_of_getElem? (i := 19) rfl)))) (fun _ h => h) tyX10 tyX10_ok nmX10 rfl (ty := .int) (by decide +kernel) rfl rfl dX10_day_2 (fun H locs hw => ?_)
  obtain ⟨f_1, ef_1⟩ : ∃ g : Nat → va_E, g = pU f0 a0 10 (.int (iI 0)) := ⟨_, rfl⟩
  have v10_f_1 : fI f_1 a0 10 = 0 := by rw [ef_1]; exact fI_pU_self hs.2.1 rfl ⟨by decide, by decide⟩
  have hE := hE.trans (show Kp a0 ad [] [10] f0 f_1 by rw [ef_1]; exact Kp_pU hs (by decide))
  have hs : MS cy L0 f_1 a0 ad := by rw [ef_1]; exact MS_pU hs rfl
  rw [← ef_1] at hw
  refine lv_iload_n hx hb dX10_day_5 rfl (lv_at hl 1 rfl) ?_
  refine q_sipush hx hb dX10_day_6 rfl ?_
  refine q_sipush hx hb dX10_day_9 rfl ?_
  refine q_call_i hA hK hw (va_runS (As := [.int (iI x1), .int (iI 2000), .int (iI 2099)]) (rest := []) ⟨hx, hb, hml, hown, hts⟩ (c_X10_within zo l D cy L0 f_1 x1 lx1 ux1 2000 (by decide) (by decide) 2099 (by decide) (by decide) _) (va_cwS 3 hts (gT (inS (mr5 _ (List.mem_of_getElem? (i := 9) rfl)) (mr5 _ (List.mem_of_getElem? (i := 10) rfl)) (mr1 _ (List.mem_of_getElem? (i := 5) rfl)) (mr5 _ (List.mem_of_getElem? (i := 11) rfl)))) rfl rfl rfl (by decide +kernel) ⟨Nat.le_of_ble_eq_true rfl, Nat.le_of_ble_eq_true rfl⟩) (Wd.preS zo hA hZ hw hK) rfl rfl hl.1 rfl (lv_room (Nat.le_of_ble_eq_true rfl)) dX10_day_12 ⟨Nat.le_of_ble_eq_true rfl, Nat.le_of_ble_eq_true rfl⟩) (fun x_2 L1 f1 H locs lx_2 ux_2 ex_2 hw => ?_)
  obtain ⟨rfl, rfl, ex_2⟩ := ex_2
  refine q_if_eq (tgt := 51) hx hb dX10_day_15 (by decide) ⟨lx_2, ux_2⟩ (fun c15 => ?_) (fun c15 => ?_)
  · refine q_iconst hx hb dX10_day_51 ?_
    exact q_ret_i hx hb hr hlocks hK hAe hw ⟨by decide, by decide⟩ (Nat.le_of_ble_eq_true rfl) (Nat.le_of_ble_eq_true rfl) dX10_day_52 (by exact ⟨rfl, hs, hE, by first | trivial | omega⟩)
  · refine lv_iload_n hx hb dX10_day_18 rfl (lv_at hl 2 rfl) ?_
    refine q_iconst hx hb dX10_day_19 ?_
    refine q_bipush hx hb dX10_day_20 rfl ?_
    refine q_call_i hA hK hw (va_runS (As := [.int (iI x2), .int (iI 1), .int (iI 12)]) (rest := []) ⟨hx, hb, hml, hown, hts⟩ (c_X10_within zo l D cy L0 f_1 x2 lx2 ux2 1 (by decide) (by decide) 12 (by decide) (by decide) _) (va_cwS 3 hts (gT (inS (mr5 _ (List.mem_of_getElem? (i := 9) rfl)) (mr5 _ (List.mem_of_getElem? (i := 10) rfl)) (mr1 _ (List.mem_of_getElem? (i := 5) rfl)) (mr5 _ (List.mem_of_getElem? (i := 11) rfl)))) rfl rfl rfl (by decide +kernel) ⟨Nat.le_of_ble_eq_true rfl, Nat.le_of_ble_eq_true rfl⟩) (Wd.preS zo hA hZ hw hK) rfl rfl hl.1 rfl (lv_room (Nat.le_of_ble_eq_true rfl)) dX10_day_22 ⟨Nat.le_of_ble_eq_true rfl, Nat.le_of_ble_eq_true rfl⟩) (fun x_3 L1 f1 H locs lx_3 ux_3 ex_3 hw => ?_)
    obtain ⟨rfl, rfl, ex_3⟩ := ex_3
    refine q_if_eq (tgt := 51) hx hb dX10_day_25 (by decide) ⟨lx_3, ux_3⟩ (fun c25 => ?_) (fun c25 => ?_)
    · refine q_iconst hx hb dX10_day_51 ?_
      exact q_ret_i hx hb hr hlocks hK hAe hw ⟨by decide, by decide⟩ (Nat.le_of_ble_eq_true rfl) (Nat.le_of_ble_eq_true rfl) dX10_day_52 (by exact ⟨rfl, hs, hE, by first | trivial | omega⟩)
    · refine lv_iload_n hx hb dX10_day_28 rfl (lv_at hl 3 rfl) ?_
      refine q_iconst hx hb dX10_day_29 ?_
      refine lv_iload_n hx hb dX10_day_30 rfl (lv_at hl 1 rfl) ?_
      refine lv_iload_n hx hb dX10_day_31 rfl (lv_at hl 2 rfl) ?_
      refine q_call_i hA hK hw (va_runS (As := [.int (iI x1), .int (iI x2)]) (rest := [.int (iI 1), .int (iI x3)]) ⟨hx, hb, hml, hown, hts⟩ (c_X10_daysIn zo l D cy L0 f_1 x1 lx1 ux1 x2 lx2 ux2 _) (va_cwS 2 hts (gT (inS (mr4 _ (List.mem_of_getElem? (i := 3) rfl)) (mr4 _ (List.mem_of_getElem? (i := 4) rfl)) (mr1 _ (List.mem_of_getElem? (i := 5) rfl)) (mr4 _ (List.mem_of_getElem? (i := 5) rfl)))) rfl rfl rfl (by decide +kernel) ⟨Nat.le_of_ble_eq_true rfl, Nat.le_of_ble_eq_true rfl⟩) (Wd.preS zo hA hZ hw hK) rfl rfl hl.1 rfl (lv_room (Nat.le_of_ble_eq_true rfl)) dX10_day_32 ⟨Nat.le_of_ble_eq_true rfl, Nat.le_of_ble_eq_true rfl⟩) (fun x_4 L1 f1 H locs lx_4 ux_4 ex_4 hw => ?_)
      obtain ⟨rfl, rfl, ex_4⟩ := ex_4
      refine q_call_i hA hK hw (va_runS (As := [.int (iI x3), .int (iI 1), .int (iI x_4)]) (rest := []) ⟨hx, hb, hml, hown, hts⟩ (c_X10_within zo l D cy L0 f_1 x3 lx3 ux3 1 (by decide) (by decide) x_4 lx_4 ux_4 _) (va_cwS 3 hts (gT (inS (mr5 _ (List.mem_of_getElem? (i := 9) rfl)) (mr5 _ (List.mem_of_getElem? (i := 10) rfl)) (mr1 _ (List.mem_of_getElem? (i := 5) rfl)) (mr5 _ (List.mem_of_getElem? (i := 11) rfl)))) rfl rfl rfl (by decide +kernel) ⟨Nat.le_of_ble_eq_true rfl, Nat.le_of_ble_eq_true rfl⟩) (Wd.preS zo hA hZ hw hK) rfl rfl hl.1 rfl (lv_room (Nat.le_of_ble_eq_true rfl)) dX10_day_35 ⟨Nat.le_of_ble_eq_true rfl, Nat.le_of_ble_eq_true rfl⟩) (fun x_5 L1 f1 H locs lx_5 ux_5 ex_5 hw => ?_)
      obtain ⟨rfl, rfl, ex_5⟩ := ex_5
      refine q_if_eq (tgt := 51) hx hb dX10_day_38 (by decide) ⟨lx_5, ux_5⟩ (fun c38 => ?_) (fun c38 => ?_)
      · refine q_iconst hx hb dX10_day_51 ?_
        exact q_ret_i hx hb hr hlocks hK hAe hw ⟨by decide, by decide⟩ (Nat.le_of_ble_eq_true rfl) (Nat.le_of_ble_eq_true rfl) dX10_day_52 (by exact ⟨rfl, hs, hE, by first | trivial | omega⟩)
      · refine lv_aload_n hx hb dX10_day_41 rfl (lv_at hl 0 rfl) ?_
        refine lv_iload_n hx hb dX10_day_42 rfl (lv_at hl 1 rfl) ?_
        refine lv_iload_n hx hb dX10_day_43 rfl (lv_at hl 2 rfl) ?_
        refine lv_iload_n hx hb dX10_day_44 rfl (lv_at hl 3 rfl) ?_
        refine q_call_i hA hK hw (va_runV (As := [.int (iI x1), .int (iI x2), .int (iI x3)]) (rest := []) ⟨hx, hb, hml, hown, hts⟩ (c_X10_dayOf zo l D cy L0 f_1 a0 x1 lx1 ux1 x2 lx2 ux2 x3 lx3 ux3 ad hs (by omega) (by omega) _) (cwV 3 hts (gT (inV (mr21 _ (List.mem_of_getElem? (i := 21) rfl)) (mr21 _ (List.mem_of_getElem? (i := 22) rfl)) (mr21 _ (List.mem_of_getElem? (i := 23) rfl)) (mr1 _ (List.mem_of_getElem? (i := 5) rfl)) (mr22 _ (List.mem_of_getElem? (i := 0) rfl)))) rfl rfl rfl (by decide +kernel) ⟨Nat.le_of_ble_eq_true rfl, Nat.le_of_ble_eq_true rfl⟩) (Wd.preV zo hA hZ hw hK hs.1 hs.2.1 rfl) rfl rfl hl.1 rfl (lv_room (Nat.le_of_ble_eq_true rfl)) dX10_day_45 ⟨Nat.le_of_ble_eq_true rfl, Nat.le_of_ble_eq_true rfl⟩) (fun x_6 L1 f1 H locs lx_6 ux_6 ex_6 hw => ?_)
        obtain ⟨rfl, rfl, ex_6⟩ := ex_6
        refine lv_goto (tgt := 52) hx hb dX10_day_48 (by decide) ?_
        exact q_ret_i hx hb hr hlocks hK hAe hw ⟨lx_6, ux_6⟩ (Nat.le_of_ble_eq_true rfl) (Nat.le_of_ble_eq_true rfl) dX10_day_52 (by exact ⟨rfl, hs, hE, by first | trivial | omega⟩)
set_option maxHeartbeats 4000000 in
set_option maxRecDepth 100000 in
theorem c_X10_date {Z : Zt} (zo : Zok Z) (l : Launch) (D : va_G) (cy : Cy) (L0 : List Nat) (f0 : Nat → va_E) (a0 : Nat) (x1 : Int) (lx1 : -2147483648 ≤ x1) (ux1 : x1 ≤ 2147483647) (x2 : Int) (lx2 : -2147483648 ≤ x2) (ux2 : x2 ≤ 2147483647) (ad : Nat → Nat) (hs : MS cy L0 f0 a0 ad) : Ci Z l yX10_date (Cond.code yX10_date cX10_date 3 (some .int) :: TB) ({ frames := 2, cells := 0, slots := 0, locals := 42 } : Room) 0 0 D (tq cy) [.ref a0, .int (iI x1), .int (iI x2)] L0 f0 (fun (r : Int) (L1 : List Nat) (f1 : Nat → va_E) => L0 = L1 ∧ MS cy L0 f1 a0 ad ∧ Kp a0 ad [] [10] f0 f1 ∧ (True)) := by
  refine Ci.enter (cc := cX10_date) (n := 3) rfl (plainFor_of_name (by decide)) (Nat.le_of_ble_eq_true rfl) ?_
  intro p e s m below meth c ls A hx hb hr hts hown hlocks hnm hml hK hA hAe hw hZ hl
  have hown : s.vm.findClass RX10 = some m.cls := hown
  have hl : lv_has ls 3 [(0, .ref a0), (1, .int (iI x1)), (2, .int (iI x2))] := hl
  have hN : ZN s := (zo.2.2.2.2 _ _ _ hZ).2
  have hE : Kp a0 ad [] [10] f0 f0 := Kp.refl _ _ _ _ _
  refine lv_aload_n hx hb dX10_date_0 rfl (lv_at hl 0 rfl) ?_
  refine q_iconst hx hb dX10_date_1 ?_
  refine q_puti (ci := 8) (C := RX10) (T := TX10) (N := 26) hx hb hts (fun w h => List.mem_cons_of_mem _ (mfX100 w h)) hown hK hw hs.1 hs.2.1 rfl 10 (by decide) (hts _ (List.mem_cons_of_mem _ (mr4 _ (List.mem_of_getElem? (i := 19) rfl)))) (fun _ h => h) tyX10 tyX10_ok nmX10 rfl (ty := .int) (by decide +kernel) rfl rfl dX10_date_2 (fun H locs hw => ?_)
  obtain ⟨f_1, ef_1⟩ : ∃ g : Nat → va_E, g = pU f0 a0 10 (.int (iI 0)) := ⟨_, rfl⟩
  have v10_f_1 : fI f_1 a0 10 = 0 := by rw [ef_1]; exact fI_pU_self hs.2.1 rfl ⟨by decide, by decide⟩
  have hE := hE.trans (show Kp a0 ad [] [10] f0 f_1 by rw [ef_1]; exact Kp_pU hs (by decide))
  have hs : MS cy L0 f_1 a0 ad := by rw [ef_1]; exact MS_pU hs rfl
  rw [← ef_1] at hw
  refine lv_iload_n hx hb dX10_date_5 rfl (lv_at hl 1 rfl) ?_
  refine q_call_i hA hK hw (va_runS (As := [.int (iI x1)]) (rest := []) ⟨hx, hb, hml, hown, hts⟩ (c_X10_isDay zo l D cy L0 f_1 x1 lx1 ux1 _) (va_cwS 1 hts (gT (inS (mr23 _ (List.mem_of_getElem? (i := 21) rfl)) (mr23 _ (List.mem_of_getElem? (i := 22) rfl)) (mr1 _ (List.mem_of_getElem? (i := 5) rfl)) (mr23 _ (List.mem_of_getElem? (i := 23) rfl)))) rfl rfl rfl (by decide +kernel) ⟨Nat.le_of_ble_eq_true rfl, Nat.le_of_ble_eq_true rfl⟩) (Wd.preS zo hA hZ hw hK) rfl rfl hl.1 rfl (lv_room (Nat.le_of_ble_eq_true rfl)) dX10_date_6 ⟨Nat.le_of_ble_eq_true rfl, Nat.le_of_ble_eq_true rfl⟩) (fun x_2 L1 f1 H locs lx_2 ux_2 ex_2 hw => ?_)
  obtain ⟨rfl, rfl, ex_2⟩ := ex_2
  refine q_if_ne (tgt := 14) hx hb dX10_date_9 (by decide) ⟨lx_2, ux_2⟩ (fun c9 => ?_) (fun c9 => ?_)
  · refine lv_iload_n hx hb dX10_date_14 rfl (lv_at hl 2 rfl) ?_
    have t15 : (iI x2).toInt = x2 := iI_toInt ⟨lx2, ux2⟩
    rcases (show (x2 < 0 ∨ 4 < x2) ∨ (x2 = 0) ∨ (x2 = 1) ∨ (x2 = 2) ∨ (x2 = 3) ∨ (x2 = 4) by omega) with k15 | k15 | k15 | k15 | k15 | k15
    · refine lv_tableOut (tgt := 81) hx hb dX10_date_15 (by rw [t15]; omega) (by decide) ?_
      refine q_iconst hx hb dX10_date_81 ?_
      exact q_ret_i hx hb hr hlocks hK hAe hw ⟨by decide, by decide⟩ (Nat.le_of_ble_eq_true rfl) (Nat.le_of_ble_eq_true rfl) dX10_date_82 (by exact ⟨rfl, hs, hE, by first | trivial | omega⟩)
    · refine lv_tableIn (tgt := 48) (off := 33) hx hb dX10_date_15 (by rw [t15]; omega) (by rw [t15]; omega) (by rw [t15, k15]; rfl) (by decide) ?_
      refine lv_aload_n hx hb dX10_date_48 rfl (lv_at hl 0 rfl) ?_
      refine q_getr (ci := 8) (C := RX10) (T := TX10) (N := 26) hx hb hts (fun w h => List.mem_cons_of_mem _ (mfX100 w h)) hown hK hw hs.1 hs.2.1 rfl 0 (by decide) (hts _ (List.mem_cons_of_mem _ (mr3 _ (List.mem_of_getElem? (i := 10) rfl)))) (fun _ h => h) rfl (hs.2.2.1 0 rfl).1 dX10_date_49 ?_
      refine lv_iload_n hx hb dX10_date_52 rfl (lv_at hl 1 rfl) ?_
      refine q_iald hx hb hK hw (hs.2.2.1 0 rfl).2.1 1 (hs.2.2.1 0 rfl).2.2 rfl ⟨lx1, ux1⟩ (by omega) (by show _ < ((36525 : Nat) : Int); omega) dX10_date_53 (fun x_3 lx_3 ux_3 ex_3 => ?_)
      exact q_ret_i hx hb hr hlocks hK hAe hw ⟨lx_3, ux_3⟩ (Nat.le_of_ble_eq_true rfl) (Nat.le_of_ble_eq_true rfl) dX10_date_54 (by exact ⟨rfl, hs, hE, by first | trivial | omega⟩)
    · refine lv_tableIn (tgt := 55) (off := 40) hx hb dX10_date_15 (by rw [t15]; omega) (by rw [t15]; omega) (by rw [t15, k15]; rfl) (by decide) ?_
      refine lv_aload_n hx hb dX10_date_55 rfl (lv_at hl 0 rfl) ?_
      refine q_getr (ci := 8) (C := RX10) (T := TX10) (N := 26) hx hb hts (fun w h => List.mem_cons_of_mem _ (mfX100 w h)) hown hK hw hs.1 hs.2.1 rfl 1 (by decide) (hts _ (List.mem_cons_of_mem _ (mr3 _ (List.mem_of_getElem? (i := 11) rfl)))) (fun _ h => h) rfl (hs.2.2.1 1 rfl).1 dX10_date_56 ?_
      refine lv_iload_n hx hb dX10_date_59 rfl (lv_at hl 1 rfl) ?_
      refine q_iald hx hb hK hw (hs.2.2.1 1 rfl).2.1 1 (hs.2.2.1 1 rfl).2.2 rfl ⟨lx1, ux1⟩ (by omega) (by show _ < ((36525 : Nat) : Int); omega) dX10_date_60 (fun x_4 lx_4 ux_4 ex_4 => ?_)
      exact q_ret_i hx hb hr hlocks hK hAe hw ⟨lx_4, ux_4⟩ (Nat.le_of_ble_eq_true rfl) (Nat.le_of_ble_eq_true rfl) dX10_date_61 (by exact ⟨rfl, hs, hE, by first | trivial | omega⟩)
    · refine lv_tableIn (tgt := 62) (off := 47) hx hb dX10_date_15 (by rw [t15]; omega) (by rw [t15]; omega) (by rw [t15, k15]; rfl) (by decide) ?_
      refine lv_aload_n hx hb dX10_date_62 rfl (lv_at hl 0 rfl) ?_
      refine q_getr (ci := 8) (C := RX10) (T := TX10) (N := 26) hx hb hts (fun w h => List.mem_cons_of_mem _ (mfX100 w h)) hown hK hw hs.1 hs.2.1 rfl 2 (by decide) (hts _ (List.mem_cons_of_mem _ (mr3 _ (List.mem_of_getElem? (i := 12) rfl)))) (fun _ h => h) rfl (hs.2.2.1 2 rfl).1 dX10_date_63 ?_
      refine lv_iload_n hx hb dX10_date_66 rfl (lv_at hl 1 rfl) ?_
      refine q_iald hx hb hK hw (hs.2.2.1 2 rfl).2.1 1 (hs.2.2.1 2 rfl).2.2 rfl ⟨lx1, ux1⟩ (by omega) (by show _ < ((36525 : Nat) : Int); omega) dX10_date_67 (fun x_5 lx_5 ux_5 ex_5 => ?_)
      exact q_ret_i hx hb hr hlocks hK hAe hw ⟨lx_5, ux_5⟩ (Nat.le_of_ble_eq_true rfl) (Nat.le_of_ble_eq_true rfl) dX10_date_68 (by exact ⟨rfl, hs, hE, by first | trivial | omega⟩)
    · refine lv_tableIn (tgt := 69) (off := 54) hx hb dX10_date_15 (by rw [t15]; omega) (by rw [t15]; omega) (by rw [t15, k15]; rfl) (by decide) ?_
      refine lv_iload_n hx hb dX10_date_69 rfl (lv_at hl 1 rfl) ?_
      refine q_call_i hA hK hw (va_runS (As := [.int (iI x1)]) (rest := []) ⟨hx, hb, hml, hown, hts⟩ (c_X10_weekdayOf zo l D cy L0 f_1 x1 lx1 ux1 _) (va_cwS 1 hts (gT (inS (mr24 _ (List.mem_of_getElem? (i := 1) rfl)) (mr24 _ (List.mem_of_getElem? (i := 2) rfl)) (mr1 _ (List.mem_of_getElem? (i := 5) rfl)) (mr24 _ (List.mem_of_getElem? (i := 3) rfl)))) rfl rfl rfl (by decide +kernel) ⟨Nat.le_of_ble_eq_true rfl, Nat.le_of_ble_eq_true rfl⟩) (Wd.preS zo hA hZ hw hK) rfl rfl hl.1 rfl (lv_room (Nat.le_of_ble_eq_true rfl)) dX10_date_70 ⟨Nat.le_of_ble_eq_true rfl, Nat.le_of_ble_eq_true rfl⟩) (fun x_6 L1 f1 H locs lx_6 ux_6 ex_6 hw => ?_)
      obtain ⟨rfl, rfl, ex_6⟩ := ex_6
      exact q_ret_i hx hb hr hlocks hK hAe hw ⟨lx_6, ux_6⟩ (Nat.le_of_ble_eq_true rfl) (Nat.le_of_ble_eq_true rfl) dX10_date_73 (by exact ⟨rfl, hs, hE, by first | trivial | omega⟩)
    · refine lv_tableIn (tgt := 74) (off := 59) hx hb dX10_date_15 (by rw [t15]; omega) (by rw [t15]; omega) (by rw [t15, k15]; rfl) (by decide) ?_
      refine lv_aload_n hx hb dX10_date_74 rfl (lv_at hl 0 rfl) ?_
      refine q_getr (ci := 8) (C := RX10) (T := TX10) (N := 26) hx hb hts (fun w h => List.mem_cons_of_mem _ (mfX100 w h)) hown hK hw hs.1 hs.2.1 rfl 3 (by decide) (hts _ (List.mem_cons_of_mem _ (mr3 _ (List.mem_of_getElem? (i := 13) rfl)))) (fun _ h => h) rfl (hs.2.2.1 3 rfl).1 dX10_date_75 ?_
      refine lv_iload_n hx hb dX10_date_78 rfl (lv_at hl 1 rfl) ?_
      refine q_iald hx hb hK hw (hs.2.2.1 3 rfl).2.1 1 (hs.2.2.1 3 rfl).2.2 rfl ⟨lx1, ux1⟩ (by omega) (by show _ < ((36525 : Nat) : Int); omega) dX10_date_79 (fun x_7 lx_7 ux_7 ex_7 => ?_)
      exact q_ret_i hx hb hr hlocks hK hAe hw ⟨lx_7, ux_7⟩ (Nat.le_of_ble_eq_true rfl) (Nat.le_of_ble_eq_true rfl) dX10_date_80 (by exact ⟨rfl, hs, hE, by first | trivial | omega⟩)
  · refine q_iconst hx hb dX10_date_12 ?_
    exact q_ret_i hx hb hr hlocks hK hAe hw ⟨by decide, by decide⟩ (Nat.le_of_ble_eq_true rfl) (Nat.le_of_ble_eq_true rfl) dX10_date_13 (by exact ⟨rfl, hs, hE, by first | trivial | omega⟩)
set_option maxHeartbeats 4000000 in
set_option maxRecDepth 100000 in
theorem c_X10_isSpan {Z : Zt} (zo : Zok Z) (l : Launch) (D : va_G) (cy : Cy) (L0 : List Nat) (f0 : Nat → va_E) (x0 : Int) (lx0 : -2147483648 ≤ x0) (ux0 : x0 ≤ 2147483647) (x1 : Int) (lx1 : -2147483648 ≤ x1) (ux1 : x1 ≤ 2147483647) (x2 : Int) (lx2 : -2147483648 ≤ x2) (ux2 : x2 ≤ 2147483647) : Ci Z l yX10_isSpan (Cond.code yX10_isSpan cX10_isSpan 3 (some .boolean) :: TB) ({ frames := 2, cells := 0, slots := 0, locals := 42 } : Room) 0 0 D (tq cy) [.int (iI x0), .int (iI x1), .int (iI x2)] L0 f0 (fun (r : Int) (L1 : List Nat) (f1 : Nat → va_E) => L0 = L1 ∧ f0 = f1 ∧ (r = 1 ∧ -1 ≤ x0 ∧ x0 ≤ 7 ∧ 0 ≤ x1 ∧ x1 < x2 ∧ x2 ≤ 52596000 ∧ x2 - x1 ≤ 86400 ∨ r = 0)) := by
  refine Ci.enter (cc := cX10_isSpan) (n := 3) rfl (plainFor_of_name (by decide)) (Nat.le_of_ble_eq_true rfl) ?_
  intro p e s m below meth c ls A hx hb hr hts hown hlocks hnm hml hK hA hAe hw hZ hl
  have hown : s.vm.findClass RX10 = some m.cls := hown
  have hl : lv_has ls 3 [(0, .int (iI x0)), (1, .int (iI x1)), (2, .int (iI x2))] := hl
  have hN : ZN s := (zo.2.2.2.2 _ _ _ hZ).2
  refine lv_iload_n hx hb dX10_isSpan_0 rfl (lv_at hl 0 rfl) ?_
  refine q_iconst hx hb dX10_isSpan_1 ?_
  refine q_bipush hx hb dX10_isSpan_2 rfl ?_
  refine q_call_i hA hK hw (va_runS (As := [.int (iI x0), .int (iI ((-1))), .int (iI 7)]) (rest := []) ⟨hx, hb, hml, hown, hts⟩ (c_X10_within zo l D cy L0 f0 x0 lx0 ux0 ((-1)) (by decide) (by decide) 7 (by decide) (by decide) _) (va_cwS 3 hts (gT (inS (mr5 _ (List.mem_of_getElem? (i := 9) rfl)) (mr5 _ (List.mem_of_getElem? (i := 10) rfl)) (mr1 _ (List.mem_of_getElem? (i := 5) rfl)) (mr5 _ (List.mem_of_getElem? (i := 11) rfl)))) rfl rfl rfl (by decide +kernel) ⟨Nat.le_of_ble_eq_true rfl, Nat.le_of_ble_eq_true rfl⟩) (Wd.preS zo hA hZ hw hK) rfl rfl hl.1 rfl (lv_room (Nat.le_of_ble_eq_true rfl)) dX10_isSpan_4 ⟨Nat.le_of_ble_eq_true rfl, Nat.le_of_ble_eq_true rfl⟩) (fun x_1 L1 f1 H locs lx_1 ux_1 ex_1 hw => ?_)
  obtain ⟨rfl, rfl, ex_1⟩ := ex_1
  refine q_if_eq (tgt := 46) hx hb dX10_isSpan_7 (by decide) ⟨lx_1, ux_1⟩ (fun c7 => ?_) (fun c7 => ?_)
  · refine q_iconst hx hb dX10_isSpan_46 ?_
    exact q_ret_z hx hb hr hlocks hK hAe hw (by omega) (Nat.le_of_ble_eq_true rfl) (Nat.le_of_ble_eq_true rfl) dX10_isSpan_47 ⟨rfl, rfl, by omega⟩
  · refine lv_iload_n hx hb dX10_isSpan_10 rfl (lv_at hl 1 rfl) ?_
    refine q_call_i hA hK hw (va_runS (As := [.int (iI x1)]) (rest := []) ⟨hx, hb, hml, hown, hts⟩ (c_X10_isTime zo l D cy L0 f0 x1 lx1 ux1 _) (va_cwS 1 hts (gT (inS (mr28 _ (List.mem_of_getElem? (i := 3) rfl)) (mr28 _ (List.mem_of_getElem? (i := 4) rfl)) (mr1 _ (List.mem_of_getElem? (i := 5) rfl)) (mr28 _ (List.mem_of_getElem? (i := 5) rfl)))) rfl rfl rfl (by decide +kernel) ⟨Nat.le_of_ble_eq_true rfl, Nat.le_of_ble_eq_true rfl⟩) (Wd.preS zo hA hZ hw hK) rfl rfl hl.1 rfl (lv_room (Nat.le_of_ble_eq_true rfl)) dX10_isSpan_11 ⟨Nat.le_of_ble_eq_true rfl, Nat.le_of_ble_eq_true rfl⟩) (fun x_2 L1 f1 H locs lx_2 ux_2 ex_2 hw => ?_)
    obtain ⟨rfl, rfl, ex_2⟩ := ex_2
    refine q_if_eq (tgt := 46) hx hb dX10_isSpan_14 (by decide) ⟨lx_2, ux_2⟩ (fun c14 => ?_) (fun c14 => ?_)
    · refine q_iconst hx hb dX10_isSpan_46 ?_
      exact q_ret_z hx hb hr hlocks hK hAe hw (by omega) (Nat.le_of_ble_eq_true rfl) (Nat.le_of_ble_eq_true rfl) dX10_isSpan_47 ⟨rfl, rfl, by omega⟩
    · refine lv_iload_n hx hb dX10_isSpan_17 rfl (lv_at hl 2 rfl) ?_
      refine q_iconst hx hb dX10_isSpan_18 ?_
      refine q_ldcw (n := 52596000) hx hb hown (hts _ (List.mem_cons_of_mem _ (mr33 _ (List.mem_of_getElem? (i := 2) rfl)))) rfl dX10_isSpan_19 ?_
      refine q_call_i hA hK hw (va_runS (As := [.int (iI x2), .int (iI 0), .int (iI 52596000)]) (rest := []) ⟨hx, hb, hml, hown, hts⟩ (c_X10_within zo l D cy L0 f0 x2 lx2 ux2 0 (by decide) (by decide) 52596000 (by decide) (by decide) _) (va_cwS 3 hts (gT (inS (mr5 _ (List.mem_of_getElem? (i := 9) rfl)) (mr5 _ (List.mem_of_getElem? (i := 10) rfl)) (mr1 _ (List.mem_of_getElem? (i := 5) rfl)) (mr5 _ (List.mem_of_getElem? (i := 11) rfl)))) rfl rfl rfl (by decide +kernel) ⟨Nat.le_of_ble_eq_true rfl, Nat.le_of_ble_eq_true rfl⟩) (Wd.preS zo hA hZ hw hK) rfl rfl hl.1 rfl (lv_room (Nat.le_of_ble_eq_true rfl)) dX10_isSpan_22 ⟨Nat.le_of_ble_eq_true rfl, Nat.le_of_ble_eq_true rfl⟩) (fun x_3 L1 f1 H locs lx_3 ux_3 ex_3 hw => ?_)
      obtain ⟨rfl, rfl, ex_3⟩ := ex_3
      refine q_if_eq (tgt := 46) hx hb dX10_isSpan_25 (by decide) ⟨lx_3, ux_3⟩ (fun c25 => ?_) (fun c25 => ?_)
      · refine q_iconst hx hb dX10_isSpan_46 ?_
        exact q_ret_z hx hb hr hlocks hK hAe hw (by omega) (Nat.le_of_ble_eq_true rfl) (Nat.le_of_ble_eq_true rfl) dX10_isSpan_47 ⟨rfl, rfl, by omega⟩
      · refine lv_iload_n hx hb dX10_isSpan_28 rfl (lv_at hl 2 rfl) ?_
        refine lv_iload_n hx hb dX10_isSpan_29 rfl (lv_at hl 1 rfl) ?_
        refine q_icmp_le (tgt := 46) hx hb dX10_isSpan_30 (by decide) ⟨lx2, ux2⟩ ⟨lx1, ux1⟩ (fun c30 => ?_) (fun c30 => ?_)
        · refine q_iconst hx hb dX10_isSpan_46 ?_
          exact q_ret_z hx hb hr hlocks hK hAe hw (by omega) (Nat.le_of_ble_eq_true rfl) (Nat.le_of_ble_eq_true rfl) dX10_isSpan_47 ⟨rfl, rfl, by omega⟩
        · refine lv_iload_n hx hb dX10_isSpan_33 rfl (lv_at hl 2 rfl) ?_
          refine lv_iload_n hx hb dX10_isSpan_34 rfl (lv_at hl 1 rfl) ?_
          first | refine q_isub hx hb dX10_isSpan_35 ⟨by omega, by omega⟩ (fun x_4 lx_4 ux_4 ex_4 => ?_) | refine q_isubw hx hb dX10_isSpan_35 (fun x_4 lx_4 ux_4 ex_4 => ?_)
          refine q_ldcw (n := 86400) hx hb hown (hts _ (List.mem_cons_of_mem _ (mr33 _ (List.mem_of_getElem? (i := 3) rfl)))) rfl dX10_isSpan_36 ?_
          refine q_icmp_gt (tgt := 46) hx hb dX10_isSpan_39 (by decide) ⟨lx_4, ux_4⟩ ⟨by decide, by decide⟩ (fun c39 => ?_) (fun c39 => ?_)
          · refine q_iconst hx hb dX10_isSpan_46 ?_
            exact q_ret_z hx hb hr hlocks hK hAe hw (by omega) (Nat.le_of_ble_eq_true rfl) (Nat.le_of_ble_eq_true rfl) dX10_isSpan_47 ⟨rfl, rfl, by omega⟩
          · refine q_iconst hx hb dX10_isSpan_42 ?_
            refine lv_goto (tgt := 47) hx hb dX10_isSpan_43 (by decide) ?_
            exact q_ret_z hx hb hr hlocks hK hAe hw (by omega) (Nat.le_of_ble_eq_true rfl) (Nat.le_of_ble_eq_true rfl) dX10_isSpan_47 ⟨rfl, rfl, by omega⟩
set_option maxHeartbeats 4000000 in
set_option maxRecDepth 100000 in
theorem c_X10_asInt {Z : Zt} (zo : Zok Z) (l : Launch) (D : va_G) (cy : Cy) (L0 : List Nat) (f0 : Nat → va_E) (j0 : Int) (lj0 : -9223372036854775808 ≤ j0) (uj0 : j0 ≤ 9223372036854775807) : Ci Z l yX10_asInt (Cond.code yX10_asInt cX10_asInt 2 (some .int) :: TB) ({ frames := 0, cells := 0, slots := 0, locals := 0 } : Room) 0 0 D (tq cy) [.long (lJ j0)] L0 f0 (fun (r : Int) (L1 : List Nat) (f1 : Nat → va_E) => L0 = L1 ∧ f0 = f1 ∧ (True)) := by
  refine Ci.enter (cc := cX10_asInt) (n := 2) rfl (plainFor_of_name (by decide)) (Nat.le_of_ble_eq_true rfl) ?_
  intro p e s m below meth c ls A hx hb hr hts hown hlocks hnm hml hK hA hAe hw hZ hl
  have hown : s.vm.findClass RX10 = some m.cls := hown
  have hl : lv_has ls 2 [(0, .long (lJ j0))] := hl
  have hN : ZN s := (zo.2.2.2.2 _ _ _ hZ).2
  refine lv_lload_n hx hb dX10_asInt_0 rfl (lv_at hl 0 rfl) ?_
  refine q_ldc2 (n := 2147483647) hx hb hown (hts _ (List.mem_cons_of_mem _ (mr42 _ (List.mem_of_getElem? (i := 7) rfl)))) rfl dX10_asInt_1 ?_
  refine q_lcmp hx hb dX10_asInt_4 ⟨lj0, uj0⟩ ⟨by decide, by decide⟩ (fun x_1 lx_1 ux_1 ex_1 => ?_)
  refine q_if_le (tgt := 13) hx hb dX10_asInt_5 (by decide) ⟨lx_1, ux_1⟩ (fun c5 => ?_) (fun c5 => ?_)
  · refine lv_lload_n hx hb dX10_asInt_13 rfl (lv_at hl 0 rfl) ?_
    refine q_l2i hx hb dX10_asInt_14 (fun x_2 lx_2 ux_2 ex_2 => ?_)
    exact q_ret_i hx hb hr hlocks hK hAe hw ⟨lx_2, ux_2⟩ (Nat.le_of_ble_eq_true rfl) (Nat.le_of_ble_eq_true rfl) dX10_asInt_15 ⟨rfl, rfl, by trivial⟩
  · refine q_bipush hx hb dX10_asInt_8 rfl ?_
    refine lv_goto (tgt := 15) hx hb dX10_asInt_10 (by decide) ?_
    exact q_ret_i hx hb hr hlocks hK hAe hw ⟨by decide, by decide⟩ (Nat.le_of_ble_eq_true rfl) (Nat.le_of_ble_eq_true rfl) dX10_asInt_15 ⟨rfl, rfl, by trivial⟩
set_option maxHeartbeats 4000000 in
set_option maxRecDepth 100000 in
theorem c_X10_gcd {Z : Zt} (zo : Zok Z) (l : Launch) (D : va_G) (cy : Cy) (L0 : List Nat) (f0 : Nat → va_E) (j0 : Int) (lj0 : -9223372036854775808 ≤ j0) (uj0 : j0 ≤ 9223372036854775807) (j2 : Int) (lj2 : -9223372036854775808 ≤ j2) (uj2 : j2 ≤ 9223372036854775807) (a1 : 0 ≤ j0) (a2 : 0 ≤ j2) : Cl Z l yX10_gcd (Cond.code yX10_gcd cX10_gcd 10 (some .long) :: TB) ({ frames := 0, cells := 0, slots := 0, locals := 0 } : Room) 0 0 D (tq cy) [.long (lJ j0), .long (lJ j2)] L0 f0 (fun (r : Int) (L1 : List Nat) (f1 : Nat → va_E) => L0 = L1 ∧ f0 = f1 ∧ (0 ≤ r ∧ (0 < j0 ∨ 0 < j2 → 0 < r))) := by
  refine Cl.enter (cc := cX10_gcd) (n := 10) rfl (plainFor_of_name (by decide)) (Nat.le_of_ble_eq_true rfl) ?_
  intro p e s m below meth c ls A hx hb hr hts hown hlocks hnm hml hK hA hAe hw hZ hl
  have hown : s.vm.findClass RX10 = some m.cls := hown
  have hl : lv_has ls 10 [(0, .long (lJ j0)), (2, .long (lJ j2))] := hl
  have hN : ZN s := (zo.2.2.2.2 _ _ _ hZ).2
  refine lv_lload_n hx hb dX10_gcd_0 rfl (lv_at hl 0 rfl) ?_
  refine lv_lstore (lv' := [(4, .long (lJ j0)), (0, .long (lJ j0)), (2, .long (lJ j2))]) hx hb dX10_gcd_1 hl (by decide) rfl (fun ls hl => ?_)
  refine lv_lload_n hx hb dX10_gcd_3 rfl (lv_at hl 2 rfl) ?_
  refine lv_lstore (lv' := [(6, .long (lJ j2)), (4, .long (lJ j0)), (0, .long (lJ j0)), (2, .long (lJ j2))]) hx hb dX10_gcd_4 hl (by decide) rfl (fun ls hl => ?_)
  have J6 : ∀ (n6 : Nat) (y4_6 : Int) (ly4_6 : -9223372036854775808 ≤ y4_6) (uy4_6 : y4_6 ≤ 9223372036854775807) (y6_6 : Int) (ly6_6 : -9223372036854775808 ≤ y6_6) (uy6_6 : y6_6 ≤ 9223372036854775807) (i1 : 0 ≤ y4_6) (i2 : 0 ≤ y6_6) (i3 : 0 < j0 ∨ 0 < j2 → 0 < y4_6 ∨ 0 < y6_6) (hn6 : (y6_6).toNat < n6) (H : Heap) (locs : List Loc) (ls : Array Slot) (hw : Wd D A s.heap L0 f0 H locs) (hl : lv_has ls 10 [(4, .long (lJ y4_6)), (6, .long (lJ y6_6))]), W p l e ({ frames := 0, cells := 0, slots := 0, locals := 0 } : Room) s m ([.long (lJ j0), .long (lJ j2)] : List Value).toArray below meth c H locs (0) (0) (MQ below (Ql D (tq cy) L0 f0 s.heap.size (fun (r : Int) (L1 : List Nat) (f1 : Nat → va_E) => L0 = L1 ∧ f0 = f1 ∧ (0 ≤ r ∧ (0 < j0 ∨ 0 < j2 → 0 < r)))) ([.long (lJ j0), .long (lJ j2)] : List Value).toArray s 0 0 A) (F0 m 6 ls []) := by
    intro n6
    induction n6 with
    | zero => intro y4_6 ly4_6 uy4_6 y6_6 ly6_6 uy6_6 i1 i2 i3 hn6; exact absurd hn6 (Nat.not_lt_zero _)
    | succ n6 ih6 =>
      intro y4_6 ly4_6 uy4_6 y6_6 ly6_6 uy6_6 i1 i2 i3 hn6 H locs ls hw hl
      refine lv_lload hx hb dX10_gcd_6 (lv_at hl 1 rfl) ?_
      refine q_lconst0 hx hb dX10_gcd_8 ?_
      refine q_lcmp hx hb dX10_gcd_9 ⟨ly6_6, uy6_6⟩ ⟨by decide, by decide⟩ (fun x_1 lx_1 ux_1 ex_1 => ?_)
      refine q_if_eq (tgt := 31) hx hb dX10_gcd_10 (by decide) ⟨lx_1, ux_1⟩ (fun c10 => ?_) (fun c10 => ?_)
      · refine lv_lload hx hb dX10_gcd_31 (lv_at hl 0 rfl) ?_
        exact q_ret_l hx hb hr hlocks hK hAe hw ⟨ly4_6, uy4_6⟩ (Nat.le_of_ble_eq_true rfl) (Nat.le_of_ble_eq_true rfl) dX10_gcd_33 ⟨rfl, rfl, by omega⟩
      · refine lv_lload hx hb dX10_gcd_13 (lv_at hl 0 rfl) ?_
        refine lv_lload hx hb dX10_gcd_15 (lv_at hl 1 rfl) ?_
        first | refine q_lrem hx hb dX10_gcd_17 ⟨ly4_6, uy4_6⟩ ⟨ly6_6, uy6_6⟩ (by omega) (by omega) (fun j_2 lj_2 uj_2 ej_2 => ?_) | refine q_lremw hx hb dX10_gcd_17 ⟨ly4_6, uy4_6⟩ ⟨ly6_6, uy6_6⟩ (by omega) (fun j_2 lj_2 uj_2 ej_2 => ?_)
        refine lv_lstore (lv' := [(8, .long (lJ j_2)), (4, .long (lJ y4_6)), (6, .long (lJ y6_6))]) hx hb dX10_gcd_18 hl (by decide) rfl (fun ls hl => ?_)
        refine lv_lload hx hb dX10_gcd_20 (lv_at hl 2 rfl) ?_
        refine lv_lstore (lv' := [(4, .long (lJ y6_6)), (8, .long (lJ j_2)), (6, .long (lJ y6_6))]) hx hb dX10_gcd_22 hl (by decide) rfl (fun ls hl => ?_)
        refine lv_lload hx hb dX10_gcd_24 (lv_at hl 1 rfl) ?_
        refine lv_lstore (lv' := [(6, .long (lJ j_2)), (4, .long (lJ y6_6)), (8, .long (lJ j_2))]) hx hb dX10_gcd_26 hl (by decide) rfl (fun ls hl => ?_)
        refine lv_goto (tgt := 6) hx hb dX10_gcd_28 (by decide) ?_
        exact ih6 y6_6 ly6_6 uy6_6 j_2 lj_2 uj_2 (by omega) (by omega) (by omega) (by omega) _ _ _ hw (lv_sub hl [1, 0] rfl)
  exact J6 (((j2).toNat) + 1) j0 lj0 uj0 j2 lj2 uj2 (by omega) (by omega) (by omega) (by omega) _ _ _ hw (lv_sub hl [1, 0] rfl)
set_option maxHeartbeats 4000000 in
set_option maxRecDepth 100000 in
theorem c_X10_clashOf {Z : Zt} (zo : Zok Z) (l : Launch) (D : va_G) (cy : Cy) (L0 : List Nat) (f0 : Nat → va_E) (a0 : Nat) (x1 : Int) (lx1 : -2147483648 ≤ x1) (ux1 : x1 ≤ 2147483647) (x2 : Int) (lx2 : -2147483648 ≤ x2) (ux2 : x2 ≤ 2147483647) (x3 : Int) (lx3 : -2147483648 ≤ x3) (ux3 : x3 ≤ 2147483647) (ad : Nat → Nat) (hs : MS cy L0 f0 a0 ad) (r1 : 0 ≤ aI f0 (ad 13) 0) (r2 : aI f0 (ad 13) 0 ≤ 36525) (r3 : 0 ≤ aI f0 (ad 13) 1) (r4 : aI f0 (ad 13) 1 ≤ 36525) : Ci Z l yX10_clashOf (Cond.code yX10_clashOf cX10_clashOf 9 (some .int) :: TB) ({ frames := 0, cells := 0, slots := 0, locals := 0 } : Room) 0 0 D (tq cy) [.ref a0, .int (iI x1), .int (iI x2), .int (iI x3)] L0 f0 (fun (r : Int) (L1 : List Nat) (f1 : Nat → va_E) => L0 = L1 ∧ f0 = f1 ∧ (True)) := by
  refine Ci.enter (cc := cX10_clashOf) (n := 9) rfl (plainFor_of_name (by decide)) (Nat.le_of_ble_eq_true rfl) ?_
  intro p e s m below meth c ls A hx hb hr hts hown hlocks hnm hml hK hA hAe hw hZ hl
  have hown : s.vm.findClass RX10 = some m.cls := hown
  have hl : lv_has ls 9 [(0, .ref a0), (1, .int (iI x1)), (2, .int (iI x2)), (3, .int (iI x3))] := hl
  have hN : ZN s := (zo.2.2.2.2 _ _ _ hZ).2
  refine q_iconst hx hb dX10_clashOf_0 ?_
  refine lv_istore (lv' := [(4, .int (iI ((-1)))), (0, .ref a0), (1, .int (iI x1)), (2, .int (iI x2)), (3, .int (iI x3))]) hx hb dX10_clashOf_1 hl (by decide) rfl (fun ls hl => ?_)
  refine q_iconst hx hb dX10_clashOf_3 ?_
  refine lv_istore (lv' := [(5, .int (iI 0)), (4, .int (iI ((-1)))), (0, .ref a0), (1, .int (iI x1)), (2, .int (iI x2)), (3, .int (iI x3))]) hx hb dX10_clashOf_4 hl (by decide) rfl (fun ls hl => ?_)
  refine q_iconst hx hb dX10_clashOf_6 ?_
  refine lv_istore (lv' := [(6, .int (iI 0)), (5, .int (iI 0)), (4, .int (iI ((-1)))), (0, .ref a0), (1, .int (iI x1)), (2, .int (iI x2)), (3, .int (iI x3))]) hx hb dX10_clashOf_7 hl (by decide) rfl (fun ls hl => ?_)
  have J9 : ∀ (n9 : Nat) (y5_9 : Int) (ly5_9 : -2147483648 ≤ y5_9) (uy5_9 : y5_9 ≤ 2147483647) (y6_9 : Int) (ly6_9 : -2147483648 ≤ y6_9) (uy6_9 : y6_9 ≤ 2147483647) (i1 : 0 ≤ y6_9) (i2 : 0 ≤ y5_9) (i3 : y5_9 ≤ 36525) (hn9 : ((2147483647 : Int) - y6_9).toNat < n9) (H : Heap) (locs : List Loc) (ls : Array Slot) (hw : Wd D A s.heap L0 f0 H locs) (hl : lv_has ls 9 [(0, .ref a0), (1, .int (iI x1)), (2, .int (iI x2)), (3, .int (iI x3)), (4, .int (iI ((-1)))), (5, .int (iI y5_9)), (6, .int (iI y6_9))]), W p l e ({ frames := 0, cells := 0, slots := 0, locals := 0 } : Room) s m ([.ref a0, .int (iI x1), .int (iI x2), .int (iI x3)] : List Value).toArray below meth c H locs (0) (0) (MQ below (Qi D (tq cy) L0 f0 s.heap.size (fun (r : Int) (L1 : List Nat) (f1 : Nat → va_E) => L0 = L1 ∧ f0 = f1 ∧ (True))) ([.ref a0, .int (iI x1), .int (iI x2), .int (iI x3)] : List Value).toArray s 0 0 A) (F0 m 9 ls []) := by
    intro n9
    induction n9 with
    | zero => intro y5_9 ly5_9 uy5_9 y6_9 ly6_9 uy6_9 i1 i2 i3 hn9; exact absurd hn9 (Nat.not_lt_zero _)
    | succ n9 ih9 =>
      intro y5_9 ly5_9 uy5_9 y6_9 ly6_9 uy6_9 i1 i2 i3 hn9 H locs ls hw hl
      refine lv_iload hx hb dX10_clashOf_9 (lv_at hl 6 rfl) ?_
      refine lv_aload_n hx hb dX10_clashOf_11 rfl (lv_at hl 0 rfl) ?_
      refine q_getr (ci := 8) (C := RX10) (T := TX10) (N := 26) hx hb hts (fun w h => List.mem_cons_of_mem _ (mfX100 w h)) hown hK hw hs.1 hs.2.1 rfl 13 (by decide) (hts _ (List.mem_cons_of_mem _ (mr3 _ (List.mem_of_getElem? (i := 21) rfl)))) (fun _ h => h) rfl (hs.2.2.1 13 rfl).1 dX10_clashOf_12 ?_
      refine q_iconst hx hb dX10_clashOf_15 ?_
      refine q_iald hx hb hK hw (hs.2.2.1 13 rfl).2.1 1 (hs.2.2.1 13 rfl).2.2 rfl ⟨by decide, by decide⟩ (by omega) (by show _ < ((2 : Nat) : Int); omega) dX10_clashOf_16 (fun x_1 lx_1 ux_1 ex_1 => ?_)
      have J107 : ∀ (z4_107 : Int) (lz4_107 : -2147483648 ≤ z4_107) (uz4_107 : z4_107 ≤ 2147483647) (H : Heap) (locs : List Loc) (ls : Array Slot) (hw : Wd D A s.heap L0 f0 H locs) (hl : lv_has ls 9 [(0, .ref a0), (1, .int (iI x1)), (3, .int (iI x3)), (4, .int (iI z4_107))]), W p l e ({ frames := 0, cells := 0, slots := 0, locals := 0 } : Room) s m ([.ref a0, .int (iI x1), .int (iI x2), .int (iI x3)] : List Value).toArray below meth c H locs (0) (0) (MQ below (Qi D (tq cy) L0 f0 s.heap.size (fun (r : Int) (L1 : List Nat) (f1 : Nat → va_E) => L0 = L1 ∧ f0 = f1 ∧ (True))) ([.ref a0, .int (iI x1), .int (iI x2), .int (iI x3)] : List Value).toArray s 0 0 A) (F0 m 107 ls []) := by
        intro z4_107 lz4_107 uz4_107 H locs ls hw hl
        refine q_iconst hx hb dX10_clashOf_107 ?_
        refine lv_istore (lv' := [(6, .int (iI 0)), (0, .ref a0), (1, .int (iI x1)), (3, .int (iI x3)), (4, .int (iI z4_107))]) hx hb dX10_clashOf_108 hl (by decide) rfl (fun ls hl => ?_)
        refine q_iconst hx hb dX10_clashOf_110 ?_
        refine lv_istore (lv' := [(7, .int (iI 0)), (6, .int (iI 0)), (0, .ref a0), (1, .int (iI x1)), (3, .int (iI x3)), (4, .int (iI z4_107))]) hx hb dX10_clashOf_111 hl (by decide) rfl (fun ls hl => ?_)
        have J113 : ∀ (n113 : Nat) (y6_113 : Int) (ly6_113 : -2147483648 ≤ y6_113) (uy6_113 : y6_113 ≤ 2147483647) (y7_113 : Int) (ly7_113 : -2147483648 ≤ y7_113) (uy7_113 : y7_113 ≤ 2147483647) (i1 : 0 ≤ y7_113) (i2 : 0 ≤ y6_113) (i3 : y6_113 ≤ 36525) (hn113 : ((2147483647 : Int) - y7_113).toNat < n113) (H : Heap) (locs : List Loc) (ls : Array Slot) (hw : Wd D A s.heap L0 f0 H locs) (hl : lv_has ls 9 [(0, .ref a0), (1, .int (iI x1)), (3, .int (iI x3)), (4, .int (iI z4_107)), (6, .int (iI y6_113)), (7, .int (iI y7_113))]), W p l e ({ frames := 0, cells := 0, slots := 0, locals := 0 } : Room) s m ([.ref a0, .int (iI x1), .int (iI x2), .int (iI x3)] : List Value).toArray below meth c H locs (0) (0) (MQ below (Qi D (tq cy) L0 f0 s.heap.size (fun (r : Int) (L1 : List Nat) (f1 : Nat → va_E) => L0 = L1 ∧ f0 = f1 ∧ (True))) ([.ref a0, .int (iI x1), .int (iI x2), .int (iI x3)] : List Value).toArray s 0 0 A) (F0 m 113 ls []) := by
          intro n113
          induction n113 with
          | zero => intro y6_113 ly6_113 uy6_113 y7_113 ly7_113 uy7_113 i1 i2 i3 hn113; exact absurd hn113 (Nat.not_lt_zero _)
          | succ n113 ih113 =>
            intro y6_113 ly6_113 uy6_113 y7_113 ly7_113 uy7_113 i1 i2 i3 hn113 H locs ls hw hl
            refine lv_iload hx hb dX10_clashOf_113 (lv_at hl 5 rfl) ?_
            refine lv_aload_n hx hb dX10_clashOf_115 rfl (lv_at hl 0 rfl) ?_
            refine q_getr (ci := 8) (C := RX10) (T := TX10) (N := 26) hx hb hts (fun w h => List.mem_cons_of_mem _ (mfX100 w h)) hown hK hw hs.1 hs.2.1 rfl 13 (by decide) (hts _ (List.mem_cons_of_mem _ (mr3 _ (List.mem_of_getElem? (i := 21) rfl)))) (fun _ h => h) rfl (hs.2.2.1 13 rfl).1 dX10_clashOf_116 ?_
            refine q_iconst hx hb dX10_clashOf_119 ?_
            refine q_iald hx hb hK hw (hs.2.2.1 13 rfl).2.1 1 (hs.2.2.1 13 rfl).2.2 rfl ⟨by decide, by decide⟩ (by omega) (by show _ < ((2 : Nat) : Int); omega) dX10_clashOf_120 (fun x_2 lx_2 ux_2 ex_2 => ?_)
            refine q_icmp_ge (tgt := 216) hx hb dX10_clashOf_121 (by decide) ⟨ly7_113, uy7_113⟩ ⟨lx_2, ux_2⟩ (fun c121 => ?_) (fun c121 => ?_)
            · refine lv_iload hx hb dX10_clashOf_216 (lv_at hl 3 rfl) ?_
              exact q_ret_i hx hb hr hlocks hK hAe hw ⟨lz4_107, uz4_107⟩ (Nat.le_of_ble_eq_true rfl) (Nat.le_of_ble_eq_true rfl) dX10_clashOf_218 ⟨rfl, rfl, by trivial⟩
            · refine lv_aload_n hx hb dX10_clashOf_124 rfl (lv_at hl 0 rfl) ?_
              refine q_getr (ci := 8) (C := RX10) (T := TX10) (N := 26) hx hb hts (fun w h => List.mem_cons_of_mem _ (mfX100 w h)) hown hK hw hs.1 hs.2.1 rfl 11 (by decide) (hts _ (List.mem_cons_of_mem _ (mr3 _ (List.mem_of_getElem? (i := 19) rfl)))) (fun _ h => h) rfl (hs.2.2.1 11 rfl).1 dX10_clashOf_125 ?_
              refine q_ldc (n := 36525) hx hb hown (hts _ (List.mem_cons_of_mem _ (mr3 _ (List.mem_of_getElem? (i := 9) rfl)))) rfl dX10_clashOf_128 ?_
              refine lv_iload hx hb dX10_clashOf_130 (lv_at hl 5 rfl) ?_
              first | refine q_iadd hx hb dX10_clashOf_132 ⟨by omega, by omega⟩ (fun x_3 lx_3 ux_3 ex_3 => ?_) | refine q_iaddw hx hb dX10_clashOf_132 (fun x_3 lx_3 ux_3 ex_3 => ?_)
              refine q_iald hx hb hK hw (hs.2.2.1 11 rfl).2.1 1 (hs.2.2.1 11 rfl).2.2 rfl ⟨lx_3, ux_3⟩ (by omega) (by show _ < ((73050 : Nat) : Int); omega) dX10_clashOf_133 (fun x_4 lx_4 ux_4 ex_4 => ?_)
              refine lv_istore (lv' := [(8, .int (iI x_4)), (0, .ref a0), (1, .int (iI x1)), (3, .int (iI x3)), (4, .int (iI z4_107)), (6, .int (iI y6_113)), (7, .int (iI y7_113))]) hx hb dX10_clashOf_134 hl (by decide) rfl (fun ls hl => ?_)
              refine lv_iload hx hb dX10_clashOf_136 (lv_at hl 4 rfl) ?_
              refine q_if_lt (tgt := 151) hx hb dX10_clashOf_138 (by decide) ⟨lz4_107, uz4_107⟩ (fun c138 => ?_) (fun c138 => ?_)
              · have J151 : ∀ (n151 : Nat) (y6_151 : Int) (ly6_151 : -2147483648 ≤ y6_151) (uy6_151 : y6_151 ≤ 2147483647) (n1 : 0 ≤ y6_151) (n2 : y6_151 ≤ 36525) (hn151 : ((2147483647 : Int) - y6_151).toNat < n151) (H : Heap) (locs : List Loc) (ls : Array Slot) (hw : Wd D A s.heap L0 f0 H locs) (hl : lv_has ls 9 [(0, .ref a0), (1, .int (iI x1)), (3, .int (iI x3)), (4, .int (iI z4_107)), (6, .int (iI y6_151)), (7, .int (iI y7_113)), (8, .int (iI x_4))]), W p l e ({ frames := 0, cells := 0, slots := 0, locals := 0 } : Room) s m ([.ref a0, .int (iI x1), .int (iI x2), .int (iI x3)] : List Value).toArray below meth c H locs (0) (0) (MQ below (Qi D (tq cy) L0 f0 s.heap.size (fun (r : Int) (L1 : List Nat) (f1 : Nat → va_E) => L0 = L1 ∧ f0 = f1 ∧ (True))) ([.ref a0, .int (iI x1), .int (iI x2), .int (iI x3)] : List Value).toArray s 0 0 A) (F0 m 151 ls []) := by
                  intro n151
                  induction n151 with
                  | zero => intro y6_151 ly6_151 uy6_151 n1 n2 hn151; exact absurd hn151 (Nat.not_lt_zero _)
                  | succ n151 ih151 =>
                    intro y6_151 ly6_151 uy6_151 n1 n2 hn151 H locs ls hw hl
                    refine lv_iload hx hb dX10_clashOf_151 (lv_at hl 4 rfl) ?_
                    refine lv_aload_n hx hb dX10_clashOf_153 rfl (lv_at hl 0 rfl) ?_
                    refine q_getr (ci := 8) (C := RX10) (T := TX10) (N := 26) hx hb hts (fun w h => List.mem_cons_of_mem _ (mfX100 w h)) hown hK hw hs.1 hs.2.1 rfl 13 (by decide) (hts _ (List.mem_cons_of_mem _ (mr3 _ (List.mem_of_getElem? (i := 21) rfl)))) (fun _ h => h) rfl (hs.2.2.1 13 rfl).1 dX10_clashOf_154 ?_
                    refine q_iconst hx hb dX10_clashOf_157 ?_
                    refine q_iald hx hb hK hw (hs.2.2.1 13 rfl).2.1 1 (hs.2.2.1 13 rfl).2.2 rfl ⟨by decide, by decide⟩ (by omega) (by show _ < ((2 : Nat) : Int); omega) dX10_clashOf_158 (fun x_5 lx_5 ux_5 ex_5 => ?_)
                    have J180 : ∀ (k1 : 0 ≤ y6_151) (k2 : y6_151 ≤ 36525) (H : Heap) (locs : List Loc) (ls : Array Slot) (hw : Wd D A s.heap L0 f0 H locs) (hl : lv_has ls 9 [(0, .ref a0), (1, .int (iI x1)), (3, .int (iI x3)), (4, .int (iI z4_107)), (6, .int (iI y6_151)), (7, .int (iI y7_113)), (8, .int (iI x_4))]), W p l e ({ frames := 0, cells := 0, slots := 0, locals := 0 } : Room) s m ([.ref a0, .int (iI x1), .int (iI x2), .int (iI x3)] : List Value).toArray below meth c H locs (0) (0) (MQ below (Qi D (tq cy) L0 f0 s.heap.size (fun (r : Int) (L1 : List Nat) (f1 : Nat → va_E) => L0 = L1 ∧ f0 = f1 ∧ (True))) ([.ref a0, .int (iI x1), .int (iI x2), .int (iI x3)] : List Value).toArray s 0 0 A) (F0 m 180 ls []) := by
                      intro k1 k2 H locs ls hw hl
                      refine lv_iload hx hb dX10_clashOf_180 (lv_at hl 6 rfl) ?_
                      refine lv_iload_n hx hb dX10_clashOf_182 rfl (lv_at hl 2 rfl) ?_
                      have J210 : ∀ (H : Heap) (locs : List Loc) (ls : Array Slot) (hw : Wd D A s.heap L0 f0 H locs) (hl : lv_has ls 9 [(0, .ref a0), (1, .int (iI x1)), (3, .int (iI x3)), (4, .int (iI z4_107)), (6, .int (iI y6_151)), (7, .int (iI y7_113))]), W p l e ({ frames := 0, cells := 0, slots := 0, locals := 0 } : Room) s m ([.ref a0, .int (iI x1), .int (iI x2), .int (iI x3)] : List Value).toArray below meth c H locs (0) (0) (MQ below (Qi D (tq cy) L0 f0 s.heap.size (fun (r : Int) (L1 : List Nat) (f1 : Nat → va_E) => L0 = L1 ∧ f0 = f1 ∧ (True))) ([.ref a0, .int (iI x1), .int (iI x2), .int (iI x3)] : List Value).toArray s 0 0 A) (F0 m 210 ls []) := by
                        intro H locs ls hw hl
                        obtain ⟨x_6, lx_6, ux_6, hx_6, ex_6⟩ := q_inc y7_113 (1)
                        try (replace ex_6 : x_6 = y7_113 + (1) := by omega)
                        refine lv_iinc (v := iI x_6) (lv' := [(7, .int (iI x_6)), (0, .ref a0), (1, .int (iI x1)), (3, .int (iI x3)), (4, .int (iI z4_107)), (6, .int (iI y6_151))]) hx hb dX10_clashOf_210 hl (k := 5) rfl hx_6 (by decide) rfl (fun ls hl => ?_)
                        refine lv_goto (tgt := 113) hx hb dX10_clashOf_213 (by decide) ?_
                        exact ih113 y6_151 ly6_151 uy6_151 x_6 lx_6 ux_6 (by omega) (by omega) (by omega) (by omega) _ _ _ hw (lv_sub hl [1, 2, 3, 4, 5, 0] rfl)
                      refine q_icmp_lt (tgt := 210) hx hb dX10_clashOf_183 (by decide) ⟨lx_4, ux_4⟩ ⟨lx3, ux3⟩ (fun c183 => ?_) (fun c183 => ?_)
                      · exact J210 _ _ _ hw (lv_sub hl [0, 1, 2, 3, 4, 5] rfl)
                      · refine lv_iload hx hb dX10_clashOf_186 (lv_at hl 4 rfl) ?_
                        refine q_if_le (tgt := 210) hx hb dX10_clashOf_188 (by decide) ⟨ly6_151, uy6_151⟩ (fun c188 => ?_) (fun c188 => ?_)
                        · exact J210 _ _ _ hw (lv_sub hl [0, 1, 2, 3, 4, 5] rfl)
                        · refine lv_aload_n hx hb dX10_clashOf_191 rfl (lv_at hl 0 rfl) ?_
                          refine q_getr (ci := 8) (C := RX10) (T := TX10) (N := 26) hx hb hts (fun w h => List.mem_cons_of_mem _ (mfX100 w h)) hown hK hw hs.1 hs.2.1 rfl 11 (by decide) (hts _ (List.mem_cons_of_mem _ (mr3 _ (List.mem_of_getElem? (i := 19) rfl)))) (fun _ h => h) rfl (hs.2.2.1 11 rfl).1 dX10_clashOf_192 ?_
                          refine lv_iload hx hb dX10_clashOf_195 (lv_at hl 4 rfl) ?_
                          refine q_iconst hx hb dX10_clashOf_197 ?_
                          first | refine q_isub hx hb dX10_clashOf_198 ⟨by omega, by omega⟩ (fun x_7 lx_7 ux_7 ex_7 => ?_) | refine q_isubw hx hb dX10_clashOf_198 (fun x_7 lx_7 ux_7 ex_7 => ?_)
                          refine q_iald hx hb hK hw (hs.2.2.1 11 rfl).2.1 1 (hs.2.2.1 11 rfl).2.2 rfl ⟨lx_7, ux_7⟩ (by omega) (by show _ < ((73050 : Nat) : Int); omega) dX10_clashOf_199 (fun x_8 lx_8 ux_8 ex_8 => ?_)
                          refine lv_iload_n hx hb dX10_clashOf_200 rfl (lv_at hl 1 rfl) ?_
                          first | refine q_iadd hx hb dX10_clashOf_201 ⟨by omega, by omega⟩ (fun x_9 lx_9 ux_9 ex_9 => ?_) | refine q_iaddw hx hb dX10_clashOf_201 (fun x_9 lx_9 ux_9 ex_9 => ?_)
                          refine lv_iload hx hb dX10_clashOf_202 (lv_at hl 6 rfl) ?_
                          refine q_icmp_le (tgt := 210) hx hb dX10_clashOf_204 (by decide) ⟨lx_9, ux_9⟩ ⟨lx_4, ux_4⟩ (fun c204 => ?_) (fun c204 => ?_)
                          · exact J210 _ _ _ hw (lv_sub hl [0, 1, 2, 3, 4, 5] rfl)
                          · refine lv_iload hx hb dX10_clashOf_207 (lv_at hl 6 rfl) ?_
                            exact q_ret_i hx hb hr hlocks hK hAe hw ⟨lx_4, ux_4⟩ (Nat.le_of_ble_eq_true rfl) (Nat.le_of_ble_eq_true rfl) dX10_clashOf_209 ⟨rfl, rfl, by trivial⟩
                    refine q_icmp_ge (tgt := 180) hx hb dX10_clashOf_159 (by decide) ⟨ly6_151, uy6_151⟩ ⟨lx_5, ux_5⟩ (fun c159 => ?_) (fun c159 => ?_)
                    · exact J180 (by omega) (by omega) _ _ _ hw (lv_sub hl [0, 1, 2, 3, 4, 5, 6] rfl)
                    · refine lv_aload_n hx hb dX10_clashOf_162 rfl (lv_at hl 0 rfl) ?_
                      refine q_getr (ci := 8) (C := RX10) (T := TX10) (N := 26) hx hb hts (fun w h => List.mem_cons_of_mem _ (mfX100 w h)) hown hK hw hs.1 hs.2.1 rfl 11 (by decide) (hts _ (List.mem_cons_of_mem _ (mr3 _ (List.mem_of_getElem? (i := 19) rfl)))) (fun _ h => h) rfl (hs.2.2.1 11 rfl).1 dX10_clashOf_163 ?_
                      refine lv_iload hx hb dX10_clashOf_166 (lv_at hl 4 rfl) ?_
                      refine q_iald hx hb hK hw (hs.2.2.1 11 rfl).2.1 1 (hs.2.2.1 11 rfl).2.2 rfl ⟨ly6_151, uy6_151⟩ (by omega) (by show _ < ((73050 : Nat) : Int); omega) dX10_clashOf_168 (fun x_10 lx_10 ux_10 ex_10 => ?_)
                      refine lv_iload hx hb dX10_clashOf_169 (lv_at hl 6 rfl) ?_
                      refine q_icmp_gt (tgt := 180) hx hb dX10_clashOf_171 (by decide) ⟨lx_10, ux_10⟩ ⟨lx_4, ux_4⟩ (fun c171 => ?_) (fun c171 => ?_)
                      · exact J180 (by omega) (by omega) _ _ _ hw (lv_sub hl [0, 1, 2, 3, 4, 5, 6] rfl)
                      · obtain ⟨x_11, lx_11, ux_11, hx_11, ex_11⟩ := q_inc y6_151 (1)
                        try (replace ex_11 : x_11 = y6_151 + (1) := by omega)
                        refine lv_iinc (v := iI x_11) (lv' := [(6, .int (iI x_11)), (0, .ref a0), (1, .int (iI x1)), (3, .int (iI x3)), (4, .int (iI z4_107)), (7, .int (iI y7_113)), (8, .int (iI x_4))]) hx hb dX10_clashOf_174 hl (k := 4) rfl hx_11 (by decide) rfl (fun ls hl => ?_)
                        refine lv_goto (tgt := 151) hx hb dX10_clashOf_177 (by decide) ?_
                        exact ih151 x_11 lx_11 ux_11 (by omega) (by omega) (by omega) _ _ _ hw (lv_sub hl [1, 2, 3, 4, 0, 5, 6] rfl)
                exact J151 ((((2147483647 : Int) - y6_113).toNat) + 1) y6_113 ly6_113 uy6_113 (by omega) (by omega) (by omega) _ _ _ hw (lv_sub hl [1, 2, 3, 4, 5, 6, 0] rfl)
              · refine lv_iload hx hb dX10_clashOf_141 (lv_at hl 0 rfl) ?_
                refine lv_iload hx hb dX10_clashOf_143 (lv_at hl 4 rfl) ?_
                refine q_icmp_lt (tgt := 151) hx hb dX10_clashOf_145 (by decide) ⟨lx_4, ux_4⟩ ⟨lz4_107, uz4_107⟩ (fun c145 => ?_) (fun c145 => ?_)
                · have J151 : ∀ (n151 : Nat) (y6_151 : Int) (ly6_151 : -2147483648 ≤ y6_151) (uy6_151 : y6_151 ≤ 2147483647) (n1 : 0 ≤ y6_151) (n2 : y6_151 ≤ 36525) (hn151 : ((2147483647 : Int) - y6_151).toNat < n151) (H : Heap) (locs : List Loc) (ls : Array Slot) (hw : Wd D A s.heap L0 f0 H locs) (hl : lv_has ls 9 [(0, .ref a0), (1, .int (iI x1)), (3, .int (iI x3)), (4, .int (iI z4_107)), (6, .int (iI y6_151)), (7, .int (iI y7_113)), (8, .int (iI x_4))]), W p l e ({ frames := 0, cells := 0, slots := 0, locals := 0 } : Room) s m ([.ref a0, .int (iI x1), .int (iI x2), .int (iI x3)] : List Value).toArray below meth c H locs (0) (0) (MQ below (Qi D (tq cy) L0 f0 s.heap.size (fun (r : Int) (L1 : List Nat) (f1 : Nat → va_E) => L0 = L1 ∧ f0 = f1 ∧ (True))) ([.ref a0, .int (iI x1), .int (iI x2), .int (iI x3)] : List Value).toArray s 0 0 A) (F0 m 151 ls []) := by
                    intro n151
                    induction n151 with
                    | zero => intro y6_151 ly6_151 uy6_151 n1 n2 hn151; exact absurd hn151 (Nat.not_lt_zero _)
                    | succ n151 ih151 =>
                      intro y6_151 ly6_151 uy6_151 n1 n2 hn151 H locs ls hw hl
                      refine lv_iload hx hb dX10_clashOf_151 (lv_at hl 4 rfl) ?_
                      refine lv_aload_n hx hb dX10_clashOf_153 rfl (lv_at hl 0 rfl) ?_
                      refine q_getr (ci := 8) (C := RX10) (T := TX10) (N := 26) hx hb hts (fun w h => List.mem_cons_of_mem _ (mfX100 w h)) hown hK hw hs.1 hs.2.1 rfl 13 (by decide) (hts _ (List.mem_cons_of_mem _ (mr3 _ (List.mem_of_getElem? (i := 21) rfl)))) (fun _ h => h) rfl (hs.2.2.1 13 rfl).1 dX10_clashOf_154 ?_
                      refine q_iconst hx hb dX10_clashOf_157 ?_
                      refine q_iald hx hb hK hw (hs.2.2.1 13 rfl).2.1 1 (hs.2.2.1 13 rfl).2.2 rfl ⟨by decide, by decide⟩ (by omega) (by show _ < ((2 : Nat) : Int); omega) dX10_clashOf_158 (fun x_12 lx_12 ux_12 ex_12 => ?_)
                      have J180 : ∀ (k1 : 0 ≤ y6_151) (k2 : y6_151 ≤ 36525) (H : Heap) (locs : List Loc) (ls : Array Slot) (hw : Wd D A s.heap L0 f0 H locs) (hl : lv_has ls 9 [(0, .ref a0), (1, .int (iI x1)), (3, .int (iI x3)), (4, .int (iI z4_107)), (6, .int (iI y6_151)), (7, .int (iI y7_113)), (8, .int (iI x_4))]), W p l e ({ frames := 0, cells := 0, slots := 0, locals := 0 } : Room) s m ([.ref a0, .int (iI x1), .int (iI x2), .int (iI x3)] : List Value).toArray below meth c H locs (0) (0) (MQ below (Qi D (tq cy) L0 f0 s.heap.size (fun (r : Int) (L1 : List Nat) (f1 : Nat → va_E) => L0 = L1 ∧ f0 = f1 ∧ (True))) ([.ref a0, .int (iI x1), .int (iI x2), .int (iI x3)] : List Value).toArray s 0 0 A) (F0 m 180 ls []) := by
                        intro k1 k2 H locs ls hw hl
                        refine lv_iload hx hb dX10_clashOf_180 (lv_at hl 6 rfl) ?_
                        refine lv_iload_n hx hb dX10_clashOf_182 rfl (lv_at hl 2 rfl) ?_
                        have J210 : ∀ (H : Heap) (locs : List Loc) (ls : Array Slot) (hw : Wd D A s.heap L0 f0 H locs) (hl : lv_has ls 9 [(0, .ref a0), (1, .int (iI x1)), (3, .int (iI x3)), (4, .int (iI z4_107)), (6, .int (iI y6_151)), (7, .int (iI y7_113))]), W p l e ({ frames := 0, cells := 0, slots := 0, locals := 0 } : Room) s m ([.ref a0, .int (iI x1), .int (iI x2), .int (iI x3)] : List Value).toArray below meth c H locs (0) (0) (MQ below (Qi D (tq cy) L0 f0 s.heap.size (fun (r : Int) (L1 : List Nat) (f1 : Nat → va_E) => L0 = L1 ∧ f0 = f1 ∧ (True))) ([.ref a0, .int (iI x1), .int (iI x2), .int (iI x3)] : List Value).toArray s 0 0 A) (F0 m 210 ls []) := by
                          intro H locs ls hw hl
                          obtain ⟨x_13, lx_13, ux_13, hx_13, ex_13⟩ := q_inc y7_113 (1)
                          try (replace ex_13 : x_13 = y7_113 + (1) := by omega)
                          refine lv_iinc (v := iI x_13) (lv' := [(7, .int (iI x_13)), (0, .ref a0), (1, .int (iI x1)), (3, .int (iI x3)), (4, .int (iI z4_107)), (6, .int (iI y6_151))]) hx hb dX10_clashOf_210 hl (k := 5) rfl hx_13 (by decide) rfl (fun ls hl => ?_)
                          refine lv_goto (tgt := 113) hx hb dX10_clashOf_213 (by decide) ?_
                          exact ih113 y6_151 ly6_151 uy6_151 x_13 lx_13 ux_13 (by omega) (by omega) (by omega) (by omega) _ _ _ hw (lv_sub hl [1, 2, 3, 4, 5, 0] rfl)
                        refine q_icmp_lt (tgt := 210) hx hb dX10_clashOf_183 (by decide) ⟨lx_4, ux_4⟩ ⟨lx3, ux3⟩ (fun c183 => ?_) (fun c183 => ?_)
                        · exact J210 _ _ _ hw (lv_sub hl [0, 1, 2, 3, 4, 5] rfl)
                        · refine lv_iload hx hb dX10_clashOf_186 (lv_at hl 4 rfl) ?_
                          refine q_if_le (tgt := 210) hx hb dX10_clashOf_188 (by decide) ⟨ly6_151, uy6_151⟩ (fun c188 => ?_) (fun c188 => ?_)
                          · exact J210 _ _ _ hw (lv_sub hl [0, 1, 2, 3, 4, 5] rfl)
                          · refine lv_aload_n hx hb dX10_clashOf_191 rfl (lv_at hl 0 rfl) ?_
                            refine q_getr (ci := 8) (C := RX10) (T := TX10) (N := 26) hx hb hts (fun w h => List.mem_cons_of_mem _ (mfX100 w h)) hown hK hw hs.1 hs.2.1 rfl 11 (by decide) (hts _ (List.mem_cons_of_mem _ (mr3 _ (List.mem_of_getElem? (i := 19) rfl)))) (fun _ h => h) rfl (hs.2.2.1 11 rfl).1 dX10_clashOf_192 ?_
                            refine lv_iload hx hb dX10_clashOf_195 (lv_at hl 4 rfl) ?_
                            refine q_iconst hx hb dX10_clashOf_197 ?_
                            first | refine q_isub hx hb dX10_clashOf_198 ⟨by omega, by omega⟩ (fun x_14 lx_14 ux_14 ex_14 => ?_) | refine q_isubw hx hb dX10_clashOf_198 (fun x_14 lx_14 ux_14 ex_14 => ?_)
                            refine q_iald hx hb hK hw (hs.2.2.1 11 rfl).2.1 1 (hs.2.2.1 11 rfl).2.2 rfl ⟨lx_14, ux_14⟩ (by omega) (by show _ < ((73050 : Nat) : Int); omega) dX10_clashOf_199 (fun x_15 lx_15 ux_15 ex_15 => ?_)
                            refine lv_iload_n hx hb dX10_clashOf_200 rfl (lv_at hl 1 rfl) ?_
                            first | refine q_iadd hx hb dX10_clashOf_201 ⟨by omega, by omega⟩ (fun x_16 lx_16 ux_16 ex_16 => ?_) | refine q_iaddw hx hb dX10_clashOf_201 (fun x_16 lx_16 ux_16 ex_16 => ?_)
                            refine lv_iload hx hb dX10_clashOf_202 (lv_at hl 6 rfl) ?_
                            refine q_icmp_le (tgt := 210) hx hb dX10_clashOf_204 (by decide) ⟨lx_16, ux_16⟩ ⟨lx_4, ux_4⟩ (fun c204 => ?_) (fun c204 => ?_)
                            · exact J210 _ _ _ hw (lv_sub hl [0, 1, 2, 3, 4, 5] rfl)
                            · refine lv_iload hx hb dX10_clashOf_207 (lv_at hl 6 rfl) ?_
                              exact q_ret_i hx hb hr hlocks hK hAe hw ⟨lx_4, ux_4⟩ (Nat.le_of_ble_eq_true rfl) (Nat.le_of_ble_eq_true rfl) dX10_clashOf_209 ⟨rfl, rfl, by trivial⟩
                      refine q_icmp_ge (tgt := 180) hx hb dX10_clashOf_159 (by decide) ⟨ly6_151, uy6_151⟩ ⟨lx_12, ux_12⟩ (fun c159 => ?_) (fun c159 => ?_)
                      · exact J180 (by omega) (by omega) _ _ _ hw (lv_sub hl [0, 1, 2, 3, 4, 5, 6] rfl)
                      · refine lv_aload_n hx hb dX10_clashOf_162 rfl (lv_at hl 0 rfl) ?_
                        refine q_getr (ci := 8) (C := RX10) (T := TX10) (N := 26) hx hb hts (fun w h => List.mem_cons_of_mem _ (mfX100 w h)) hown hK hw hs.1 hs.2.1 rfl 11 (by decide) (hts _ (List.mem_cons_of_mem _ (mr3 _ (List.mem_of_getElem? (i := 19) rfl)))) (fun _ h => h) rfl (hs.2.2.1 11 rfl).1 dX10_clashOf_163 ?_
                        refine lv_iload hx hb dX10_clashOf_166 (lv_at hl 4 rfl) ?_
                        refine q_iald hx hb hK hw (hs.2.2.1 11 rfl).2.1 1 (hs.2.2.1 11 rfl).2.2 rfl ⟨ly6_151, uy6_151⟩ (by omega) (by show _ < ((73050 : Nat) : Int); omega) dX10_clashOf_168 (fun x_17 lx_17 ux_17 ex_17 => ?_)
                        refine lv_iload hx hb dX10_clashOf_169 (lv_at hl 6 rfl) ?_
                        refine q_icmp_gt (tgt := 180) hx hb dX10_clashOf_171 (by decide) ⟨lx_17, ux_17⟩ ⟨lx_4, ux_4⟩ (fun c171 => ?_) (fun c171 => ?_)
                        · exact J180 (by omega) (by omega) _ _ _ hw (lv_sub hl [0, 1, 2, 3, 4, 5, 6] rfl)
                        · obtain ⟨x_18, lx_18, ux_18, hx_18, ex_18⟩ := q_inc y6_151 (1)
                          try (replace ex_18 : x_18 = y6_151 + (1) := by omega)
                          refine lv_iinc (v := iI x_18) (lv' := [(6, .int (iI x_18)), (0, .ref a0), (1, .int (iI x1)), (3, .int (iI x3)), (4, .int (iI z4_107)), (7, .int (iI y7_113)), (8, .int (iI x_4))]) hx hb dX10_clashOf_174 hl (k := 4) rfl hx_18 (by decide) rfl (fun ls hl => ?_)
                          refine lv_goto (tgt := 151) hx hb dX10_clashOf_177 (by decide) ?_
                          exact ih151 x_18 lx_18 ux_18 (by omega) (by omega) (by omega) _ _ _ hw (lv_sub hl [1, 2, 3, 4, 0, 5, 6] rfl)
                  exact J151 ((((2147483647 : Int) - y6_113).toNat) + 1) y6_113 ly6_113 uy6_113 (by omega) (by omega) (by omega) _ _ _ hw (lv_sub hl [1, 2, 3, 4, 5, 6, 0] rfl)
                · refine lv_goto (tgt := 216) hx hb dX10_clashOf_148 (by decide) ?_
                  refine lv_iload hx hb dX10_clashOf_216 (lv_at hl 4 rfl) ?_
                  exact q_ret_i hx hb hr hlocks hK hAe hw ⟨lz4_107, uz4_107⟩ (Nat.le_of_ble_eq_true rfl) (Nat.le_of_ble_eq_true rfl) dX10_clashOf_218 ⟨rfl, rfl, by trivial⟩
        exact J113 ((((2147483647 : Int) - 0).toNat) + 1) 0 (by decide) (by decide) 0 (by decide) (by decide) (by omega) (by omega) (by omega) (by omega) _ _ _ hw (lv_sub hl [2, 3, 4, 5, 1, 0] rfl)
      refine q_icmp_ge (tgt := 107) hx hb dX10_clashOf_17 (by decide) ⟨ly6_9, uy6_9⟩ ⟨lx_1, ux_1⟩ (fun c17 => ?_) (fun c17 => ?_)
      · exact J107 ((-1)) (by decide) (by decide) _ _ _ hw (lv_sub hl [0, 1, 3, 4] rfl)
      · refine lv_aload_n hx hb dX10_clashOf_20 rfl (lv_at hl 0 rfl) ?_
        refine q_getr (ci := 8) (C := RX10) (T := TX10) (N := 26) hx hb hts (fun w h => List.mem_cons_of_mem _ (mfX100 w h)) hown hK hw hs.1 hs.2.1 rfl 11 (by decide) (hts _ (List.mem_cons_of_mem _ (mr3 _ (List.mem_of_getElem? (i := 19) rfl)))) (fun _ h => h) rfl (hs.2.2.1 11 rfl).1 dX10_clashOf_21 ?_
        refine lv_iload hx hb dX10_clashOf_24 (lv_at hl 6 rfl) ?_
        refine q_iald hx hb hK hw (hs.2.2.1 11 rfl).2.1 1 (hs.2.2.1 11 rfl).2.2 rfl ⟨ly6_9, uy6_9⟩ (by omega) (by show _ < ((73050 : Nat) : Int); omega) dX10_clashOf_26 (fun x_19 lx_19 ux_19 ex_19 => ?_)
        refine lv_istore (lv' := [(7, .int (iI x_19)), (0, .ref a0), (1, .int (iI x1)), (2, .int (iI x2)), (3, .int (iI x3)), (4, .int (iI ((-1)))), (5, .int (iI y5_9)), (6, .int (iI y6_9))]) hx hb dX10_clashOf_27 hl (by decide) rfl (fun ls hl => ?_)
        have J29 : ∀ (n29 : Nat) (y5_29 : Int) (ly5_29 : -2147483648 ≤ y5_29) (uy5_29 : y5_29 ≤ 2147483647) (n1 : 0 ≤ y5_29) (n2 : y5_29 ≤ 36525) (hn29 : ((2147483647 : Int) - y5_29).toNat < n29) (H : Heap) (locs : List Loc) (ls : Array Slot) (hw : Wd D A s.heap L0 f0 H locs) (hl : lv_has ls 9 [(0, .ref a0), (1, .int (iI x1)), (2, .int (iI x2)), (3, .int (iI x3)), (4, .int (iI ((-1)))), (5, .int (iI y5_29)), (6, .int (iI y6_9)), (7, .int (iI x_19))]), W p l e ({ frames := 0, cells := 0, slots := 0, locals := 0 } : Room) s m ([.ref a0, .int (iI x1), .int (iI x2), .int (iI x3)] : List Value).toArray below meth c H locs (0) (0) (MQ below (Qi D (tq cy) L0 f0 s.heap.size (fun (r : Int) (L1 : List Nat) (f1 : Nat → va_E) => L0 = L1 ∧ f0 = f1 ∧ (True))) ([.ref a0, .int (iI x1), .int (iI x2), .int (iI x3)] : List Value).toArray s 0 0 A) (F0 m 29 ls []) := by
          intro n29
          induction n29 with
          | zero => intro y5_29 ly5_29 uy5_29 n1 n2 hn29; exact absurd hn29 (Nat.not_lt_zero _)
          | succ n29 ih29 =>
            intro y5_29 ly5_29 uy5_29 n1 n2 hn29 H locs ls hw hl
            refine lv_iload hx hb dX10_clashOf_29 (lv_at hl 5 rfl) ?_
            refine lv_aload_n hx hb dX10_clashOf_31 rfl (lv_at hl 0 rfl) ?_
            refine q_getr (ci := 8) (C := RX10) (T := TX10) (N := 26) hx hb hts (fun w h => List.mem_cons_of_mem _ (mfX100 w h)) hown hK hw hs.1 hs.2.1 rfl 13 (by decide) (hts _ (List.mem_cons_of_mem _ (mr3 _ (List.mem_of_getElem? (i := 21) rfl)))) (fun _ h => h) rfl (hs.2.2.1 13 rfl).1 dX10_clashOf_32 ?_
            refine q_iconst hx hb dX10_clashOf_35 ?_
            refine q_iald hx hb hK hw (hs.2.2.1 13 rfl).2.1 1 (hs.2.2.1 13 rfl).2.2 rfl ⟨by decide, by decide⟩ (by omega) (by show _ < ((2 : Nat) : Int); omega) dX10_clashOf_36 (fun x_20 lx_20 ux_20 ex_20 => ?_)
            have J61 : ∀ (k1 : 0 ≤ y5_29) (k2 : y5_29 ≤ 36525) (H : Heap) (locs : List Loc) (ls : Array Slot) (hw : Wd D A s.heap L0 f0 H locs) (hl : lv_has ls 9 [(0, .ref a0), (1, .int (iI x1)), (2, .int (iI x2)), (3, .int (iI x3)), (4, .int (iI ((-1)))), (5, .int (iI y5_29)), (6, .int (iI y6_9)), (7, .int (iI x_19))]), W p l e ({ frames := 0, cells := 0, slots := 0, locals := 0 } : Room) s m ([.ref a0, .int (iI x1), .int (iI x2), .int (iI x3)] : List Value).toArray below meth c H locs (0) (0) (MQ below (Qi D (tq cy) L0 f0 s.heap.size (fun (r : Int) (L1 : List Nat) (f1 : Nat → va_E) => L0 = L1 ∧ f0 = f1 ∧ (True))) ([.ref a0, .int (iI x1), .int (iI x2), .int (iI x3)] : List Value).toArray s 0 0 A) (F0 m 61 ls []) := by
              intro k1 k2 H locs ls hw hl
              refine lv_iload hx hb dX10_clashOf_61 (lv_at hl 7 rfl) ?_
              refine lv_iload_n hx hb dX10_clashOf_63 rfl (lv_at hl 3 rfl) ?_
              have J101 : ∀ (k1 : 0 ≤ y5_29) (k2 : y5_29 ≤ 36525) (H : Heap) (locs : List Loc) (ls : Array Slot) (hw : Wd D A s.heap L0 f0 H locs) (hl : lv_has ls 9 [(0, .ref a0), (1, .int (iI x1)), (2, .int (iI x2)), (3, .int (iI x3)), (4, .int (iI ((-1)))), (5, .int (iI y5_29)), (6, .int (iI y6_9))]), W p l e ({ frames := 0, cells := 0, slots := 0, locals := 0 } : Room) s m ([.ref a0, .int (iI x1), .int (iI x2), .int (iI x3)] : List Value).toArray below meth c H locs (0) (0) (MQ below (Qi D (tq cy) L0 f0 s.heap.size (fun (r : Int) (L1 : List Nat) (f1 : Nat → va_E) => L0 = L1 ∧ f0 = f1 ∧ (True))) ([.ref a0, .int (iI x1), .int (iI x2), .int (iI x3)] : List Value).toArray s 0 0 A) (F0 m 101 ls []) := by
                intro k1 k2 H locs ls hw hl
                obtain ⟨x_21, lx_21, ux_21, hx_21, ex_21⟩ := q_inc y6_9 (1)
                try (replace ex_21 : x_21 = y6_9 + (1) := by omega)
                refine lv_iinc (v := iI x_21) (lv' := [(6, .int (iI x_21)), (0, .ref a0), (1, .int (iI x1)), (2, .int (iI x2)), (3, .int (iI x3)), (4, .int (iI ((-1)))), (5, .int (iI y5_29))]) hx hb dX10_clashOf_101 hl (k := 6) rfl hx_21 (by decide) rfl (fun ls hl => ?_)
                refine lv_goto (tgt := 9) hx hb dX10_clashOf_104 (by decide) ?_
                exact ih9 y5_29 ly5_29 uy5_29 x_21 lx_21 ux_21 (by omega) (by omega) (by omega) (by omega) _ _ _ hw (lv_sub hl [1, 2, 3, 4, 5, 6, 0] rfl)
              refine q_icmp_lt (tgt := 101) hx hb dX10_clashOf_64 (by decide) ⟨lx_19, ux_19⟩ ⟨lx3, ux3⟩ (fun c64 => ?_) (fun c64 => ?_)
              · exact J101 (by omega) (by omega) _ _ _ hw (lv_sub hl [0, 1, 2, 3, 4, 5, 6] rfl)
              · refine lv_iload hx hb dX10_clashOf_67 (lv_at hl 5 rfl) ?_
                refine q_if_eq (tgt := 101) hx hb dX10_clashOf_69 (by decide) ⟨ly5_29, uy5_29⟩ (fun c69 => ?_) (fun c69 => ?_)
                · exact J101 (by omega) (by omega) _ _ _ hw (lv_sub hl [0, 1, 2, 3, 4, 5, 6] rfl)
                · refine lv_aload_n hx hb dX10_clashOf_72 rfl (lv_at hl 0 rfl) ?_
                  refine q_getr (ci := 8) (C := RX10) (T := TX10) (N := 26) hx hb hts (fun w h => List.mem_cons_of_mem _ (mfX100 w h)) hown hK hw hs.1 hs.2.1 rfl 11 (by decide) (hts _ (List.mem_cons_of_mem _ (mr3 _ (List.mem_of_getElem? (i := 19) rfl)))) (fun _ h => h) rfl (hs.2.2.1 11 rfl).1 dX10_clashOf_73 ?_
                  refine q_ldc (n := 36525) hx hb hown (hts _ (List.mem_cons_of_mem _ (mr3 _ (List.mem_of_getElem? (i := 9) rfl)))) rfl dX10_clashOf_76 ?_
                  refine lv_iload hx hb dX10_clashOf_78 (lv_at hl 5 rfl) ?_
                  first | refine q_iadd hx hb dX10_clashOf_80 ⟨by omega, by omega⟩ (fun x_22 lx_22 ux_22 ex_22 => ?_) | refine q_iaddw hx hb dX10_clashOf_80 (fun x_22 lx_22 ux_22 ex_22 => ?_)
                  refine q_iconst hx hb dX10_clashOf_81 ?_
                  first | refine q_isub hx hb dX10_clashOf_82 ⟨by omega, by omega⟩ (fun x_23 lx_23 ux_23 ex_23 => ?_) | refine q_isubw hx hb dX10_clashOf_82 (fun x_23 lx_23 ux_23 ex_23 => ?_)
                  refine q_iald hx hb hK hw (hs.2.2.1 11 rfl).2.1 1 (hs.2.2.1 11 rfl).2.2 rfl ⟨lx_23, ux_23⟩ (by omega) (by show _ < ((73050 : Nat) : Int); omega) dX10_clashOf_83 (fun x_24 lx_24 ux_24 ex_24 => ?_)
                  refine lv_iload_n hx hb dX10_clashOf_84 rfl (lv_at hl 2 rfl) ?_
                  first | refine q_iadd hx hb dX10_clashOf_85 ⟨by omega, by omega⟩ (fun x_25 lx_25 ux_25 ex_25 => ?_) | refine q_iaddw hx hb dX10_clashOf_85 (fun x_25 lx_25 ux_25 ex_25 => ?_)
                  refine lv_iload hx hb dX10_clashOf_86 (lv_at hl 7 rfl) ?_
                  refine q_icmp_gt (tgt := 94) hx hb dX10_clashOf_88 (by decide) ⟨lx_25, ux_25⟩ ⟨lx_19, ux_19⟩ (fun c88 => ?_) (fun c88 => ?_)
                  · refine lv_iload hx hb dX10_clashOf_94 (lv_at hl 7 rfl) ?_
                    refine lv_istore (lv' := [(4, .int (iI x_19)), (0, .ref a0), (1, .int (iI x1)), (2, .int (iI x2)), (3, .int (iI x3)), (5, .int (iI y5_29)), (6, .int (iI y6_9)), (7, .int (iI x_19))]) hx hb dX10_clashOf_96 hl (by decide) rfl (fun ls hl => ?_)
                    refine lv_goto (tgt := 107) hx hb dX10_clashOf_98 (by decide) ?_
                    exact J107 x_19 lx_19 ux_19 _ _ _ hw (lv_sub hl [1, 2, 4, 0] rfl)
                  · refine lv_goto (tgt := 101) hx hb dX10_clashOf_91 (by decide) ?_
                    exact J101 (by omega) (by omega) _ _ _ hw (lv_sub hl [0, 1, 2, 3, 4, 5, 6] rfl)
            refine q_icmp_ge (tgt := 61) hx hb dX10_clashOf_37 (by decide) ⟨ly5_29, uy5_29⟩ ⟨lx_20, ux_20⟩ (fun c37 => ?_) (fun c37 => ?_)
            · exact J61 (by omega) (by omega) _ _ _ hw (lv_sub hl [0, 1, 2, 3, 4, 5, 6, 7] rfl)
            · refine lv_aload_n hx hb dX10_clashOf_40 rfl (lv_at hl 0 rfl) ?_
              refine q_getr (ci := 8) (C := RX10) (T := TX10) (N := 26) hx hb hts (fun w h => List.mem_cons_of_mem _ (mfX100 w h)) hown hK hw hs.1 hs.2.1 rfl 11 (by decide) (hts _ (List.mem_cons_of_mem _ (mr3 _ (List.mem_of_getElem? (i := 19) rfl)))) (fun _ h => h) rfl (hs.2.2.1 11 rfl).1 dX10_clashOf_41 ?_
              refine q_ldc (n := 36525) hx hb hown (hts _ (List.mem_cons_of_mem _ (mr3 _ (List.mem_of_getElem? (i := 9) rfl)))) rfl dX10_clashOf_44 ?_
              refine lv_iload hx hb dX10_clashOf_46 (lv_at hl 5 rfl) ?_
              first | refine q_iadd hx hb dX10_clashOf_48 ⟨by omega, by omega⟩ (fun x_26 lx_26 ux_26 ex_26 => ?_) | refine q_iaddw hx hb dX10_clashOf_48 (fun x_26 lx_26 ux_26 ex_26 => ?_)
              refine q_iald hx hb hK hw (hs.2.2.1 11 rfl).2.1 1 (hs.2.2.1 11 rfl).2.2 rfl ⟨lx_26, ux_26⟩ (by omega) (by show _ < ((73050 : Nat) : Int); omega) dX10_clashOf_49 (fun x_27 lx_27 ux_27 ex_27 => ?_)
              refine lv_iload hx hb dX10_clashOf_50 (lv_at hl 7 rfl) ?_
              refine q_icmp_gt (tgt := 61) hx hb dX10_clashOf_52 (by decide) ⟨lx_27, ux_27⟩ ⟨lx_19, ux_19⟩ (fun c52 => ?_) (fun c52 => ?_)
              · exact J61 (by omega) (by omega) _ _ _ hw (lv_sub hl [0, 1, 2, 3, 4, 5, 6, 7] rfl)
              · obtain ⟨x_28, lx_28, ux_28, hx_28, ex_28⟩ := q_inc y5_29 (1)
                try (replace ex_28 : x_28 = y5_29 + (1) := by omega)
                refine lv_iinc (v := iI x_28) (lv' := [(5, .int (iI x_28)), (0, .ref a0), (1, .int (iI x1)), (2, .int (iI x2)), (3, .int (iI x3)), (4, .int (iI ((-1)))), (6, .int (iI y6_9)), (7, .int (iI x_19))]) hx hb dX10_clashOf_55 hl (k := 5) rfl hx_28 (by decide) rfl (fun ls hl => ?_)
                refine lv_goto (tgt := 29) hx hb dX10_clashOf_58 (by decide) ?_
                exact ih29 x_28 lx_28 ux_28 (by omega) (by omega) (by omega) _ _ _ hw (lv_sub hl [1, 2, 3, 4, 5, 0, 6, 7] rfl)
        exact J29 ((((2147483647 : Int) - y5_9).toNat) + 1) y5_9 ly5_9 uy5_9 (by omega) (by omega) (by omega) _ _ _ hw (lv_sub hl [1, 2, 3, 4, 5, 6, 7, 0] rfl)
  exact J9 ((((2147483647 : Int) - 0).toNat) + 1) 0 (by decide) (by decide) 0 (by decide) (by decide) (by omega) (by omega) (by omega) (by omega) _ _ _ hw (lv_sub hl [3, 4, 5, 6, 2, 1, 0] rfl)