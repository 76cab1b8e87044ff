set_option maxHeartbeats 4000000 in
set_option maxRecDepth 100000 in
theorem c_X0_keyFrom {Z : Zt} (zo : Zok Z) (l : Launch) (D : va_G) (cy : Cy) (L0 : List Nat) (f0 : Nat → va_E) (a0 : Nat) (x1 : Int) (lx1 : -2147483648 ≤ x1) (ux1 : x1 ≤ 2147483647) (m_a0 : a0 ∈ L0) (o_a0 : Ob f0 a0 0) (hg : GI cy L0 f0) : Ci Z l yX0_keyFrom (Cond.code yX0_keyFrom cX0_keyFrom 2 (some .int) :: TB) ({ frames := 3, cells := 0, slots := 0, locals := 69 } : Room) 0 0 D (tq cy) [.ref a0, .int (iI x1)] L0 f0 (fun (r : Int) (L1 : List Nat) (f1 : Nat → va_E) => L0 = L1 ∧ f0 = f1 ∧ (True)) := by
  refine Ci.enter (cc := cX0_keyFrom) (n := 2) rfl (plainFor_of_name (by decide)) (Nat.le_of_ble_eq_true rfl) ?_
  intro p e s m below meth c ls A hx hb hr hts hown hlocks hnm hml hK hA hAe hw hZ hl
  have hown : s.vm.findClass RX0 = some m.cls := hown
  have hl : lv_has ls 2 [(0, .ref a0), (1, .int (iI x1))] := hl
  have hN : ZN s := (zo.2.2.2.2 _ _ _ hZ).2
  refine lv_aload_n hx hb dX0_keyFrom_0 rfl (lv_at hl 0 rfl) ?_
  refine q_geti (ci := 0) (C := RX0) (T := TX0) (N := 15) hx hb hts (fun w h => List.mem_cons_of_mem _ (mfX00 w h)) hown hK hw m_a0 o_a0 rfl 7 (by decide) (hts _ (List.mem_cons_of_mem _ (mr14 _ (List.mem_of_getElem? (i := 20) rfl)))) (fun _ h => h) rfl dX0_keyFrom_1 (fun x_1 lx_1 ux_1 ex_1 => ?_)
  refine q_iconst hx hb dX0_keyFrom_4 ?_
  refine q_icmp_eq (tgt := 16) hx hb dX0_keyFrom_5 (by decide) ⟨lx_1, ux_1⟩ ⟨by decide, by decide⟩ (fun c5 => ?_) (fun c5 => ?_)
  · refine q_iconst hx hb dX0_keyFrom_16 ?_
    exact q_ret_i hx hb hr hlocks hK hAe hw ⟨by decide, by decide⟩ (Nat.le_of_ble_eq_true rfl) (Nat.le_of_ble_eq_true rfl) dX0_keyFrom_17 ⟨rfl, rfl, by trivial⟩
  · refine lv_iload_n hx hb dX0_keyFrom_8 rfl (lv_at hl 1 rfl) ?_
    refine lv_aload_n hx hb dX0_keyFrom_9 rfl (lv_at hl 0 rfl) ?_
    refine q_geti (ci := 0) (C := RX0) (T := TX0) (N := 15) hx hb hts (fun w h => List.mem_cons_of_mem _ (mfX00 w h)) hown hK hw m_a0 o_a0 rfl 8 (by decide) (hts _ (List.mem_cons_of_mem _ (mr14 _ (List.mem_of_getElem? (i := 21) rfl)))) (fun _ h => h) rfl dX0_keyFrom_10 (fun x_2 lx_2 ux_2 ex_2 => ?_)
    refine q_icmp_le (tgt := 18) hx hb dX0_keyFrom_13 (by decide) ⟨lx1, ux1⟩ ⟨lx_2, ux_2⟩ (fun c13 => ?_) (fun c13 => ?_)
    · refine lv_iload_n hx hb dX0_keyFrom_18 rfl (lv_at hl 1 rfl) ?_
      refine lv_aload_n hx hb dX0_keyFrom_19 rfl (lv_at hl 0 rfl) ?_
      refine q_geti (ci := 0) (C := RX0) (T := TX0) (N := 15) hx hb hts (fun w h => List.mem_cons_of_mem _ (mfX00 w h)) hown hK hw m_a0 o_a0 rfl 7 (by decide) (hts _ (List.mem_cons_of_mem _ (mr14 _ (List.mem_of_getElem? (i := 20) rfl)))) (fun _ h => h) rfl dX0_keyFrom_20 (fun x_3 lx_3 ux_3 ex_3 => ?_)
      refine q_icmp_gt (tgt := 33) hx hb dX0_keyFrom_23 (by decide) ⟨lx1, ux1⟩ ⟨lx_3, ux_3⟩ (fun c23 => ?_) (fun c23 => ?_)
      · refine lv_aload_n hx hb dX0_keyFrom_33 rfl (lv_at hl 0 rfl) ?_
        obtain ⟨r_4, er_4, m_r_4, o_r_4⟩ := (show ∃ r, fR f0 a0 3 = some r ∧ r ∈ L0 ∧ Rl f0 r from hg.2.1 _ m_a0 0 3 o_a0)
        refine q_getr (ci := 0) (C := RX0) (T := TX0) (N := 15) hx hb hts (fun w h => List.mem_cons_of_mem _ (mfX00 w h)) hown hK hw m_a0 o_a0 rfl 3 (by decide) (hts _ (List.mem_cons_of_mem _ (mr3 _ (List.mem_of_getElem? (i := 4) rfl)))) (fun _ h => h) rfl er_4 dX0_keyFrom_34 ?_
        refine lv_iload_n hx hb dX0_keyFrom_37 rfl (lv_at hl 1 rfl) ?_
        have K38 : ∀ (x_5 : Int) (lx_5 : -2147483648 ≤ x_5) (ux_5 : x_5 ≤ 2147483647) (ex_5 : True) (H : Heap) (locs : List Loc) (hw : Wd D A s.heap L0 f0 H locs), W p l e ({ frames := 3, cells := 0, slots := 0, locals := 69 } : Room) s m ([.ref a0, .int (iI x1)] : List Value).toArray below meth c H locs (0) (0) (MQ below (Qi D (tq cy) L0 f0 s.heap.size (fun (r : Int) (L1 : List Nat) (f1 : Nat → va_E) => L0 = L1 ∧ f0 = f1 ∧ (True))) ([.ref a0, .int (iI x1)] : List Value).toArray s 0 0 A) (F0 m 41 ls (.int (iI x_5) :: [])) := by
          intro x_5 lx_5 ux_5 ex_5 H locs hw
          exact q_ret_i hx hb hr hlocks hK hAe hw ⟨lx_5, ux_5⟩ (Nat.le_of_ble_eq_true rfl) (Nat.le_of_ble_eq_true rfl) dX0_keyFrom_41 ⟨rfl, rfl, by trivial⟩
        rcases o_r_4 with o9 | o9 | o9 | o9
        · refine q_call_i hA hK hw (va_runU (As := [.int (iI x1)]) (rest := []) ⟨hx, hb, hml, hown, hts⟩ (c_X2_dayFrom zo l D cy L0 f0 r_4 x1 lx1 ux1 m_r_4 o9 hg _) (va_cwA 1 hts (gT (inU (mr14 _ (List.mem_of_getElem? (i := 23) rfl)) (mr15 _ (List.mem_of_getElem? (i := 0) rfl)) (mr15 _ (List.mem_of_getElem? (i := 1) rfl)) (mr15 _ (List.mem_of_getElem? (i := 2) rfl)) (mr12 _ (List.mem_of_getElem? (i := 12) rfl)) (mr15 _ (List.mem_of_getElem? (i := 3) rfl)))) rfl rfl rfl (hN _ (List.mem_of_getElem? (i := 15) rfl)) (by decide +kernel) ⟨Nat.le_of_ble_eq_true rfl, Nat.le_of_ble_eq_true rfl⟩) (Wd.preV zo hA hZ hw hK m_r_4 o9 rfl) rfl rfl hl.1 rfl (lv_room (Nat.le_of_ble_eq_true rfl)) dX0_keyFrom_38 ⟨Nat.le_of_ble_eq_true rfl, Nat.le_of_ble_eq_true rfl⟩) (fun x_5 L1 f1 H locs lx_5 ux_5 ex_5 hw => ?_)
          obtain ⟨rfl, rfl, ex_5⟩ := ex_5
          exact K38 x_5 lx_5 ux_5 trivial H locs hw
        · refine q_call_i hA hK hw (va_runU (As := [.int (iI x1)]) (rest := []) ⟨hx, hb, hml, hown, hts⟩ (c_X3_dayFrom zo l D cy L0 f0 r_4 x1 lx1 ux1 m_r_4 o9 hg _) (va_cwA 1 hts (gT (inU (mr14 _ (List.mem_of_getElem? (i := 23) rfl)) (mr15 _ (List.mem_of_getElem? (i := 0) rfl)) (mr15 _ (List.mem_of_getElem? (i := 7) rfl)) (mr15 _ (List.mem_of_getElem? (i := 8) rfl)) (mr12 _ (List.mem_of_getElem? (i := 18) rfl)) (mr15 _ (List.mem_of_getElem? (i := 9) rfl)))) rfl rfl rfl (hN _ (List.mem_of_getElem? (i := 15) rfl)) (by decide +kernel) ⟨Nat.le_of_ble_eq_true rfl, Nat.le_of_ble_eq_true rfl⟩) (Wd.preV zo hA hZ hw hK m_r_4 o9 rfl) rfl rfl hl.1 rfl (lv_room (Nat.le_of_ble_eq_true rfl)) dX0_keyFrom_38 ⟨Nat.le_of_ble_eq_true rfl, Nat.le_of_ble_eq_true rfl⟩) (fun x_5 L1 f1 H locs lx_5 ux_5 ex_5 hw => ?_)
          obtain ⟨rfl, rfl, ex_5⟩ := ex_5
          exact K38 x_5 lx_5 ux_5 trivial H locs hw
        · refine q_call_i hA hK hw (va_runU (As := [.int (iI x1)]) (rest := []) ⟨hx, hb, hml, hown, hts⟩ (c_X4_dayFrom zo l D cy L0 f0 r_4 x1 lx1 ux1 m_r_4 o9 hg _) (va_cwA 1 hts (gT (inU (mr14 _ (List.mem_of_getElem? (i := 23) rfl)) (mr15 _ (List.mem_of_getElem? (i := 0) rfl)) (mr15 _ (List.mem_of_getElem? (i := 22) rfl)) (mr15 _ (List.mem_of_getElem? (i := 23) rfl)) (mr2 _ (List.mem_of_getElem? (i := 7) rfl)) (mr16 _ (List.mem_of_getElem? (i := 0) rfl)))) rfl rfl rfl (hN _ (List.mem_of_getElem? (i := 15) rfl)) (by decide +kernel) ⟨Nat.le_of_ble_eq_true rfl, Nat.le_of_ble_eq_true rfl⟩) (Wd.preV zo hA hZ hw hK m_r_4 o9 rfl) rfl rfl hl.1 rfl (lv_room (Nat.le_of_ble_eq_true rfl)) dX0_keyFrom_38 ⟨Nat.le_of_ble_eq_true rfl, Nat.le_of_ble_eq_true rfl⟩) (fun x_5 L1 f1 H locs lx_5 ux_5 ex_5 hw => ?_)
          obtain ⟨rfl, rfl, ex_5⟩ := ex_5
          exact K38 x_5 lx_5 ux_5 trivial H locs hw
        · refine q_call_i hA hK hw (va_runU (As := [.int (iI x1)]) (rest := []) ⟨hx, hb, hml, hown, hts⟩ (c_X8_dayFrom zo l D cy L0 f0 r_4 x1 lx1 ux1 m_r_4 o9 hg _) (va_cwA 1 hts (gT (inU (mr14 _ (List.mem_of_getElem? (i := 23) rfl)) (mr15 _ (List.mem_of_getElem? (i := 0) rfl)) (mr16 _ (List.mem_of_getElem? (i := 3) rfl)) (mr16 _ (List.mem_of_getElem? (i := 4) rfl)) (mr12 _ (List.mem_of_getElem? (i := 15) rfl)) (mr16 _ (List.mem_of_getElem? (i := 5) rfl)))) rfl rfl rfl (hN _ (List.mem_of_getElem? (i := 15) rfl)) (by decide +kernel) ⟨Nat.le_of_ble_eq_true rfl, Nat.le_of_ble_eq_true rfl⟩) (Wd.preV zo hA hZ hw hK m_r_4 o9 rfl) rfl rfl hl.1 rfl (lv_room (Nat.le_of_ble_eq_true rfl)) dX0_keyFrom_38 ⟨Nat.le_of_ble_eq_true rfl, Nat.le_of_ble_eq_true rfl⟩) (fun x_5 L1 f1 H locs lx_5 ux_5 ex_5 hw => ?_)
          obtain ⟨rfl, rfl, ex_5⟩ := ex_5
          exact K38 x_5 lx_5 ux_5 trivial H locs hw
      · refine lv_aload_n hx hb dX0_keyFrom_26 rfl (lv_at hl 0 rfl) ?_
        refine q_geti (ci := 0) (C := RX0) (T := TX0) (N := 15) hx hb hts (fun w h => List.mem_cons_of_mem _ (mfX00 w h)) hown hK hw m_a0 o_a0 rfl 7 (by decide) (hts _ (List.mem_cons_of_mem _ (mr14 _ (List.mem_of_getElem? (i := 20) rfl)))) (fun _ h => h) rfl dX0_keyFrom_27 (fun x_6 lx_6 ux_6 ex_6 => ?_)
        refine lv_goto (tgt := 41) hx hb dX0_keyFrom_30 (by decide) ?_
        exact q_ret_i hx hb hr hlocks hK hAe hw ⟨lx_6, ux_6⟩ (Nat.le_of_ble_eq_true rfl) (Nat.le_of_ble_eq_true rfl) dX0_keyFrom_41 ⟨rfl, rfl, by trivial⟩
    · refine q_iconst hx hb dX0_keyFrom_16 ?_
      exact q_ret_i hx hb hr hlocks hK hAe hw ⟨by decide, by decide⟩ (Nat.le_of_ble_eq_true rfl) (Nat.le_of_ble_eq_true rfl) dX0_keyFrom_17 ⟨rfl, rfl, by trivial⟩
set_option maxHeartbeats 4000000 in
set_option maxRecDepth 100000 in
theorem c_X0_keyTo {Z : Zt} (zo : Zok Z) (l : Launch) (D : va_G) (cy : Cy) (L0 : List Nat) (f0 : Nat → va_E) (a0 : Nat) (x1 : Int) (lx1 : -2147483648 ≤ x1) (ux1 : x1 ≤ 2147483647) (m_a0 : a0 ∈ L0) (o_a0 : Ob f0 a0 0) (hg : GI cy L0 f0) : Ci Z l yX0_keyTo (Cond.code yX0_keyTo cX0_keyTo 2 (some .int) :: TB) ({ frames := 3, cells := 0, slots := 0, locals := 67 } : Room) 0 0 D (tq cy) [.ref a0, .int (iI x1)] L0 f0 (fun (r : Int) (L1 : List Nat) (f1 : Nat → va_E) => L0 = L1 ∧ f0 = f1 ∧ (True)) := by
  refine Ci.enter (cc := cX0_keyTo) (n := 2) rfl (plainFor_of_name (by decide)) (Nat.le_of_ble_eq_true rfl) ?_
  intro p e s m below meth c ls A hx hb hr hts hown hlocks hnm hml hK hA hAe hw hZ hl
  have hown : s.vm.findClass RX0 = some m.cls := hown
  have hl : lv_has ls 2 [(0, .ref a0), (1, .int (iI x1))] := hl
  have hN : ZN s := (zo.2.2.2.2 _ _ _ hZ).2
  refine lv_aload_n hx hb dX0_keyTo_0 rfl (lv_at hl 0 rfl) ?_
  refine q_geti (ci := 0) (C := RX0) (T := TX0) (N := 15) hx hb hts (fun w h => List.mem_cons_of_mem _ (mfX00 w h)) hown hK hw m_a0 o_a0 rfl 7 (by decide) (hts _ (List.mem_cons_of_mem _ (mr14 _ (List.mem_of_getElem? (i := 20) rfl)))) (fun _ h => h) rfl dX0_keyTo_1 (fun x_1 lx_1 ux_1 ex_1 => ?_)
  refine q_iconst hx hb dX0_keyTo_4 ?_
  refine q_icmp_eq (tgt := 16) hx hb dX0_keyTo_5 (by decide) ⟨lx_1, ux_1⟩ ⟨by decide, by decide⟩ (fun c5 => ?_) (fun c5 => ?_)
  · refine q_iconst hx hb dX0_keyTo_16 ?_
    exact q_ret_i hx hb hr hlocks hK hAe hw ⟨by decide, by decide⟩ (Nat.le_of_ble_eq_true rfl) (Nat.le_of_ble_eq_true rfl) dX0_keyTo_17 ⟨rfl, rfl, by trivial⟩
  · refine lv_iload_n hx hb dX0_keyTo_8 rfl (lv_at hl 1 rfl) ?_
    refine lv_aload_n hx hb dX0_keyTo_9 rfl (lv_at hl 0 rfl) ?_
    refine q_geti (ci := 0) (C := RX0) (T := TX0) (N := 15) hx hb hts (fun w h => List.mem_cons_of_mem _ (mfX00 w h)) hown hK hw m_a0 o_a0 rfl 7 (by decide) (hts _ (List.mem_cons_of_mem _ (mr14 _ (List.mem_of_getElem? (i := 20) rfl)))) (fun _ h => h) rfl dX0_keyTo_10 (fun x_2 lx_2 ux_2 ex_2 => ?_)
    refine q_icmp_ge (tgt := 18) hx hb dX0_keyTo_13 (by decide) ⟨lx1, ux1⟩ ⟨lx_2, ux_2⟩ (fun c13 => ?_) (fun c13 => ?_)
    · refine lv_iload_n hx hb dX0_keyTo_18 rfl (lv_at hl 1 rfl) ?_
      refine lv_aload_n hx hb dX0_keyTo_19 rfl (lv_at hl 0 rfl) ?_
      refine q_geti (ci := 0) (C := RX0) (T := TX0) (N := 15) hx hb hts (fun w h => List.mem_cons_of_mem _ (mfX00 w h)) hown hK hw m_a0 o_a0 rfl 8 (by decide) (hts _ (List.mem_cons_of_mem _ (mr14 _ (List.mem_of_getElem? (i := 21) rfl)))) (fun _ h => h) rfl dX0_keyTo_20 (fun x_3 lx_3 ux_3 ex_3 => ?_)
      refine q_icmp_lt (tgt := 33) hx hb dX0_keyTo_23 (by decide) ⟨lx1, ux1⟩ ⟨lx_3, ux_3⟩ (fun c23 => ?_) (fun c23 => ?_)
      · refine lv_aload_n hx hb dX0_keyTo_33 rfl (lv_at hl 0 rfl) ?_
        obtain ⟨r_4, er_4, m_r_4, o_r_4⟩ := (show ∃ r, fR f0 a0 3 = some r ∧ r ∈ L0 ∧ Rl f0 r from hg.2.1 _ m_a0 0 3 o_a0)
        refine q_getr (ci := 0) (C := RX0) (T := TX0) (N := 15) hx hb hts (fun w h => List.mem_cons_of_mem _ (mfX00 w h)) hown hK hw m_a0 o_a0 rfl 3 (by decide) (hts _ (List.mem_cons_of_mem _ (mr3 _ (List.mem_of_getElem? (i := 4) rfl)))) (fun _ h => h) rfl er_4 dX0_keyTo_34 ?_
        refine lv_iload_n hx hb dX0_keyTo_37 rfl (lv_at hl 1 rfl) ?_
        have K38 : ∀ (x_5 : Int) (lx_5 : -2147483648 ≤ x_5) (ux_5 : x_5 ≤ 2147483647) (ex_5 : True) (H : Heap) (locs : List Loc) (hw : Wd D A s.heap L0 f0 H locs), W p l e ({ frames := 3, cells := 0, slots := 0, locals := 67 } : Room) s m ([.ref a0, .int (iI x1)] : List Value).toArray below meth c H locs (0) (0) (MQ below (Qi D (tq cy) L0 f0 s.heap.size (fun (r : Int) (L1 : List Nat) (f1 : Nat → va_E) => L0 = L1 ∧ f0 = f1 ∧ (True))) ([.ref a0, .int (iI x1)] : List Value).toArray s 0 0 A) (F0 m 41 ls (.int (iI x_5) :: [])) := by
          intro x_5 lx_5 ux_5 ex_5 H locs hw
          exact q_ret_i hx hb hr hlocks hK hAe hw ⟨lx_5, ux_5⟩ (Nat.le_of_ble_eq_true rfl) (Nat.le_of_ble_eq_true rfl) dX0_keyTo_41 ⟨rfl, rfl, by trivial⟩
        rcases o_r_4 with o9 | o9 | o9 | o9
        · refine q_call_i hA hK hw (va_runU (As := [.int (iI x1)]) (rest := []) ⟨hx, hb, hml, hown, hts⟩ (c_X2_dayTo zo l D cy L0 f0 r_4 x1 lx1 ux1 m_r_4 o9 hg _) (va_cwA 1 hts (gT (inU (mr16 _ (List.mem_of_getElem? (i := 13) rfl)) (mr16 _ (List.mem_of_getElem? (i := 14) rfl)) (mr16 _ (List.mem_of_getElem? (i := 15) rfl)) (mr16 _ (List.mem_of_getElem? (i := 16) rfl)) (mr12 _ (List.mem_of_getElem? (i := 12) rfl)) (mr16 _ (List.mem_of_getElem? (i := 17) rfl)))) rfl rfl rfl (hN _ (List.mem_of_getElem? (i := 16) rfl)) (by decide +kernel) ⟨Nat.le_of_ble_eq_true rfl, Nat.le_of_ble_eq_true rfl⟩) (Wd.preV zo hA hZ hw hK m_r_4 o9 rfl) rfl rfl hl.1 rfl (lv_room (Nat.le_of_ble_eq_true rfl)) dX0_keyTo_38 ⟨Nat.le_of_ble_eq_true rfl, Nat.le_of_ble_eq_true rfl⟩) (fun x_5 L1 f1 H locs lx_5 ux_5 ex_5 hw => ?_)
          obtain ⟨rfl, rfl, ex_5⟩ := ex_5
          exact K38 x_5 lx_5 ux_5 trivial H locs hw
        · refine q_call_i hA hK hw (va_runU (As := [.int (iI x1)]) (rest := []) ⟨hx, hb, hml, hown, hts⟩ (c_X3_dayTo zo l D cy L0 f0 r_4 x1 lx1 ux1 m_r_4 o9 hg _) (va_cwA 1 hts (gT (inU (mr16 _ (List.mem_of_getElem? (i := 13) rfl)) (mr16 _ (List.mem_of_getElem? (i := 14) rfl)) (mr16 _ (List.mem_of_getElem? (i := 18) rfl)) (mr16 _ (List.mem_of_getElem? (i := 19) rfl)) (mr12 _ (List.mem_of_getElem? (i := 18) rfl)) (mr16 _ (List.mem_of_getElem? (i := 20) rfl)))) rfl rfl rfl (hN _ (List.mem_of_getElem? (i := 16) rfl)) (by decide +kernel) ⟨Nat.le_of_ble_eq_true rfl, Nat.le_of_ble_eq_true rfl⟩) (Wd.preV zo hA hZ hw hK m_r_4 o9 rfl) rfl rfl hl.1 rfl (lv_room (Nat.le_of_ble_eq_true rfl)) dX0_keyTo_38 ⟨Nat.le_of_ble_eq_true rfl, Nat.le_of_ble_eq_true rfl⟩) (fun x_5 L1 f1 H locs lx_5 ux_5 ex_5 hw => ?_)
          obtain ⟨rfl, rfl, ex_5⟩ := ex_5
          exact K38 x_5 lx_5 ux_5 trivial H locs hw
        · refine q_call_i hA hK hw (va_runU (As := [.int (iI x1)]) (rest := []) ⟨hx, hb, hml, hown, hts⟩ (c_X4_dayTo zo l D cy L0 f0 r_4 x1 lx1 ux1 m_r_4 o9 hg _) (va_cwA 1 hts (gT (inU (mr16 _ (List.mem_of_getElem? (i := 13) rfl)) (mr16 _ (List.mem_of_getElem? (i := 14) rfl)) (mr16 _ (List.mem_of_getElem? (i := 21) rfl)) (mr16 _ (List.mem_of_getElem? (i := 22) rfl)) (mr2 _ (List.mem_of_getElem? (i := 7) rfl)) (mr16 _ (List.mem_of_getElem? (i := 23) rfl)))) rfl rfl rfl (hN _ (List.mem_of_getElem? (i := 16) rfl)) (by decide +kernel) ⟨Nat.le_of_ble_eq_true rfl, Nat.le_of_ble_eq_true rfl⟩) (Wd.preV zo hA hZ hw hK m_r_4 o9 rfl) rfl rfl hl.1 rfl (lv_room (Nat.le_of_ble_eq_true rfl)) dX0_keyTo_38 ⟨Nat.le_of_ble_eq_true rfl, Nat.le_of_ble_eq_true rfl⟩) (fun x_5 L1 f1 H locs lx_5 ux_5 ex_5 hw => ?_)
          obtain ⟨rfl, rfl, ex_5⟩ := ex_5
          exact K38 x_5 lx_5 ux_5 trivial H locs hw
        · refine q_call_i hA hK hw (va_runU (As := [.int (iI x1)]) (rest := []) ⟨hx, hb, hml, hown, hts⟩ (c_X8_dayTo zo l D cy L0 f0 r_4 x1 lx1 ux1 m_r_4 o9 hg _) (va_cwA 1 hts (gT (inU (mr16 _ (List.mem_of_getElem? (i := 13) rfl)) (mr16 _ (List.mem_of_getElem? (i := 14) rfl)) (mr17 _ (List.mem_of_getElem? (i := 0) rfl)) (mr17 _ (List.mem_of_getElem? (i := 1) rfl)) (mr12 _ (List.mem_of_getElem? (i := 15) rfl)) (mr17 _ (List.mem_of_getElem? (i := 2) rfl)))) rfl rfl rfl (hN _ (List.mem_of_getElem? (i := 16) rfl)) (by decide +kernel) ⟨Nat.le_of_ble_eq_true rfl, Nat.le_of_ble_eq_true rfl⟩) (Wd.preV zo hA hZ hw hK m_r_4 o9 rfl) rfl rfl hl.1 rfl (lv_room (Nat.le_of_ble_eq_true rfl)) dX0_keyTo_38 ⟨Nat.le_of_ble_eq_true rfl, Nat.le_of_ble_eq_true rfl⟩) (fun x_5 L1 f1 H locs lx_5 ux_5 ex_5 hw => ?_)
          obtain ⟨rfl, rfl, ex_5⟩ := ex_5
          exact K38 x_5 lx_5 ux_5 trivial H locs hw
      · refine lv_aload_n hx hb dX0_keyTo_26 rfl (lv_at hl 0 rfl) ?_
        refine q_geti (ci := 0) (C := RX0) (T := TX0) (N := 15) hx hb hts (fun w h => List.mem_cons_of_mem _ (mfX00 w h)) hown hK hw m_a0 o_a0 rfl 8 (by decide) (hts _ (List.mem_cons_of_mem _ (mr14 _ (List.mem_of_getElem? (i := 21) rfl)))) (fun _ h => h) rfl dX0_keyTo_27 (fun x_6 lx_6 ux_6 ex_6 => ?_)
        refine lv_goto (tgt := 41) hx hb dX0_keyTo_30 (by decide) ?_
        exact q_ret_i hx hb hr hlocks hK hAe hw ⟨lx_6, ux_6⟩ (Nat.le_of_ble_eq_true rfl) (Nat.le_of_ble_eq_true rfl) dX0_keyTo_41 ⟨rfl, rfl, by trivial⟩
    · refine q_iconst hx hb dX0_keyTo_16 ?_
      exact q_ret_i hx hb hr hlocks hK hAe hw ⟨by decide, by decide⟩ (Nat.le_of_ble_eq_true rfl) (Nat.le_of_ble_eq_true rfl) dX0_keyTo_17 ⟨rfl, rfl, by trivial⟩
set_option maxHeartbeats 4000000 in
set_option maxRecDepth 100000 in
theorem c_X0_keysIn {Z : Zt} (zo : Zok Z) (l : Launch) (D : va_G) (cy : Cy) (L0 : List Nat) (f0 : Nat → va_E) (a0 : Nat) (x1 : Int) (lx1 : -2147483648 ≤ x1) (ux1 : x1 ≤ 2147483647) (x2 : Int) (lx2 : -2147483648 ≤ x2) (ux2 : x2 ≤ 2147483647) (m_a0 : a0 ∈ L0) (o_a0 : Ob f0 a0 0) (hg : GI cy L0 f0) : Ci Z l yX0_keysIn (Cond.code yX0_keysIn cX0_keysIn 5 (some .int) :: TB) ({ frames := 3, cells := 0, slots := 0, locals := 72 } : Room) 0 0 D (tq cy) [.ref a0, .int (iI x1), .int (iI x2)] L0 f0 (fun (r : Int) (L1 : List Nat) (f1 : Nat → va_E) => L0 = L1 ∧ f0 = f1 ∧ (True)) := by
  refine Ci.enter (cc := cX0_keysIn) (n := 5) rfl (plainFor_of_name (by decide)) (Nat.le_of_ble_eq_true rfl) ?_
  intro p e s m below meth c ls A hx hb hr hts hown hlocks hnm hml hK hA hAe hw hZ hl
  have hown : s.vm.findClass RX0 = some m.cls := hown
  have hl : lv_has ls 5 [(0, .ref a0), (1, .int (iI x1)), (2, .int (iI x2))] := hl
  have hN : ZN s := (zo.2.2.2.2 _ _ _ hZ).2
  refine lv_iload_n hx hb dX0_keysIn_0 rfl (lv_at hl 1 rfl) ?_
  refine lv_aload_n hx hb dX0_keysIn_1 rfl (lv_at hl 0 rfl) ?_
  refine q_geti (ci := 0) (C := RX0) (T := TX0) (N := 15) hx hb hts (fun w h => List.mem_cons_of_mem _ (mfX00 w h)) hown hK hw m_a0 o_a0 rfl 7 (by decide) (hts _ (List.mem_cons_of_mem _ (mr14 _ (List.mem_of_getElem? (i := 20) rfl)))) (fun _ h => h) rfl dX0_keysIn_2 (fun x_1 lx_1 ux_1 ex_1 => ?_)
  refine q_max hx hb (hml.trans hl.1.symm) hown (hts _ (List.mem_cons_of_mem _ (mr25 _ (List.mem_of_getElem? (i := 20) rfl)))) (hts _ (List.mem_cons_of_mem _ (mr13 _ (List.mem_of_getElem? (i := 0) rfl)))) (hts _ (List.mem_cons_of_mem _ (mr6 _ (List.mem_of_getElem? (i := 14) rfl)))) (hts _ (List.mem_cons_of_mem _ (mr13 _ (List.mem_of_getElem? (i := 1) rfl)))) (Nat.le_of_ble_eq_true rfl) (Nat.le_of_ble_eq_true rfl) (Nat.le_of_ble_eq_true rfl) (Nat.le_of_ble_eq_true rfl) ⟨lx1, ux1⟩ ⟨lx_1, ux_1⟩ dX0_keysIn_5 (fun x_2 lx_2 ux_2 ex_2 => ?_)
  refine lv_istore_n (lv' := [(3, .int (iI x_2)), (0, .ref a0), (1, .int (iI x1)), (2, .int (iI x2))]) hx hb dX0_keysIn_8 rfl hl (by decide) rfl (fun ls hl => ?_)
  refine lv_iload_n hx hb dX0_keysIn_9 rfl (lv_at hl 3 rfl) ?_
  refine lv_aload_n hx hb dX0_keysIn_10 rfl (lv_at hl 1 rfl) ?_
  refine q_geti (ci := 0) (C := RX0) (T := TX0) (N := 15) hx hb hts (fun w h => List.mem_cons_of_mem _ (mfX00 w h)) hown hK hw m_a0 o_a0 rfl 8 (by decide) (hts _ (List.mem_cons_of_mem _ (mr14 _ (List.mem_of_getElem? (i := 21) rfl)))) (fun _ h => h) rfl dX0_keysIn_11 (fun x_3 lx_3 ux_3 ex_3 => ?_)
  refine q_min hx hb (hml.trans hl.1.symm) hown (hts _ (List.mem_cons_of_mem _ (mr25 _ (List.mem_of_getElem? (i := 21) rfl)))) (hts _ (List.mem_cons_of_mem _ (mr6 _ (List.mem_of_getElem? (i := 13) rfl)))) (hts _ (List.mem_cons_of_mem _ (mr6 _ (List.mem_of_getElem? (i := 14) rfl)))) (hts _ (List.mem_cons_of_mem _ (mr6 _ (List.mem_of_getElem? (i := 15) rfl)))) (Nat.le_of_ble_eq_true rfl) (Nat.le_of_ble_eq_true rfl) (Nat.le_of_ble_eq_true rfl) (Nat.le_of_ble_eq_true rfl) ⟨lx2, ux2⟩ ⟨lx_3, ux_3⟩ dX0_keysIn_14 (fun x_4 lx_4 ux_4 ex_4 => ?_)
  refine lv_istore (lv' := [(4, .int (iI x_4)), (3, .int (iI x_2)), (0, .ref a0), (1, .int (iI x1)), (2, .int (iI x2))]) hx hb dX0_keysIn_17 hl (by decide) rfl (fun ls hl => ?_)
  refine lv_aload_n hx hb dX0_keysIn_19 rfl (lv_at hl 2 rfl) ?_
  refine q_geti (ci := 0) (C := RX0) (T := TX0) (N := 15) hx hb hts (fun w h => List.mem_cons_of_mem _ (mfX00 w h)) hown hK hw m_a0 o_a0 rfl 7 (by decide) (hts _ (List.mem_cons_of_mem _ (mr14 _ (List.mem_of_getElem? (i := 20) rfl)))) (fun _ h => h) rfl dX0_keysIn_20 (fun x_5 lx_5 ux_5 ex_5 => ?_)
  refine q_iconst hx hb dX0_keysIn_23 ?_
  refine q_icmp_eq (tgt := 33) hx hb dX0_keysIn_24 (by decide) ⟨lx_5, ux_5⟩ ⟨by decide, by decide⟩ (fun c24 => ?_) (fun c24 => ?_)
  · refine q_iconst hx hb dX0_keysIn_33 ?_
    refine lv_goto (tgt := 47) hx hb dX0_keysIn_34 (by decide) ?_
    exact q_ret_i hx hb hr hlocks hK hAe hw ⟨by decide, by decide⟩ (Nat.le_of_ble_eq_true rfl) (Nat.le_of_ble_eq_true rfl) dX0_keysIn_47 ⟨rfl, rfl, by trivial⟩
  · refine lv_iload_n hx hb dX0_keysIn_27 rfl (lv_at hl 1 rfl) ?_
    refine lv_iload hx hb dX0_keysIn_28 (lv_at hl 0 rfl) ?_
    refine q_icmp_le (tgt := 37) hx hb dX0_keysIn_30 (by decide) ⟨lx_2, ux_2⟩ ⟨lx_4, ux_4⟩ (fun c30 => ?_) (fun c30 => ?_)
    · refine lv_aload_n hx hb dX0_keysIn_37 rfl (lv_at hl 2 rfl) ?_
      obtain ⟨r_6, er_6, m_r_6, o_r_6⟩ := (show ∃ r, fR f0 a0 3 = some r ∧ r ∈ L0 ∧ Rl f0 r from hg.2.1 _ m_a0 0 3 o_a0)
      refine q_getr (ci := 0) (C := RX0) (T := TX0) (N := 15) hx hb hts (fun w h => List.mem_cons_of_mem _ (mfX00 w h)) hown hK hw m_a0 o_a0 rfl 3 (by decide) (hts _ (List.mem_cons_of_mem _ (mr3 _ (List.mem_of_getElem? (i := 4) rfl)))) (fun _ h => h) rfl er_6 dX0_keysIn_38 ?_
      refine lv_iload_n hx hb dX0_keysIn_41 rfl (lv_at hl 1 rfl) ?_
      refine lv_iload hx hb dX0_keysIn_42 (lv_at hl 0 rfl) ?_
      have K44 : ∀ (x_7 : Int) (lx_7 : -2147483648 ≤ x_7) (ux_7 : x_7 ≤ 2147483647) (ex_7 : True) (H : Heap) (locs : List Loc) (hw : Wd D A s.heap L0 f0 H locs), W p l e ({ frames := 3, cells := 0, slots := 0, locals := 72 } : Room) s m ([.ref a0, .int (iI x1), .int (iI x2)] : List Value).toArray below meth c H locs (0) (0) (MQ below (Qi D (tq cy) L0 f0 s.heap.size (fun (r : Int) (L1 : List Nat) (f1 : Nat → va_E) => L0 = L1 ∧ f0 = f1 ∧ (True))) ([.ref a0, .int (iI x1), .int (iI x2)] : List Value).toArray s 0 0 A) (F0 m 47 ls (.int (iI x_7) :: [])) := by
        intro x_7 lx_7 ux_7 ex_7 H locs hw
        exact q_ret_i hx hb hr hlocks hK hAe hw ⟨lx_7, ux_7⟩ (Nat.le_of_ble_eq_true rfl) (Nat.le_of_ble_eq_true rfl) dX0_keysIn_47 ⟨rfl, rfl, by trivial⟩
      rcases o_r_6 with o9 | o9 | o9 | o9
      · refine q_call_i hA hK hw (va_runU (As := [.int (iI x_2), .int (iI x_4)]) (rest := []) ⟨hx, hb, hml, hown, hts⟩ (c_X2_daysIn zo l D cy L0 f0 r_6 x_2 lx_2 ux_2 x_4 lx_4 ux_4 m_r_6 o9 hg _) (va_cwA 2 hts (gT (inU (mr17 _ (List.mem_of_getElem? (i := 11) rfl)) (mr17 _ (List.mem_of_getElem? (i := 12) rfl)) (mr17 _ (List.mem_of_getElem? (i := 13) rfl)) (mr17 _ (List.mem_of_getElem? (i := 14) rfl)) (mr12 _ (List.mem_of_getElem? (i := 12) rfl)) (mr17 _ (List.mem_of_getElem? (i := 15) rfl)))) rfl rfl rfl (hN _ (List.mem_of_getElem? (i := 17) rfl)) (by decide +kernel) ⟨Nat.le_of_ble_eq_true rfl, Nat.le_of_ble_eq_true rfl⟩) (Wd.preV zo hA hZ hw hK m_r_6 o9 rfl) rfl rfl hl.1 rfl (lv_room (Nat.le_of_ble_eq_true rfl)) dX0_keysIn_44 ⟨Nat.le_of_ble_eq_true rfl, Nat.le_of_ble_eq_true rfl⟩) (fun x_7 L1 f1 H locs lx_7 ux_7 ex_7 hw => ?_)
        obtain ⟨rfl, rfl, ex_7⟩ := ex_7
        exact K44 x_7 lx_7 ux_7 trivial H locs hw
      · refine q_call_i hA hK hw (va_runU (As := [.int (iI x_2), .int (iI x_4)]) (rest := []) ⟨hx, hb, hml, hown, hts⟩ (c_X3_daysIn zo l D cy L0 f0 r_6 x_2 lx_2 ux_2 x_4 lx_4 ux_4 m_r_6 o9 hg _) (va_cwA 2 hts (gT (inU (mr17 _ (List.mem_of_getElem? (i := 11) rfl)) (mr17 _ (List.mem_of_getElem? (i := 12) rfl)) (mr17 _ (List.mem_of_getElem? (i := 20) rfl)) (mr17 _ (List.mem_of_getElem? (i := 21) rfl)) (mr12 _ (List.mem_of_getElem? (i := 18) rfl)) (mr17 _ (List.mem_of_getElem? (i := 22) rfl)))) rfl rfl rfl (hN _ (List.mem_of_getElem? (i := 17) rfl)) (by decide +kernel) ⟨Nat.le_of_ble_eq_true rfl, Nat.le_of_ble_eq_true rfl⟩) (Wd.preV zo hA hZ hw hK m_r_6 o9 rfl) rfl rfl hl.1 rfl (lv_room (Nat.le_of_ble_eq_true rfl)) dX0_keysIn_44 ⟨Nat.le_of_ble_eq_true rfl, Nat.le_of_ble_eq_true rfl⟩) (fun x_7 L1 f1 H locs lx_7 ux_7 ex_7 hw => ?_)
        obtain ⟨rfl, rfl, ex_7⟩ := ex_7
        exact K44 x_7 lx_7 ux_7 trivial H locs hw
      · refine q_call_i hA hK hw (va_runU (As := [.int (iI x_2), .int (iI x_4)]) (rest := []) ⟨hx, hb, hml, hown, hts⟩ (c_X4_daysIn zo l D cy L0 f0 r_6 x_2 lx_2 ux_2 x_4 lx_4 ux_4 m_r_6 o9 hg _) (va_cwA 2 hts (gT (inU (mr17 _ (List.mem_of_getElem? (i := 11) rfl)) (mr17 _ (List.mem_of_getElem? (i := 12) rfl)) (mr17 _ (List.mem_of_getElem? (i := 23) rfl)) (mr18 _ (List.mem_of_getElem? (i := 0) rfl)) (mr2 _ (List.mem_of_getElem? (i := 7) rfl)) (mr18 _ (List.mem_of_getElem? (i := 1) rfl)))) rfl rfl rfl (hN _ (List.mem_of_getElem? (i := 17) rfl)) (by decide +kernel) ⟨Nat.le_of_ble_eq_true rfl, Nat.le_of_ble_eq_true rfl⟩) (Wd.preV zo hA hZ hw hK m_r_6 o9 rfl) rfl rfl hl.1 rfl (lv_room (Nat.le_of_ble_eq_true rfl)) dX0_keysIn_44 ⟨Nat.le_of_ble_eq_true rfl, Nat.le_of_ble_eq_true rfl⟩) (fun x_7 L1 f1 H locs lx_7 ux_7 ex_7 hw => ?_)
        obtain ⟨rfl, rfl, ex_7⟩ := ex_7
        exact K44 x_7 lx_7 ux_7 trivial H locs hw
      · refine q_call_i hA hK hw (va_runU (As := [.int (iI x_2), .int (iI x_4)]) (rest := []) ⟨hx, hb, hml, hown, hts⟩ (c_X8_daysIn zo l D cy L0 f0 r_6 x_2 lx_2 ux_2 x_4 lx_4 ux_4 m_r_6 o9 hg _) (va_cwA 2 hts (gT (inU (mr17 _ (List.mem_of_getElem? (i := 11) rfl)) (mr17 _ (List.mem_of_getElem? (i := 12) rfl)) (mr18 _ (List.mem_of_getElem? (i := 2) rfl)) (mr18 _ (List.mem_of_getElem? (i := 3) rfl)) (mr12 _ (List.mem_of_getElem? (i := 15) rfl)) (mr18 _ (List.mem_of_getElem? (i := 4) rfl)))) rfl rfl rfl (hN _ (List.mem_of_getElem? (i := 17) rfl)) (by decide +kernel) ⟨Nat.le_of_ble_eq_true rfl, Nat.le_of_ble_eq_true rfl⟩) (Wd.preV zo hA hZ hw hK m_r_6 o9 rfl) rfl rfl hl.1 rfl (lv_room (Nat.le_of_ble_eq_true rfl)) dX0_keysIn_44 ⟨Nat.le_of_ble_eq_true rfl, Nat.le_of_ble_eq_true rfl⟩) (fun x_7 L1 f1 H locs lx_7 ux_7 ex_7 hw => ?_)
        obtain ⟨rfl, rfl, ex_7⟩ := ex_7
        exact K44 x_7 lx_7 ux_7 trivial H locs hw
    · refine q_iconst hx hb dX0_keysIn_33 ?_
      refine lv_goto (tgt := 47) hx hb dX0_keysIn_34 (by decide) ?_
      exact q_ret_i hx hb hr hlocks hK hAe hw ⟨by decide, by decide⟩ (Nat.le_of_ble_eq_true rfl) (Nat.le_of_ble_eq_true rfl) dX0_keysIn_47 ⟨rfl, rfl, by trivial⟩
set_option maxHeartbeats 4000000 in
set_option maxRecDepth 100000 in
theorem c_X0_beginsIn {Z : Zt} (zo : Zok Z) (l : Launch) (D : va_G) (cy : Cy) (L0 : List Nat) (f0 : Nat → va_E) (a0 : Nat) (x1 : Int) (lx1 : -2147483648 ≤ x1) (ux1 : x1 ≤ 2147483647) (x2 : Int) (lx2 : -2147483648 ≤ x2) (ux2 : x2 ≤ 2147483647) (m_a0 : a0 ∈ L0) (o_a0 : Ob f0 a0 0) (hg : GI cy L0 f0) : Ci Z l yX0_beginsIn (Cond.code yX0_beginsIn cX0_beginsIn 7 (some .int) :: TB) ({ frames := 4, cells := 0, slots := 0, locals := 96 } : Room) 0 0 D (tq cy) [.ref a0, .int (iI x1), .int (iI x2)] L0 f0 (fun (r : Int) (L1 : List Nat) (f1 : Nat → va_E) => L0 = L1 ∧ f0 = f1 ∧ (True)) := by
  refine Ci.enter (cc := cX0_beginsIn) (n := 7) rfl (plainFor_of_name (by decide)) (Nat.le_of_ble_eq_true rfl) ?_
  intro p e s m below meth c ls A hx hb hr hts hown hlocks hnm hml hK hA hAe hw hZ hl
  have hown : s.vm.findClass RX0 = some m.cls := hown
  have hl : lv_has ls 7 [(0, .ref a0), (1, .int (iI x1)), (2, .int (iI x2))] := hl
  have hN : ZN s := (zo.2.2.2.2 _ _ _ hZ).2
  refine lv_aload_n hx hb dX0_beginsIn_0 rfl (lv_at hl 0 rfl) ?_
  refine lv_iload_n hx hb dX0_beginsIn_1 rfl (lv_at hl 1 rfl) ?_
  refine q_call_i hA hK hw (va_runV (As := [.int (iI x1)]) (rest := []) ⟨hx, hb, hml, hown, hts⟩ (c_X0_ruledFrom zo l D cy L0 f0 a0 x1 lx1 ux1 m_a0 o_a0 hg _) (cwV 1 hts (gT (inV (mr29 _ (List.mem_of_getElem? (i := 14) rfl)) (mr29 _ (List.mem_of_getElem? (i := 15) rfl)) (mr29 _ (List.mem_of_getElem? (i := 16) rfl)) (mr2 _ (List.mem_of_getElem? (i := 9) rfl)) (mr29 _ (List.mem_of_getElem? (i := 17) rfl)))) rfl rfl rfl (by decide +kernel) ⟨Nat.le_of_ble_eq_true rfl, Nat.le_of_ble_eq_true rfl⟩) (Wd.preV zo hA hZ hw hK m_a0 o_a0 rfl) rfl rfl hl.1 rfl (lv_room (Nat.le_of_ble_eq_true rfl)) dX0_beginsIn_2 ⟨Nat.le_of_ble_eq_true rfl, Nat.le_of_ble_eq_true rfl⟩) (fun x_1 L1 f1 H locs lx_1 ux_1 ex_1 hw => ?_)
  obtain ⟨rfl, rfl, ex_1⟩ := ex_1
  refine lv_istore_n (lv' := [(3, .int (iI x_1)), (0, .ref a0), (1, .int (iI x1)), (2, .int (iI x2))]) hx hb dX0_beginsIn_5 rfl hl (by decide) rfl (fun ls hl => ?_)
  refine lv_aload_n hx hb dX0_beginsIn_6 rfl (lv_at hl 1 rfl) ?_
  refine lv_iload_n hx hb dX0_beginsIn_7 rfl (lv_at hl 3 rfl) ?_
  refine q_call_i hA hK hw (va_runV (As := [.int (iI x2)]) (rest := []) ⟨hx, hb, hml, hown, hts⟩ (c_X0_ruledTo zo l D cy L0 f0 a0 x2 lx2 ux2 m_a0 o_a0 hg _) (cwV 1 hts (gT (inV (mr30 _ (List.mem_of_getElem? (i := 23) rfl)) (mr31 _ (List.mem_of_getElem? (i := 0) rfl)) (mr31 _ (List.mem_of_getElem? (i := 1) rfl)) (mr2 _ (List.mem_of_getElem? (i := 9) rfl)) (mr31 _ (List.mem_of_getElem? (i := 2) rfl)))) rfl rfl rfl (by decide +kernel) ⟨Nat.le_of_ble_eq_true rfl, Nat.le_of_ble_eq_true rfl⟩) (Wd.preV zo hA hZ hw hK m_a0 o_a0 rfl) rfl rfl hl.1 rfl (lv_room (Nat.le_of_ble_eq_true rfl)) dX0_beginsIn_8 ⟨Nat.le_of_ble_eq_true rfl, Nat.le_of_ble_eq_true rfl⟩) (fun x_2 L1 f1 H locs lx_2 ux_2 ex_2 hw => ?_)
  obtain ⟨rfl, rfl, ex_2⟩ := ex_2
  refine lv_istore (lv' := [(4, .int (iI x_2)), (3, .int (iI x_1)), (0, .ref a0), (1, .int (iI x1)), (2, .int (iI x2))]) hx hb dX0_beginsIn_11 hl (by decide) rfl (fun ls hl => ?_)
  refine lv_aload_n hx hb dX0_beginsIn_13 rfl (lv_at hl 2 rfl) ?_
  refine lv_iload_n hx hb dX0_beginsIn_14 rfl (lv_at hl 1 rfl) ?_
  refine lv_iload hx hb dX0_beginsIn_15 (lv_at hl 0 rfl) ?_
  refine q_call_i hA hK hw (va_runV (As := [.int (iI x_1), .int (iI x_2)]) (rest := []) ⟨hx, hb, hml, hown, hts⟩ (c_X0_keysIn zo l D cy L0 f0 a0 x_1 lx_1 ux_1 x_2 lx_2 ux_2 m_a0 o_a0 hg _) (cwV 2 hts (gT (inV (mr31 _ (List.mem_of_getElem? (i := 19) rfl)) (mr25 _ (List.mem_of_getElem? (i := 17) rfl)) (mr25 _ (List.mem_of_getElem? (i := 18) rfl)) (mr2 _ (List.mem_of_getElem? (i := 9) rfl)) (mr25 _ (List.mem_of_getElem? (i := 19) rfl)))) rfl rfl rfl (by decide +kernel) ⟨Nat.le_of_ble_eq_true rfl, Nat.le_of_ble_eq_true rfl⟩) (Wd.preV zo hA hZ hw hK m_a0 o_a0 rfl) rfl rfl hl.1 rfl (lv_room (Nat.le_of_ble_eq_true rfl)) dX0_beginsIn_17 ⟨Nat.le_of_ble_eq_true rfl, Nat.le_of_ble_eq_true rfl⟩) (fun x_3 L1 f1 H locs lx_3 ux_3 ex_3 hw => ?_)
  obtain ⟨rfl, rfl, ex_3⟩ := ex_3
  refine lv_istore (lv' := [(5, .int (iI x_3)), (4, .int (iI x_2)), (3, .int (iI x_1)), (0, .ref a0), (1, .int (iI x1)), (2, .int (iI x2))]) hx hb dX0_beginsIn_20 hl (by decide) rfl (fun ls hl => ?_)
  refine q_iconst hx hb dX0_beginsIn_22 ?_
  refine lv_istore (lv' := [(6, .int (iI 0)), (5, .int (iI x_3)), (4, .int (iI x_2)), (3, .int (iI x_1)), (0, .ref a0), (1, .int (iI x1)), (2, .int (iI x2))]) hx hb dX0_beginsIn_23 hl (by decide) rfl (fun ls hl => ?_)
  have J25 : ∀ (n25 : Nat) (y5_25 : Int) (ly5_25 : -2147483648 ≤ y5_25) (uy5_25 : y5_25 ≤ 2147483647) (y6_25 : Int) (ly6_25 : -2147483648 ≤ y6_25) (uy6_25 : y6_25 ≤ 2147483647) (i1 : 0 ≤ y6_25) (hn25 : ((2147483647 : Int) - y6_25).toNat < n25) (H : Heap) (locs : List Loc) (ls : Array Slot) (hw : Wd D A s.heap L0 f0 H locs) (hl : lv_has ls 7 [(0, .ref a0), (1, .int (iI x1)), (2, .int (iI x2)), (3, .int (iI x_1)), (4, .int (iI x_2)), (5, .int (iI y5_25)), (6, .int (iI y6_25))]), W p l e ({ frames := 4, cells := 0, slots := 0, locals := 96 } : Room) s m ([.ref a0, .int (iI x1), .int (iI x2)] : List Value).toArray below meth c H locs (0 + 0 + 0 + 0) (0 + 0 + 0 + 0) (MQ below (Qi D (tq cy) L0 f0 s.heap.size (fun (r : Int) (L1 : List Nat) (f1 : Nat → va_E) => L0 = L1 ∧ f0 = f1 ∧ (True))) ([.ref a0, .int (iI x1), .int (iI x2)] : List Value).toArray s 0 0 A) (F0 m 25 ls []) := by
    intro n25
    induction n25 with
    | zero => intro y5_25 ly5_25 uy5_25 y6_25 ly6_25 uy6_25 i1 hn25; exact absurd hn25 (Nat.not_lt_zero _)
    | succ n25 ih25 =>
      intro y5_25 ly5_25 uy5_25 y6_25 ly6_25 uy6_25 i1 hn25 H locs ls hw hl
      refine lv_iload hx hb dX0_beginsIn_25 (lv_at hl 6 rfl) ?_
      refine lv_aload_n hx hb dX0_beginsIn_27 rfl (lv_at hl 0 rfl) ?_
      refine q_geti (ci := 0) (C := RX0) (T := TX0) (N := 15) hx hb hts (fun w h => List.mem_cons_of_mem _ (mfX00 w h)) hown hK hw m_a0 o_a0 rfl 10 (by decide) (hts _ (List.mem_cons_of_mem _ (mr14 _ (List.mem_of_getElem? (i := 9) rfl)))) (fun _ h => h) rfl dX0_beginsIn_28 (fun x_4 lx_4 ux_4 ex_4 => ?_)
      have bx_4 : 0 ≤ x_4 ∧ x_4 ≤ 16 := by rw [ex_4]; exact hg.1 _ m_a0 0 10 o_a0
      refine q_icmp_ge (tgt := 102) hx hb dX0_beginsIn_31 (by decide) ⟨ly6_25, uy6_25⟩ ⟨lx_4, ux_4⟩ (fun c31 => ?_) (fun c31 => ?_)
      · refine lv_iload hx hb dX0_beginsIn_102 (lv_at hl 5 rfl) ?_
        exact q_ret_i hx hb hr hlocks hK hAe hw ⟨ly5_25, uy5_25⟩ (Nat.le_of_ble_eq_true rfl) (Nat.le_of_ble_eq_true rfl) dX0_beginsIn_104 ⟨rfl, rfl, by trivial⟩
      · refine lv_aload_n hx hb dX0_beginsIn_34 rfl (lv_at hl 0 rfl) ?_
        obtain ⟨r_5, er_5, m_r_5, o_r_5⟩ := (show ∃ r, fR f0 a0 11 = some r ∧ r ∈ L0 ∧ ArI f0 r cy.2.1 16 from hg.2.1 _ m_a0 0 11 o_a0)
        refine q_getr (ci := 0) (C := RX0) (T := TX0) (N := 15) hx hb hts (fun w h => List.mem_cons_of_mem _ (mfX00 w h)) hown hK hw m_a0 o_a0 rfl 11 (by decide) (hts _ (List.mem_cons_of_mem _ (mr3 _ (List.mem_of_getElem? (i := 2) rfl)))) (fun _ h => h) rfl er_5 dX0_beginsIn_35 ?_
        refine lv_iload hx hb dX0_beginsIn_38 (lv_at hl 6 rfl) ?_
        refine q_iald hx hb hK hw m_r_5 1 o_r_5 rfl ⟨ly6_25, uy6_25⟩ (by omega) (by omega) dX0_beginsIn_40 (fun x_6 lx_6 ux_6 ex_6 => ?_)
        refine lv_iload_n hx hb dX0_beginsIn_41 rfl (lv_at hl 3 rfl) ?_
        have J60 : ∀ (z5_60 : Int) (lz5_60 : -2147483648 ≤ z5_60) (uz5_60 : z5_60 ≤ 2147483647) (H : Heap) (locs : List Loc) (ls : Array Slot) (hw : Wd D A s.heap L0 f0 H locs) (hl : lv_has ls 7 [(0, .ref a0), (1, .int (iI x1)), (2, .int (iI x2)), (3, .int (iI x_1)), (4, .int (iI x_2)), (5, .int (iI z5_60)), (6, .int (iI y6_25))]), W p l e ({ frames := 4, cells := 0, slots := 0, locals := 96 } : Room) s m ([.ref a0, .int (iI x1), .int (iI x2)] : List Value).toArray below meth c H locs (0 + 0 + 0 + 0) (0 + 0 + 0 + 0) (MQ below (Qi D (tq cy) L0 f0 s.heap.size (fun (r : Int) (L1 : List Nat) (f1 : Nat → va_E) => L0 = L1 ∧ f0 = f1 ∧ (True))) ([.ref a0, .int (iI x1), .int (iI x2)] : List Value).toArray s 0 0 A) (F0 m 60 ls []) := by
          intro z5_60 lz5_60 uz5_60 H locs ls hw hl
          refine lv_aload_n hx hb dX0_beginsIn_60 rfl (lv_at hl 0 rfl) ?_
          obtain ⟨r_7, er_7, m_r_7, o_r_7⟩ := (show ∃ r, fR f0 a0 12 = some r ∧ r ∈ L0 ∧ ArI f0 r cy.2.1 16 from hg.2.1 _ m_a0 0 12 o_a0)
          refine q_getr (ci := 0) (C := RX0) (T := TX0) (N := 15) hx hb hts (fun w h => List.mem_cons_of_mem _ (mfX00 w h)) hown hK hw m_a0 o_a0 rfl 12 (by decide) (hts _ (List.mem_cons_of_mem _ (mr3 _ (List.mem_of_getElem? (i := 3) rfl)))) (fun _ h => h) rfl er_7 dX0_beginsIn_61 ?_
          refine lv_iload hx hb dX0_beginsIn_64 (lv_at hl 6 rfl) ?_
          refine q_iald hx hb hK hw m_r_7 1 o_r_7 rfl ⟨ly6_25, uy6_25⟩ (by omega) (by omega) dX0_beginsIn_66 (fun x_8 lx_8 ux_8 ex_8 => ?_)
          refine q_iconst hx hb dX0_beginsIn_67 ?_
          have J96 : ∀ (z5_96 : Int) (lz5_96 : -2147483648 ≤ z5_96) (uz5_96 : z5_96 ≤ 2147483647) (H : Heap) (locs : List Loc) (ls : Array Slot) (hw : Wd D A s.heap L0 f0 H locs) (hl : lv_has ls 7 [(0, .ref a0), (1, .int (iI x1)), (2, .int (iI x2)), (3, .int (iI x_1)), (4, .int (iI x_2)), (5, .int (iI z5_96)), (6, .int (iI y6_25))]), W p l e ({ frames := 4, cells := 0, slots := 0, locals := 96 } : Room) s m ([.ref a0, .int (iI x1), .int (iI x2)] : List Value).toArray below meth c H locs (0 + 0 + 0 + 0) (0 + 0 + 0 + 0) (MQ below (Qi D (tq cy) L0 f0 s.heap.size (fun (r : Int) (L1 : List Nat) (f1 : Nat → va_E) => L0 = L1 ∧ f0 = f1 ∧ (True))) ([.ref a0, .int (iI x1), .int (iI x2)] : List Value).toArray s 0 0 A) (F0 m 96 ls []) := by
            intro z5_96 lz5_96 uz5_96 H locs ls hw hl
            obtain ⟨x_9, lx_9, ux_9, hx_9, ex_9⟩ := q_inc y6_25 (1)
            try (replace ex_9 : x_9 = y6_25 + (1) := by omega)
            refine lv_iinc (v := iI x_9) (lv' := [(6, .int (iI x_9)), (0, .ref a0), (1, .int (iI x1)), (2, .int (iI x2)), (3, .int (iI x_1)), (4, .int (iI x_2)), (5, .int (iI z5_96))]) hx hb dX0_beginsIn_96 hl (k := 6) rfl hx_9 (by decide) rfl (fun ls hl => ?_)
            refine lv_goto (tgt := 25) hx hb dX0_beginsIn_99 (by decide) ?_
            exact ih25 z5_96 lz5_96 uz5_96 x_9 lx_9 ux_9 (by omega) (by omega) _ _ _ hw (lv_sub hl [1, 2, 3, 4, 5, 6, 0] rfl)
          refine q_icmp_eq (tgt := 96) hx hb dX0_beginsIn_68 (by decide) ⟨lx_8, ux_8⟩ ⟨by decide, by decide⟩ (fun c68 => ?_) (fun c68 => ?_)
          · exact J96 z5_60 lz5_60 uz5_60 _ _ _ hw (lv_sub hl [0, 1, 2, 3, 4, 5, 6] rfl)
          · refine lv_aload_n hx hb dX0_beginsIn_71 rfl (lv_at hl 0 rfl) ?_
            refine q_getr (ci := 0) (C := RX0) (T := TX0) (N := 15) hx hb hts (fun w h => List.mem_cons_of_mem _ (mfX00 w h)) hown hK hw m_a0 o_a0 rfl 12 (by decide) (hts _ (List.mem_cons_of_mem _ (mr3 _ (List.mem_of_getElem? (i := 3) rfl)))) (fun _ h => h) rfl er_7 dX0_beginsIn_72 ?_
            refine lv_iload hx hb dX0_beginsIn_75 (lv_at hl 6 rfl) ?_
            refine q_iald hx hb hK hw m_r_7 1 o_r_7 rfl ⟨ly6_25, uy6_25⟩ (by omega) (by omega) dX0_beginsIn_77 (fun x_10 lx_10 ux_10 ex_10 => ?_)
            refine lv_iload_n hx hb dX0_beginsIn_78 rfl (lv_at hl 1 rfl) ?_
            refine q_icmp_lt (tgt := 96) hx hb dX0_beginsIn_79 (by decide) ⟨lx_10, ux_10⟩ ⟨lx1, ux1⟩ (fun c79 => ?_) (fun c79 => ?_)
            · exact J96 z5_60 lz5_60 uz5_60 _ _ _ hw (lv_sub hl [0, 1, 2, 3, 4, 5, 6] rfl)
            · refine lv_aload_n hx hb dX0_beginsIn_82 rfl (lv_at hl 0 rfl) ?_
              refine q_getr (ci := 0) (C := RX0) (T := TX0) (N := 15) hx hb hts (fun w h => List.mem_cons_of_mem _ (mfX00 w h)) hown hK hw m_a0 o_a0 rfl 12 (by decide) (hts _ (List.mem_cons_of_mem _ (mr3 _ (List.mem_of_getElem? (i := 3) rfl)))) (fun _ h => h) rfl er_7 dX0_beginsIn_83 ?_
              refine lv_iload hx hb dX0_beginsIn_86 (lv_at hl 6 rfl) ?_
              refine q_iald hx hb hK hw m_r_7 1 o_r_7 rfl ⟨ly6_25, uy6_25⟩ (by omega) (by omega) dX0_beginsIn_88 (fun x_11 lx_11 ux_11 ex_11 => ?_)
              refine lv_iload_n hx hb dX0_beginsIn_89 rfl (lv_at hl 2 rfl) ?_
              refine q_icmp_gt (tgt := 96) hx hb dX0_beginsIn_90 (by decide) ⟨lx_11, ux_11⟩ ⟨lx2, ux2⟩ (fun c90 => ?_) (fun c90 => ?_)
              · exact J96 z5_60 lz5_60 uz5_60 _ _ _ hw (lv_sub hl [0, 1, 2, 3, 4, 5, 6] rfl)
              · obtain ⟨x_12, lx_12, ux_12, hx_12, ex_12⟩ := q_inc z5_60 (1)
                try (replace ex_12 : x_12 = z5_60 + (1) := by omega)
                refine lv_iinc (v := iI x_12) (lv' := [(5, .int (iI x_12)), (0, .ref a0), (1, .int (iI x1)), (2, .int (iI x2)), (3, .int (iI x_1)), (4, .int (iI x_2)), (6, .int (iI y6_25))]) hx hb dX0_beginsIn_93 hl (k := 5) rfl hx_12 (by decide) rfl (fun ls hl => ?_)
                exact J96 x_12 lx_12 ux_12 _ _ _ hw (lv_sub hl [1, 2, 3, 4, 5, 0, 6] rfl)
        refine q_icmp_lt (tgt := 60) hx hb dX0_beginsIn_42 (by decide) ⟨lx_6, ux_6⟩ ⟨lx_1, ux_1⟩ (fun c42 => ?_) (fun c42 => ?_)
        · exact J60 y5_25 ly5_25 uy5_25 _ _ _ hw (lv_sub hl [0, 1, 2, 3, 4, 5, 6] rfl)
        · refine lv_aload_n hx hb dX0_beginsIn_45 rfl (lv_at hl 0 rfl) ?_
          refine q_getr (ci := 0) (C := RX0) (T := TX0) (N := 15) hx hb hts (fun w h => List.mem_cons_of_mem _ (mfX00 w h)) hown hK hw m_a0 o_a0 rfl 11 (by decide) (hts _ (List.mem_cons_of_mem _ (mr3 _ (List.mem_of_getElem? (i := 2) rfl)))) (fun _ h => h) rfl er_5 dX0_beginsIn_46 ?_
          refine lv_iload hx hb dX0_beginsIn_49 (lv_at hl 6 rfl) ?_
          refine q_iald hx hb hK hw m_r_5 1 o_r_5 rfl ⟨ly6_25, uy6_25⟩ (by omega) (by omega) dX0_beginsIn_51 (fun x_13 lx_13 ux_13 ex_13 => ?_)
          refine lv_iload hx hb dX0_beginsIn_52 (lv_at hl 4 rfl) ?_
          refine q_icmp_gt (tgt := 60) hx hb dX0_beginsIn_54 (by decide) ⟨lx_13, ux_13⟩ ⟨lx_2, ux_2⟩ (fun c54 => ?_) (fun c54 => ?_)
          · exact J60 y5_25 ly5_25 uy5_25 _ _ _ hw (lv_sub hl [0, 1, 2, 3, 4, 5, 6] rfl)
          · obtain ⟨x_14, lx_14, ux_14, hx_14, ex_14⟩ := q_inc y5_25 (-1)
            try (replace ex_14 : x_14 = y5_25 + (-1) := by omega)
            refine lv_iinc (v := iI x_14) (lv' := [(5, .int (iI x_14)), (0, .ref a0), (1, .int (iI x1)), (2, .int (iI x2)), (3, .int (iI x_1)), (4, .int (iI x_2)), (6, .int (iI y6_25))]) hx hb dX0_beginsIn_57 hl (k := 5) rfl hx_14 (by decide) rfl (fun ls hl => ?_)
            exact J60 x_14 lx_14 ux_14 _ _ _ hw (lv_sub hl [1, 2, 3, 4, 5, 0, 6] rfl)
  exact J25 ((((2147483647 : Int) - 0).toNat) + 1) x_3 lx_3 ux_3 0 (by decide) (by decide) (by omega) (by omega) _ _ _ hw (lv_sub hl [4, 5, 6, 3, 2, 1, 0] rfl)
set_option maxHeartbeats 4000000 in
set_option maxRecDepth 100000 in
theorem c_X0_tell {Z : Zt} (zo : Zok Z) (l : Launch) (D : va_G) (cy : Cy) (L0 : List Nat) (f0 : Nat → va_E) (a0 : Nat) (x1 : Int) (lx1 : -2147483648 ≤ x1) (ux1 : x1 ≤ 2147483647) (m_a0 : a0 ∈ L0) (o_a0 : Ob f0 a0 0) (hg : GI cy L0 f0) : Ci Z l yX0_tell (Cond.code yX0_tell cX0_tell 2 (some .int) :: TB) ({ frames := 1, cells := 0, slots := 0, locals := 22 } : Room) 0 0 D (tq cy) [.ref a0, .int (iI x1)] L0 f0 (fun (r : Int) (L1 : List Nat) (f1 : Nat → va_E) => L0 = L1 ∧ f0 = f1 ∧ (True)) := by
  refine Ci.enter (cc := cX0_tell) (n := 2) rfl (plainFor_of_name (by decide)) (Nat.le_of_ble_eq_true rfl) ?_
  intro p e s m below meth c ls A hx hb hr hts hown hlocks hnm hml hK hA hAe hw hZ hl
  have hown : s.vm.findClass RX0 = some m.cls := hown
  have hl : lv_has ls 2 [(0, .ref a0), (1, .int (iI x1))] := hl
  have hN : ZN s := (zo.2.2.2.2 _ _ _ hZ).2
  refine lv_iload_n hx hb dX0_tell_0 rfl (lv_at hl 1 rfl) ?_
  have t1 : (iI x1).toInt = x1 := iI_toInt ⟨lx1, ux1⟩
  rcases (show (x1 < 0 ∨ 13 < x1) ∨ (x1 = 0) ∨ (x1 = 1) ∨ (x1 = 2) ∨ (x1 = 3) ∨ (x1 = 4) ∨ (x1 = 5) ∨ (x1 = 6) ∨ (x1 = 7) ∨ (x1 = 8) ∨ (x1 = 9) ∨ (x1 = 10) ∨ (x1 = 11) ∨ (x1 = 12) ∨ (x1 = 13) by omega) with k1 | k1 | k1 | k1 | k1 | k1 | k1 | k1 | k1 | k1 | k1 | k1 | k1 | k1 | k1
  · refine lv_tableOut (tgt := 162) hx hb dX0_tell_1 (by rw [t1]; omega) (by decide) ?_
    refine q_bipush hx hb dX0_tell_162 rfl ?_
    exact q_ret_i hx hb hr hlocks hK hAe hw ⟨by decide, by decide⟩ (Nat.le_of_ble_eq_true rfl) (Nat.le_of_ble_eq_true rfl) dX0_tell_164 ⟨rfl, rfl, by trivial⟩
  · refine lv_tableIn (tgt := 72) (off := 71) hx hb dX0_tell_1 (by rw [t1]; omega) (by rw [t1]; omega) (by rw [t1, k1]; rfl) (by decide) ?_
    refine lv_aload_n hx hb dX0_tell_72 rfl (lv_at hl 0 rfl) ?_
    refine q_geti (ci := 0) (C := RX0) (T := TX0) (N := 15) hx hb hts (fun w h => List.mem_cons_of_mem _ (mfX00 w h)) hown hK hw m_a0 o_a0 rfl 0 (by decide) (hts _ (List.mem_cons_of_mem _ (mr40 _ (List.mem_of_getElem? (i := 19) rfl)))) (fun _ h => h) rfl dX0_tell_73 (fun x_1 lx_1 ux_1 ex_1 => ?_)
    exact q_ret_i hx hb hr hlocks hK hAe hw ⟨lx_1, ux_1⟩ (Nat.le_of_ble_eq_true rfl) (Nat.le_of_ble_eq_true rfl) dX0_tell_76 ⟨rfl, rfl, by trivial⟩
  · refine lv_tableIn (tgt := 77) (off := 76) hx hb dX0_tell_1 (by rw [t1]; omega) (by rw [t1]; omega) (by rw [t1, k1]; rfl) (by decide) ?_
    refine lv_aload_n hx hb dX0_tell_77 rfl (lv_at hl 0 rfl) ?_
    refine q_geti (ci := 0) (C := RX0) (T := TX0) (N := 15) hx hb hts (fun w h => List.mem_cons_of_mem _ (mfX00 w h)) hown hK hw m_a0 o_a0 rfl 1 (by decide) (hts _ (List.mem_cons_of_mem _ (mr29 _ (List.mem_of_getElem? (i := 18) rfl)))) (fun _ h => h) rfl dX0_tell_78 (fun x_2 lx_2 ux_2 ex_2 => ?_)
    exact q_ret_i hx hb hr hlocks hK hAe hw ⟨lx_2, ux_2⟩ (Nat.le_of_ble_eq_true rfl) (Nat.le_of_ble_eq_true rfl) dX0_tell_81 ⟨rfl, rfl, by trivial⟩
  · refine lv_tableIn (tgt := 82) (off := 81) hx hb dX0_tell_1 (by rw [t1]; omega) (by rw [t1]; omega) (by rw [t1, k1]; rfl) (by decide) ?_
    refine lv_aload_n hx hb dX0_tell_82 rfl (lv_at hl 0 rfl) ?_
    refine q_geti (ci := 0) (C := RX0) (T := TX0) (N := 15) hx hb hts (fun w h => List.mem_cons_of_mem _ (mfX00 w h)) hown hK hw m_a0 o_a0 rfl 2 (by decide) (hts _ (List.mem_cons_of_mem _ (mr35 _ (List.mem_of_getElem? (i := 12) rfl)))) (fun _ h => h) rfl dX0_tell_83 (fun x_3 lx_3 ux_3 ex_3 => ?_)
    exact q_ret_i hx hb hr hlocks hK hAe hw ⟨lx_3, ux_3⟩ (Nat.le_of_ble_eq_true rfl) (Nat.le_of_ble_eq_true rfl) dX0_tell_86 ⟨rfl, rfl, by trivial⟩
  · refine lv_tableIn (tgt := 87) (off := 86) hx hb dX0_tell_1 (by rw [t1]; omega) (by rw [t1]; omega) (by rw [t1, k1]; rfl) (by decide) ?_
    refine lv_aload_n hx hb dX0_tell_87 rfl (lv_at hl 0 rfl) ?_
    obtain ⟨r_4, er_4, m_r_4, o_r_4⟩ := (show ∃ r, fR f0 a0 3 = some r ∧ r ∈ L0 ∧ Rl f0 r from hg.2.1 _ m_a0 0 3 o_a0)
    refine q_getr (ci := 0) (C := RX0) (T := TX0) (N := 15) hx hb hts (fun w h => List.mem_cons_of_mem _ (mfX00 w h)) hown hK hw m_a0 o_a0 rfl 3 (by decide) (hts _ (List.mem_cons_of_mem _ (mr3 _ (List.mem_of_getElem? (i := 4) rfl)))) (fun _ h => h) rfl er_4 dX0_tell_88 ?_
    have K91 : ∀ (x_5 : Int) (lx_5 : -2147483648 ≤ x_5) (ux_5 : x_5 ≤ 2147483647) (H : Heap) (locs : List Loc) (hw : Wd D A s.heap L0 f0 H locs), W p l e ({ frames := 1, cells := 0, slots := 0, locals := 22 } : Room) s m ([.ref a0, .int (iI x1)] : List Value).toArray below meth c H locs (0) (0) (MQ below (Qi D (tq cy) L0 f0 s.heap.size (fun (r : Int) (L1 : List Nat) (f1 : Nat → va_E) => L0 = L1 ∧ f0 = f1 ∧ (True))) ([.ref a0, .int (iI x1)] : List Value).toArray s 0 0 A) (F0 m 94 ls (.int (iI x_5) :: [])) := by
      intro x_5 lx_5 ux_5 H locs hw
      exact q_ret_i hx hb hr hlocks hK hAe hw ⟨lx_5, ux_5⟩ (Nat.le_of_ble_eq_true rfl) (Nat.le_of_ble_eq_true rfl) dX0_tell_94 ⟨rfl, rfl, by trivial⟩
    rcases o_r_4 with o9 | o9 | o9 | o9
    · exact q_geti (ci := 1) (C := RX2) (T := TX2) (N := 4) hx hb hts (fun w h => List.mem_cons_of_mem _ (mfX20 w h)) hown hK hw m_r_4 o9 rfl 0 (by decide) (hts _ (List.mem_cons_of_mem _ (mr43 _ (List.mem_of_getElem? (i := 0) rfl)))) (fun _ h => h) rfl dX0_tell_91 (fun x_5 lx_5 ux_5 _ => K91 x_5 lx_5 ux_5 _ _ hw)
    · exact q_geti (ci := 2) (C := RX3) (T := TX3) (N := 7) hx hb hts (fun w h => List.mem_cons_of_mem _ (mfX30 w h)) hown hK hw m_r_4 o9 rfl 0 (by decide) (hts _ (List.mem_cons_of_mem _ (mr43 _ (List.mem_of_getElem? (i := 0) rfl)))) (fun _ h => h) rfl dX0_tell_91 (fun x_5 lx_5 ux_5 _ => K91 x_5 lx_5 ux_5 _ _ hw)
    · exact q_geti (ci := 3) (C := RX4) (T := TX4) (N := 3) hx hb hts (fun w h => List.mem_cons_of_mem _ (mfX40 w h)) hown hK hw m_r_4 o9 rfl 0 (by decide) (hts _ (List.mem_cons_of_mem _ (mr43 _ (List.mem_of_getElem? (i := 0) rfl)))) (fun _ h => h) rfl dX0_tell_91 (fun x_5 lx_5 ux_5 _ => K91 x_5 lx_5 ux_5 _ _ hw)
    · exact q_geti (ci := 6) (C := RX8) (T := TX8) (N := 6) hx hb hts (fun w h => List.mem_cons_of_mem _ (mfX80 w h)) hown hK hw m_r_4 o9 rfl 0 (by decide) (hts _ (List.mem_cons_of_mem _ (mr43 _ (List.mem_of_getElem? (i := 0) rfl)))) (fun _ h => h) rfl dX0_tell_91 (fun x_5 lx_5 ux_5 _ => K91 x_5 lx_5 ux_5 _ _ hw)
  · refine lv_tableIn (tgt := 95) (off := 94) hx hb dX0_tell_1 (by rw [t1]; omega) (by rw [t1]; omega) (by rw [t1, k1]; rfl) (by decide) ?_
    refine lv_aload_n hx hb dX0_tell_95 rfl (lv_at hl 0 rfl) ?_
    obtain ⟨r_6, er_6, m_r_6, o_r_6⟩ := (show ∃ r, fR f0 a0 3 = some r ∧ r ∈ L0 ∧ Rl f0 r from hg.2.1 _ m_a0 0 3 o_a0)
    refine q_getr (ci := 0) (C := RX0) (T := TX0) (N := 15) hx hb hts (fun w h => List.mem_cons_of_mem _ (mfX00 w h)) hown hK hw m_a0 o_a0 rfl 3 (by decide) (hts _ (List.mem_cons_of_mem _ (mr3 _ (List.mem_of_getElem? (i := 4) rfl)))) (fun _ h => h) rfl er_6 dX0_tell_96 ?_
    have K99 : ∀ (x_7 : Int) (lx_7 : -2147483648 ≤ x_7) (ux_7 : x_7 ≤ 2147483647) (H : Heap) (locs : List Loc) (hw : Wd D A s.heap L0 f0 H locs), W p l e ({ frames := 1, cells := 0, slots := 0, locals := 22 } : Room) s m ([.ref a0, .int (iI x1)] : List Value).toArray below meth c H locs (0) (0) (MQ below (Qi D (tq cy) L0 f0 s.heap.size (fun (r : Int) (L1 : List Nat) (f1 : Nat → va_E) => L0 = L1 ∧ f0 = f1 ∧ (True))) ([.ref a0, .int (iI x1)] : List Value).toArray s 0 0 A) (F0 m 102 ls (.int (iI x_7) :: [])) := by
      intro x_7 lx_7 ux_7 H locs hw
      exact q_ret_i hx hb hr hlocks hK hAe hw ⟨lx_7, ux_7⟩ (Nat.le_of_ble_eq_true rfl) (Nat.le_of_ble_eq_true rfl) dX0_tell_102 ⟨rfl, rfl, by trivial⟩
    rcases o_r_6 with o9 | o9 | o9 | o9
    · exact q_geti (ci := 1) (C := RX2) (T := TX2) (N := 4) hx hb hts (fun w h => List.mem_cons_of_mem _ (mfX20 w h)) hown hK hw m_r_6 o9 rfl 1 (by decide) (hts _ (List.mem_cons_of_mem _ (mr43 _ (List.mem_of_getElem? (i := 1) rfl)))) (fun _ h => h) rfl dX0_tell_99 (fun x_7 lx_7 ux_7 _ => K99 x_7 lx_7 ux_7 _ _ hw)
    · exact q_geti (ci := 2) (C := RX3) (T := TX3) (N := 7) hx hb hts (fun w h => List.mem_cons_of_mem _ (mfX30 w h)) hown hK hw m_r_6 o9 rfl 1 (by decide) (hts _ (List.mem_cons_of_mem _ (mr43 _ (List.mem_of_getElem? (i := 1) rfl)))) (fun _ h => h) rfl dX0_tell_99 (fun x_7 lx_7 ux_7 _ => K99 x_7 lx_7 ux_7 _ _ hw)
    · exact q_geti (ci := 3) (C := RX4) (T := TX4) (N := 3) hx hb hts (fun w h => List.mem_cons_of_mem _ (mfX40 w h)) hown hK hw m_r_6 o9 rfl 1 (by decide) (hts _ (List.mem_cons_of_mem _ (mr43 _ (List.mem_of_getElem? (i := 1) rfl)))) (fun _ h => h) rfl dX0_tell_99 (fun x_7 lx_7 ux_7 _ => K99 x_7 lx_7 ux_7 _ _ hw)
    · exact q_geti (ci := 6) (C := RX8) (T := TX8) (N := 6) hx hb hts (fun w h => List.mem_cons_of_mem _ (mfX80 w h)) hown hK hw m_r_6 o9 rfl 1 (by decide) (hts _ (List.mem_cons_of_mem _ (mr43 _ (List.mem_of_getElem? (i := 1) rfl)))) (fun _ h => h) rfl dX0_tell_99 (fun x_7 lx_7 ux_7 _ => K99 x_7 lx_7 ux_7 _ _ hw)
  · refine lv_tableIn (tgt := 103) (off := 102) hx hb dX0_tell_1 (by rw [t1]; omega) (by rw [t1]; omega) (by rw [t1, k1]; rfl) (by decide) ?_
    refine lv_aload_n hx hb dX0_tell_103 rfl (lv_at hl 0 rfl) ?_
    obtain ⟨r_8, er_8, m_r_8, o_r_8⟩ := (show ∃ r, fR f0 a0 3 = some r ∧ r ∈ L0 ∧ Rl f0 r from hg.2.1 _ m_a0 0 3 o_a0)
    refine q_getr (ci := 0) (C := RX0) (T := TX0) (N := 15) hx hb hts (fun w h => List.mem_cons_of_mem _ (mfX00 w h)) hown hK hw m_a0 o_a0 rfl 3 (by decide) (hts _ (List.mem_cons_of_mem _ (mr3 _ (List.mem_of_getElem? (i := 4) rfl)))) (fun _ h => h) rfl er_8 dX0_tell_104 ?_
    have K107 : ∀ (x_9 : Int) (lx_9 : -2147483648 ≤ x_9) (ux_9 : x_9 ≤ 2147483647) (H : Heap) (locs : List Loc) (hw : Wd D A s.heap L0 f0 H locs), W p l e ({ frames := 1, cells := 0, slots := 0, locals := 22 } : Room) s m ([.ref a0, .int (iI x1)] : List Value).toArray below meth c H locs (0) (0) (MQ below (Qi D (tq cy) L0 f0 s.heap.size (fun (r : Int) (L1 : List Nat) (f1 : Nat → va_E) => L0 = L1 ∧ f0 = f1 ∧ (True))) ([.ref a0, .int (iI x1)] : List Value).toArray s 0 0 A) (F0 m 110 ls (.int (iI x_9) :: [])) := by
      intro x_9 lx_9 ux_9 H locs hw
      exact q_ret_i hx hb hr hlocks hK hAe hw ⟨lx_9, ux_9⟩ (Nat.le_of_ble_eq_true rfl) (Nat.le_of_ble_eq_true rfl) dX0_tell_110 ⟨rfl, rfl, by trivial⟩
    rcases o_r_8 with o9 | o9 | o9 | o9
    · exact q_geti (ci := 1) (C := RX2) (T := TX2) (N := 4) hx hb hts (fun w h => List.mem_cons_of_mem _ (mfX20 w h)) hown hK hw m_r_8 o9 rfl 2 (by decide) (hts _ (List.mem_cons_of_mem _ (mr14 _ (List.mem_of_getElem? (i := 5) rfl)))) (fun _ h => h) rfl dX0_tell_107 (fun x_9 lx_9 ux_9 _ => K107 x_9 lx_9 ux_9 _ _ hw)
    · exact q_geti (ci := 2) (C := RX3) (T := TX3) (N := 7) hx hb hts (fun w h => List.mem_cons_of_mem _ (mfX30 w h)) hown hK hw m_r_8 o9 rfl 2 (by decide) (hts _ (List.mem_cons_of_mem _ (mr14 _ (List.mem_of_getElem? (i := 5) rfl)))) (fun _ h => h) rfl dX0_tell_107 (fun x_9 lx_9 ux_9 _ => K107 x_9 lx_9 ux_9 _ _ hw)
    · exact q_geti (ci := 3) (C := RX4) (T := TX4) (N := 3) hx hb hts (fun w h => List.mem_cons_of_mem _ (mfX40 w h)) hown hK hw m_r_8 o9 rfl 2 (by decide) (hts _ (List.mem_cons_of_mem _ (mr14 _ (List.mem_of_getElem? (i := 5) rfl)))) (fun _ h => h) rfl dX0_tell_107 (fun x_9 lx_9 ux_9 _ => K107 x_9 lx_9 ux_9 _ _ hw)
    · exact q_geti (ci := 6) (C := RX8) (T := TX8) (N := 6) hx hb hts (fun w h => List.mem_cons_of_mem _ (mfX80 w h)) hown hK hw m_r_8 o9 rfl 2 (by decide) (hts _ (List.mem_cons_of_mem _ (mr14 _ (List.mem_of_getElem? (i := 5) rfl)))) (fun _ h => h) rfl dX0_tell_107 (fun x_9 lx_9 ux_9 _ => K107 x_9 lx_9 ux_9 _ _ hw)
  · refine lv_tableIn (tgt := 111) (off := 110) hx hb dX0_tell_1 (by rw [t1]; omega) (by rw [t1]; omega) (by rw [t1, k1]; rfl) (by decide) ?_
    refine lv_aload_n hx hb dX0_tell_111 rfl (lv_at hl 0 rfl) ?_
    obtain ⟨r_10, er_10, m_r_10, o_r_10⟩ := (show ∃ r, fR f0 a0 3 = some r ∧ r ∈ L0 ∧ Rl f0 r from hg.2.1 _ m_a0 0 3 o_a0)
    refine q_getr (ci := 0) (C := RX0) (T := TX0) (N := 15) hx hb hts (fun w h => List.mem_cons_of_mem _ (mfX00 w h)) hown hK hw m_a0 o_a0 rfl 3 (by decide) (hts _ (List.mem_cons_of_mem _ (mr3 _ (List.mem_of_getElem? (i := 4) rfl)))) (fun _ h => h) rfl er_10 dX0_tell_112 ?_
    have K115 : ∀ (x_11 : Int) (lx_11 : -2147483648 ≤ x_11) (ux_11 : x_11 ≤ 2147483647) (ex_11 : True) (H : Heap) (locs : List Loc) (hw : Wd D A s.heap L0 f0 H locs), W p l e ({ frames := 1, cells := 0, slots := 0, locals := 22 } : Room) s m ([.ref a0, .int (iI x1)] : List Value).toArray below meth c H locs (0) (0) (MQ below (Qi D (tq cy) L0 f0 s.heap.size (fun (r : Int) (L1 : List Nat) (f1 : Nat → va_E) => L0 = L1 ∧ f0 = f1 ∧ (True))) ([.ref a0, .int (iI x1)] : List Value).toArray s 0 0 A) (F0 m 118 ls (.int (iI x_11) :: [])) := by
      intro x_11 lx_11 ux_11 ex_11 H locs hw
      exact q_ret_i hx hb hr hlocks hK hAe hw ⟨lx_11, ux_11⟩ (Nat.le_of_ble_eq_true rfl) (Nat.le_of_ble_eq_true rfl) dX0_tell_118 ⟨rfl, rfl, by trivial⟩
    rcases o_r_10 with o9 | o9 | o9 | o9
    · refine q_call_i hA hK hw (va_runU (As := []) (rest := []) ⟨hx, hb, hml, hown, hts⟩ (c_X6_detail zo l D cy L0 f0 r_10 _) (va_cwU 0 hts (gT (inU (mr43 _ (List.mem_of_getElem? (i := 2) rfl)) (mr43 _ (List.mem_of_getElem? (i := 3) rfl)) (mr43 _ (List.mem_of_getElem? (i := 4) rfl)) (mr43 _ (List.mem_of_getElem? (i := 5) rfl)) (mr2 _ (List.mem_of_getElem? (i := 15) rfl)) (mr43 _ (List.mem_of_getElem? (i := 6) rfl)))) rfl rfl rfl rfl (by decide +kernel) ⟨Nat.le_of_ble_eq_true rfl, Nat.le_of_ble_eq_true rfl⟩) (Wd.preV zo hA hZ hw hK m_r_10 o9 rfl) rfl rfl hl.1 rfl (lv_room (Nat.le_of_ble_eq_true rfl)) dX0_tell_115 ⟨Nat.le_of_ble_eq_true rfl, Nat.le_of_ble_eq_true rfl⟩) (fun x_11 L1 f1 H locs lx_11 ux_11 ex_11 hw => ?_)
      obtain ⟨rfl, rfl, ex_11⟩ := ex_11
      exact K115 x_11 lx_11 ux_11 trivial H locs hw
    · refine q_call_i hA hK hw (va_runU (As := []) (rest := []) ⟨hx, hb, hml, hown, hts⟩ (c_X3_detail zo l D cy L0 f0 r_10 m_r_10 o9 hg _) (va_cwO 0 hts (gT (inO (mr43 _ (List.mem_of_getElem? (i := 2) rfl)) (mr43 _ (List.mem_of_getElem? (i := 3) rfl)) (mr43 _ (List.mem_of_getElem? (i := 5) rfl)) (mr43 _ (List.mem_of_getElem? (i := 8) rfl)) (mr43 _ (List.mem_of_getElem? (i := 9) rfl)) (mr12 _ (List.mem_of_getElem? (i := 18) rfl)) (mr43 _ (List.mem_of_getElem? (i := 10) rfl)))) rfl rfl rfl (List.mem_cons_of_mem _ (mr43 _ (List.mem_of_getElem? (i := 6) rfl))) (by decide +kernel) ⟨Nat.le_of_ble_eq_true rfl, Nat.le_of_ble_eq_true rfl⟩) (Wd.preV zo hA hZ hw hK m_r_10 o9 rfl) rfl rfl hl.1 rfl (lv_room (Nat.le_of_ble_eq_true rfl)) dX0_tell_115 ⟨Nat.le_of_ble_eq_true rfl, Nat.le_of_ble_eq_true rfl⟩) (fun x_11 L1 f1 H locs lx_11 ux_11 ex_11 hw => ?_)
      obtain ⟨rfl, rfl, ex_11⟩ := ex_11
      exact K115 x_11 lx_11 ux_11 trivial H locs hw
    · refine q_call_i hA hK hw (va_runU (As := []) (rest := []) ⟨hx, hb, hml, hown, hts⟩ (c_X6_detail zo l D cy L0 f0 r_10 _) (va_cwU 0 hts (gT (inU (mr43 _ (List.mem_of_getElem? (i := 2) rfl)) (mr43 _ (List.mem_of_getElem? (i := 3) rfl)) (mr43 _ (List.mem_of_getElem? (i := 11) rfl)) (mr43 _ (List.mem_of_getElem? (i := 5) rfl)) (mr2 _ (List.mem_of_getElem? (i := 15) rfl)) (mr43 _ (List.mem_of_getElem? (i := 6) rfl)))) rfl rfl rfl rfl (by decide +kernel) ⟨Nat.le_of_ble_eq_true rfl, Nat.le_of_ble_eq_true rfl⟩) (Wd.preV zo hA hZ hw hK m_r_10 o9 rfl) rfl rfl hl.1 rfl (lv_room (Nat.le_of_ble_eq_true rfl)) dX0_tell_115 ⟨Nat.le_of_ble_eq_true rfl, Nat.le_of_ble_eq_true rfl⟩) (fun x_11 L1 f1 H locs lx_11 ux_11 ex_11 hw => ?_)
      obtain ⟨rfl, rfl, ex_11⟩ := ex_11
      exact K115 x_11 lx_11 ux_11 trivial H locs hw
    · refine q_call_i hA hK hw (va_runU (As := []) (rest := []) ⟨hx, hb, hml, hown, hts⟩ (c_X8_detail zo l D cy L0 f0 r_10 m_r_10 o9 hg _) (va_cwO 0 hts (gT (inO (mr43 _ (List.mem_of_getElem? (i := 2) rfl)) (mr43 _ (List.mem_of_getElem? (i := 3) rfl)) (mr43 _ (List.mem_of_getElem? (i := 5) rfl)) (mr43 _ (List.mem_of_getElem? (i := 12) rfl)) (mr43 _ (List.mem_of_getElem? (i := 13) rfl)) (mr12 _ (List.mem_of_getElem? (i := 15) rfl)) (mr43 _ (List.mem_of_getElem? (i := 14) rfl)))) rfl rfl rfl (List.mem_cons_of_mem _ (mr43 _ (List.mem_of_getElem? (i := 6) rfl))) (by decide +kernel) ⟨Nat.le_of_ble_eq_true rfl, Nat.le_of_ble_eq_true rfl⟩) (Wd.preV zo hA hZ hw hK m_r_10 o9 rfl) rfl rfl hl.1 rfl (lv_room (Nat.le_of_ble_eq_true rfl)) dX0_tell_115 ⟨Nat.le_of_ble_eq_true rfl, Nat.le_of_ble_eq_true rfl⟩) (fun x_11 L1 f1 H locs lx_11 ux_11 ex_11 hw => ?_)
      obtain ⟨rfl, rfl, ex_11⟩ := ex_11
      exact K115 x_11 lx_11 ux_11 trivial H locs hw
  · refine lv_tableIn (tgt := 119) (off := 118) hx hb dX0_tell_1 (by rw [t1]; omega) (by rw [t1]; omega) (by rw [t1, k1]; rfl) (by decide) ?_
    refine lv_aload_n hx hb dX0_tell_119 rfl (lv_at hl 0 rfl) ?_
    obtain ⟨r_12, er_12, m_r_12, o_r_12⟩ := (show ∃ r, fR f0 a0 3 = some r ∧ r ∈ L0 ∧ Rl f0 r from hg.2.1 _ m_a0 0 3 o_a0)
    refine q_getr (ci := 0) (C := RX0) (T := TX0) (N := 15) hx hb hts (fun w h => List.mem_cons_of_mem _ (mfX00 w h)) hown hK hw m_a0 o_a0 rfl 3 (by decide) (hts _ (List.mem_cons_of_mem _ (mr3 _ (List.mem_of_getElem? (i := 4) rfl)))) (fun _ h => h) rfl er_12 dX0_tell_120 ?_
    have K123 : ∀ (x_13 : Int) (lx_13 : -2147483648 ≤ x_13) (ux_13 : x_13 ≤ 2147483647) (ex_13 : True) (H : Heap) (locs : List Loc) (hw : Wd D A s.heap L0 f0 H locs), W p l e ({ frames := 1, cells := 0, slots := 0, locals := 22 } : Room) s m ([.ref a0, .int (iI x1)] : List Value).toArray below meth c H locs (0) (0) (MQ below (Qi D (tq cy) L0 f0 s.heap.size (fun (r : Int) (L1 : List Nat) (f1 : Nat → va_E) => L0 = L1 ∧ f0 = f1 ∧ (True))) ([.ref a0, .int (iI x1)] : List Value).toArray s 0 0 A) (F0 m 126 ls (.int (iI x_13) :: [])) := by
      intro x_13 lx_13 ux_13 ex_13 H locs hw
      exact q_ret_i hx hb hr hlocks hK hAe hw ⟨lx_13, ux_13⟩ (Nat.le_of_ble_eq_true rfl) (Nat.le_of_ble_eq_true rfl) dX0_tell_126 ⟨rfl, rfl, by trivial⟩
    rcases o_r_12 with o9 | o9 | o9 | o9
    · refine q_call_i hA hK hw (va_runU (As := []) (rest := []) ⟨hx, hb, hml, hown, hts⟩ (c_X6_nthWeekday zo l D cy L0 f0 r_12 _) (va_cwU 0 hts (gT (inU (mr43 _ (List.mem_of_getElem? (i := 15) rfl)) (mr43 _ (List.mem_of_getElem? (i := 16) rfl)) (mr43 _ (List.mem_of_getElem? (i := 17) rfl)) (mr43 _ (List.mem_of_getElem? (i := 18) rfl)) (mr2 _ (List.mem_of_getElem? (i := 15) rfl)) (mr43 _ (List.mem_of_getElem? (i := 19) rfl)))) rfl rfl rfl rfl (by decide +kernel) ⟨Nat.le_of_ble_eq_true rfl, Nat.le_of_ble_eq_true rfl⟩) (Wd.preV zo hA hZ hw hK m_r_12 o9 rfl) rfl rfl hl.1 rfl (lv_room (Nat.le_of_ble_eq_true rfl)) dX0_tell_123 ⟨Nat.le_of_ble_eq_true rfl, Nat.le_of_ble_eq_true rfl⟩) (fun x_13 L1 f1 H locs lx_13 ux_13 ex_13 hw => ?_)
      obtain ⟨rfl, rfl, ex_13⟩ := ex_13
      exact K123 x_13 lx_13 ux_13 trivial H locs hw
    · refine q_call_i hA hK hw (va_runU (As := []) (rest := []) ⟨hx, hb, hml, hown, hts⟩ (c_X3_nthWeekday zo l D cy L0 f0 r_12 m_r_12 o9 hg _) (va_cwO 0 hts (gT (inO (mr43 _ (List.mem_of_getElem? (i := 15) rfl)) (mr43 _ (List.mem_of_getElem? (i := 16) rfl)) (mr43 _ (List.mem_of_getElem? (i := 18) rfl)) (mr43 _ (List.mem_of_getElem? (i := 21) rfl)) (mr43 _ (List.mem_of_getElem? (i := 22) rfl)) (mr12 _ (List.mem_of_getElem? (i := 18) rfl)) (mr43 _ (List.mem_of_getElem? (i := 23) rfl)))) rfl rfl rfl (List.mem_cons_of_mem _ (mr43 _ (List.mem_of_getElem? (i := 19) rfl))) (by decide +kernel) ⟨Nat.le_of_ble_eq_true rfl, Nat.le_of_ble_eq_true rfl⟩) (Wd.preV zo hA hZ hw hK m_r_12 o9 rfl) rfl rfl hl.1 rfl (lv_room (Nat.le_of_ble_eq_true rfl)) dX0_tell_123 ⟨Nat.le_of_ble_eq_true rfl, Nat.le_of_ble_eq_true rfl⟩) (fun x_13 L1 f1 H locs lx_13 ux_13 ex_13 hw => ?_)
      obtain ⟨rfl, rfl, ex_13⟩ := ex_13
      exact K123 x_13 lx_13 ux_13 trivial H locs hw
    · refine q_call_i hA hK hw (va_runU (As := []) (rest := []) ⟨hx, hb, hml, hown, hts⟩ (c_X6_nthWeekday zo l D cy L0 f0 r_12 _) (va_cwU 0 hts (gT (inU (mr43 _ (List.mem_of_getElem? (i := 15) rfl)) (mr43 _ (List.mem_of_getElem? (i := 16) rfl)) (mr44 _ (List.mem_of_getElem? (i := 0) rfl)) (mr43 _ (List.mem_of_getElem? (i := 18) rfl)) (mr2 _ (List.mem_of_getElem? (i := 15) rfl)) (mr43 _ (List.mem_of_getElem? (i := 19) rfl)))) rfl rfl rfl rfl (by decide +kernel) ⟨Nat.le_of_ble_eq_true rfl, Nat.le_of_ble_eq_true rfl⟩) (Wd.preV zo hA hZ hw hK m_r_12 o9 rfl) rfl rfl hl.1 rfl (lv_room (Nat.le_of_ble_eq_true rfl)) dX0_tell_123 ⟨Nat.le_of_ble_eq_true rfl, Nat.le_of_ble_eq_true rfl⟩) (fun x_13 L1 f1 H locs lx_13 ux_13 ex_13 hw => ?_)
      obtain ⟨rfl, rfl, ex_13⟩ := ex_13
      exact K123 x_13 lx_13 ux_13 trivial H locs hw
    · refine q_call_i hA hK hw (va_runU (As := []) (rest := []) ⟨hx, hb, hml, hown, hts⟩ (c_X6_nthWeekday zo l D cy L0 f0 r_12 _) (va_cwU 0 hts (gT (inU (mr43 _ (List.mem_of_getElem? (i := 15) rfl)) (mr43 _ (List.mem_of_getElem? (i := 16) rfl)) (mr44 _ (List.mem_of_getElem? (i := 1) rfl)) (mr43 _ (List.mem_of_getElem? (i := 18) rfl)) (mr2 _ (List.mem_of_getElem? (i := 15) rfl)) (mr43 _ (List.mem_of_getElem? (i := 19) rfl)))) rfl rfl rfl rfl (by decide +kernel) ⟨Nat.le_of_ble_eq_true rfl, Nat.le_of_ble_eq_true rfl⟩) (Wd.preV zo hA hZ hw hK m_r_12 o9 rfl) rfl rfl hl.1 rfl (lv_room (Nat.le_of_ble_eq_true rfl)) dX0_tell_123 ⟨Nat.le_of_ble_eq_true rfl, Nat.le_of_ble_eq_true rfl⟩) (fun x_13 L1 f1 H locs lx_13 ux_13 ex_13 hw => ?_)
      obtain ⟨rfl, rfl, ex_13⟩ := ex_13
      exact K123 x_13 lx_13 ux_13 trivial H locs hw
  · refine lv_tableIn (tgt := 127) (off := 126) hx hb dX0_tell_1 (by rw [t1]; omega) (by rw [t1]; omega) (by rw [t1, k1]; rfl) (by decide) ?_
    refine lv_aload_n hx hb dX0_tell_127 rfl (lv_at hl 0 rfl) ?_
    refine q_geti (ci := 0) (C := RX0) (T := TX0) (N := 15) hx hb hts (fun w h => List.mem_cons_of_mem _ (mfX00 w h)) hown hK hw m_a0 o_a0 rfl 4 (by decide) (hts _ (List.mem_cons_of_mem _ (mr14 _ (List.mem_of_getElem? (i := 7) rfl)))) (fun _ h => h) rfl dX0_tell_128 (fun x_14 lx_14 ux_14 ex_14 => ?_)
    exact q_ret_i hx hb hr hlocks hK hAe hw ⟨lx_14, ux_14⟩ (Nat.le_of_ble_eq_true rfl) (Nat.le_of_ble_eq_true rfl) dX0_tell_131 ⟨rfl, rfl, by trivial⟩
  · refine lv_tableIn (tgt := 132) (off := 131) hx hb dX0_tell_1 (by rw [t1]; omega) (by rw [t1]; omega) (by rw [t1, k1]; rfl) (by decide) ?_
    refine lv_aload_n hx hb dX0_tell_132 rfl (lv_at hl 0 rfl) ?_
    refine q_geti (ci := 0) (C := RX0) (T := TX0) (N := 15) hx hb hts (fun w h => List.mem_cons_of_mem _ (mfX00 w h)) hown hK hw m_a0 o_a0 rfl 5 (by decide) (hts _ (List.mem_cons_of_mem _ (mr14 _ (List.mem_of_getElem? (i := 8) rfl)))) (fun _ h => h) rfl dX0_tell_133 (fun x_15 lx_15 ux_15 ex_15 => ?_)
    exact q_ret_i hx hb hr hlocks hK hAe hw ⟨lx_15, ux_15⟩ (Nat.le_of_ble_eq_true rfl) (Nat.le_of_ble_eq_true rfl) dX0_tell_136 ⟨rfl, rfl, by trivial⟩
  · refine lv_tableIn (tgt := 137) (off := 136) hx hb dX0_tell_1 (by rw [t1]; omega) (by rw [t1]; omega) (by rw [t1, k1]; rfl) (by decide) ?_
    refine lv_aload_n hx hb dX0_tell_137 rfl (lv_at hl 0 rfl) ?_
    refine q_call_i hA hK hw (va_runV (As := []) (rest := []) ⟨hx, hb, hml, hown, hts⟩ (c_X0_droppedOnes zo l D cy L0 f0 a0 m_a0 o_a0 hg _) (cwV 0 hts (gT (inV (mr44 _ (List.mem_of_getElem? (i := 2) rfl)) (mr44 _ (List.mem_of_getElem? (i := 3) rfl)) (mr44 _ (List.mem_of_getElem? (i := 4) rfl)) (mr2 _ (List.mem_of_getElem? (i := 9) rfl)) (mr44 _ (List.mem_of_getElem? (i := 5) rfl)))) rfl rfl rfl (by decide +kernel) ⟨Nat.le_of_ble_eq_true rfl, Nat.le_of_ble_eq_true rfl⟩) (Wd.preV zo hA hZ hw hK m_a0 o_a0 rfl) rfl rfl hl.1 rfl (lv_room (Nat.le_of_ble_eq_true rfl)) dX0_tell_138 ⟨Nat.le_of_ble_eq_true rfl, Nat.le_of_ble_eq_true rfl⟩) (fun x_16 L1 f1 H locs lx_16 ux_16 ex_16 hw => ?_)
    obtain ⟨rfl, rfl, ex_16⟩ := ex_16
    exact q_ret_i hx hb hr hlocks hK hAe hw ⟨lx_16, ux_16⟩ (Nat.le_of_ble_eq_true rfl) (Nat.le_of_ble_eq_true rfl) dX0_tell_141 ⟨rfl, rfl, by trivial⟩
  · refine lv_tableIn (tgt := 142) (off := 141) hx hb dX0_tell_1 (by rw [t1]; omega) (by rw [t1]; omega) (by rw [t1, k1]; rfl) (by decide) ?_
    refine lv_aload_n hx hb dX0_tell_142 rfl (lv_at hl 0 rfl) ?_
    refine q_geti (ci := 0) (C := RX0) (T := TX0) (N := 15) hx hb hts (fun w h => List.mem_cons_of_mem _ (mfX00 w h)) hown hK hw m_a0 o_a0 rfl 10 (by decide) (hts _ (List.mem_cons_of_mem _ (mr14 _ (List.mem_of_getElem? (i := 9) rfl)))) (fun _ h => h) rfl dX0_tell_143 (fun x_17 lx_17 ux_17 ex_17 => ?_)
    have bx_17 : 0 ≤ x_17 ∧ x_17 ≤ 16 := by rw [ex_17]; exact hg.1 _ m_a0 0 10 o_a0
    refine lv_aload_n hx hb dX0_tell_146 rfl (lv_at hl 0 rfl) ?_
    refine q_call_i hA hK hw (va_runV (As := []) (rest := [.int (iI x_17)]) ⟨hx, hb, hml, hown, hts⟩ (c_X0_droppedOnes zo l D cy L0 f0 a0 m_a0 o_a0 hg _) (cwV 0 hts (gT (inV (mr44 _ (List.mem_of_getElem? (i := 2) rfl)) (mr44 _ (List.mem_of_getElem? (i := 3) rfl)) (mr44 _ (List.mem_of_getElem? (i := 4) rfl)) (mr2 _ (List.mem_of_getElem? (i := 9) rfl)) (mr44 _ (List.mem_of_getElem? (i := 5) rfl)))) rfl rfl rfl (by decide +kernel) ⟨Nat.le_of_ble_eq_true rfl, Nat.le_of_ble_eq_true rfl⟩) (Wd.preV zo hA hZ hw hK m_a0 o_a0 rfl) rfl rfl hl.1 rfl (lv_room (Nat.le_of_ble_eq_true rfl)) dX0_tell_147 ⟨Nat.le_of_ble_eq_true rfl, Nat.le_of_ble_eq_true rfl⟩) (fun x_18 L1 f1 H locs lx_18 ux_18 ex_18 hw => ?_)
    obtain ⟨rfl, rfl, ex_18⟩ := ex_18
    first | refine q_isub hx hb dX0_tell_150 ⟨by omega, by omega⟩ (fun x_19 lx_19 ux_19 ex_19 => ?_) | refine q_isubw hx hb dX0_tell_150 (fun x_19 lx_19 ux_19 _ => ?_)
    exact q_ret_i hx hb hr hlocks hK hAe hw ⟨lx_19, ux_19⟩ (Nat.le_of_ble_eq_true rfl) (Nat.le_of_ble_eq_true rfl) dX0_tell_151 ⟨rfl, rfl, by trivial⟩
  · refine lv_tableIn (tgt := 152) (off := 151) hx hb dX0_tell_1 (by rw [t1]; omega) (by rw [t1]; omega) (by rw [t1, k1]; rfl) (by decide) ?_
    refine lv_aload_n hx hb dX0_tell_152 rfl (lv_at hl 0 rfl) ?_
    refine q_geti (ci := 0) (C := RX0) (T := TX0) (N := 15) hx hb hts (fun w h => List.mem_cons_of_mem _ (mfX00 w h)) hown hK hw m_a0 o_a0 rfl 7 (by decide) (hts _ (List.mem_cons_of_mem _ (mr14 _ (List.mem_of_getElem? (i := 20) rfl)))) (fun _ h => h) rfl dX0_tell_153 (fun x_20 lx_20 ux_20 ex_20 => ?_)
    exact q_ret_i hx hb hr hlocks hK hAe hw ⟨lx_20, ux_20⟩ (Nat.le_of_ble_eq_true rfl) (Nat.le_of_ble_eq_true rfl) dX0_tell_156 ⟨rfl, rfl, by trivial⟩
  · refine lv_tableIn (tgt := 157) (off := 156) hx hb dX0_tell_1 (by rw [t1]; omega) (by rw [t1]; omega) (by rw [t1, k1]; rfl) (by decide) ?_
    refine lv_aload_n hx hb dX0_tell_157 rfl (lv_at hl 0 rfl) ?_
    refine q_geti (ci := 0) (C := RX0) (T := TX0) (N := 15) hx hb hts (fun w h => List.mem_cons_of_mem _ (mfX00 w h)) hown hK hw m_a0 o_a0 rfl 8 (by decide) (hts _ (List.mem_cons_of_mem _ (mr14 _ (List.mem_of_getElem? (i := 21) rfl)))) (fun _ h => h) rfl dX0_tell_158 (fun x_21 lx_21 ux_21 ex_21 => ?_)
    exact q_ret_i hx hb hr hlocks hK hAe hw ⟨lx_21, ux_21⟩ (Nat.le_of_ble_eq_true rfl) (Nat.le_of_ble_eq_true rfl) dX0_tell_161 ⟨rfl, rfl, by trivial⟩
