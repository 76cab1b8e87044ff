set_option maxHeartbeats 4000000 in
set_option maxRecDepth 100000 in
theorem c_X0_keyFrom {Z : Zt} (zo : Zok Z) (l : Launch) (D : va_G) (cy : Cy) (L0 : List Nat) (f0 : Nat → va_E) (a0 : Nat) (x1 : Int) (lx1 : -2147483648 ≤ x1) (ux1 : x1 ≤ 2147483647) (m_a0 : a0 ∈ L0) (o_a0 : Ob f0 a0 0) (hg : GI cy L0 f0) : Ci Z l yX0_keyFrom (Cond.code yX0_keyFrom cX0_keyFrom 2 (some .int) :: TB) ({ frames := 3, cells := 0, slots := 0, locals := 69 } : Room) 0 0 D (tq cy) [.ref a0, .int (iI x1)] L0 f0 (fun (r : Int) (L1 : List Nat) (f1 : Nat → va_E) => L0 = L1 ∧ f0 = f1 ∧ (True)) := by
  refine Ci.enter (cc := cX0_keyFrom) (n := 2) rfl (plainFor_of_name (by decide)) (Nat.le_of_ble_eq_true rfl) ?_
  intro p e s m below meth c ls A hx hb hr hts hown hlocks hnm hml hK hA hAe hw hZ hl
  have hown : s.vm.findClass RX0 = some m.cls := hown
  have hl : lv_has ls 2 [(0, .ref a0), (1, .int (iI x1))] := hl
  have hN : ZN s := (zo.2.2.2.2 _ _ _ hZ).2
  refine lv_aload_n hx hb dX0_keyFrom_0 rfl (lv_at hl 0 rfl) ?_
  refine q_geti (ci := 0) (C := RX0) (T := TX0) (N := 15) hx hb hts (fun w h => List.mem_cons_of_mem _ (mfX00 w h)) hown hK hw m_a0 o_a0 rfl 7 (by decide) (hts _ (List.mem_cons_of_mem _ (mr14 _ (List.mem_of_getElem? (i := 20) rfl)))) (fun _ h => h) rfl dX0_keyFrom_1 (fun x_1 lx_1 ux_1 ex_1 => ?_)
  refine q_iconst hx hb dX0_keyFrom_4 ?_
  refine q_icmp_eq (tgt := 16) hx hb dX0_keyFrom_5 (by decide) ⟨lx_1, ux_1⟩ ⟨by decide, by decide⟩ (fun c5 => ?_) (fun c5 => ?_)
  · refine q_iconst hx hb dX0_keyFrom_16 ?_
    exact q_ret_i hx hb hr hlocks hK hAe hw ⟨by decide, by decide⟩ (Nat.le_of_ble_eq_true rfl) (Nat.le_of_ble_eq_true rfl) dX0_keyFrom_17 ⟨rfl, rfl, by trivial⟩
  · refine lv_iload_n hx hb dX0_keyFrom_8 rfl (lv_at hl 1 rfl) ?_
    refine lv_aload_n hx hb dX0_keyFrom_9 rfl (lv_at hl 0 rfl) ?_
    refine q_geti (ci := 0) (C := RX0) (T := TX0) (N := 15) hx hb hts (fun w h => List.mem_cons_of_mem _ (mfX00 w h)) hown hK hw m_a0 o_a0 rfl 8 (by decide) (hts _ (List.mem_cons_of_mem _ (mr14 _ (List.mem_of_getElem? (i := 21) rfl)))) (fun _ h => h) rfl dX0_keyFrom_10 (fun x_2 lx_2 ux_2 ex_2 => ?_)
    refine q_icmp_le (tgt := 18) hx hb dX0_keyFrom_13 (by decide) ⟨lx1, ux1⟩ ⟨lx_2, ux_2⟩ (fun c13 => ?_) (fun c13 => ?_)
    · refine lv_iload_n hx hb dX0_keyFrom_18 rfl (lv_at hl 1 rfl) ?_
      refine lv_aload_n hx hb dX0_keyFrom_19 rfl (lv_at hl 0 rfl) ?_
      refine q_geti (ci := 0) (C := RX0) (T := TX0) (N := 15) hx hb hts (fun w h => List.mem_cons_of_mem _ (mfX00 w h)) hown hK hw m_a0 o_a0 rfl 7 (by decide) (hts _ (List.mem_cons_of_mem _ (mr14 _ (List.mem_of_getElem? (i := 20) rfl)))) (fun _ h => h) rfl dX0_keyFrom_20 (fun x_3 lx_3 ux_3 ex_3 => ?_)
      refine q_icmp_gt (tgt := 33) hx hb dX0_keyFrom_23 (by decide) ⟨lx1, ux1⟩ ⟨lx_3, ux_3⟩ (fun c23 => ?_) (fun c23 => ?_)
      · refine lv_aload_n hx hb dX0_keyFrom_33 rfl (lv_at hl 0 rfl) ?_
        obtain ⟨r_4, er_4, m_r_4, o_r_4⟩ := (show ∃ r, fR f0 a0 3 = some r ∧ r ∈ L0 ∧ Rl f0 r from hg.2.1 _ m_a0 0 3 o_a0)
        refine q_getr (ci := 0) (C := RX0) (T := TX0) (N := 15) hx hb hts (fun w h => List.mem_cons_of_mem _ (mfX00 w h)) hown hK hw m_a0 o_a0 rfl 3 (by decide) (hts _ (List.mem_cons_of_mem _ (mr3 _ (List.mem_of_getElem? (i := 4) rfl)))) (fun _ h => h) rfl er_4 dX0_keyFrom_34 ?_
        refine lv_iload_n hx hb dX0_keyFrom_37 rfl (lv_at hl 1 rfl) ?_
        have K38 : ∀ (x_5 : Int) (lx_5 : -2147483648 ≤ x_5) (ux_5 : x_5 ≤ 2147483647) (ex_5 : True) (H : Heap) (locs : List Loc) (hw : Wd D A s.heap L0 f0 H locs), W p l e ({ frames := 3, cells := 0, slots := 0, locals := 69 } : Room) s m ([.ref a0, .int (iI x1)] : List Value).toArray below meth c H locs (0) (0) (MQ below (Qi D (tq cy) L0 f0 s.heap.size (fun (r : Int) (L1 : List Nat) (f1 : Nat → va_E) => L0 = L1 ∧ f0 = f1 ∧ (True))) ([.ref a0, .int (iI x1)] : List Value).toArray s 0 0 A) (F0 m 41 ls (.int (iI x_5) :: [])) := by
          intro x_5 lx_5 ux_5 ex_5 H locs hw
          exact q_ret_i hx hb hr hlocks hK hAe hw ⟨lx_5, ux_5⟩ (Nat.le_of_ble_eq_true rfl) (Nat.le_of_ble_eq_true rfl) dX0_keyFrom_41 ⟨rfl, rfl, by trivial⟩
        rcases o_r_4 with o9 | o9 | o9 | o9
        · refine q_call_i hA hK hw (va_runU (As := [.int (iI x1)]) (rest := []) ⟨hx, hb, hml, hown, hts⟩ (c_X2_dayFrom zo l D cy L0 f0 r_4 x1 lx1 ux1 m_r_4 o9 hg _) (va_cwA 1 hts (gT (inU (mr14 _ (List.mem_of_getElem? (i := 23) rfl)) (mr15 _ (List.mem_of_getElem? (i := 0) rfl)) (mr15 _ (List.mem_of_getElem? (i := 1) rfl)) (mr15 _ (List.mem_of_getElem? (i := 2) rfl)) (mr12 _ (List.mem_of_getElem? (i := 12) rfl)) (mr15 _ (List.mem_of_getElem? (i := 3) rfl)))) rfl rfl rfl (hN _ (List.mem_of_getElem? (i := 15) rfl)) (by decide +kernel) ⟨Nat.le_of_ble_eq_true rfl, Nat.le_of_ble_eq_true rfl⟩) (Wd.preV zo hA hZ hw hK m_r_4 o9 rfl) rfl rfl hl.1 rfl (lv_room (Nat.le_of_ble_eq_true rfl)) dX0_keyFrom_38 ⟨Nat.le_of_ble_eq_true rfl, Nat.le_of_ble_eq_true rfl⟩) (fun x_5 L1 f1 H locs lx_5 ux_5 ex_5 hw => ?_)
          obtain ⟨rfl, rfl, ex_5⟩ := ex_5
          exact K38 x_5 lx_5 ux_5 trivial H locs hw
        · refine q_call_i hA hK hw (va_runU (As := [.int (iI x1)]) (rest := []) ⟨hx, hb, hml, hown, hts⟩ (c_X3_dayFrom zo l D cy L0 f0 r_4 x1 lx1 ux1 m_r_4 o9 hg _) (va_cwA 1 hts (gT (inU (mr14 _ (List.mem_of_getElem? (i := 23) rfl)) (mr15 _ (List.mem_of_getElem? (i := 0) rfl)) (mr15 _ (List.mem_of_getElem? (i := 7) rfl)) (mr15 _ (List.mem_of_getElem? (i := 8) rfl)) (mr12 _ (List.mem_of_getElem? (i := 18) rfl)) (mr15 _ (List.mem_of_getElem? (i := 9) rfl)))) rfl rfl rfl (hN _ (List.mem_of_getElem? (i := 15) rfl)) (by decide +kernel) ⟨Nat.le_of_ble_eq_true rfl, Nat.le_of_ble_eq_true rfl⟩) (Wd.preV zo hA hZ hw hK m_r_4 o9 rfl) rfl rfl hl.1 rfl (lv_room (Nat.le_of_ble_eq_true rfl)) dX0_keyFrom_38 ⟨Nat.le_of_ble_eq_true rfl, Nat.le_of_ble_eq_true rfl⟩) (fun x_5 L1 f1 H locs lx_5 ux_5 ex_5 hw => ?_)
          obtain ⟨rfl, rfl, ex_5⟩ := ex_5
          exact K38 x_5 lx_5 ux_5 trivial H locs hw
        · refine q_call_i hA hK hw (va_runU (As := [.int (iI x1)]) (rest := []) ⟨hx, hb, hml, hown, hts⟩ (c_X4_dayFrom zo l D cy L0 f0 r_4 x1 lx1 ux1 m_r_4 o9 hg _) (va_cwA 1 hts (gT (inU (mr14 _ (List.mem_of_getElem? (i := 23) rfl)) (mr15 _ (List.mem_of_getElem? (i := 0) rfl)) (mr15 _ (List.mem_of_getElem? (i := 22) rfl)) (mr15 _ (List.mem_of_getElem? (i := 23) rfl)) (mr2 _ (List.mem_of_getElem? (i := 7) rfl)) (mr16 _ (List.mem_of_getElem? (i := 0) rfl)))) rfl rfl rfl (hN _ (List.mem_of_getElem? (i := 15) rfl)) (by decide +kernel) ⟨Nat.le_of_ble_eq_true rfl, Nat.le_of_ble_eq_true rfl⟩) (Wd.preV zo hA hZ hw hK m_r_4 o9 rfl) rfl rfl hl.1 rfl (lv_room (Nat.le_of_ble_eq_true rfl)) dX0_keyFrom_38 ⟨Nat.le_of_ble_eq_true rfl, Nat.le_of_ble_eq_true rfl⟩) (fun x_5 L1 f1 H locs lx_5 ux_5 ex_5 hw => ?_)
          obtain ⟨rfl, rfl, ex_5⟩ := ex_5
          exact K38 x_5 lx_5 ux_5 trivial H locs hw
        · refine q_call_i hA hK hw (va_runU (As := [.int (iI x1)]) (rest := []) ⟨hx, hb, hml, hown, hts⟩ (c_X8_dayFrom zo l D cy L0 f0 r_4 x1 lx1 ux1 m_r_4 o9 hg _) (va_cwA 1 hts (gT (inU (mr14 _ (List.mem_of_getElem? (i := 23) rfl)) (mr15 _ (List.mem_of_getElem? (i := 0) rfl)) (mr16 _ (List.mem_of_getElem? (i := 3) rfl)) (mr16 _ (List.mem_of_getElem? (i := 4) rfl)) (mr12 _ (List.mem_of_getElem? (i := 15) rfl)) (mr16 _ (List.mem_of_getElem? (i := 5) rfl)))) rfl rfl rfl (hN _ (List.mem_of_getElem? (i := 15) rfl)) (by decide +kernel) ⟨Nat.le_of_ble_eq_true rfl, Nat.le_of_ble_eq_true rfl⟩) (Wd.preV zo hA hZ hw hK m_r_4 o9 rfl) rfl rfl hl.1 rfl (lv_room (Nat.le_of_ble_eq_true rfl)) dX0_keyFrom_38 ⟨Nat.le_of_ble_eq_true rfl, Nat.le_of_ble_eq_true rfl⟩) (fun x_5 L1 f1 H locs lx_5 ux_5 ex_5 hw => ?_)
          obtain ⟨rfl, rfl, ex_5⟩ := ex_5
          exact K38 x_5 lx_5 ux_5 trivial H locs hw
      · refine lv_aload_n hx hb dX0_keyFrom_26 rfl (lv_at hl 0 rfl) ?_
        refine q_geti (ci := 0) (C := RX0) (T := TX0) (N := 15) hx hb hts (fun w h => List.mem_cons_of_mem _ (mfX00 w h)) hown hK hw m_a0 o_a0 rfl 7 (by decide) (hts _ (List.mem_cons_of_mem _ (mr14 _ (List.mem_of_getElem? (i := 20) rfl)))) (fun _ h => h) rfl dX0_keyFrom_27 (fun x_6 lx_6 ux_6 ex_6 => ?_)
        refine lv_goto (tgt := 41) hx hb dX0_keyFrom_30 (by decide) ?_
        exact q_ret_i hx hb hr hlocks hK hAe hw ⟨lx_6, ux_6⟩ (Nat.le_of_ble_eq_true rfl) (Nat.le_of_ble_eq_true rfl) dX0_keyFrom_41 ⟨rfl, rfl, by trivial⟩
    · refine q_iconst hx hb dX0_keyFrom_16 ?_
      exact q_ret_i hx hb hr hlocks hK hAe hw ⟨by decide, by decide⟩ (Nat.le_of_ble_eq_true rfl) (Nat.le_of_ble_eq_true rfl) dX0_keyFrom_17 ⟨rfl, rfl, by trivial⟩
set_option maxHeartbeats 4000000 in
set_option maxRecDepth 100000 in
theorem c_X0_keyTo {Z : Zt} (zo : Zok Z) (l : Launch) (D : va_G) (cy : Cy) (L0 : List Nat) (f0 : Nat → va_E) (a0 : Nat) (x1 : Int) (lx1 : -2147483648 ≤ x1) (ux1 : x1 ≤ 2147483647) (m_a0 : a0 ∈ L0) (o_a0 : Ob f0 a0 0) (hg : GI cy L0 f0) : Ci Z l yX0_keyTo (Cond.code yX0_keyTo cX0_keyTo 2 (some .int) :: TB) ({ frames := 3, cells := 0, slots := 0, locals := 67 } : Room) 0 0 D (tq cy) [.ref a0, .int (iI x1)] L0 f0 (fun (r : Int) (L1 : List Nat) (f1 : Nat → va_E) => L0 = L1 ∧ f0 = f1 ∧ (True)) := by
  refine Ci.enter (cc := cX0_keyTo) (n := 2) rfl (plainFor_of_name (by decide)) (Nat.le_of_ble_eq_true rfl) ?_
  intro p e s m below meth c ls A hx hb hr hts hown hlocks hnm hml hK hA hAe hw hZ hl
  have hown : s.vm.findClass RX0 = some m.cls := hown
  have hl : lv_has ls 2 [(0, .ref a0), (1, .int (iI x1))] := hl
  have hN : ZN s := (zo.2.2.2.2 _ _ _ hZ).2
  refine lv_aload_n hx hb dX0_keyTo_0 rfl (lv_at hl 0 rfl) ?_
  refine q_geti (ci := 0) (C := RX0) (T := TX0) (N := 15) hx hb hts (fun w h => List.mem_cons_of_mem _ (mfX00 w h)) hown hK hw m_a0 o_a0 rfl 7 (by decide) (hts _ (List.mem_cons_of_mem _ (mr14 _ (List.mem_of_getElem? (i := 20) rfl)))) (fun _ h => h) rfl dX0_keyTo_1 (fun x_1 lx_1 ux_1 ex_1 => ?_)
  refine q_iconst hx hb dX0_keyTo_4 ?_
  refine q_icmp_eq (tgt := 16) hx hb dX0_keyTo_5 (by decide) ⟨lx_1, ux_1⟩ ⟨by decide, by decide⟩ (fun c5 => ?_) (fun c5 => ?_)
  · refine q_iconst hx hb dX0_keyTo_16 ?_
    exact q_ret_i hx hb hr hlocks hK hAe hw ⟨by decide, by decide⟩ (Nat.le_of_ble_eq_true rfl) (Nat.le_of_ble_eq_true rfl) dX0_keyTo_17 ⟨rfl, rfl, by trivial⟩
  · refine lv_iload_n hx hb dX0_keyTo_8 rfl (lv_at hl 1 rfl) ?_
    refine lv_aload_n hx hb dX0_keyTo_9 rfl (lv_at hl 0 rfl) ?_
    refine q_geti (ci := 0) (C := RX0) (T := TX0) (N := 15) hx hb hts (fun w h => List.mem_cons_of_mem _ (mfX00 w h)) hown hK hw m_a0 o_a0 rfl 7 (by decide) (hts _ (List.mem_cons_of_mem _ (mr14 _ (List.mem_of_getElem? (i := 20) rfl)))) (fun _ h => h) rfl dX0_keyTo_10 (fun x_2 lx_2 ux_2 ex_2 => ?_)
    refine q_icmp_ge (tgt := 18) hx hb dX0_keyTo_13 (by decide) ⟨lx1, ux1⟩ ⟨lx_2, ux_2⟩ (fun c13 => ?_) (fun c13 => ?_)
    · refine lv_iload_n hx hb dX0_keyTo_18 rfl (lv_at hl 1 rfl) ?_
      refine lv_aload_n hx hb dX0_keyTo_19 rfl (lv_at hl 0 rfl) ?_
      refine q_geti (ci := 0) (C := RX0) (T := TX0) (N := 15) hx hb hts (fun w h => List.mem_cons_of_mem _ (mfX00 w h)) hown hK hw m_a0 o_a0 rfl 8 (by decide) (hts _ (List.mem_cons_of_mem _ (mr14 _ (List.mem_of_getElem? (i := 21) rfl)))) (fun _ h => h) rfl dX0_keyTo_20 (fun x_3 lx_3 ux_3 ex_3 => ?_)
      refine q_icmp_lt (tgt := 33) hx hb dX0_keyTo_23 (by decide) ⟨lx1, ux1⟩ ⟨lx_3, ux_3⟩ (fun c23 => ?_) (fun c23 => ?_)
      · refine lv_aload_n hx hb dX0_keyTo_33 rfl (lv_at hl 0 rfl) ?_
        obtain ⟨r_4, er_4, m_r_4, o_r_4⟩ := (show ∃ r, fR f0 a0 3 = some r ∧ r ∈ L0 ∧ Rl f0 r from hg.2.1 _ m_a0 0 3 o_a0)
        refine q_getr (ci := 0) (C := RX0) (T := TX0) (N := 15) hx hb hts (fun w h => List.mem_cons_of_mem _ (mfX00 w h)) hown hK hw m_a0 o_a0 rfl 3 (by decide) (hts _ (List.mem_cons_of_mem _ (mr3 _ (List.mem_of_getElem? (i := 4) rfl)))) (fun _ h => h) rfl er_4 dX0_keyTo_34 ?_
        refine lv_iload_n hx hb dX0_keyTo_37 rfl (lv_at hl 1 rfl) ?_
        have K38 : ∀ (x_5 : Int) (lx_5 : -2147483648 ≤ x_5) (ux_5 : x_5 ≤ 2147483647) (ex_5 : True) (H : Heap) (locs : List Loc) (hw : Wd D A s.heap L0 f0 H locs), W p l e ({ frames := 3, cells := 0, slots := 0, locals := 67 } : Room) s m ([.ref a0, .int (iI x1)] : List Value).toArray below meth c H locs (0) (0) (MQ below (Qi D (tq cy) L0 f0 s.heap.size (fun (r : Int) (L1 : List Nat) (f1 : Nat → va_E) => L0 = L1 ∧ f0 = f1 ∧ (True))) ([.ref a0, .int (iI x1)] : List Value).toArray s 0 0 A) (F0 m 41 ls (.int (iI x_5) :: [])) := by
          intro x_5 lx_5 ux_5 ex_5 H locs hw
          exact q_ret_i hx hb hr hlocks hK hAe hw ⟨lx_5, ux_5⟩ (Nat.le_of_ble_eq_true rfl) (Nat.le_of_ble_eq_true rfl) dX0_keyTo_41 ⟨rfl, rfl, by trivial⟩
        rcases o_r_4 with o9 | o9 | o9 | o9
        · refine q_call_i hA hK hw (va_runU (As := [.int (iI x1)]) (rest := []) ⟨hx, hb, hml, hown, hts⟩ (c_X2_dayTo zo l D cy L0 f0 r_4 x1 lx1 ux1 m_r_4 o9 hg _) (va_cwA 1 hts (gT (inU (mr16 _ (List.mem_of_getElem? (i := 13) rfl)) (mr16 _ (List.mem_of_getElem? (i := 14) rfl)) (mr16 _ (List.mem_of_getElem? (i := 15) rfl)) (mr16 _ (List.mem_of_getElem? (i := 16) rfl)) (mr12 _ (List.mem_of_getElem? (i := 12) rfl)) (mr16 _ (List.mem_of_getElem? (i := 17) rfl)))) rfl rfl rfl (hN _ (List.mem_of_getElem? (i := 16) rfl)) (by decide +kernel) ⟨Nat.le_of_ble_eq_true rfl, Nat.le_of_ble_eq_true rfl⟩) (Wd.preV zo hA hZ hw hK m_r_4 o9 rfl) rfl rfl hl.1 rfl (lv_room (Nat.le_of_ble_eq_true rfl)) dX0_keyTo_38 ⟨Nat.le_of_ble_eq_true rfl, Nat.le_of_ble_eq_true rfl⟩) (fun x_5 L1 f1 H locs lx_5 ux_5 ex_5 hw => ?_)
          obtain ⟨rfl, rfl, ex_5⟩ := ex_5
          exact K38 x_5 lx_5 ux_5 trivial H locs hw
        · refine q_call_i hA hK hw (va_runU (As := [.int (iI x1)]) (rest := []) ⟨hx, hb, hml, hown, hts⟩ (c_X3_dayTo zo l D cy L0 f0 r_4 x1 lx1 ux1 m_r_4 o9 hg _) (va_cwA 1 hts (gT (inU (mr16 _ (List.mem_of_getElem? (i := 13) rfl)) (mr16 _ (List.mem_of_getElem? (i := 14) rfl)) (mr16 _ (List.mem_of_getElem? (i := 18) rfl)) (mr16 _ (List.mem_of_getElem? (i := 19) rfl)) (mr12 _ (List.mem_of_getElem? (i := 18) rfl)) (mr16 _ (List.mem_of_getElem? (i := 20) rfl)))) rfl rfl rfl (hN _ (List.mem_of_getElem? (i := 16) rfl)) (by decide +kernel) ⟨Nat.le_of_ble_eq_true rfl, Nat.le_of_ble_eq_true rfl⟩) (Wd.preV zo hA hZ hw hK m_r_4 o9 rfl) rfl rfl hl.1 rfl (lv_room (Nat.le_of_ble_eq_true rfl)) dX0_keyTo_38 ⟨Nat.le_of_ble_eq_true rfl, Nat.le_of_ble_eq_true rfl⟩) (fun x_5 L1 f1 H locs lx_5 ux_5 ex_5 hw => ?_)
          obtain ⟨rfl, rfl, ex_5⟩ := ex_5
          exact K38 x_5 lx_5 ux_5 trivial H locs hw
        · refine q_call_i hA hK hw (va_runU (As := [.int (iI x1)]) (rest := []) ⟨hx, hb, hml, hown, hts⟩ (c_X4_dayTo zo l D cy L0 f0 r_4 x1 lx1 ux1 m_r_4 o9 hg _) (va_cwA 1 hts (gT (inU (mr16 _ (List.mem_of_getElem? (i := 13) rfl)) (mr16 _ (List.mem_of_getElem? (i := 14) rfl)) (mr16 _ (List.mem_of_getElem? (i := 21) rfl)) (mr16 _ (List.mem_of_getElem? (i := 22) rfl)) (mr2 _ (List.mem_of_getElem? (i := 7) rfl)) (mr16 _ (List.mem_of_getElem? (i := 23) rfl)))) rfl rfl rfl (hN _ (List.mem_of_getElem? (i := 16) rfl)) (by decide +kernel) ⟨Nat.le_of_ble_eq_true rfl, Nat.le_of_ble_eq_true rfl⟩) (Wd.preV zo hA hZ hw hK m_r_4 o9 rfl) rfl rfl hl.1 rfl (lv_room (Nat.le_of_ble_eq_true rfl)) dX0_keyTo_38 ⟨Nat.le_of_ble_eq_true rfl, Nat.le_of_ble_eq_true rfl⟩) (fun x_5 L1 f1 H locs lx_5 ux_5 ex_5 hw => ?_)
          obtain ⟨rfl, rfl, ex_5⟩ := ex_5
          exact K38 x_5 lx_5 ux_5 trivial H locs hw
        · refine q_call_i hA hK hw (va_runU (As := [.int (iI x1)]) (rest := []) ⟨hx, hb, hml, hown, hts⟩ (c_X8_dayTo zo l D cy L0 f0 r_4 x1 lx1 ux1 m_r_4 o9 hg _) (va_cwA 1 hts (gT (inU (mr16 _ (List.mem_of_getElem? (i := 13) rfl)) (mr16 _ (List.mem_of_getElem? (i := 14) rfl)) (mr17 _ (List.mem_of_getElem? (i := 0) rfl)) (mr17 _ (List.mem_of_getElem? (i := 1) rfl)) (mr12 _ (List.mem_of_getElem? (i := 15) rfl)) (mr17 _ (List.mem_of_getElem? (i := 2) rfl)))) rfl rfl rfl (hN _ (List.mem_of_getElem? (i := 16) rfl)) (by decide +kernel) ⟨Nat.le_of_ble_eq_true rfl, Nat.le_of_ble_eq_true rfl⟩) (Wd.preV zo hA hZ hw hK m_r_4 o9 rfl) rfl rfl hl.1 rfl (lv_room (Nat.le_of_ble_eq_true rfl)) dX0_keyTo_38 ⟨Nat.le_of_ble_eq_true rfl, Nat.le_of_ble_eq_true rfl⟩) (fun x_5 L1 f1 H locs lx_5 ux_5 ex_5 hw => ?_)
          obtain ⟨rfl, rfl, ex_5⟩ := ex_5
          exact K38 x_5 lx_5 ux_5 trivial H locs hw
      · refine lv_aload_n hx hb dX0_keyTo_26 rfl (lv_at hl 0 rfl) ?_
        refine q_geti (ci := 0) (C := RX0) (T := TX0) (N := 15) hx hb hts (fun w h => List.mem_cons_of_mem _ (mfX00 w h)) hown hK hw m_a0 o_a0 rfl 8 (by decide) (hts _ (List.mem_cons_of_mem _ (mr14 _ (List.mem_of_getElem? (i := 21) rfl)))) (fun _ h => h) rfl dX0_keyTo_27 (fun x_6 lx_6 ux_6 ex_6 => ?_)
        refine lv_goto (tgt := 41) hx hb dX0_keyTo_30 (by decide) ?_
        exact q_ret_i hx hb hr hlocks hK hAe hw ⟨lx_6, ux_6⟩ (Nat.le_of_ble_eq_true rfl) (Nat.le_of_ble_eq_true rfl) dX0_keyTo_41 ⟨rfl, rfl, by trivial⟩
    · refine q_iconst hx hb dX0_keyTo_16 ?_
      exact q_ret_i hx hb hr hlocks hK hAe hw ⟨by decide, by decide⟩ (Nat.le_of_ble_eq_true rfl) (Nat.le_of_ble_eq_true rfl) dX0_keyTo_17 ⟨rfl, rfl, by trivial⟩
set_option maxHeartbeats 4000000 in
set_option maxRecDepth 100000 in
theorem c_X0_keysIn {Z : Zt} (zo : Zok Z) (l : Launch) (D : va_G) (cy : Cy) (L0 : List Nat) (f0 : Nat → va_E) (a0 : Nat) (x1 : Int) (lx1 : -2147483648 ≤ x1) (ux1 : x1 ≤ 2147483647) (x2 : Int) (lx2 : -2147483648 ≤ x2) (ux2 : x2 ≤ 2147483647) (m_a0 : a0 ∈ L0) (o_a0 : Ob f0 a0 0) (hg : GI cy L0 f0) : Ci Z l yX0_keysIn (Cond.code yX0_keysIn cX0_keysIn 5 (some .int) :: TB) ({ frames := 3, cells := 0, slots := 0, locals := 72 } : Room) 0 0 D (tq cy) [.ref a0, .int (iI x1), .int (iI x2)] L0 f0 (fun (r : Int) (L1 : List Nat) (f1 : Nat → va_E) => L0 = L1 ∧ f0 = f1 ∧ (True)) := by
  refine Ci.enter (cc := cX0_keysIn) (n := 5) rfl (plainFor_of_name (by decide)) (Nat.le_of_ble_eq_true rfl) ?_
  intro p e s m below meth c ls A hx hb hr hts hown hlocks hnm hml hK hA hAe hw hZ hl
  have hown : s.vm.findClass RX0 = some m.cls := hown
  have hl : lv_has ls 5 [(0, .ref a0), (1, .int (iI x1)), (2, .int (iI x2))] := hl
  have hN : ZN s := (zo.2.2.2.2 _ _ _ hZ).2
  refine lv_iload_n hx hb dX0_keysIn_0 rfl (lv_at hl 1 rfl) ?_
  refine lv_aload_n hx hb dX0_keysIn_1 rfl (lv_at hl 0 rfl) ?_
  refine q_geti (ci := 0) (C := RX0) (T := TX0) (N := 15) hx hb hts (fun w h => List.mem_cons_of_mem _ (mfX00 w h)) hown hK hw m_a0 o_a0 rfl 7 (by decide) (hts _ (List.mem_cons_of_mem _ (mr14 _ (List.mem_of_getElem? (i := 20) rfl)))) (fun _ h => h) rfl dX0_keysIn_2 (fun x_1 lx_1 ux_1 ex_1 => ?_)
  refine q_max hx hb (hml.trans hl.1.symm) hown (hts _ (List.mem_cons_of_mem _ (mr25 _ (List.mem_of_getElem? (i := 20) rfl)))) (hts _ (List.mem_cons_of_mem _ (mr13 _ (List.mem_of_getElem? (i := 0) rfl)))) (hts _ (List.mem_cons_of_mem _ (mr6 _ (List.mem_of_getElem? (i := 14) rfl)))) (hts _ (List.mem_cons_of_mem _ (mr13 _ (List.mem_of_getElem? (i := 1) rfl)))) (Nat.le_of_ble_eq_true rfl) (Nat.le_of_ble_eq_true rfl) (Nat.le_of_ble_eq_true rfl) (Nat.le_of_ble_eq_true rfl) ⟨lx1, ux1⟩ ⟨lx_1, ux_1⟩ dX0_keysIn_5 (fun x_2 lx_2 ux_2 ex_2 => ?_)
  refine lv_istore_n (lv' := [(3, .int (iI x_2)), (0, .ref a0), (1, .int (iI x1)), (2, .int (iI x2))]) hx hb dX0_keysIn_8 rfl hl (by decide) rfl (fun ls hl => ?_)
  refine lv_iload_n hx hb dX0_keysIn_9 rfl (lv_at hl 3 rfl) ?_
  refine lv_aload_n hx hb dX0_keysIn_10 rfl (lv_at hl 1 rfl) ?_
  refine q_geti (ci := 0) (C := RX0) (T := TX0) (N := 15) hx hb hts (fun w h => List.mem_cons_of_mem _ (mfX00 w h)) hown hK hw m_a0 o_a0 rfl 8 (by decide) (hts _ (List.mem_cons_of_mem _ (mr14 _ (List.mem_of_getElem? (i := 21) rfl)))) (fun _ h => h) rfl dX0_keysIn_11 (fun x_3 lx_3 ux_3 ex_3 => ?_)
  refine q_min hx hb (hml.trans hl.1.symm) hown (hts _ (List.mem_cons_of_mem _ (mr25 _ (List.mem_of_getElem? (i := 21) rfl)))) (hts _ (List.mem_cons_of_mem _ (mr6 _ (List.mem_of_getElem? (i := 13) rfl)))) (hts _ (List.mem_cons_of_mem _ (mr6 _ (List.mem_of_getElem? (i := 14) rfl)))) (hts _ (List.mem_cons_of_mem _ (mr6 _ (List.mem_of_getElem? (i := 15) rfl)))) (Nat.le_of_ble_eq_true rfl) (Nat.le_of_ble_eq_true rfl) (Nat.le_of_ble_eq_true rfl) (Nat.le_of_ble_eq_true rfl) ⟨lx2, ux2⟩ ⟨lx_3, ux_3⟩ dX0_keysIn_14 (fun x_4 lx_4 ux_4 ex_4 => ?_)
  refine lv_istore (lv' := [(4, .int (iI x_4)), (3, .int (iI x_2)), (0, .ref a0), (1, .int (iI x1)), (2, .int (iI x2))]) hx hb dX0_keysIn_17 hl (by decide) rfl (fun ls hl => ?_)
  refine lv_aload_n hx hb dX0_keysIn_19 rfl (lv_at hl 2 rfl) ?_
  refine q_geti (ci := 0) (C := RX0) (T := TX0) (N := 15) hx hb hts (fun w h => List.mem_cons_of_mem _ (mfX00 w h)) hown hK hw m_a0 o_a0 rfl 7 (by decide) (hts _ (List.mem_cons_of_mem _ (mr14 _ (List.mem_of_getElem? (i := 20) rfl)))) (fun _ h => h) rfl dX0_keysIn_20 (fun x_5 lx_5 ux_5 ex_5 => ?_)
  refine q_iconst hx hb dX0_keysIn_23 ?_
  refine q_icmp_eq (tgt := 33) hx hb dX0_keysIn_24 (by decide) ⟨lx_5, ux_5⟩ ⟨by decide, by decide⟩ (fun c24 => ?_) (fun c24 => ?_)
  · refine q_iconst hx hb dX0_keysIn_33 ?_
    refine lv_goto (tgt := 47) hx hb dX0_keysIn_34 (by decide) ?_
    exact q_ret_i hx hb hr hlocks hK hAe hw ⟨by decide, by decide⟩ (Nat.le_of_ble_eq_true rfl) (Nat.le_of_ble_eq_true rfl) dX0_keysIn_47 ⟨rfl, rfl, by trivial⟩
  · refine lv_iload_n hx hb dX0_keysIn_27 rfl (lv_at hl 1 rfl) ?_
    refine lv_iload hx hb dX0_keysIn_28 (lv_at hl 0 rfl) ?_
    refine q_icmp_le (tgt := 37) hx hb dX0_keysIn_30 (by decide) ⟨lx_2, ux_2⟩ ⟨lx_4, ux_4⟩ (fun c30 => ?_) (fun c30 => ?_)
    · refine lv_aload_n hx hb dX0_keysIn_37 rfl (lv_at hl 2 rfl) ?_
      obtain ⟨r_6, er_6, m_r_6, o_r_6⟩ := (show ∃ r, fR f0 a0 3 = some r ∧ r ∈ L0 ∧ Rl f0 r from hg.2.1 _ m_a0 0 3 o_a0)
      refine q_getr (ci := 0) (C := RX0) (T := TX0) (N := 15) hx hb hts (fun w h => List.mem_cons_of_mem _ (mfX00 w h)) hown hK hw m_a0 o_a0 rfl 3 (by decide) (hts _ (List.mem_cons_of_mem _ (mr3 _ (List.mem_of_getElem? (i := 4) rfl)))) (fun _ h => h) rfl er_6 dX0_keysIn_38 ?_
      refine lv_iload_n hx hb dX0_keysIn_41 rfl (lv_at hl 1 rfl) ?_
      refine lv_iload hx hb dX0_keysIn_42 (lv_at hl 0 rfl) ?_
      have K44 : ∀ (x_7 : Int) (lx_7 : -2147483648 ≤ x_7) (ux_7 : x_7 ≤ 2147483647) (ex_7 : True) (H : Heap) (locs : List Loc) (hw : Wd D A s.heap L0 f0 H locs), W p l e ({ frames := 3, cells := 0, slots := 0, locals := 72 } : Room) s m ([.ref a0, .int (iI x1), .int (iI x2)] : List Value).toArray below meth c H locs (0) (0) (MQ below (Qi D (tq cy) L0 f0 s.heap.size (fun (r : Int) (L1 : List Nat) (f1 : Nat → va_E) => L0 = L1 ∧ f0 = f1 ∧ (True))) ([.ref a0, .int (iI x1), .int (iI x2)] : List Value).toArray s 0 0 A) (F0 m 47 ls (.int (iI x_7) :: [])) := by
        intro x_7 lx_7 ux_7 ex_7 H locs hw
        exact q_ret_i hx hb hr hlocks hK hAe hw ⟨lx_7, ux_7⟩ (Nat.le_of_ble_eq_true rfl) (Nat.le_of_ble_eq_true rfl) dX0_keysIn_47 ⟨rfl, rfl, by trivial⟩
      rcases o_r_6 with o9 | o9 | o9 | o9
      · refine q_call_i hA hK hw (va_runU (As := [.int (iI x_2), .int (iI x_4)]) (rest := []) ⟨hx, hb, hml, hown, hts⟩ (c_X2_daysIn zo l D cy L0 f0 r_6 x_2 lx_2 ux_2 x_4 lx_4 ux_4 m_r_6 o9 hg _) (va_cwA 2 hts (gT (inU (mr17 _ (List.mem_of_getElem? (i := 11) rfl)) (mr17 _ (List.mem_of_getElem? (i := 12) rfl)) (mr17 _ (List.mem_of_getElem? (i := 13) rfl)) (mr17 _ (List.mem_of_getElem? (i := 14) rfl)) (mr12 _ (List.mem_of_getElem? (i := 12) rfl)) (mr17 _ (List.mem_of_getElem? (i := 15) rfl)))) rfl rfl rfl (hN _ (List.mem_of_getElem? (i := 17) rfl)) (by decide +kernel) ⟨Nat.le_of_ble_eq_true rfl, Nat.le_of_ble_eq_true rfl⟩) (Wd.preV zo hA hZ hw hK m_r_6 o9 rfl) rfl rfl hl.1 rfl (lv_room (Nat.le_of_ble_eq_true rfl)) dX0_keysIn_44 ⟨Nat.le_of_ble_eq_true rfl, Nat.le_of_ble_eq_true rfl⟩) (fun x_7 L1 f1 H locs lx_7 ux_7 ex_7 hw => ?_)
        obtain ⟨rfl, rfl, ex_7⟩ := ex_7
        exact K44 x_7 lx_7 ux_7 trivial H locs hw
      · refine q_call_i hA hK hw (va_runU (As := [.int (iI x_2), .int (iI x_4)]) (rest := []) ⟨hx, hb, hml, hown, hts⟩ (c_X3_daysIn zo l D cy L0 f0 r_6 x_2 lx_2 ux_2 x_4 lx_4 ux_4 m_r_6 o9 hg _) (va_cwA 2 hts (gT (inU (mr17 _ (List.mem_of_getElem? (i := 11) rfl)) (mr17 _ (List.mem_of_getElem? (i := 12) rfl)) (mr17 _ (List.mem_of_getElem? (i := 20) rfl)) (mr17 _ (List.mem_of_getElem? (i := 21) rfl)) (mr12 _ (List.mem_of_getElem? (i := 18) rfl)) (mr17 _ (List.mem_of_getElem? (i := 22) rfl)))) rfl rfl rfl (hN _ (List.mem_of_getElem? (i := 17) rfl)) (by decide +kernel) ⟨Nat.le_of_ble_eq_true rfl, Nat.le_of_ble_eq_true rfl⟩) (Wd.preV zo hA hZ hw hK m_r_6 o9 rfl) rfl rfl hl.1 rfl (lv_room (Nat.le_of_ble_eq_true rfl)) dX0_keysIn_44 ⟨Nat.le_of_ble_eq_true rfl, Nat.le_of_ble_eq_true rfl⟩) (fun x_7 L1 f1 H locs lx_7 ux_7 ex_7 hw => ?_)
        obtain ⟨rfl, rfl, ex_7⟩ := ex_7
        exact K44 x_7 lx_7 ux_7 trivial H locs hw
      · refine q_call_i hA hK hw (va_runU (As := [.int (iI x_2), .int (iI x_4)]) (rest := []) ⟨hx, hb, hml, hown, hts⟩ (c_X4_daysIn zo l D cy L0 f0 r_6 x_2 lx_2 ux_2 x_4 lx_4 ux_4 m_r_6 o9 hg _) (va_cwA 2 hts (gT (inU (mr17 _ (List.mem_of_getElem? (i := 11) rfl)) (mr17 _ (List.mem_of_getElem? (i := 12) rfl)) (mr17 _ (List.mem_of_getElem? (i := 23) rfl)) (mr18 _ (List.mem_of_getElem? (i := 0) rfl)) (mr2 _ (List.mem_of_getElem? (i := 7) rfl)) (mr18 _ (List.mem_of_getElem? (i := 1) rfl)))) rfl rfl rfl (hN _ (List.mem_of_getElem? (i := 17) rfl)) (by decide +kernel) ⟨Nat.le_of_ble_eq_true rfl, Nat.le_of_ble_eq_true rfl⟩) (Wd.preV zo hA hZ hw hK m_r_6 o9 rfl) rfl rfl hl.1 rfl (lv_room (Nat.le_of_ble_eq_true rfl)) dX0_keysIn_44 ⟨Nat.le_of_ble_eq_true rfl, Nat.le_of_ble_eq_true rfl⟩) (fun x_7 L1 f1 H locs lx_7 ux_7 ex_7 hw => ?_)
        obtain ⟨rfl, rfl, ex_7⟩ := ex_7
        exact K44 x_7 lx_7 ux_7 trivial H locs hw
      · refine q_call_i hA hK hw (va_runU (As := [.int (iI x_2), .int (iI x_4)]) (rest := []) ⟨hx, hb, hml, hown, hts⟩ (c_X8_daysIn zo l D cy L0 f0 r_6 x_2 lx_2 ux_2 x_4 lx_4 ux_4 m_r_6 o9 hg _) (va_cwA 2 hts (gT (inU (mr17 _ (List.mem_of_getElem? (i := 11) rfl)) (mr17 _ (List.mem_of_getElem? (i := 12) rfl)) (mr18 _ (List.mem_of_getElem? (i := 2) rfl)) (mr18 _ (List.mem_of_getElem? (i := 3) rfl)) (mr12 _ (List.mem_of_getElem? (i := 15) rfl)) (mr18 _ (List.mem_of_getElem? (i := 4) rfl)))) rfl rfl rfl (hN _ (List.mem_of_getElem? (i := 17) rfl)) (by decide +kernel) ⟨Nat.le_of_ble_eq_true rfl, Nat.le_of_ble_eq_true rfl⟩) (Wd.preV zo hA hZ hw hK m_r_6 o9 rfl) rfl rfl hl.1 rfl (lv_room (Nat.le_of_ble_eq_true rfl)) dX0_keysIn_44 ⟨Nat.le_of_ble_eq_true rfl, Nat.le_of_ble_eq_true rfl⟩) (fun x_7 L1 f1 H locs lx_7 ux_7 ex_7 hw => ?_)
        obtain ⟨rfl, rfl, ex_7⟩ := ex_7
        exact K44 x_7 lx_7 ux_7 trivial H locs hw
    · refine q_iconst hx hb dX0_keysIn_33 ?_
      refine lv_goto (tgt := 47) hx hb dX0_keysIn_34 (by decide) ?_
      exact q_ret_i hx hb hr hlocks hK hAe hw ⟨by decide, by decide⟩ (Nat.le_of_ble_eq_true rfl) (Nat.le_of_ble_eq_true rfl) dX0_keysIn_47 ⟨rfl, rfl, by trivial⟩
set_option maxHeartbeats 4000000 in
set_option maxRecDepth 100000 in
theorem c_X0_isKey {Z : Zt} (zo : Zok Z) (l : Launch) (D : va_G) (cy : Cy) (L0 : List Nat) (f0 : Nat → va_E) (a0 : Nat) (x1 : Int) (lx1 : -2147483648 ≤ x1) (ux1 : x1 ≤ 2147483647) (m_a0 : a0 ∈ L0) (o_a0 : Ob f0 a0 0) (hg : GI cy L0 f0) : Ci Z l yX0_isKey (Cond.code yX0_isKey cX0_isKey 2 (some .boolean) :: TB) ({ frames := 4, cells := 0, slots := 0, locals := 90 } : Room) 0 0 D (tq cy) [.ref a0, .int (iI x1)] L0 f0 (fun (r : Int) (L1 : List Nat) (f1 : Nat → va_E) => L0 = L1 ∧ f0 = f1 ∧ (r = 0 ∨ r = 1)) := by
  refine Ci.enter (cc := cX0_isKey) (n := 2) rfl (plainFor_of_name (by decide)) (Nat.le_of_ble_eq_true rfl) ?_
  intro p e s m below meth c ls A hx hb hr hts hown hlocks hnm hml hK hA hAe hw hZ hl
  have hown : s.vm.findClass RX0 = some m.cls := hown
  have hl : lv_has ls 2 [(0, .ref a0), (1, .int (iI x1))] := hl
  have hN : ZN s := (zo.2.2.2.2 _ _ _ hZ).2
  refine lv_iload_n hx hb dX0_isKey_0 rfl (lv_at hl 1 rfl) ?_
  refine q_call_i hA hK hw (va_runSN (As := [.int (iI x1)]) (rest := []) ⟨hx, hb, hml, hown, hts⟩ (c_X9_isDay zo l D cy L0 f0 x1 lx1 ux1 _) ⟨va_cnB 1 hts (gT (inC (mr23 _ (List.mem_of_getElem? (i := 15) rfl)))) rfl rfl rfl (hN _ (List.mem_of_getElem? (i := 13) rfl)) (hts _ (List.mem_cons_of_mem _ (mr1 _ (List.mem_of_getElem? (i := 2) rfl)))) (by decide +kernel) ⟨Nat.le_of_ble_eq_true rfl, Nat.le_of_ble_eq_true rfl⟩, (hts _ (List.mem_cons_of_mem _ (mr23 _ (List.mem_of_getElem? (i := 14) rfl)))), trivial⟩ (Wd.preS zo hA hZ hw hK) rfl rfl hl.1 rfl (lv_room (Nat.le_of_ble_eq_true rfl)) dX0_isKey_1 ⟨Nat.le_of_ble_eq_true rfl, Nat.le_of_ble_eq_true rfl⟩) (fun x_1 L1 f1 H locs lx_1 ux_1 ex_1 hw => ?_)
  obtain ⟨rfl, rfl, ex_1⟩ := ex_1
  refine q_if_eq (tgt := 20) hx hb dX0_isKey_4 (by decide) ⟨lx_1, ux_1⟩ (fun c4 => ?_) (fun c4 => ?_)
  · refine q_iconst hx hb dX0_isKey_20 ?_
    exact q_ret_z hx hb hr hlocks hK hAe hw (by omega) (Nat.le_of_ble_eq_true rfl) (Nat.le_of_ble_eq_true rfl) dX0_isKey_21 ⟨rfl, rfl, by omega⟩
  · refine lv_aload_n hx hb dX0_isKey_7 rfl (lv_at hl 0 rfl) ?_
    refine lv_iload_n hx hb dX0_isKey_8 rfl (lv_at hl 1 rfl) ?_
    refine q_call_i hA hK hw (va_runV (As := [.int (iI x1)]) (rest := []) ⟨hx, hb, hml, hown, hts⟩ (c_X0_keyFrom zo l D cy L0 f0 a0 x1 lx1 ux1 m_a0 o_a0 hg _) (cwV 1 hts (gT (inV (mr26 _ (List.mem_of_getElem? (i := 10) rfl)) (mr24 _ (List.mem_of_getElem? (i := 13) rfl)) (mr24 _ (List.mem_of_getElem? (i := 14) rfl)) (mr2 _ (List.mem_of_getElem? (i := 9) rfl)) (mr24 _ (List.mem_of_getElem? (i := 15) rfl)))) rfl rfl rfl (by decide +kernel) ⟨Nat.le_of_ble_eq_true rfl, Nat.le_of_ble_eq_true rfl⟩) (Wd.preV zo hA hZ hw hK m_a0 o_a0 rfl) rfl rfl hl.1 rfl (lv_room (Nat.le_of_ble_eq_true rfl)) dX0_isKey_9 ⟨Nat.le_of_ble_eq_true rfl, Nat.le_of_ble_eq_true rfl⟩) (fun x_2 L1 f1 H locs lx_2 ux_2 ex_2 hw => ?_)
    obtain ⟨rfl, rfl, ex_2⟩ := ex_2
    refine lv_iload_n hx hb dX0_isKey_12 rfl (lv_at hl 1 rfl) ?_
    refine q_icmp_ne (tgt := 20) hx hb dX0_isKey_13 (by decide) ⟨lx_2, ux_2⟩ ⟨lx1, ux1⟩ (fun c13 => ?_) (fun c13 => ?_)
    · refine q_iconst hx hb dX0_isKey_20 ?_
      exact q_ret_z hx hb hr hlocks hK hAe hw (by omega) (Nat.le_of_ble_eq_true rfl) (Nat.le_of_ble_eq_true rfl) dX0_isKey_21 ⟨rfl, rfl, by omega⟩
    · refine q_iconst hx hb dX0_isKey_16 ?_
      refine lv_goto (tgt := 21) hx hb dX0_isKey_17 (by decide) ?_
      exact q_ret_z hx hb hr hlocks hK hAe hw (by omega) (Nat.le_of_ble_eq_true rfl) (Nat.le_of_ble_eq_true rfl) dX0_isKey_21 ⟨rfl, rfl, by omega⟩
set_option maxHeartbeats 4000000 in
set_option maxRecDepth 100000 in
theorem c_X0_lastOfTimes {Z : Zt} (zo : Zok Z) (l : Launch) (D : va_G) (cy : Cy) (L0 : List Nat) (f0 : Nat → va_E) (a0 : Nat) (m_a0 : a0 ∈ L0) (o_a0 : Ob f0 a0 0) (hg : GI cy L0 f0) : Ci Z l yX0_lastOfTimes (Cond.code yX0_lastOfTimes cX0_lastOfTimes 4 (some .int) :: TB) ({ frames := 3, cells := 0, slots := 0, locals := 69 } : Room) 0 0 D (tq cy) [.ref a0] L0 f0 (fun (r : Int) (L1 : List Nat) (f1 : Nat → va_E) => L0 = L1 ∧ f0 = f1 ∧ (True)) := by
  refine Ci.enter (cc := cX0_lastOfTimes) (n := 4) rfl (plainFor_of_name (by decide)) (Nat.le_of_ble_eq_true rfl) ?_
  intro p e s m below meth c ls A hx hb hr hts hown hlocks hnm hml hK hA hAe hw hZ hl
  have hown : s.vm.findClass RX0 = some m.cls := hown
  have hl : lv_has ls 4 [(0, .ref a0)] := hl
  have hN : ZN s := (zo.2.2.2.2 _ _ _ hZ).2
  refine lv_aload_n hx hb dX0_lastOfTimes_0 rfl (lv_at hl 0 rfl) ?_
  refine q_geti (ci := 0) (C := RX0) (T := TX0) (N := 15) hx hb hts (fun w h => List.mem_cons_of_mem _ (mfX00 w h)) hown hK hw m_a0 o_a0 rfl 7 (by decide) (hts _ (List.mem_cons_of_mem _ (mr14 _ (List.mem_of_getElem? (i := 20) rfl)))) (fun _ h => h) rfl dX0_lastOfTimes_1 (fun x_1 lx_1 ux_1 ex_1 => ?_)
  refine lv_istore_n (lv' := [(1, .int (iI x_1)), (0, .ref a0)]) hx hb dX0_lastOfTimes_4 rfl hl (by decide) rfl (fun ls hl => ?_)
  refine q_iconst hx hb dX0_lastOfTimes_5 ?_
  refine lv_istore_n (lv' := [(2, .int (iI 1)), (1, .int (iI x_1)), (0, .ref a0)]) hx hb dX0_lastOfTimes_6 rfl hl (by decide) rfl (fun ls hl => ?_)
  have J7 : ∀ (n7 : Nat) (y1_7 : Int) (ly1_7 : -2147483648 ≤ y1_7) (uy1_7 : y1_7 ≤ 2147483647) (y2_7 : Int) (ly2_7 : -2147483648 ≤ y2_7) (uy2_7 : y2_7 ≤ 2147483647) (i1 : 0 ≤ y2_7) (hn7 : ((2147483647 : Int) - y2_7).toNat < n7) (H : Heap) (locs : List Loc) (ls : Array Slot) (hw : Wd D A s.heap L0 f0 H locs) (hl : lv_has ls 4 [(0, .ref a0), (1, .int (iI y1_7)), (2, .int (iI y2_7))]), W p l e ({ frames := 3, cells := 0, slots := 0, locals := 69 } : Room) s m ([.ref a0] : List Value).toArray below meth c H locs (0) (0) (MQ below (Qi D (tq cy) L0 f0 s.heap.size (fun (r : Int) (L1 : List Nat) (f1 : Nat → va_E) => L0 = L1 ∧ f0 = f1 ∧ (True))) ([.ref a0] : List Value).toArray s 0 0 A) (F0 m 7 ls []) := by
    intro n7
    induction n7 with
    | zero => intro y1_7 ly1_7 uy1_7 y2_7 ly2_7 uy2_7 i1 hn7; exact absurd hn7 (Nat.not_lt_zero _)
    | succ n7 ih7 =>
      intro y1_7 ly1_7 uy1_7 y2_7 ly2_7 uy2_7 i1 hn7 H locs ls hw hl
      refine lv_iload_n hx hb dX0_lastOfTimes_7 rfl (lv_at hl 2 rfl) ?_
      refine lv_aload_n hx hb dX0_lastOfTimes_8 rfl (lv_at hl 0 rfl) ?_
      refine q_geti (ci := 0) (C := RX0) (T := TX0) (N := 15) hx hb hts (fun w h => List.mem_cons_of_mem _ (mfX00 w h)) hown hK hw m_a0 o_a0 rfl 5 (by decide) (hts _ (List.mem_cons_of_mem _ (mr14 _ (List.mem_of_getElem? (i := 8) rfl)))) (fun _ h => h) rfl dX0_lastOfTimes_9 (fun x_2 lx_2 ux_2 ex_2 => ?_)
      refine q_icmp_ge (tgt := 46) hx hb dX0_lastOfTimes_12 (by decide) ⟨ly2_7, uy2_7⟩ ⟨lx_2, ux_2⟩ (fun c12 => ?_) (fun c12 => ?_)
      · refine lv_iload_n hx hb dX0_lastOfTimes_46 rfl (lv_at hl 1 rfl) ?_
        exact q_ret_i hx hb hr hlocks hK hAe hw ⟨ly1_7, uy1_7⟩ (Nat.le_of_ble_eq_true rfl) (Nat.le_of_ble_eq_true rfl) dX0_lastOfTimes_47 ⟨rfl, rfl, by trivial⟩
      · refine lv_iload_n hx hb dX0_lastOfTimes_15 rfl (lv_at hl 1 rfl) ?_
        refine q_iconst hx hb dX0_lastOfTimes_16 ?_
        refine q_icmp_eq (tgt := 46) hx hb dX0_lastOfTimes_17 (by decide) ⟨ly1_7, uy1_7⟩ ⟨by decide, by decide⟩ (fun c17 => ?_) (fun c17 => ?_)
        · refine lv_iload_n hx hb dX0_lastOfTimes_46 rfl (lv_at hl 1 rfl) ?_
          exact q_ret_i hx hb hr hlocks hK hAe hw ⟨ly1_7, uy1_7⟩ (Nat.le_of_ble_eq_true rfl) (Nat.le_of_ble_eq_true rfl) dX0_lastOfTimes_47 ⟨rfl, rfl, by trivial⟩
        · refine lv_aload_n hx hb dX0_lastOfTimes_20 rfl (lv_at hl 0 rfl) ?_
          obtain ⟨r_3, er_3, m_r_3, o_r_3⟩ := (show ∃ r, fR f0 a0 3 = some r ∧ r ∈ L0 ∧ Rl f0 r from hg.2.1 _ m_a0 0 3 o_a0)
          refine q_getr (ci := 0) (C := RX0) (T := TX0) (N := 15) hx hb hts (fun w h => List.mem_cons_of_mem _ (mfX00 w h)) hown hK hw m_a0 o_a0 rfl 3 (by decide) (hts _ (List.mem_cons_of_mem _ (mr3 _ (List.mem_of_getElem? (i := 4) rfl)))) (fun _ h => h) rfl er_3 dX0_lastOfTimes_21 ?_
          refine lv_iload_n hx hb dX0_lastOfTimes_24 rfl (lv_at hl 1 rfl) ?_
          refine q_iconst hx hb dX0_lastOfTimes_25 ?_
          first | refine q_iadd hx hb dX0_lastOfTimes_26 ⟨by omega, by omega⟩ (fun x_4 lx_4 ux_4 ex_4 => ?_) | refine q_iaddw hx hb dX0_lastOfTimes_26 (fun x_4 lx_4 ux_4 _ => ?_)
          have K27 : ∀ (x_5 : Int) (lx_5 : -2147483648 ≤ x_5) (ux_5 : x_5 ≤ 2147483647) (ex_5 : True) (H : Heap) (locs : List Loc) (hw : Wd D A s.heap L0 f0 H locs), W p l e ({ frames := 3, cells := 0, slots := 0, locals := 69 } : Room) s m ([.ref a0] : List Value).toArray below meth c H locs (0) (0) (MQ below (Qi D (tq cy) L0 f0 s.heap.size (fun (r : Int) (L1 : List Nat) (f1 : Nat → va_E) => L0 = L1 ∧ f0 = f1 ∧ (True))) ([.ref a0] : List Value).toArray s 0 0 A) (F0 m 30 ls (.int (iI x_5) :: [])) := by
            intro x_5 lx_5 ux_5 ex_5 H locs hw
            refine lv_istore_n (lv' := [(3, .int (iI x_5)), (0, .ref a0), (1, .int (iI y1_7)), (2, .int (iI y2_7))]) hx hb dX0_lastOfTimes_30 rfl hl (by decide) rfl (fun ls hl => ?_)
            refine lv_iload_n hx hb dX0_lastOfTimes_31 rfl (lv_at hl 0 rfl) ?_
            refine q_iconst hx hb dX0_lastOfTimes_32 ?_
            refine q_icmp_ne (tgt := 38) hx hb dX0_lastOfTimes_33 (by decide) ⟨lx_5, ux_5⟩ ⟨by decide, by decide⟩ (fun c33 => ?_) (fun c33 => ?_)
            · refine lv_iload_n hx hb dX0_lastOfTimes_38 rfl (lv_at hl 0 rfl) ?_
              refine lv_istore_n (lv' := [(1, .int (iI x_5)), (3, .int (iI x_5)), (0, .ref a0), (2, .int (iI y2_7))]) hx hb dX0_lastOfTimes_39 rfl hl (by decide) rfl (fun ls hl => ?_)
              obtain ⟨x_6, lx_6, ux_6, hx_6, ex_6⟩ := q_inc y2_7 (1)
              try (replace ex_6 : x_6 = y2_7 + (1) := by omega)
              refine lv_iinc (v := iI x_6) (lv' := [(2, .int (iI x_6)), (1, .int (iI x_5)), (3, .int (iI x_5)), (0, .ref a0)]) hx hb dX0_lastOfTimes_40 hl (k := 3) rfl hx_6 (by decide) rfl (fun ls hl => ?_)
              refine lv_goto (tgt := 7) hx hb dX0_lastOfTimes_43 (by decide) ?_
              exact ih7 x_5 lx_5 ux_5 x_6 lx_6 ux_6 (by omega) (by omega) _ _ _ hw (lv_sub hl [3, 1, 0] rfl)
            · refine lv_iload_n hx hb dX0_lastOfTimes_36 rfl (lv_at hl 2 rfl) ?_
              exact q_ret_i hx hb hr hlocks hK hAe hw ⟨ly1_7, uy1_7⟩ (Nat.le_of_ble_eq_true rfl) (Nat.le_of_ble_eq_true rfl) dX0_lastOfTimes_37 ⟨rfl, rfl, by trivial⟩
          rcases o_r_3 with o9 | o9 | o9 | o9
          · refine q_call_i hA hK hw (va_runU (As := [.int (iI x_4)]) (rest := []) ⟨hx, hb, hml, hown, hts⟩ (c_X2_dayFrom zo l D cy L0 f0 r_3 x_4 lx_4 ux_4 m_r_3 o9 hg _) (va_cwA 1 hts (gT (inU (mr14 _ (List.mem_of_getElem? (i := 23) rfl)) (mr15 _ (List.mem_of_getElem? (i := 0) rfl)) (mr15 _ (List.mem_of_getElem? (i := 1) rfl)) (mr15 _ (List.mem_of_getElem? (i := 2) rfl)) (mr12 _ (List.mem_of_getElem? (i := 12) rfl)) (mr15 _ (List.mem_of_getElem? (i := 3) rfl)))) rfl rfl rfl (hN _ (List.mem_of_getElem? (i := 15) rfl)) (by decide +kernel) ⟨Nat.le_of_ble_eq_true rfl, Nat.le_of_ble_eq_true rfl⟩) (Wd.preV zo hA hZ hw hK m_r_3 o9 rfl) rfl rfl hl.1 rfl (lv_room (Nat.le_of_ble_eq_true rfl)) dX0_lastOfTimes_27 ⟨Nat.le_of_ble_eq_true rfl, Nat.le_of_ble_eq_true rfl⟩) (fun x_5 L1 f1 H locs lx_5 ux_5 ex_5 hw => ?_)
            obtain ⟨rfl, rfl, ex_5⟩ := ex_5
            exact K27 x_5 lx_5 ux_5 trivial H locs hw
          · refine q_call_i hA hK hw (va_runU (As := [.int (iI x_4)]) (rest := []) ⟨hx, hb, hml, hown, hts⟩ (c_X3_dayFrom zo l D cy L0 f0 r_3 x_4 lx_4 ux_4 m_r_3 o9 hg _) (va_cwA 1 hts (gT (inU (mr14 _ (List.mem_of_getElem? (i := 23) rfl)) (mr15 _ (List.mem_of_getElem? (i := 0) rfl)) (mr15 _ (List.mem_of_getElem? (i := 7) rfl)) (mr15 _ (List.mem_of_getElem? (i := 8) rfl)) (mr12 _ (List.mem_of_getElem? (i := 18) rfl)) (mr15 _ (List.mem_of_getElem? (i := 9) rfl)))) rfl rfl rfl (hN _ (List.mem_of_getElem? (i := 15) rfl)) (by decide +kernel) ⟨Nat.le_of_ble_eq_true rfl, Nat.le_of_ble_eq_true rfl⟩) (Wd.preV zo hA hZ hw hK m_r_3 o9 rfl) rfl rfl hl.1 rfl (lv_room (Nat.le_of_ble_eq_true rfl)) dX0_lastOfTimes_27 ⟨Nat.le_of_ble_eq_true rfl, Nat.le_of_ble_eq_true rfl⟩) (fun x_5 L1 f1 H locs lx_5 ux_5 ex_5 hw => ?_)
            obtain ⟨rfl, rfl, ex_5⟩ := ex_5
            exact K27 x_5 lx_5 ux_5 trivial H locs hw
          · refine q_call_i hA hK hw (va_runU (As := [.int (iI x_4)]) (rest := []) ⟨hx, hb, hml, hown, hts⟩ (c_X4_dayFrom zo l D cy L0 f0 r_3 x_4 lx_4 ux_4 m_r_3 o9 hg _) (va_cwA 1 hts (gT (inU (mr14 _ (List.mem_of_getElem? (i := 23) rfl)) (mr15 _ (List.mem_of_getElem? (i := 0) rfl)) (mr15 _ (List.mem_of_getElem? (i := 22) rfl)) (mr15 _ (List.mem_of_getElem? (i := 23) rfl)) (mr2 _ (List.mem_of_getElem? (i := 7) rfl)) (mr16 _ (List.mem_of_getElem? (i := 0) rfl)))) rfl rfl rfl (hN _ (List.mem_of_getElem? (i := 15) rfl)) (by decide +kernel) ⟨Nat.le_of_ble_eq_true rfl, Nat.le_of_ble_eq_true rfl⟩) (Wd.preV zo hA hZ hw hK m_r_3 o9 rfl) rfl rfl hl.1 rfl (lv_room (Nat.le_of_ble_eq_true rfl)) dX0_lastOfTimes_27 ⟨Nat.le_of_ble_eq_true rfl, Nat.le_of_ble_eq_true rfl⟩) (fun x_5 L1 f1 H locs lx_5 ux_5 ex_5 hw => ?_)
            obtain ⟨rfl, rfl, ex_5⟩ := ex_5
            exact K27 x_5 lx_5 ux_5 trivial H locs hw
          · refine q_call_i hA hK hw (va_runU (As := [.int (iI x_4)]) (rest := []) ⟨hx, hb, hml, hown, hts⟩ (c_X8_dayFrom zo l D cy L0 f0 r_3 x_4 lx_4 ux_4 m_r_3 o9 hg _) (va_cwA 1 hts (gT (inU (mr14 _ (List.mem_of_getElem? (i := 23) rfl)) (mr15 _ (List.mem_of_getElem? (i := 0) rfl)) (mr16 _ (List.mem_of_getElem? (i := 3) rfl)) (mr16 _ (List.mem_of_getElem? (i := 4) rfl)) (mr12 _ (List.mem_of_getElem? (i := 15) rfl)) (mr16 _ (List.mem_of_getElem? (i := 5) rfl)))) rfl rfl rfl (hN _ (List.mem_of_getElem? (i := 15) rfl)) (by decide +kernel) ⟨Nat.le_of_ble_eq_true rfl, Nat.le_of_ble_eq_true rfl⟩) (Wd.preV zo hA hZ hw hK m_r_3 o9 rfl) rfl rfl hl.1 rfl (lv_room (Nat.le_of_ble_eq_true rfl)) dX0_lastOfTimes_27 ⟨Nat.le_of_ble_eq_true rfl, Nat.le_of_ble_eq_true rfl⟩) (fun x_5 L1 f1 H locs lx_5 ux_5 ex_5 hw => ?_)
            obtain ⟨rfl, rfl, ex_5⟩ := ex_5
            exact K27 x_5 lx_5 ux_5 trivial H locs hw
  exact J7 ((((2147483647 : Int) - 1).toNat) + 1) x_1 lx_1 ux_1 1 (by decide) (by decide) (by omega) (by omega) _ _ _ hw (lv_sub hl [2, 1, 0] rfl)
set_option maxHeartbeats 4000000 in
set_option maxRecDepth 100000 in
theorem c_X0_settle {Z : Zt} (zo : Zok Z) (l : Launch) (D : va_G) (cy : Cy) (L0 : List Nat) (f0 : Nat → va_E) (a0 : Nat) (m_a0 : a0 ∈ L0) (o_a0 : Ob f0 a0 0) (hg : GI cy L0 f0) : Cv Z l yX0_settle (Cond.code yX0_settle cX0_settle 2 none :: TB) ({ frames := 4, cells := 0, slots := 0, locals := 92 } : Room) 0 0 D (tq cy) [.ref a0] L0 f0 (fun (L1 : List Nat) (f1 : Nat → va_E) => L0 = L1 ∧ GI cy L0 f1 ∧ Ex cy f0 f1 ∧ (True)) := by
  refine Cv.enter (cc := cX0_settle) (n := 2) rfl (plainFor_of_name (by decide)) (Nat.le_of_ble_eq_true rfl) ?_
  intro p e s m below meth c ls A hx hb hr hts hown hlocks hnm hml hK hA hAe hw hZ hl
  have hown : s.vm.findClass RX0 = some m.cls := hown
  have hl : lv_has ls 2 [(0, .ref a0)] := hl
  have hN : ZN s := (zo.2.2.2.2 _ _ _ hZ).2
  have hE : Ex cy f0 f0 := Ex.refl cy f0
  refine lv_aload_n hx hb dX0_settle_0 rfl (lv_at hl 0 rfl) ?_
  refine q_geti (ci := 0) (C := RX0) (T := TX0) (N := 15) hx hb hts (fun w h => List.mem_cons_of_mem _ (mfX00 w h)) hown hK hw m_a0 o_a0 rfl 4 (by decide) (hts _ (List.mem_cons_of_mem _ (mr14 _ (List.mem_of_getElem? (i := 7) rfl)))) (fun _ h => h) rfl dX0_settle_1 (fun x_1 lx_1 ux_1 ex_1 => ?_)
  refine q_iconst hx hb dX0_settle_4 ?_
  have J17 : ∀ (w0_17 : Int) (lw0_17 : -2147483648 ≤ w0_17) (uw0_17 : w0_17 ≤ 2147483647) (H : Heap) (locs : List Loc) (ls : Array Slot) (hw : Wd D A s.heap L0 f0 H locs) (hl : lv_has ls 2 [(0, .ref a0)]), W p l e ({ frames := 4, cells := 0, slots := 0, locals := 92 } : Room) s m ([.ref a0] : List Value).toArray below meth c H locs (0) (0) (MQ below (Qv D (tq cy) L0 f0 s.heap.size (fun (L1 : List Nat) (f1 : Nat → va_E) => L0 = L1 ∧ GI cy L0 f1 ∧ Ex cy f0 f1 ∧ (True))) ([.ref a0] : List Value).toArray s 0 0 A) (F0 m 17 ls [.int (iI w0_17)]) := by
    intro w0_17 lw0_17 uw0_17 H locs ls hw hl
    refine lv_istore_n (lv' := [(1, .int (iI w0_17)), (0, .ref a0)]) hx hb dX0_settle_17 rfl hl (by decide) rfl (fun ls hl => ?_)
    refine lv_aload_n hx hb dX0_settle_18 rfl (lv_at hl 1 rfl) ?_
    refine lv_aload_n hx hb dX0_settle_19 rfl (lv_at hl 1 rfl) ?_
    obtain ⟨r_2, er_2, m_r_2, o_r_2⟩ := (show ∃ r, fR f0 a0 3 = some r ∧ r ∈ L0 ∧ Rl f0 r from hg.2.1 _ m_a0 0 3 o_a0)
    refine q_getr (ci := 0) (C := RX0) (T := TX0) (N := 15) hx hb hts (fun w h => List.mem_cons_of_mem _ (mfX00 w h)) hown hK hw m_a0 o_a0 rfl 3 (by decide) (hts _ (List.mem_cons_of_mem _ (mr3 _ (List.mem_of_getElem? (i := 4) rfl)))) (fun _ h => h) rfl er_2 dX0_settle_20 ?_
    refine lv_aload_n hx hb dX0_settle_23 rfl (lv_at hl 1 rfl) ?_
    refine q_geti (ci := 0) (C := RX0) (T := TX0) (N := 15) hx hb hts (fun w h => List.mem_cons_of_mem _ (mfX00 w h)) hown hK hw m_a0 o_a0 rfl 6 (by decide) (hts _ (List.mem_cons_of_mem _ (mr14 _ (List.mem_of_getElem? (i := 6) rfl)))) (fun _ h => h) rfl dX0_settle_24 (fun x_3 lx_3 ux_3 ex_3 => ?_)
    have K27 : ∀ (x_4 : Int) (lx_4 : -2147483648 ≤ x_4) (ux_4 : x_4 ≤ 2147483647) (ex_4 : True) (H : Heap) (locs : List Loc) (hw : Wd D A s.heap L0 f0 H locs), W p l e ({ frames := 4, cells := 0, slots := 0, locals := 92 } : Room) s m ([.ref a0] : List Value).toArray below meth c H locs (0) (0) (MQ below (Qv D (tq cy) L0 f0 s.heap.size (fun (L1 : List Nat) (f1 : Nat → va_E) => L0 = L1 ∧ GI cy L0 f1 ∧ Ex cy f0 f1 ∧ (True))) ([.ref a0] : List Value).toArray s 0 0 A) (F0 m 30 ls (.int (iI x_4) :: [.ref a0])) := by
      intro x_4 lx_4 ux_4 ex_4 H locs hw
      refine q_puti (ci := 0) (C := RX0) (T := TX0) (N := 15) hx hb hts (fun w h => List.mem_cons_of_mem _ (mfX00 w h)) hown hK hw m_a0 o_a0 rfl 7 (by decide) (hts _ (List.mem_cons_of_mem _ (mr14 _ (List.mem_of_getElem? (i := 20) rfl)))) (fun _ h => h) tyX0 tyX0_ok nmX0 rfl (ty := .int) (by decide +kernel) rfl rfl dX0_settle_30 (fun H locs hw => ?_)
      have oo := o_a0
      obtain ⟨f_5, ef_5⟩ : ∃ g : Nat → va_E, g = pU f0 a0 7 (.int (iI x_4)) := ⟨_, rfl⟩
      have hX : Ex cy f0 f_5 := by rw [ef_5]; exact Ex_pU oo rfl rfl (by decide)
      have hg : GI cy L0 f_5 := by rw [ef_5]; exact hg.putI oo rfl ⟨lx_4, ux_4⟩ trivial
      rw [← ef_5] at hw
      have hE := hE.trans hX
      have o_a0 := hX.1.1 _ _ o_a0
      have vf_5 : fI f_5 a0 7 = x_4 := by rw [ef_5]; exact fI_pU_self oo rfl ⟨lx_4, ux_4⟩
      refine lv_aload_n hx hb dX0_settle_33 rfl (lv_at hl 1 rfl) ?_
      refine lv_aload_n hx hb dX0_settle_34 rfl (lv_at hl 1 rfl) ?_
      refine q_geti (ci := 0) (C := RX0) (T := TX0) (N := 15) hx hb hts (fun w h => List.mem_cons_of_mem _ (mfX00 w h)) hown hK hw m_a0 o_a0 rfl 5 (by decide) (hts _ (List.mem_cons_of_mem _ (mr14 _ (List.mem_of_getElem? (i := 8) rfl)))) (fun _ h => h) rfl dX0_settle_35 (fun x_6 lx_6 ux_6 ex_6 => ?_)
      refine q_iconst hx hb dX0_settle_38 ?_
      have J57 : ∀ (w0_57 : Int) (lw0_57 : -2147483648 ≤ w0_57) (uw0_57 : w0_57 ≤ 2147483647) (H : Heap) (locs : List Loc) (ls : Array Slot) (hw : Wd D A s.heap L0 f_5 H locs) (hl : lv_has ls 2 [(0, .ref a0)]), W p l e ({ frames := 4, cells := 0, slots := 0, locals := 92 } : Room) s m ([.ref a0] : List Value).toArray below meth c H locs (0) (0) (MQ below (Qv D (tq cy) L0 f0 s.heap.size (fun (L1 : List Nat) (f1 : Nat → va_E) => L0 = L1 ∧ GI cy L0 f1 ∧ Ex cy f0 f1 ∧ (True))) ([.ref a0] : List Value).toArray s 0 0 A) (F0 m 57 ls [.int (iI w0_57), .ref a0]) := by
        intro w0_57 lw0_57 uw0_57 H locs ls hw hl
        refine q_puti (ci := 0) (C := RX0) (T := TX0) (N := 15) hx hb hts (fun w h => List.mem_cons_of_mem _ (mfX00 w h)) hown hK hw m_a0 o_a0 rfl 8 (by decide) (hts _ (List.mem_cons_of_mem _ (mr14 _ (List.mem_of_getElem? (i := 21) rfl)))) (fun _ h => h) tyX0 tyX0_ok nmX0 rfl (ty := .int) (by decide +kernel) rfl rfl dX0_settle_57 (fun H locs hw => ?_)
        have oo := o_a0
        obtain ⟨f_7, ef_7⟩ : ∃ g : Nat → va_E, g = pU f_5 a0 8 (.int (iI w0_57)) := ⟨_, rfl⟩
        have hX : Ex cy f_5 f_7 := by rw [ef_7]; exact Ex_pU oo rfl rfl (by decide)
        have hg : GI cy L0 f_7 := by rw [ef_7]; exact hg.putI oo rfl ⟨lw0_57, uw0_57⟩ trivial
        rw [← ef_7] at hw
        have hE := hE.trans hX
        have o_a0 := hX.1.1 _ _ o_a0
        have vf_7 : fI f_7 a0 8 = w0_57 := by rw [ef_7]; exact fI_pU_self oo rfl ⟨lw0_57, uw0_57⟩
        refine lv_aload_n hx hb dX0_settle_60 rfl (lv_at hl 0 rfl) ?_
        refine q_geti (ci := 0) (C := RX0) (T := TX0) (N := 15) hx hb hts (fun w h => List.mem_cons_of_mem _ (mfX00 w h)) hown hK hw m_a0 o_a0 rfl 7 (by decide) (hts _ (List.mem_cons_of_mem _ (mr14 _ (List.mem_of_getElem? (i := 20) rfl)))) (fun _ h => h) rfl dX0_settle_61 (fun x_8 lx_8 ux_8 ex_8 => ?_)
        refine q_iconst hx hb dX0_settle_64 ?_
        have J79 : ∀ (H : Heap) (locs : List Loc) (ls : Array Slot) (hw : Wd D A s.heap L0 f_7 H locs) (hl : lv_has ls 2 [(0, .ref a0)]), W p l e ({ frames := 4, cells := 0, slots := 0, locals := 92 } : Room) s m ([.ref a0] : List Value).toArray below meth c H locs (0) (0) (MQ below (Qv D (tq cy) L0 f0 s.heap.size (fun (L1 : List Nat) (f1 : Nat → va_E) => L0 = L1 ∧ GI cy L0 f1 ∧ Ex cy f0 f1 ∧ (True))) ([.ref a0] : List Value).toArray s 0 0 A) (F0 m 79 ls []) := by
          intro H locs ls hw hl
          refine lv_aload_n hx hb dX0_settle_79 rfl (lv_at hl 0 rfl) ?_
          refine q_iconst hx hb dX0_settle_80 ?_
          refine q_puti (ci := 0) (C := RX0) (T := TX0) (N := 15) hx hb hts (fun w h => List.mem_cons_of_mem _ (mfX00 w h)) hown hK hw m_a0 o_a0 rfl 7 (by decide) (hts _ (List.mem_cons_of_mem _ (mr14 _ (List.mem_of_getElem? (i := 20) rfl)))) (fun _ h => h) tyX0 tyX0_ok nmX0 rfl (ty := .int) (by decide +kernel) rfl rfl dX0_settle_81 (fun H locs hw => ?_)
          have oo := o_a0
          obtain ⟨f_9, ef_9⟩ : ∃ g : Nat → va_E, g = pU f_7 a0 7 (.int (iI ((-1)))) := ⟨_, rfl⟩
          have hX : Ex cy f_7 f_9 := by rw [ef_9]; exact Ex_pU oo rfl rfl (by decide)
          have hg : GI cy L0 f_9 := by rw [ef_9]; exact hg.putI oo rfl ⟨by decide, by decide⟩ trivial
          rw [← ef_9] at hw
          have hE := hE.trans hX
          have o_a0 := hX.1.1 _ _ o_a0
          have vf_9 : fI f_9 a0 7 = ((-1)) := by rw [ef_9]; exact fI_pU_self oo rfl ⟨by decide, by decide⟩
          refine lv_aload_n hx hb dX0_settle_84 rfl (lv_at hl 0 rfl) ?_
          refine q_iconst hx hb dX0_settle_85 ?_
          refine q_puti (ci := 0) (C := RX0) (T := TX0) (N := 15) hx hb hts (fun w h => List.mem_cons_of_mem _ (mfX00 w h)) hown hK hw m_a0 o_a0 rfl 8 (by decide) (hts _ (List.mem_cons_of_mem _ (mr14 _ (List.mem_of_getElem? (i := 21) rfl)))) (fun _ h => h) tyX0 tyX0_ok nmX0 rfl (ty := .int) (by decide +kernel) rfl rfl dX0_settle_86 (fun H locs hw => ?_)
          have oo := o_a0
          obtain ⟨f_10, ef_10⟩ : ∃ g : Nat → va_E, g = pU f_9 a0 8 (.int (iI ((-1)))) := ⟨_, rfl⟩
          have hX : Ex cy f_9 f_10 := by rw [ef_10]; exact Ex_pU oo rfl rfl (by decide)
          have hg : GI cy L0 f_10 := by rw [ef_10]; exact hg.putI oo rfl ⟨by decide, by decide⟩ trivial
          rw [← ef_10] at hw
          have hE := hE.trans hX
          have o_a0 := hX.1.1 _ _ o_a0
          have vf_10 : fI f_10 a0 8 = ((-1)) := by rw [ef_10]; exact fI_pU_self oo rfl ⟨by decide, by decide⟩
          refine lv_aload_n hx hb dX0_settle_89 rfl (lv_at hl 0 rfl) ?_
          refine lv_aload_n hx hb dX0_settle_90 rfl (lv_at hl 0 rfl) ?_
          refine q_geti (ci := 0) (C := RX0) (T := TX0) (N := 15) hx hb hts (fun w h => List.mem_cons_of_mem _ (mfX00 w h)) hown hK hw m_a0 o_a0 rfl 7 (by decide) (hts _ (List.mem_cons_of_mem _ (mr14 _ (List.mem_of_getElem? (i := 20) rfl)))) (fun _ h => h) rfl dX0_settle_91 (fun x_11 lx_11 ux_11 ex_11 => ?_)
          refine q_iconst hx hb dX0_settle_94 ?_
          refine q_icmp_ne (tgt := 102) hx hb dX0_settle_95 (by decide) ⟨lx_11, ux_11⟩ ⟨by decide, by decide⟩ (fun c95 => ?_) (fun c95 => ?_)
          · refine lv_aload_n hx hb dX0_settle_102 rfl (lv_at hl 0 rfl) ?_
            obtain ⟨r_12, er_12, m_r_12, o_r_12⟩ := (show ∃ r, fR f_10 a0 3 = some r ∧ r ∈ L0 ∧ Rl f_10 r from hg.2.1 _ m_a0 0 3 o_a0)
            refine q_getr (ci := 0) (C := RX0) (T := TX0) (N := 15) hx hb hts (fun w h => List.mem_cons_of_mem _ (mfX00 w h)) hown hK hw m_a0 o_a0 rfl 3 (by decide) (hts _ (List.mem_cons_of_mem _ (mr3 _ (List.mem_of_getElem? (i := 4) rfl)))) (fun _ h => h) rfl er_12 dX0_settle_103 ?_
            refine lv_aload_n hx hb dX0_settle_106 rfl (lv_at hl 0 rfl) ?_
            refine q_geti (ci := 0) (C := RX0) (T := TX0) (N := 15) hx hb hts (fun w h => List.mem_cons_of_mem _ (mfX00 w h)) hown hK hw m_a0 o_a0 rfl 7 (by decide) (hts _ (List.mem_cons_of_mem _ (mr14 _ (List.mem_of_getElem? (i := 20) rfl)))) (fun _ h => h) rfl dX0_settle_107 (fun x_13 lx_13 ux_13 ex_13 => ?_)
            refine lv_aload_n hx hb dX0_settle_110 rfl (lv_at hl 0 rfl) ?_
            refine q_geti (ci := 0) (C := RX0) (T := TX0) (N := 15) hx hb hts (fun w h => List.mem_cons_of_mem _ (mfX00 w h)) hown hK hw m_a0 o_a0 rfl 8 (by decide) (hts _ (List.mem_cons_of_mem _ (mr14 _ (List.mem_of_getElem? (i := 21) rfl)))) (fun _ h => h) rfl dX0_settle_111 (fun x_14 lx_14 ux_14 ex_14 => ?_)
            have K114 : ∀ (x_15 : Int) (lx_15 : -2147483648 ≤ x_15) (ux_15 : x_15 ≤ 2147483647) (ex_15 : True) (H : Heap) (locs : List Loc) (hw : Wd D A s.heap L0 f_10 H locs), W p l e ({ frames := 4, cells := 0, slots := 0, locals := 92 } : Room) s m ([.ref a0] : List Value).toArray below meth c H locs (0) (0) (MQ below (Qv D (tq cy) L0 f0 s.heap.size (fun (L1 : List Nat) (f1 : Nat → va_E) => L0 = L1 ∧ GI cy L0 f1 ∧ Ex cy f0 f1 ∧ (True))) ([.ref a0] : List Value).toArray s 0 0 A) (F0 m 117 ls (.int (iI x_15) :: [.ref a0])) := by
              intro x_15 lx_15 ux_15 ex_15 H locs hw
              refine q_puti (ci := 0) (C := RX0) (T := TX0) (N := 15) hx hb hts (fun w h => List.mem_cons_of_mem _ (mfX00 w h)) hown hK hw m_a0 o_a0 rfl 9 (by decide) (hts _ (List.mem_cons_of_mem _ (mr14 _ (List.mem_of_getElem? (i := 22) rfl)))) (fun _ h => h) tyX0 tyX0_ok nmX0 rfl (ty := .int) (by decide +kernel) rfl rfl dX0_settle_117 (fun H locs hw => ?_)
              have oo := o_a0
              obtain ⟨f_16, ef_16⟩ : ∃ g : Nat → va_E, g = pU f_10 a0 9 (.int (iI x_15)) := ⟨_, rfl⟩
              have hX : Ex cy f_10 f_16 := by rw [ef_16]; exact Ex_pU oo rfl rfl (by decide)
              have hg : GI cy L0 f_16 := by rw [ef_16]; exact hg.putI oo rfl ⟨lx_15, ux_15⟩ trivial
              rw [← ef_16] at hw
              have hE := hE.trans hX
              have o_a0 := hX.1.1 _ _ o_a0
              have vf_16 : fI f_16 a0 9 = x_15 := by rw [ef_16]; exact fI_pU_self oo rfl ⟨lx_15, ux_15⟩
              exact q_ret_v hx hb hr hlocks hK hAe hw (Nat.le_of_ble_eq_true rfl) (Nat.le_of_ble_eq_true rfl) dX0_settle_120 (by exact ⟨rfl, hg, hE, by first | trivial | omega⟩)
            rcases o_r_12 with o9 | o9 | o9 | o9
            · refine q_call_i hA hK hw (va_runU (As := [.int (iI x_13), .int (iI x_14)]) (rest := [.ref a0]) ⟨hx, hb, hml, hown, hts⟩ (c_X2_daysIn zo l D cy L0 f_10 r_12 x_13 lx_13 ux_13 x_14 lx_14 ux_14 m_r_12 o9 hg _) (va_cwA 2 hts (gT (inU (mr17 _ (List.mem_of_getElem? (i := 11) rfl)) (mr17 _ (List.mem_of_getElem? (i := 12) rfl)) (mr17 _ (List.mem_of_getElem? (i := 13) rfl)) (mr17 _ (List.mem_of_getElem? (i := 14) rfl)) (mr12 _ (List.mem_of_getElem? (i := 12) rfl)) (mr17 _ (List.mem_of_getElem? (i := 15) rfl)))) rfl rfl rfl (hN _ (List.mem_of_getElem? (i := 17) rfl)) (by decide +kernel) ⟨Nat.le_of_ble_eq_true rfl, Nat.le_of_ble_eq_true rfl⟩) (Wd.preV zo hA hZ hw hK m_r_12 o9 rfl) rfl rfl hl.1 rfl (lv_room (Nat.le_of_ble_eq_true rfl)) dX0_settle_114 ⟨Nat.le_of_ble_eq_true rfl, Nat.le_of_ble_eq_true rfl⟩) (fun x_15 L1 f1 H locs lx_15 ux_15 ex_15 hw => ?_)
              obtain ⟨rfl, rfl, ex_15⟩ := ex_15
              exact K114 x_15 lx_15 ux_15 trivial H locs hw
            · refine q_call_i hA hK hw (va_runU (As := [.int (iI x_13), .int (iI x_14)]) (rest := [.ref a0]) ⟨hx, hb, hml, hown, hts⟩ (c_X3_daysIn zo l D cy L0 f_10 r_12 x_13 lx_13 ux_13 x_14 lx_14 ux_14 m_r_12 o9 hg _) (va_cwA 2 hts (gT (inU (mr17 _ (List.mem_of_getElem? (i := 11) rfl)) (mr17 _ (List.mem_of_getElem? (i := 12) rfl)) (mr17 _ (List.mem_of_getElem? (i := 20) rfl)) (mr17 _ (List.mem_of_getElem? (i := 21) rfl)) (mr12 _ (List.mem_of_getElem? (i := 18) rfl)) (mr17 _ (List.mem_of_getElem? (i := 22) rfl)))) rfl rfl rfl (hN _ (List.mem_of_getElem? (i := 17) rfl)) (by decide +kernel) ⟨Nat.le_of_ble_eq_true rfl, Nat.le_of_ble_eq_true rfl⟩) (Wd.preV zo hA hZ hw hK m_r_12 o9 rfl) rfl rfl hl.1 rfl (lv_room (Nat.le_of_ble_eq_true rfl)) dX0_settle_114 ⟨Nat.le_of_ble_eq_true rfl, Nat.le_of_ble_eq_true rfl⟩) (fun x_15 L1 f1 H locs lx_15 ux_15 ex_15 hw => ?_)
              obtain ⟨rfl, rfl, ex_15⟩ := ex_15
              exact K114 x_15 lx_15 ux_15 trivial H locs hw
            · refine q_call_i hA hK hw (va_runU (As := [.int (iI x_13), .int (iI x_14)]) (rest := [.ref a0]) ⟨hx, hb, hml, hown, hts⟩ (c_X4_daysIn zo l D cy L0 f_10 r_12 x_13 lx_13 ux_13 x_14 lx_14 ux_14 m_r_12 o9 hg _) (va_cwA 2 hts (gT (inU (mr17 _ (List.mem_of_getElem? (i := 11) rfl)) (mr17 _ (List.mem_of_getElem? (i := 12) rfl)) (mr17 _ (List.mem_of_getElem? (i := 23) rfl)) (mr18 _ (List.mem_of_getElem? (i := 0) rfl)) (mr2 _ (List.mem_of_getElem? (i := 7) rfl)) (mr18 _ (List.mem_of_getElem? (i := 1) rfl)))) rfl rfl rfl (hN _ (List.mem_of_getElem? (i := 17) rfl)) (by decide +kernel) ⟨Nat.le_of_ble_eq_true rfl, Nat.le_of_ble_eq_true rfl⟩) (Wd.preV zo hA hZ hw hK m_r_12 o9 rfl) rfl rfl hl.1 rfl (lv_room (Nat.le_of_ble_eq_true rfl)) dX0_settle_114 ⟨Nat.le_of_ble_eq_true rfl, Nat.le_of_ble_eq_true rfl⟩) (fun x_15 L1 f1 H locs lx_15 ux_15 ex_15 hw => ?_)
              obtain ⟨rfl, rfl, ex_15⟩ := ex_15
              exact K114 x_15 lx_15 ux_15 trivial H locs hw
            · refine q_call_i hA hK hw (va_runU (As := [.int (iI x_13), .int (iI x_14)]) (rest := [.ref a0]) ⟨hx, hb, hml, hown, hts⟩ (c_X8_daysIn zo l D cy L0 f_10 r_12 x_13 lx_13 ux_13 x_14 lx_14 ux_14 m_r_12 o9 hg _) (va_cwA 2 hts (gT (inU (mr17 _ (List.mem_of_getElem? (i := 11) rfl)) (mr17 _ (List.mem_of_getElem? (i := 12) rfl)) (mr18 _ (List.mem_of_getElem? (i := 2) rfl)) (mr18 _ (List.mem_of_getElem? (i := 3) rfl)) (mr12 _ (List.mem_of_getElem? (i := 15) rfl)) (mr18 _ (List.mem_of_getElem? (i := 4) rfl)))) rfl rfl rfl (hN _ (List.mem_of_getElem? (i := 17) rfl)) (by decide +kernel) ⟨Nat.le_of_ble_eq_true rfl, Nat.le_of_ble_eq_true rfl⟩) (Wd.preV zo hA hZ hw hK m_r_12 o9 rfl) rfl rfl hl.1 rfl (lv_room (Nat.le_of_ble_eq_true rfl)) dX0_settle_114 ⟨Nat.le_of_ble_eq_true rfl, Nat.le_of_ble_eq_true rfl⟩) (fun x_15 L1 f1 H locs lx_15 ux_15 ex_15 hw => ?_)
              obtain ⟨rfl, rfl, ex_15⟩ := ex_15
              exact K114 x_15 lx_15 ux_15 trivial H locs hw
          · refine q_iconst hx hb dX0_settle_98 ?_
            refine lv_goto (tgt := 117) hx hb dX0_settle_99 (by decide) ?_
            refine q_puti (ci := 0) (C := RX0) (T := TX0) (N := 15) hx hb hts (fun w h => List.mem_cons_of_mem _ (mfX00 w h)) hown hK hw m_a0 o_a0 rfl 9 (by decide) (hts _ (List.mem_cons_of_mem _ (mr14 _ (List.mem_of_getElem? (i := 22) rfl)))) (fun _ h => h) tyX0 tyX0_ok nmX0 rfl (ty := .int) (by decide +kernel) rfl rfl dX0_settle_117 (fun H locs hw => ?_)
            have oo := o_a0
            obtain ⟨f_17, ef_17⟩ : ∃ g : Nat → va_E, g = pU f_10 a0 9 (.int (iI 0)) := ⟨_, rfl⟩
            have hX : Ex cy f_10 f_17 := by rw [ef_17]; exact Ex_pU oo rfl rfl (by decide)
            have hg : GI cy L0 f_17 := by rw [ef_17]; exact hg.putI oo rfl ⟨by decide, by decide⟩ trivial
            rw [← ef_17] at hw
            have hE := hE.trans hX
            have o_a0 := hX.1.1 _ _ o_a0
            have vf_17 : fI f_17 a0 9 = 0 := by rw [ef_17]; exact fI_pU_self oo rfl ⟨by decide, by decide⟩
            exact q_ret_v hx hb hr hlocks hK hAe hw (Nat.le_of_ble_eq_true rfl) (Nat.le_of_ble_eq_true rfl) dX0_settle_120 (by exact ⟨rfl, hg, hE, by first | trivial | omega⟩)
        have J89 : ∀ (L : List Nat) (f : Nat → va_E) (hg : GI cy L0 f) (hE : Ex cy f0 f) (o_a0 : Ob f a0 0) (H : Heap) (locs : List Loc) (ls : Array Slot) (hw : Wd D A s.heap L0 f H locs) (hl : lv_has ls 2 [(0, .ref a0)]), W p l e ({ frames := 4, cells := 0, slots := 0, locals := 92 } : Room) s m ([.ref a0] : List Value).toArray below meth c H locs (0) (0) (MQ below (Qv D (tq cy) L0 f0 s.heap.size (fun (L1 : List Nat) (f1 : Nat → va_E) => L0 = L1 ∧ GI cy L0 f1 ∧ Ex cy f0 f1 ∧ (True))) ([.ref a0] : List Value).toArray s 0 0 A) (F0 m 89 ls []) := by
          intro L f hg hE o_a0 H locs ls hw hl
          refine lv_aload_n hx hb dX0_settle_89 rfl (lv_at hl 0 rfl) ?_
          refine lv_aload_n hx hb dX0_settle_90 rfl (lv_at hl 0 rfl) ?_
          refine q_geti (ci := 0) (C := RX0) (T := TX0) (N := 15) hx hb hts (fun w h => List.mem_cons_of_mem _ (mfX00 w h)) hown hK hw m_a0 o_a0 rfl 7 (by decide) (hts _ (List.mem_cons_of_mem _ (mr14 _ (List.mem_of_getElem? (i := 20) rfl)))) (fun _ h => h) rfl dX0_settle_91 (fun x_18 lx_18 ux_18 ex_18 => ?_)
          refine q_iconst hx hb dX0_settle_94 ?_
          refine q_icmp_ne (tgt := 102) hx hb dX0_settle_95 (by decide) ⟨lx_18, ux_18⟩ ⟨by decide, by decide⟩ (fun c95 => ?_) (fun c95 => ?_)
          · refine lv_aload_n hx hb dX0_settle_102 rfl (lv_at hl 0 rfl) ?_
            obtain ⟨r_19, er_19, m_r_19, o_r_19⟩ := (show ∃ r, fR f a0 3 = some r ∧ r ∈ L0 ∧ Rl f r from hg.2.1 _ m_a0 0 3 o_a0)
            refine q_getr (ci := 0) (C := RX0) (T := TX0) (N := 15) hx hb hts (fun w h => List.mem_cons_of_mem _ (mfX00 w h)) hown hK hw m_a0 o_a0 rfl 3 (by decide) (hts _ (List.mem_cons_of_mem _ (mr3 _ (List.mem_of_getElem? (i := 4) rfl)))) (fun _ h => h) rfl er_19 dX0_settle_103 ?_
            refine lv_aload_n hx hb dX0_settle_106 rfl (lv_at hl 0 rfl) ?_
            refine q_geti (ci := 0) (C := RX0) (T := TX0) (N := 15) hx hb hts (fun w h => List.mem_cons_of_mem _ (mfX00 w h)) hown hK hw m_a0 o_a0 rfl 7 (by decide) (hts _ (List.mem_cons_of_mem _ (mr14 _ (List.mem_of_getElem? (i := 20) rfl)))) (fun _ h => h) rfl dX0_settle_107 (fun x_20 lx_20 ux_20 ex_20 => ?_)
            refine lv_aload_n hx hb dX0_settle_110 rfl (lv_at hl 0 rfl) ?_
            refine q_geti (ci := 0) (C := RX0) (T := TX0) (N := 15) hx hb hts (fun w h => List.mem_cons_of_mem _ (mfX00 w h)) hown hK hw m_a0 o_a0 rfl 8 (by decide) (hts _ (List.mem_cons_of_mem _ (mr14 _ (List.mem_of_getElem? (i := 21) rfl)))) (fun _ h => h) rfl dX0_settle_111 (fun x_21 lx_21 ux_21 ex_21 => ?_)
            have K114 : ∀ (x_22 : Int) (lx_22 : -2147483648 ≤ x_22) (ux_22 : x_22 ≤ 2147483647) (ex_22 : True) (H : Heap) (locs : List Loc) (hw : Wd D A s.heap L0 f H locs), W p l e ({ frames := 4, cells := 0, slots := 0, locals := 92 } : Room) s m ([.ref a0] : List Value).toArray below meth c H locs (0) (0) (MQ below (Qv D (tq cy) L0 f0 s.heap.size (fun (L1 : List Nat) (f1 : Nat → va_E) => L0 = L1 ∧ GI cy L0 f1 ∧ Ex cy f0 f1 ∧ (True))) ([.ref a0] : List Value).toArray s 0 0 A) (F0 m 117 ls (.int (iI x_22) :: [.ref a0])) := by
              intro x_22 lx_22 ux_22 ex_22 H locs hw
              refine q_puti (ci := 0) (C := RX0) (T := TX0) (N := 15) hx hb hts (fun w h => List.mem_cons_of_mem _ (mfX00 w h)) hown hK hw m_a0 o_a0 rfl 9 (by decide) (hts _ (List.mem_cons_of_mem _ (mr14 _ (List.mem_of_getElem? (i := 22) rfl)))) (fun _ h => h) tyX0 tyX0_ok nmX0 rfl (ty := .int) (by decide +kernel) rfl rfl dX0_settle_117 (fun H locs hw => ?_)
              have oo := o_a0
              obtain ⟨f_23, ef_23⟩ : ∃ g : Nat → va_E, g = pU f a0 9 (.int (iI x_22)) := ⟨_, rfl⟩
              have hX : Ex cy f f_23 := by rw [ef_23]; exact Ex_pU oo rfl rfl (by decide)
              have hg : GI cy L0 f_23 := by rw [ef_23]; exact hg.putI oo rfl ⟨lx_22, ux_22⟩ trivial
              rw [← ef_23] at hw
              have hE := hE.trans hX
              have o_a0 := hX.1.1 _ _ o_a0
              have vf_23 : fI f_23 a0 9 = x_22 := by rw [ef_23]; exact fI_pU_self oo rfl ⟨lx_22, ux_22⟩
              exact q_ret_v hx hb hr hlocks hK hAe hw (Nat.le_of_ble_eq_true rfl) (Nat.le_of_ble_eq_true rfl) dX0_settle_120 (by exact ⟨rfl, hg, hE, by first | trivial | omega⟩)
            rcases o_r_19 with o9 | o9 | o9 | o9
            · refine q_call_i hA hK hw (va_runU (As := [.int (iI x_20), .int (iI x_21)]) (rest := [.ref a0]) ⟨hx, hb, hml, hown, hts⟩ (c_X2_daysIn zo l D cy L0 f r_19 x_20 lx_20 ux_20 x_21 lx_21 ux_21 m_r_19 o9 hg _) (va_cwA 2 hts (gT (inU (mr17 _ (List.mem_of_getElem? (i := 11) rfl)) (mr17 _ (List.mem_of_getElem? (i := 12) rfl)) (mr17 _ (List.mem_of_getElem? (i := 13) rfl)) (mr17 _ (List.mem_of_getElem? (i := 14) rfl)) (mr12 _ (List.mem_of_getElem? (i := 12) rfl)) (mr17 _ (List.mem_of_getElem? (i := 15) rfl)))) rfl rfl rfl (hN _ (List.mem_of_getElem? (i := 17) rfl)) (by decide +kernel) ⟨Nat.le_of_ble_eq_true rfl, Nat.le_of_ble_eq_true rfl⟩) (Wd.preV zo hA hZ hw hK m_r_19 o9 rfl) rfl rfl hl.1 rfl (lv_room (Nat.le_of_ble_eq_true rfl)) dX0_settle_114 ⟨Nat.le_of_ble_eq_true rfl, Nat.le_of_ble_eq_true rfl⟩) (fun x_22 L1 f1 H locs lx_22 ux_22 ex_22 hw => ?_)
              obtain ⟨rfl, rfl, ex_22⟩ := ex_22
              exact K114 x_22 lx_22 ux_22 trivial H locs hw
            · refine q_call_i hA hK hw (va_runU (As := [.int (iI x_20), .int (iI x_21)]) (rest := [.ref a0]) ⟨hx, hb, hml, hown, hts⟩ (c_X3_daysIn zo l D cy L0 f r_19 x_20 lx_20 ux_20 x_21 lx_21 ux_21 m_r_19 o9 hg _) (va_cwA 2 hts (gT (inU (mr17 _ (List.mem_of_getElem? (i := 11) rfl)) (mr17 _ (List.mem_of_getElem? (i := 12) rfl)) (mr17 _ (List.mem_of_getElem? (i := 20) rfl)) (mr17 _ (List.mem_of_getElem? (i := 21) rfl)) (mr12 _ (List.mem_of_getElem? (i := 18) rfl)) (mr17 _ (List.mem_of_getElem? (i := 22) rfl)))) rfl rfl rfl (hN _ (List.mem_of_getElem? (i := 17) rfl)) (by decide +kernel) ⟨Nat.le_of_ble_eq_true rfl, Nat.le_of_ble_eq_true rfl⟩) (Wd.preV zo hA hZ hw hK m_r_19 o9 rfl) rfl rfl hl.1 rfl (lv_room (Nat.le_of_ble_eq_true rfl)) dX0_settle_114 ⟨Nat.le_of_ble_eq_true rfl, Nat.le_of_ble_eq_true rfl⟩) (fun x_22 L1 f1 H locs lx_22 ux_22 ex_22 hw => ?_)
              obtain ⟨rfl, rfl, ex_22⟩ := ex_22
              exact K114 x_22 lx_22 ux_22 trivial H locs hw
            · refine q_call_i hA hK hw (va_runU (As := [.int (iI x_20), .int (iI x_21)]) (rest := [.ref a0]) ⟨hx, hb, hml, hown, hts⟩ (c_X4_daysIn zo l D cy L0 f r_19 x_20 lx_20 ux_20 x_21 lx_21 ux_21 m_r_19 o9 hg _) (va_cwA 2 hts (gT (inU (mr17 _ (List.mem_of_getElem? (i := 11) rfl)) (mr17 _ (List.mem_of_getElem? (i := 12) rfl)) (mr17 _ (List.mem_of_getElem? (i := 23) rfl)) (mr18 _ (List.mem_of_getElem? (i := 0) rfl)) (mr2 _ (List.mem_of_getElem? (i := 7) rfl)) (mr18 _ (List.mem_of_getElem? (i := 1) rfl)))) rfl rfl rfl (hN _ (List.mem_of_getElem? (i := 17) rfl)) (by decide +kernel) ⟨Nat.le_of_ble_eq_true rfl, Nat.le_of_ble_eq_true rfl⟩) (Wd.preV zo hA hZ hw hK m_r_19 o9 rfl) rfl rfl hl.1 rfl (lv_room (Nat.le_of_ble_eq_true rfl)) dX0_settle_114 ⟨Nat.le_of_ble_eq_true rfl, Nat.le_of_ble_eq_true rfl⟩) (fun x_22 L1 f1 H locs lx_22 ux_22 ex_22 hw => ?_)
              obtain ⟨rfl, rfl, ex_22⟩ := ex_22
              exact K114 x_22 lx_22 ux_22 trivial H locs hw
            · refine q_call_i hA hK hw (va_runU (As := [.int (iI x_20), .int (iI x_21)]) (rest := [.ref a0]) ⟨hx, hb, hml, hown, hts⟩ (c_X8_daysIn zo l D cy L0 f r_19 x_20 lx_20 ux_20 x_21 lx_21 ux_21 m_r_19 o9 hg _) (va_cwA 2 hts (gT (inU (mr17 _ (List.mem_of_getElem? (i := 11) rfl)) (mr17 _ (List.mem_of_getElem? (i := 12) rfl)) (mr18 _ (List.mem_of_getElem? (i := 2) rfl)) (mr18 _ (List.mem_of_getElem? (i := 3) rfl)) (mr12 _ (List.mem_of_getElem? (i := 15) rfl)) (mr18 _ (List.mem_of_getElem? (i := 4) rfl)))) rfl rfl rfl (hN _ (List.mem_of_getElem? (i := 17) rfl)) (by decide +kernel) ⟨Nat.le_of_ble_eq_true rfl, Nat.le_of_ble_eq_true rfl⟩) (Wd.preV zo hA hZ hw hK m_r_19 o9 rfl) rfl rfl hl.1 rfl (lv_room (Nat.le_of_ble_eq_true rfl)) dX0_settle_114 ⟨Nat.le_of_ble_eq_true rfl, Nat.le_of_ble_eq_true rfl⟩) (fun x_22 L1 f1 H locs lx_22 ux_22 ex_22 hw => ?_)
              obtain ⟨rfl, rfl, ex_22⟩ := ex_22
              exact K114 x_22 lx_22 ux_22 trivial H locs hw
          · refine q_iconst hx hb dX0_settle_98 ?_
            refine lv_goto (tgt := 117) hx hb dX0_settle_99 (by decide) ?_
            refine q_puti (ci := 0) (C := RX0) (T := TX0) (N := 15) hx hb hts (fun w h => List.mem_cons_of_mem _ (mfX00 w h)) hown hK hw m_a0 o_a0 rfl 9 (by decide) (hts _ (List.mem_cons_of_mem _ (mr14 _ (List.mem_of_getElem? (i := 22) rfl)))) (fun _ h => h) tyX0 tyX0_ok nmX0 rfl (ty := .int) (by decide +kernel) rfl rfl dX0_settle_117 (fun H locs hw => ?_)
            have oo := o_a0
            obtain ⟨f_24, ef_24⟩ : ∃ g : Nat → va_E, g = pU f a0 9 (.int (iI 0)) := ⟨_, rfl⟩
            have hX : Ex cy f f_24 := by rw [ef_24]; exact Ex_pU oo rfl rfl (by decide)
            have hg : GI cy L0 f_24 := by rw [ef_24]; exact hg.putI oo rfl ⟨by decide, by decide⟩ trivial
            rw [← ef_24] at hw
            have hE := hE.trans hX
            have o_a0 := hX.1.1 _ _ o_a0
            have vf_24 : fI f_24 a0 9 = 0 := by rw [ef_24]; exact fI_pU_self oo rfl ⟨by decide, by decide⟩
            exact q_ret_v hx hb hr hlocks hK hAe hw (Nat.le_of_ble_eq_true rfl) (Nat.le_of_ble_eq_true rfl) dX0_settle_120 (by exact ⟨rfl, hg, hE, by first | trivial | omega⟩)
        refine q_icmp_eq (tgt := 79) hx hb dX0_settle_65 (by decide) ⟨lx_8, ux_8⟩ ⟨by decide, by decide⟩ (fun c65 => ?_) (fun c65 => ?_)
        · exact J79 _ _ _ hw (lv_sub hl [0] rfl)
        · refine lv_aload_n hx hb dX0_settle_68 rfl (lv_at hl 0 rfl) ?_
          refine q_geti (ci := 0) (C := RX0) (T := TX0) (N := 15) hx hb hts (fun w h => List.mem_cons_of_mem _ (mfX00 w h)) hown hK hw m_a0 o_a0 rfl 8 (by decide) (hts _ (List.mem_cons_of_mem _ (mr14 _ (List.mem_of_getElem? (i := 21) rfl)))) (fun _ h => h) rfl dX0_settle_69 (fun x_25 lx_25 ux_25 ex_25 => ?_)
          refine lv_aload_n hx hb dX0_settle_72 rfl (lv_at hl 0 rfl) ?_
          refine q_geti (ci := 0) (C := RX0) (T := TX0) (N := 15) hx hb hts (fun w h => List.mem_cons_of_mem _ (mfX00 w h)) hown hK hw m_a0 o_a0 rfl 7 (by decide) (hts _ (List.mem_cons_of_mem _ (mr14 _ (List.mem_of_getElem? (i := 20) rfl)))) (fun _ h => h) rfl dX0_settle_73 (fun x_26 lx_26 ux_26 ex_26 => ?_)
          refine q_icmp_ge (tgt := 89) hx hb dX0_settle_76 (by decide) ⟨lx_25, ux_25⟩ ⟨lx_26, ux_26⟩ (fun c76 => ?_) (fun c76 => ?_)
          · exact J89 L0 f_7 hg hE o_a0 _ _ _ hw (lv_sub hl [0] rfl)
          · exact J79 _ _ _ hw (lv_sub hl [0] rfl)
      refine q_icmp_ne (tgt := 53) hx hb dX0_settle_39 (by decide) ⟨lx_6, ux_6⟩ ⟨by decide, by decide⟩ (fun c39 => ?_) (fun c39 => ?_)
      · refine lv_aload_n hx hb dX0_settle_53 rfl (lv_at hl 1 rfl) ?_
        refine q_call_i hA hK hw (va_runV (As := []) (rest := [.ref a0]) ⟨hx, hb, hml, hown, hts⟩ (c_X0_lastOfTimes zo l D cy L0 f_5 a0 m_a0 o_a0 hg _) (cwV 0 hts (gT (inV (mr17 _ (List.mem_of_getElem? (i := 7) rfl)) (mr17 _ (List.mem_of_getElem? (i := 8) rfl)) (mr17 _ (List.mem_of_getElem? (i := 9) rfl)) (mr2 _ (List.mem_of_getElem? (i := 9) rfl)) (mr17 _ (List.mem_of_getElem? (i := 10) rfl)))) rfl rfl rfl (by decide +kernel) ⟨Nat.le_of_ble_eq_true rfl, Nat.le_of_ble_eq_true rfl⟩) (Wd.preV zo hA hZ hw hK m_a0 o_a0 rfl) rfl rfl hl.1 rfl (lv_room (Nat.le_of_ble_eq_true rfl)) dX0_settle_54 ⟨Nat.le_of_ble_eq_true rfl, Nat.le_of_ble_eq_true rfl⟩) (fun x_27 L1 f1 H locs lx_27 ux_27 ex_27 hw => ?_)
        obtain ⟨rfl, rfl, ex_27⟩ := ex_27
        exact J57 x_27 lx_27 ux_27 _ _ _ hw (lv_sub hl [1] rfl)
      · refine lv_aload_n hx hb dX0_settle_42 rfl (lv_at hl 1 rfl) ?_
        obtain ⟨r_28, er_28, m_r_28, o_r_28⟩ := (show ∃ r, fR f_5 a0 3 = some r ∧ r ∈ L0 ∧ Rl f_5 r from hg.2.1 _ m_a0 0 3 o_a0)
        refine q_getr (ci := 0) (C := RX0) (T := TX0) (N := 15) hx hb hts (fun w h => List.mem_cons_of_mem _ (mfX00 w h)) hown hK hw m_a0 o_a0 rfl 3 (by decide) (hts _ (List.mem_cons_of_mem _ (mr3 _ (List.mem_of_getElem? (i := 4) rfl)))) (fun _ h => h) rfl er_28 dX0_settle_43 ?_
        refine lv_iload_n hx hb dX0_settle_46 rfl (lv_at hl 0 rfl) ?_
        have K47 : ∀ (x_29 : Int) (lx_29 : -2147483648 ≤ x_29) (ux_29 : x_29 ≤ 2147483647) (ex_29 : True) (H : Heap) (locs : List Loc) (hw : Wd D A s.heap L0 f_5 H locs), W p l e ({ frames := 4, cells := 0, slots := 0, locals := 92 } : Room) s m ([.ref a0] : List Value).toArray below meth c H locs (0) (0) (MQ below (Qv D (tq cy) L0 f0 s.heap.size (fun (L1 : List Nat) (f1 : Nat → va_E) => L0 = L1 ∧ GI cy L0 f1 ∧ Ex cy f0 f1 ∧ (True))) ([.ref a0] : List Value).toArray s 0 0 A) (F0 m 50 ls (.int (iI x_29) :: [.ref a0])) := by
          intro x_29 lx_29 ux_29 ex_29 H locs hw
          refine lv_goto (tgt := 57) hx hb dX0_settle_50 (by decide) ?_
          exact J57 x_29 lx_29 ux_29 _ _ _ hw (lv_sub hl [1] rfl)
        rcases o_r_28 with o9 | o9 | o9 | o9
        · refine q_call_i hA hK hw (va_runU (As := [.int (iI w0_17)]) (rest := [.ref a0]) ⟨hx, hb, hml, hown, hts⟩ (c_X2_dayTo zo l D cy L0 f_5 r_28 w0_17 lw0_17 uw0_17 m_r_28 o9 hg _) (va_cwA 1 hts (gT (inU (mr16 _ (List.mem_of_getElem? (i := 13) rfl)) (mr16 _ (List.mem_of_getElem? (i := 14) rfl)) (mr16 _ (List.mem_of_getElem? (i := 15) rfl)) (mr16 _ (List.mem_of_getElem? (i := 16) rfl)) (mr12 _ (List.mem_of_getElem? (i := 12) rfl)) (mr16 _ (List.mem_of_getElem? (i := 17) rfl)))) rfl rfl rfl (hN _ (List.mem_of_getElem? (i := 16) rfl)) (by decide +kernel) ⟨Nat.le_of_ble_eq_true rfl, Nat.le_of_ble_eq_true rfl⟩) (Wd.preV zo hA hZ hw hK m_r_28 o9 rfl) rfl rfl hl.1 rfl (lv_room (Nat.le_of_ble_eq_true rfl)) dX0_settle_47 ⟨Nat.le_of_ble_eq_true rfl, Nat.le_of_ble_eq_true rfl⟩) (fun x_29 L1 f1 H locs lx_29 ux_29 ex_29 hw => ?_)
          obtain ⟨rfl, rfl, ex_29⟩ := ex_29
          exact K47 x_29 lx_29 ux_29 trivial H locs hw
        · refine q_call_i hA hK hw (va_runU (As := [.int (iI w0_17)]) (rest := [.ref a0]) ⟨hx, hb, hml, hown, hts⟩ (c_X3_dayTo zo l D cy L0 f_5 r_28 w0_17 lw0_17 uw0_17 m_r_28 o9 hg _) (va_cwA 1 hts (gT (inU (mr16 _ (List.mem_of_getElem? (i := 13) rfl)) (mr16 _ (List.mem_of_getElem? (i := 14) rfl)) (mr16 _ (List.mem_of_getElem? (i := 18) rfl)) (mr16 _ (List.mem_of_getElem? (i := 19) rfl)) (mr12 _ (List.mem_of_getElem? (i := 18) rfl)) (mr16 _ (List.mem_of_getElem? (i := 20) rfl)))) rfl rfl rfl (hN _ (List.mem_of_getElem? (i := 16) rfl)) (by decide +kernel) ⟨Nat.le_of_ble_eq_true rfl, Nat.le_of_ble_eq_true rfl⟩) (Wd.preV zo hA hZ hw hK m_r_28 o9 rfl) rfl rfl hl.1 rfl (lv_room (Nat.le_of_ble_eq_true rfl)) dX0_settle_47 ⟨Nat.le_of_ble_eq_true rfl, Nat.le_of_ble_eq_true rfl⟩) (fun x_29 L1 f1 H locs lx_29 ux_29 ex_29 hw => ?_)
          obtain ⟨rfl, rfl, ex_29⟩ := ex_29
          exact K47 x_29 lx_29 ux_29 trivial H locs hw
        · refine q_call_i hA hK hw (va_runU (As := [.int (iI w0_17)]) (rest := [.ref a0]) ⟨hx, hb, hml, hown, hts⟩ (c_X4_dayTo zo l D cy L0 f_5 r_28 w0_17 lw0_17 uw0_17 m_r_28 o9 hg _) (va_cwA 1 hts (gT (inU (mr16 _ (List.mem_of_getElem? (i := 13) rfl)) (mr16 _ (List.mem_of_getElem? (i := 14) rfl)) (mr16 _ (List.mem_of_getElem? (i := 21) rfl)) (mr16 _ (List.mem_of_getElem? (i := 22) rfl)) (mr2 _ (List.mem_of_getElem? (i := 7) rfl)) (mr16 _ (List.mem_of_getElem? (i := 23) rfl)))) rfl rfl rfl (hN _ (List.mem_of_getElem? (i := 16) rfl)) (by decide +kernel) ⟨Nat.le_of_ble_eq_true rfl, Nat.le_of_ble_eq_true rfl⟩) (Wd.preV zo hA hZ hw hK m_r_28 o9 rfl) rfl rfl hl.1 rfl (lv_room (Nat.le_of_ble_eq_true rfl)) dX0_settle_47 ⟨Nat.le_of_ble_eq_true rfl, Nat.le_of_ble_eq_true rfl⟩) (fun x_29 L1 f1 H locs lx_29 ux_29 ex_29 hw => ?_)
          obtain ⟨rfl, rfl, ex_29⟩ := ex_29
          exact K47 x_29 lx_29 ux_29 trivial H locs hw
        · refine q_call_i hA hK hw (va_runU (As := [.int (iI w0_17)]) (rest := [.ref a0]) ⟨hx, hb, hml, hown, hts⟩ (c_X8_dayTo zo l D cy L0 f_5 r_28 w0_17 lw0_17 uw0_17 m_r_28 o9 hg _) (va_cwA 1 hts (gT (inU (mr16 _ (List.mem_of_getElem? (i := 13) rfl)) (mr16 _ (List.mem_of_getElem? (i := 14) rfl)) (mr17 _ (List.mem_of_getElem? (i := 0) rfl)) (mr17 _ (List.mem_of_getElem? (i := 1) rfl)) (mr12 _ (List.mem_of_getElem? (i := 15) rfl)) (mr17 _ (List.mem_of_getElem? (i := 2) rfl)))) rfl rfl rfl (hN _ (List.mem_of_getElem? (i := 16) rfl)) (by decide +kernel) ⟨Nat.le_of_ble_eq_true rfl, Nat.le_of_ble_eq_true rfl⟩) (Wd.preV zo hA hZ hw hK m_r_28 o9 rfl) rfl rfl hl.1 rfl (lv_room (Nat.le_of_ble_eq_true rfl)) dX0_settle_47 ⟨Nat.le_of_ble_eq_true rfl, Nat.le_of_ble_eq_true rfl⟩) (fun x_29 L1 f1 H locs lx_29 ux_29 ex_29 hw => ?_)
          obtain ⟨rfl, rfl, ex_29⟩ := ex_29
          exact K47 x_29 lx_29 ux_29 trivial H locs hw
    rcases o_r_2 with o9 | o9 | o9 | o9
    · refine q_call_i hA hK hw (va_runU (As := [.int (iI x_3)]) (rest := [.ref a0]) ⟨hx, hb, hml, hown, hts⟩ (c_X2_dayFrom zo l D cy L0 f0 r_2 x_3 lx_3 ux_3 m_r_2 o9 hg _) (va_cwA 1 hts (gT (inU (mr14 _ (List.mem_of_getElem? (i := 23) rfl)) (mr15 _ (List.mem_of_getElem? (i := 0) rfl)) (mr15 _ (List.mem_of_getElem? (i := 1) rfl)) (mr15 _ (List.mem_of_getElem? (i := 2) rfl)) (mr12 _ (List.mem_of_getElem? (i := 12) rfl)) (mr15 _ (List.mem_of_getElem? (i := 3) rfl)))) rfl rfl rfl (hN _ (List.mem_of_getElem? (i := 15) rfl)) (by decide +kernel) ⟨Nat.le_of_ble_eq_true rfl, Nat.le_of_ble_eq_true rfl⟩) (Wd.preV zo hA hZ hw hK m_r_2 o9 rfl) rfl rfl hl.1 rfl (lv_room (Nat.le_of_ble_eq_true rfl)) dX0_settle_27 ⟨Nat.le_of_ble_eq_true rfl, Nat.le_of_ble_eq_true rfl⟩) (fun x_4 L1 f1 H locs lx_4 ux_4 ex_4 hw => ?_)
      obtain ⟨rfl, rfl, ex_4⟩ := ex_4
      exact K27 x_4 lx_4 ux_4 trivial H locs hw
    · refine q_call_i hA hK hw (va_runU (As := [.int (iI x_3)]) (rest := [.ref a0]) ⟨hx, hb, hml, hown, hts⟩ (c_X3_dayFrom zo l D cy L0 f0 r_2 x_3 lx_3 ux_3 m_r_2 o9 hg _) (va_cwA 1 hts (gT (inU (mr14 _ (List.mem_of_getElem? (i := 23) rfl)) (mr15 _ (List.mem_of_getElem? (i := 0) rfl)) (mr15 _ (List.mem_of_getElem? (i := 7) rfl)) (mr15 _ (List.mem_of_getElem? (i := 8) rfl)) (mr12 _ (List.mem_of_getElem? (i := 18) rfl)) (mr15 _ (List.mem_of_getElem? (i := 9) rfl)))) rfl rfl rfl (hN _ (List.mem_of_getElem? (i := 15) rfl)) (by decide +kernel) ⟨Nat.le_of_ble_eq_true rfl, Nat.le_of_ble_eq_true rfl⟩) (Wd.preV zo hA hZ hw hK m_r_2 o9 rfl) rfl rfl hl.1 rfl (lv_room (Nat.le_of_ble_eq_true rfl)) dX0_settle_27 ⟨Nat.le_of_ble_eq_true rfl, Nat.le_of_ble_eq_true rfl⟩) (fun x_4 L1 f1 H locs lx_4 ux_4 ex_4 hw => ?_)
      obtain ⟨rfl, rfl, ex_4⟩ := ex_4
      exact K27 x_4 lx_4 ux_4 trivial H locs hw
    · refine q_call_i hA hK hw (va_runU (As := [.int (iI x_3)]) (rest := [.ref a0]) ⟨hx, hb, hml, hown, hts⟩ (c_X4_dayFrom zo l D cy L0 f0 r_2 x_3 lx_3 ux_3 m_r_2 o9 hg _) (va_cwA 1 hts (gT (inU (mr14 _ (List.mem_of_getElem? (i := 23) rfl)) (mr15 _ (List.mem_of_getElem? (i := 0) rfl)) (mr15 _ (List.mem_of_getElem? (i := 22) rfl)) (mr15 _ (List.mem_of_getElem? (i := 23) rfl)) (mr2 _ (List.mem_of_getElem? (i := 7) rfl)) (mr16 _ (List.mem_of_getElem? (i := 0) rfl)))) rfl rfl rfl (hN _ (List.mem_of_getElem? (i := 15) rfl)) (by decide +kernel) ⟨Nat.le_of_ble_eq_true rfl, Nat.le_of_ble_eq_true rfl⟩) (Wd.preV zo hA hZ hw hK m_r_2 o9 rfl) rfl rfl hl.1 rfl (lv_room (Nat.le_of_ble_eq_true rfl)) dX0_settle_27 ⟨Nat.le_of_ble_eq_true rfl, Nat.le_of_ble_eq_true rfl⟩) (fun x_4 L1 f1 H locs lx_4 ux_4 ex_4 hw => ?_)
      obtain ⟨rfl, rfl, ex_4⟩ := ex_4
      exact K27 x_4 lx_4 ux_4 trivial H locs hw
    · refine q_call_i hA hK hw (va_runU (As := [.int (iI x_3)]) (rest := [.ref a0]) ⟨hx, hb, hml, hown, hts⟩ (c_X8_dayFrom zo l D cy L0 f0 r_2 x_3 lx_3 ux_3 m_r_2 o9 hg _) (va_cwA 1 hts (gT (inU (mr14 _ (List.mem_of_getElem? (i := 23) rfl)) (mr15 _ (List.mem_of_getElem? (i := 0) rfl)) (mr16 _ (List.mem_of_getElem? (i := 3) rfl)) (mr16 _ (List.mem_of_getElem? (i := 4) rfl)) (mr12 _ (List.mem_of_getElem? (i := 15) rfl)) (mr16 _ (List.mem_of_getElem? (i := 5) rfl)))) rfl rfl rfl (hN _ (List.mem_of_getElem? (i := 15) rfl)) (by decide +kernel) ⟨Nat.le_of_ble_eq_true rfl, Nat.le_of_ble_eq_true rfl⟩) (Wd.preV zo hA hZ hw hK m_r_2 o9 rfl) rfl rfl hl.1 rfl (lv_room (Nat.le_of_ble_eq_true rfl)) dX0_settle_27 ⟨Nat.le_of_ble_eq_true rfl, Nat.le_of_ble_eq_true rfl⟩) (fun x_4 L1 f1 H locs lx_4 ux_4 ex_4 hw => ?_)
      obtain ⟨rfl, rfl, ex_4⟩ := ex_4
      exact K27 x_4 lx_4 ux_4 trivial H locs hw
  refine q_icmp_ne (tgt := 13) hx hb dX0_settle_5 (by decide) ⟨lx_1, ux_1⟩ ⟨by decide, by decide⟩ (fun c5 => ?_) (fun c5 => ?_)
  · refine lv_aload_n hx hb dX0_settle_13 rfl (lv_at hl 0 rfl) ?_
    refine q_geti (ci := 0) (C := RX0) (T := TX0) (N := 15) hx hb hts (fun w h => List.mem_cons_of_mem _ (mfX00 w h)) hown hK hw m_a0 o_a0 rfl 4 (by decide) (hts _ (List.mem_cons_of_mem _ (mr14 _ (List.mem_of_getElem? (i := 7) rfl)))) (fun _ h => h) rfl dX0_settle_14 (fun x_30 lx_30 ux_30 ex_30 => ?_)
    exact J17 x_30 lx_30 ux_30 _ _ _ hw (lv_sub hl [0] rfl)
  · refine q_ldc (n := 36524) hx hb hown (hts _ (List.mem_cons_of_mem _ (mr14 _ (List.mem_of_getElem? (i := 19) rfl)))) rfl dX0_settle_8 ?_
    refine lv_goto (tgt := 17) hx hb dX0_settle_10 (by decide) ?_
    exact J17 36524 (by decide) (by decide) _ _ _ hw (lv_sub hl [0] rfl)
set_option maxHeartbeats 4000000 in
set_option maxRecDepth 100000 in
theorem c_X0_begin {Z : Zt} (zo : Zok Z) (l : Launch) (D : va_G) (cy : Cy) (L0 : List Nat) (f0 : Nat → va_E) (a0 : Nat) (a1 : Nat) (m_a0 : a0 ∈ L0) (o_a0 : Ob f0 a0 0) (m_a1 : a1 ∈ L0) (o_a1 : Rl f0 a1) (hg : GI cy L0 f0) : Cv Z l yX0_begin (Cond.code yX0_begin cX0_begin 2 none :: TB) ({ frames := 0, cells := 0, slots := 0, locals := 0 } : Room) 0 0 D (tq cy) [.ref a0, .ref a1] L0 f0 (fun (L1 : List Nat) (f1 : Nat → va_E) => L0 = L1 ∧ GI cy L0 f1 ∧ Ex cy f0 f1 ∧ (True)) := by
  refine Cv.enter (cc := cX0_begin) (n := 2) rfl (plainFor_of_name (by decide)) (Nat.le_of_ble_eq_true rfl) ?_
  intro p e s m below meth c ls A hx hb hr hts hown hlocks hnm hml hK hA hAe hw hZ hl
  have hown : s.vm.findClass RX0 = some m.cls := hown
  have hl : lv_has ls 2 [(0, .ref a0), (1, .ref a1)] := hl
  have hN : ZN s := (zo.2.2.2.2 _ _ _ hZ).2
  have hE : Ex cy f0 f0 := Ex.refl cy f0
  refine lv_aload_n hx hb dX0_begin_0 rfl (lv_at hl 0 rfl) ?_
  refine lv_aload_n hx hb dX0_begin_1 rfl (lv_at hl 1 rfl) ?_
  refine q_putr (ci := 0) (C := RX0) (T := TX0) (N := 15) hx hb hts (fun w h => List.mem_cons_of_mem _ (mfX00 w h)) hown hK hw m_a0 o_a0 rfl 3 (by decide) (hts _ (List.mem_cons_of_mem _ (mr3 _ (List.mem_of_getElem? (i := 4) rfl)))) (fun _ h => h) tyX0 tyX0_ok nmX0 rfl (ty := tyX0 3) (by decide +kernel) rfl rfl rfl dX0_begin_2 (fun H locs hw => ?_)
  have oo := o_a0
  obtain ⟨f_1, ef_1⟩ : ∃ g : Nat → va_E, g = pU f0 a0 3 (.ref a1) := ⟨_, rfl⟩
  have hX : Ex cy f0 f_1 := by rw [ef_1]; exact Ex_pU oo rfl rfl (by decide)
  have hg : GI cy L0 f_1 := by rw [ef_1]; exact hg.putR oo rfl ⟨a1, rfl, m_a1, o_a1⟩
  rw [← ef_1] at hw
  have hE := hE.trans hX
  have o_a0 := hX.1.1 _ _ o_a0
  have o_a1 := Rl.mono hX.1 o_a1
  refine lv_aload_n hx hb dX0_begin_5 rfl (lv_at hl 0 rfl) ?_
  refine lv_aload_n hx hb dX0_begin_6 rfl (lv_at hl 1 rfl) ?_
  have K7 : ∀ (x_2 : Int) (lx_2 : -2147483648 ≤ x_2) (ux_2 : x_2 ≤ 2147483647) (H : Heap) (locs : List Loc) (hw : Wd D A s.heap L0 f_1 H locs), W p l e ({ frames := 0, cells := 0, slots := 0, locals := 0 } : Room) s m ([.ref a0, .ref a1] : List Value).toArray below meth c H locs (0) (0) (MQ below (Qv D (tq cy) L0 f0 s.heap.size (fun (L1 : List Nat) (f1 : Nat → va_E) => L0 = L1 ∧ GI cy L0 f1 ∧ Ex cy f0 f1 ∧ (True))) ([.ref a0, .ref a1] : List Value).toArray s 0 0 A) (F0 m 10 ls (.int (iI x_2) :: [.ref a0])) := by
    intro x_2 lx_2 ux_2 H locs hw
    refine q_puti (ci := 0) (C := RX0) (T := TX0) (N := 15) hx hb hts (fun w h => List.mem_cons_of_mem _ (mfX00 w h)) hown hK hw m_a0 o_a0 rfl 6 (by decide) (hts _ (List.mem_cons_of_mem _ (mr14 _ (List.mem_of_getElem? (i := 6) rfl)))) (fun _ h => h) tyX0 tyX0_ok nmX0 rfl (ty := .int) (by decide +kernel) rfl rfl dX0_begin_10 (fun H locs hw => ?_)
    have oo := o_a0
    obtain ⟨f_3, ef_3⟩ : ∃ g : Nat → va_E, g = pU f_1 a0 6 (.int (iI x_2)) := ⟨_, rfl⟩
    have hX : Ex cy f_1 f_3 := by rw [ef_3]; exact Ex_pU oo rfl rfl (by decide)
    have hg : GI cy L0 f_3 := by rw [ef_3]; exact hg.putI oo rfl ⟨lx_2, ux_2⟩ trivial
    rw [← ef_3] at hw
    have hE := hE.trans hX
    have o_a0 := hX.1.1 _ _ o_a0
    have o_a1 := Rl.mono hX.1 o_a1
    have vf_3 : fI f_3 a0 6 = x_2 := by rw [ef_3]; exact fI_pU_self oo rfl ⟨lx_2, ux_2⟩
    refine lv_aload_n hx hb dX0_begin_13 rfl (lv_at hl 0 rfl) ?_
    refine q_iconst hx hb dX0_begin_14 ?_
    refine q_puti (ci := 0) (C := RX0) (T := TX0) (N := 15) hx hb hts (fun w h => List.mem_cons_of_mem _ (mfX00 w h)) hown hK hw m_a0 o_a0 rfl 4 (by decide) (hts _ (List.mem_cons_of_mem _ (mr14 _ (List.mem_of_getElem? (i := 7) rfl)))) (fun _ h => h) tyX0 tyX0_ok nmX0 rfl (ty := .int) (by decide +kernel) rfl rfl dX0_begin_15 (fun H locs hw => ?_)
    have oo := o_a0
    obtain ⟨f_4, ef_4⟩ : ∃ g : Nat → va_E, g = pU f_3 a0 4 (.int (iI ((-1)))) := ⟨_, rfl⟩
    have hX : Ex cy f_3 f_4 := by rw [ef_4]; exact Ex_pU oo rfl rfl (by decide)
    have hg : GI cy L0 f_4 := by rw [ef_4]; exact hg.putI oo rfl ⟨by decide, by decide⟩ trivial
    rw [← ef_4] at hw
    have hE := hE.trans hX
    have o_a0 := hX.1.1 _ _ o_a0
    have o_a1 := Rl.mono hX.1 o_a1
    have vf_4 : fI f_4 a0 4 = ((-1)) := by rw [ef_4]; exact fI_pU_self oo rfl ⟨by decide, by decide⟩
    refine lv_aload_n hx hb dX0_begin_18 rfl (lv_at hl 0 rfl) ?_
    refine q_iconst hx hb dX0_begin_19 ?_
    refine q_puti (ci := 0) (C := RX0) (T := TX0) (N := 15) hx hb hts (fun w h => List.mem_cons_of_mem _ (mfX00 w h)) hown hK hw m_a0 o_a0 rfl 5 (by decide) (hts _ (List.mem_cons_of_mem _ (mr14 _ (List.mem_of_getElem? (i := 8) rfl)))) (fun _ h => h) tyX0 tyX0_ok nmX0 rfl (ty := .int) (by decide +kernel) rfl rfl dX0_begin_20 (fun H locs hw => ?_)
    have oo := o_a0
    obtain ⟨f_5, ef_5⟩ : ∃ g : Nat → va_E, g = pU f_4 a0 5 (.int (iI ((-1)))) := ⟨_, rfl⟩
    have hX : Ex cy f_4 f_5 := by rw [ef_5]; exact Ex_pU oo rfl rfl (by decide)
    have hg : GI cy L0 f_5 := by rw [ef_5]; exact hg.putI oo rfl ⟨by decide, by decide⟩ trivial
    rw [← ef_5] at hw
    have hE := hE.trans hX
    have o_a0 := hX.1.1 _ _ o_a0
    have o_a1 := Rl.mono hX.1 o_a1
    have vf_5 : fI f_5 a0 5 = ((-1)) := by rw [ef_5]; exact fI_pU_self oo rfl ⟨by decide, by decide⟩
    refine lv_aload_n hx hb dX0_begin_23 rfl (lv_at hl 0 rfl) ?_
    refine q_iconst hx hb dX0_begin_24 ?_
    refine q_puti (ci := 0) (C := RX0) (T := TX0) (N := 15) hx hb hts (fun w h => List.mem_cons_of_mem _ (mfX00 w h)) hown hK hw m_a0 o_a0 rfl 10 (by decide) (hts _ (List.mem_cons_of_mem _ (mr14 _ (List.mem_of_getElem? (i := 9) rfl)))) (fun _ h => h) tyX0 tyX0_ok nmX0 rfl (ty := .int) (by decide +kernel) rfl rfl dX0_begin_25 (fun H locs hw => ?_)
    have oo := o_a0
    obtain ⟨f_6, ef_6⟩ : ∃ g : Nat → va_E, g = pU f_5 a0 10 (.int (iI 0)) := ⟨_, rfl⟩
    have hX : Ex cy f_5 f_6 := by rw [ef_6]; exact Ex_pU oo rfl rfl (by decide)
    have hg : GI cy L0 f_6 := by rw [ef_6]; exact hg.putI oo rfl ⟨by decide, by decide⟩ (by show 0 ≤ 0 ∧ 0 ≤ 16; omega)
    rw [← ef_6] at hw
    have hE := hE.trans hX
    have o_a0 := hX.1.1 _ _ o_a0
    have o_a1 := Rl.mono hX.1 o_a1
    have vf_6 : fI f_6 a0 10 = 0 := by rw [ef_6]; exact fI_pU_self oo rfl ⟨by decide, by decide⟩
    exact q_ret_v hx hb hr hlocks hK hAe hw (Nat.le_of_ble_eq_true rfl) (Nat.le_of_ble_eq_true rfl) dX0_begin_28 (by exact ⟨rfl, hg, hE, by first | trivial | omega⟩)
  rcases o_a1 with o9 | o9 | o9 | o9
  · exact q_geti (ci := 1) (C := RX2) (T := TX2) (N := 4) hx hb hts (fun w h => List.mem_cons_of_mem _ (mfX20 w h)) hown hK hw m_a1 o9 rfl 2 (by decide) (hts _ (List.mem_cons_of_mem _ (mr14 _ (List.mem_of_getElem? (i := 5) rfl)))) (fun _ h => h) rfl dX0_begin_7 (fun x_2 lx_2 ux_2 _ => K7 x_2 lx_2 ux_2 _ _ hw)
  · exact q_geti (ci := 2) (C := RX3) (T := TX3) (N := 7) hx hb hts (fun w h => List.mem_cons_of_mem _ (mfX30 w h)) hown hK hw m_a1 o9 rfl 2 (by decide) (hts _ (List.mem_cons_of_mem _ (mr14 _ (List.mem_of_getElem? (i := 5) rfl)))) (fun _ h => h) rfl dX0_begin_7 (fun x_2 lx_2 ux_2 _ => K7 x_2 lx_2 ux_2 _ _ hw)
  · exact q_geti (ci := 3) (C := RX4) (T := TX4) (N := 3) hx hb hts (fun w h => List.mem_cons_of_mem _ (mfX40 w h)) hown hK hw m_a1 o9 rfl 2 (by decide) (hts _ (List.mem_cons_of_mem _ (mr14 _ (List.mem_of_getElem? (i := 5) rfl)))) (fun _ h => h) rfl dX0_begin_7 (fun x_2 lx_2 ux_2 _ => K7 x_2 lx_2 ux_2 _ _ hw)
  · exact q_geti (ci := 6) (C := RX8) (T := TX8) (N := 6) hx hb hts (fun w h => List.mem_cons_of_mem _ (mfX80 w h)) hown hK hw m_a1 o9 rfl 2 (by decide) (hts _ (List.mem_cons_of_mem _ (mr14 _ (List.mem_of_getElem? (i := 5) rfl)))) (fun _ h => h) rfl dX0_begin_7 (fun x_2 lx_2 ux_2 _ => K7 x_2 lx_2 ux_2 _ _ hw)
set_option maxHeartbeats 4000000 in
set_option maxRecDepth 100000 in
theorem c_X0_copyFrom {Z : Zt} (zo : Zok Z) (l : Launch) (D : va_G) (cy : Cy) (L0 : List Nat) (f0 : Nat → va_E) (a0 : Nat) (a1 : Nat) (m_a0 : a0 ∈ L0) (o_a0 : Ob f0 a0 0) (m_a1 : a1 ∈ L0) (o_a1 : Ob f0 a1 0) (hg : GI cy L0 f0) : Cv Z l yX0_copyFrom (Cond.code yX0_copyFrom cX0_copyFrom 2 none :: TB) ({ frames := 1, cells := 0, slots := 0, locals := 60 } : Room) 0 0 D (tq cy) [.ref a0, .ref a1] L0 f0 (fun (L1 : List Nat) (f1 : Nat → va_E) => L0 = L1 ∧ GI cy L0 f1 ∧ Ex cy f0 f1 ∧ (True)) := by
  refine Cv.enter (cc := cX0_copyFrom) (n := 2) rfl (plainFor_of_name (by decide)) (Nat.le_of_ble_eq_true rfl) ?_
  intro p e s m below meth c ls A hx hb hr hts hown hlocks hnm hml hK hA hAe hw hZ hl
  have hown : s.vm.findClass RX0 = some m.cls := hown
  have hl : lv_has ls 2 [(0, .ref a0), (1, .ref a1)] := hl
  have hN : ZN s := (zo.2.2.2.2 _ _ _ hZ).2
  have hE : Ex cy f0 f0 := Ex.refl cy f0
  refine lv_aload_n hx hb dX0_copyFrom_0 rfl (lv_at hl 0 rfl) ?_
  refine lv_aload_n hx hb dX0_copyFrom_1 rfl (lv_at hl 1 rfl) ?_
  refine q_geti (ci := 0) (C := RX0) (T := TX0) (N := 15) hx hb hts (fun w h => List.mem_cons_of_mem _ (mfX00 w h)) hown hK hw m_a1 o_a1 rfl 0 (by decide) (hts _ (List.mem_cons_of_mem _ (mr40 _ (List.mem_of_getElem? (i := 19) rfl)))) (fun _ h => h) rfl dX0_copyFrom_2 (fun x_1 lx_1 ux_1 ex_1 => ?_)
  refine q_puti (ci := 0) (C := RX0) (T := TX0) (N := 15) hx hb hts (fun w h => List.mem_cons_of_mem _ (mfX00 w h)) hown hK hw m_a0 o_a0 rfl 0 (by decide) (hts _ (List.mem_cons_of_mem _ (mr40 _ (List.mem_of_getElem? (i := 19) rfl)))) (fun _ h => h) tyX0 tyX0_ok nmX0 rfl (ty := .int) (by decide +kernel) rfl rfl dX0_copyFrom_5 (fun H locs hw => ?_)
  have oo := o_a0
  obtain ⟨f_2, ef_2⟩ : ∃ g : Nat → va_E, g = pU f0 a0 0 (.int (iI x_1)) := ⟨_, rfl⟩
  have hX : Ex cy f0 f_2 := by rw [ef_2]; exact Ex_pU oo rfl rfl (by decide)
  have hg : GI cy L0 f_2 := by rw [ef_2]; exact hg.putI oo rfl ⟨lx_1, ux_1⟩ trivial
  rw [← ef_2] at hw
  have hE := hE.trans hX
  have o_a0 := hX.1.1 _ _ o_a0
  have o_a1 := hX.1.1 _ _ o_a1
  have vf_2 : fI f_2 a0 0 = x_1 := by rw [ef_2]; exact fI_pU_self oo rfl ⟨lx_1, ux_1⟩
  refine lv_aload_n hx hb dX0_copyFrom_8 rfl (lv_at hl 0 rfl) ?_
  refine lv_aload_n hx hb dX0_copyFrom_9 rfl (lv_at hl 1 rfl) ?_
  refine q_geti (ci := 0) (C := RX0) (T := TX0) (N := 15) hx hb hts (fun w h => List.mem_cons_of_mem _ (mfX00 w h)) hown hK hw m_a1 o_a1 rfl 1 (by decide) (hts _ (List.mem_cons_of_mem _ (mr29 _ (List.mem_of_getElem? (i := 18) rfl)))) (fun _ h => h) rfl dX0_copyFrom_10 (fun x_3 lx_3 ux_3 ex_3 => ?_)
  refine q_puti (ci := 0) (C := RX0) (T := TX0) (N := 15) hx hb hts (fun w h => List.mem_cons_of_mem _ (mfX00 w h)) hown hK hw m_a0 o_a0 rfl 1 (by decide) (hts _ (List.mem_cons_of_mem _ (mr29 _ (List.mem_of_getElem? (i := 18) rfl)))) (fun _ h => h) tyX0 tyX0_ok nmX0 rfl (ty := .int) (by decide +kernel) rfl rfl dX0_copyFrom_13 (fun H locs hw => ?_)
  have oo := o_a0
  obtain ⟨f_4, ef_4⟩ : ∃ g : Nat → va_E, g = pU f_2 a0 1 (.int (iI x_3)) := ⟨_, rfl⟩
  have hX : Ex cy f_2 f_4 := by rw [ef_4]; exact Ex_pU oo rfl rfl (by decide)
  have hg : GI cy L0 f_4 := by rw [ef_4]; exact hg.putI oo rfl ⟨lx_3, ux_3⟩ trivial
  rw [← ef_4] at hw
  have hE := hE.trans hX
  have o_a0 := hX.1.1 _ _ o_a0
  have o_a1 := hX.1.1 _ _ o_a1
  have vf_4 : fI f_4 a0 1 = x_3 := by rw [ef_4]; exact fI_pU_self oo rfl ⟨lx_3, ux_3⟩
  refine lv_aload_n hx hb dX0_copyFrom_16 rfl (lv_at hl 0 rfl) ?_
  refine lv_aload_n hx hb dX0_copyFrom_17 rfl (lv_at hl 1 rfl) ?_
  refine q_geti (ci := 0) (C := RX0) (T := TX0) (N := 15) hx hb hts (fun w h => List.mem_cons_of_mem _ (mfX00 w h)) hown hK hw m_a1 o_a1 rfl 2 (by decide) (hts _ (List.mem_cons_of_mem _ (mr35 _ (List.mem_of_getElem? (i := 12) rfl)))) (fun _ h => h) rfl dX0_copyFrom_18 (fun x_5 lx_5 ux_5 ex_5 => ?_)
  refine q_puti (ci := 0) (C := RX0) (T := TX0) (N := 15) hx hb hts (fun w h => List.mem_cons_of_mem _ (mfX00 w h)) hown hK hw m_a0 o_a0 rfl 2 (by decide) (hts _ (List.mem_cons_of_mem _ (mr35 _ (List.mem_of_getElem? (i := 12) rfl)))) (fun _ h => h) tyX0 tyX0_ok nmX0 rfl (ty := .int) (by decide +kernel) rfl rfl dX0_copyFrom_21 (fun H locs hw => ?_)
  have oo := o_a0
  obtain ⟨f_6, ef_6⟩ : ∃ g : Nat → va_E, g = pU f_4 a0 2 (.int (iI x_5)) := ⟨_, rfl⟩
  have hX : Ex cy f_4 f_6 := by rw [ef_6]; exact Ex_pU oo rfl rfl (by decide)
  have hg : GI cy L0 f_6 := by rw [ef_6]; exact hg.putI oo rfl ⟨lx_5, ux_5⟩ trivial
  rw [← ef_6] at hw
  have hE := hE.trans hX
  have o_a0 := hX.1.1 _ _ o_a0
  have o_a1 := hX.1.1 _ _ o_a1
  have vf_6 : fI f_6 a0 2 = x_5 := by rw [ef_6]; exact fI_pU_self oo rfl ⟨lx_5, ux_5⟩
  refine lv_aload_n hx hb dX0_copyFrom_24 rfl (lv_at hl 0 rfl) ?_
  refine lv_aload_n hx hb dX0_copyFrom_25 rfl (lv_at hl 1 rfl) ?_
  obtain ⟨r_7, er_7, m_r_7, o_r_7⟩ := (show ∃ r, fR f_6 a1 3 = some r ∧ r ∈ L0 ∧ Rl f_6 r from hg.2.1 _ m_a1 0 3 o_a1)
  refine q_getr (ci := 0) (C := RX0) (T := TX0) (N := 15) hx hb hts (fun w h => List.mem_cons_of_mem _ (mfX00 w h)) hown hK hw m_a1 o_a1 rfl 3 (by decide) (hts _ (List.mem_cons_of_mem _ (mr3 _ (List.mem_of_getElem? (i := 4) rfl)))) (fun _ h => h) rfl er_7 dX0_copyFrom_26 ?_
  refine q_putr (ci := 0) (C := RX0) (T := TX0) (N := 15) hx hb hts (fun w h => List.mem_cons_of_mem _ (mfX00 w h)) hown hK hw m_a0 o_a0 rfl 3 (by decide) (hts _ (List.mem_cons_of_mem _ (mr3 _ (List.mem_of_getElem? (i := 4) rfl)))) (fun _ h => h) tyX0 tyX0_ok nmX0 rfl (ty := tyX0 3) (by decide +kernel) rfl rfl rfl dX0_copyFrom_29 (fun H locs hw => ?_)
  have oo := o_a0
  obtain ⟨f_8, ef_8⟩ : ∃ g : Nat → va_E, g = pU f_6 a0 3 (.ref r_7) := ⟨_, rfl⟩
  have hX : Ex cy f_6 f_8 := by rw [ef_8]; exact Ex_pU oo rfl rfl (by decide)
  have hg : GI cy L0 f_8 := by rw [ef_8]; exact hg.putR oo rfl ⟨r_7, rfl, m_r_7, o_r_7⟩
  rw [← ef_8] at hw
  have hE := hE.trans hX
  have o_a0 := hX.1.1 _ _ o_a0
  have o_a1 := hX.1.1 _ _ o_a1
  refine lv_aload_n hx hb dX0_copyFrom_32 rfl (lv_at hl 0 rfl) ?_
  refine lv_aload_n hx hb dX0_copyFrom_33 rfl (lv_at hl 1 rfl) ?_
  refine q_geti (ci := 0) (C := RX0) (T := TX0) (N := 15) hx hb hts (fun w h => List.mem_cons_of_mem _ (mfX00 w h)) hown hK hw m_a1 o_a1 rfl 4 (by decide) (hts _ (List.mem_cons_of_mem _ (mr14 _ (List.mem_of_getElem? (i := 7) rfl)))) (fun _ h => h) rfl dX0_copyFrom_34 (fun x_9 lx_9 ux_9 ex_9 => ?_)
  refine q_puti (ci := 0) (C := RX0) (T := TX0) (N := 15) hx hb hts (fun w h => List.mem_cons_of_mem _ (mfX00 w h)) hown hK hw m_a0 o_a0 rfl 4 (by decide) (hts _ (List.mem_cons_of_mem _ (mr14 _ (List.mem_of_getElem? (i := 7) rfl)))) (fun _ h => h) tyX0 tyX0_ok nmX0 rfl (ty := .int) (by decide +kernel) rfl rfl dX0_copyFrom_37 (fun H locs hw => ?_)
  have oo := o_a0
  obtain ⟨f_10, ef_10⟩ : ∃ g : Nat → va_E, g = pU f_8 a0 4 (.int (iI x_9)) := ⟨_, rfl⟩
  have hX : Ex cy f_8 f_10 := by rw [ef_10]; exact Ex_pU oo rfl rfl (by decide)
  have hg : GI cy L0 f_10 := by rw [ef_10]; exact hg.putI oo rfl ⟨lx_9, ux_9⟩ trivial
  rw [← ef_10] at hw
  have hE := hE.trans hX
  have o_a0 := hX.1.1 _ _ o_a0
  have o_a1 := hX.1.1 _ _ o_a1
  have vf_10 : fI f_10 a0 4 = x_9 := by rw [ef_10]; exact fI_pU_self oo rfl ⟨lx_9, ux_9⟩
  refine lv_aload_n hx hb dX0_copyFrom_40 rfl (lv_at hl 0 rfl) ?_
  refine lv_aload_n hx hb dX0_copyFrom_41 rfl (lv_at hl 1 rfl) ?_
  refine q_geti (ci := 0) (C := RX0) (T := TX0) (N := 15) hx hb hts (fun w h => List.mem_cons_of_mem _ (mfX00 w h)) hown hK hw m_a1 o_a1 rfl 5 (by decide) (hts _ (List.mem_cons_of_mem _ (mr14 _ (List.mem_of_getElem? (i := 8) rfl)))) (fun _ h => h) rfl dX0_copyFrom_42 (fun x_11 lx_11 ux_11 ex_11 => ?_)
  refine q_puti (ci := 0) (C := RX0) (T := TX0) (N := 15) hx hb hts (fun w h => List.mem_cons_of_mem _ (mfX00 w h)) hown hK hw m_a0 o_a0 rfl 5 (by decide) (hts _ (List.mem_cons_of_mem _ (mr14 _ (List.mem_of_getElem? (i := 8) rfl)))) (fun _ h => h) tyX0 tyX0_ok nmX0 rfl (ty := .int) (by decide +kernel) rfl rfl dX0_copyFrom_45 (fun H locs hw => ?_)
  have oo := o_a0
  obtain ⟨f_12, ef_12⟩ : ∃ g : Nat → va_E, g = pU f_10 a0 5 (.int (iI x_11)) := ⟨_, rfl⟩
  have hX : Ex cy f_10 f_12 := by rw [ef_12]; exact Ex_pU oo rfl rfl (by decide)
  have hg : GI cy L0 f_12 := by rw [ef_12]; exact hg.putI oo rfl ⟨lx_11, ux_11⟩ trivial
  rw [← ef_12] at hw
  have hE := hE.trans hX
  have o_a0 := hX.1.1 _ _ o_a0
  have o_a1 := hX.1.1 _ _ o_a1
  have vf_12 : fI f_12 a0 5 = x_11 := by rw [ef_12]; exact fI_pU_self oo rfl ⟨lx_11, ux_11⟩
  refine lv_aload_n hx hb dX0_copyFrom_48 rfl (lv_at hl 0 rfl) ?_
  refine lv_aload_n hx hb dX0_copyFrom_49 rfl (lv_at hl 1 rfl) ?_
  refine q_geti (ci := 0) (C := RX0) (T := TX0) (N := 15) hx hb hts (fun w h => List.mem_cons_of_mem _ (mfX00 w h)) hown hK hw m_a1 o_a1 rfl 6 (by decide) (hts _ (List.mem_cons_of_mem _ (mr14 _ (List.mem_of_getElem? (i := 6) rfl)))) (fun _ h => h) rfl dX0_copyFrom_50 (fun x_13 lx_13 ux_13 ex_13 => ?_)
  refine q_puti (ci := 0) (C := RX0) (T := TX0) (N := 15) hx hb hts (fun w h => List.mem_cons_of_mem _ (mfX00 w h)) hown hK hw m_a0 o_a0 rfl 6 (by decide) (hts _ (List.mem_cons_of_mem _ (mr14 _ (List.mem_of_getElem? (i := 6) rfl)))) (fun _ h => h) tyX0 tyX0_ok nmX0 rfl (ty := .int) (by decide +kernel) rfl rfl dX0_copyFrom_53 (fun H locs hw => ?_)
  have oo := o_a0
  obtain ⟨f_14, ef_14⟩ : ∃ g : Nat → va_E, g = pU f_12 a0 6 (.int (iI x_13)) := ⟨_, rfl⟩
  have hX : Ex cy f_12 f_14 := by rw [ef_14]; exact Ex_pU oo rfl rfl (by decide)
  have hg : GI cy L0 f_14 := by rw [ef_14]; exact hg.putI oo rfl ⟨lx_13, ux_13⟩ trivial
  rw [← ef_14] at hw
  have hE := hE.trans hX
  have o_a0 := hX.1.1 _ _ o_a0
  have o_a1 := hX.1.1 _ _ o_a1
  have vf_14 : fI f_14 a0 6 = x_13 := by rw [ef_14]; exact fI_pU_self oo rfl ⟨lx_13, ux_13⟩
  refine lv_aload_n hx hb dX0_copyFrom_56 rfl (lv_at hl 0 rfl) ?_
  refine lv_aload_n hx hb dX0_copyFrom_57 rfl (lv_at hl 1 rfl) ?_
  refine q_geti (ci := 0) (C := RX0) (T := TX0) (N := 15) hx hb hts (fun w h => List.mem_cons_of_mem _ (mfX00 w h)) hown hK hw m_a1 o_a1 rfl 7 (by decide) (hts _ (List.mem_cons_of_mem _ (mr14 _ (List.mem_of_getElem? (i := 20) rfl)))) (fun _ h => h) rfl dX0_copyFrom_58 (fun x_15 lx_15 ux_15 ex_15 => ?_)
  refine q_puti (ci := 0) (C := RX0) (T := TX0) (N := 15) hx hb hts (fun w h => List.mem_cons_of_mem _ (mfX00 w h)) hown hK hw m_a0 o_a0 rfl 7 (by decide) (hts _ (List.mem_cons_of_mem _ (mr14 _ (List.mem_of_getElem? (i := 20) rfl)))) (fun _ h => h) tyX0 tyX0_ok nmX0 rfl (ty := .int) (by decide +kernel) rfl rfl dX0_copyFrom_61 (fun H locs hw => ?_)
  have oo := o_a0
  obtain ⟨f_16, ef_16⟩ : ∃ g : Nat → va_E, g = pU f_14 a0 7 (.int (iI x_15)) := ⟨_, rfl⟩
  have hX : Ex cy f_14 f_16 := by rw [ef_16]; exact Ex_pU oo rfl rfl (by decide)
  have hg : GI cy L0 f_16 := by rw [ef_16]; exact hg.putI oo rfl ⟨lx_15, ux_15⟩ trivial
  rw [← ef_16] at hw
  have hE := hE.trans hX
  have o_a0 := hX.1.1 _ _ o_a0
  have o_a1 := hX.1.1 _ _ o_a1
  have vf_16 : fI f_16 a0 7 = x_15 := by rw [ef_16]; exact fI_pU_self oo rfl ⟨lx_15, ux_15⟩
  refine lv_aload_n hx hb dX0_copyFrom_64 rfl (lv_at hl 0 rfl) ?_
  refine lv_aload_n hx hb dX0_copyFrom_65 rfl (lv_at hl 1 rfl) ?_
  refine q_geti (ci := 0) (C := RX0) (T := TX0) (N := 15) hx hb hts (fun w h => List.mem_cons_of_mem _ (mfX00 w h)) hown hK hw m_a1 o_a1 rfl 8 (by decide) (hts _ (List.mem_cons_of_mem _ (mr14 _ (List.mem_of_getElem? (i := 21) rfl)))) (fun _ h => h) rfl dX0_copyFrom_66 (fun x_17 lx_17 ux_17 ex_17 => ?_)
  refine q_puti (ci := 0) (C := RX0) (T := TX0) (N := 15) hx hb hts (fun w h => List.mem_cons_of_mem _ (mfX00 w h)) hown hK hw m_a0 o_a0 rfl 8 (by decide) (hts _ (List.mem_cons_of_mem _ (mr14 _ (List.mem_of_getElem? (i := 21) rfl)))) (fun _ h => h) tyX0 tyX0_ok nmX0 rfl (ty := .int) (by decide +kernel) rfl rfl dX0_copyFrom_69 (fun H locs hw => ?_)
  have oo := o_a0
  obtain ⟨f_18, ef_18⟩ : ∃ g : Nat → va_E, g = pU f_16 a0 8 (.int (iI x_17)) := ⟨_, rfl⟩
  have hX : Ex cy f_16 f_18 := by rw [ef_18]; exact Ex_pU oo rfl rfl (by decide)
  have hg : GI cy L0 f_18 := by rw [ef_18]; exact hg.putI oo rfl ⟨lx_17, ux_17⟩ trivial
  rw [← ef_18] at hw
  have hE := hE.trans hX
  have o_a0 := hX.1.1 _ _ o_a0
  have o_a1 := hX.1.1 _ _ o_a1
  have vf_18 : fI f_18 a0 8 = x_17 := by rw [ef_18]; exact fI_pU_self oo rfl ⟨lx_17, ux_17⟩
  refine lv_aload_n hx hb dX0_copyFrom_72 rfl (lv_at hl 0 rfl) ?_
  refine lv_aload_n hx hb dX0_copyFrom_73 rfl (lv_at hl 1 rfl) ?_
  refine q_geti (ci := 0) (C := RX0) (T := TX0) (N := 15) hx hb hts (fun w h => List.mem_cons_of_mem _ (mfX00 w h)) hown hK hw m_a1 o_a1 rfl 9 (by decide) (hts _ (List.mem_cons_of_mem _ (mr14 _ (List.mem_of_getElem? (i := 22) rfl)))) (fun _ h => h) rfl dX0_copyFrom_74 (fun x_19 lx_19 ux_19 ex_19 => ?_)
  refine q_puti (ci := 0) (C := RX0) (T := TX0) (N := 15) hx hb hts (fun w h => List.mem_cons_of_mem _ (mfX00 w h)) hown hK hw m_a0 o_a0 rfl 9 (by decide) (hts _ (List.mem_cons_of_mem _ (mr14 _ (List.mem_of_getElem? (i := 22) rfl)))) (fun _ h => h) tyX0 tyX0_ok nmX0 rfl (ty := .int) (by decide +kernel) rfl rfl dX0_copyFrom_77 (fun H locs hw => ?_)
  have oo := o_a0
  obtain ⟨f_20, ef_20⟩ : ∃ g : Nat → va_E, g = pU f_18 a0 9 (.int (iI x_19)) := ⟨_, rfl⟩
  have hX : Ex cy f_18 f_20 := by rw [ef_20]; exact Ex_pU oo rfl rfl (by decide)
  have hg : GI cy L0 f_20 := by rw [ef_20]; exact hg.putI oo rfl ⟨lx_19, ux_19⟩ trivial
  rw [← ef_20] at hw
  have hE := hE.trans hX
  have o_a0 := hX.1.1 _ _ o_a0
  have o_a1 := hX.1.1 _ _ o_a1
  have vf_20 : fI f_20 a0 9 = x_19 := by rw [ef_20]; exact fI_pU_self oo rfl ⟨lx_19, ux_19⟩
  refine lv_aload_n hx hb dX0_copyFrom_80 rfl (lv_at hl 0 rfl) ?_
  refine lv_aload_n hx hb dX0_copyFrom_81 rfl (lv_at hl 1 rfl) ?_
  refine q_geti (ci := 0) (C := RX0) (T := TX0) (N := 15) hx hb hts (fun w h => List.mem_cons_of_mem _ (mfX00 w h)) hown hK hw m_a1 o_a1 rfl 10 (by decide) (hts _ (List.mem_cons_of_mem _ (mr14 _ (List.mem_of_getElem? (i := 9) rfl)))) (fun _ h => h) rfl dX0_copyFrom_82 (fun x_21 lx_21 ux_21 ex_21 => ?_)
  have bx_21 : 0 ≤ x_21 ∧ x_21 ≤ 16 := by rw [ex_21]; exact hg.1 _ m_a1 0 10 o_a1
  refine q_puti (ci := 0) (C := RX0) (T := TX0) (N := 15) hx hb hts (fun w h => List.mem_cons_of_mem _ (mfX00 w h)) hown hK hw m_a0 o_a0 rfl 10 (by decide) (hts _ (List.mem_cons_of_mem _ (mr14 _ (List.mem_of_getElem? (i := 9) rfl)))) (fun _ h => h) tyX0 tyX0_ok nmX0 rfl (ty := .int) (by decide +kernel) rfl rfl dX0_copyFrom_85 (fun H locs hw => ?_)
  have oo := o_a0
  obtain ⟨f_22, ef_22⟩ : ∃ g : Nat → va_E, g = pU f_20 a0 10 (.int (iI x_21)) := ⟨_, rfl⟩
  have hX : Ex cy f_20 f_22 := by rw [ef_22]; exact Ex_pU oo rfl rfl (by decide)
  have hg : GI cy L0 f_22 := by rw [ef_22]; exact hg.putI oo rfl ⟨lx_21, ux_21⟩ (by show 0 ≤ x_21 ∧ x_21 ≤ 16; omega)
  rw [← ef_22] at hw
  have hE := hE.trans hX
  have o_a0 := hX.1.1 _ _ o_a0
  have o_a1 := hX.1.1 _ _ o_a1
  have vf_22 : fI f_22 a0 10 = x_21 := by rw [ef_22]; exact fI_pU_self oo rfl ⟨lx_21, ux_21⟩
  refine lv_aload_n hx hb dX0_copyFrom_88 rfl (lv_at hl 1 rfl) ?_
  obtain ⟨r_23, er_23, m_r_23, o_r_23⟩ := (show ∃ r, fR f_22 a1 11 = some r ∧ r ∈ L0 ∧ ArI f_22 r cy.2.1 16 from hg.2.1 _ m_a1 0 11 o_a1)
  refine q_getr (ci := 0) (C := RX0) (T := TX0) (N := 15) hx hb hts (fun w h => List.mem_cons_of_mem _ (mfX00 w h)) hown hK hw m_a1 o_a1 rfl 11 (by decide) (hts _ (List.mem_cons_of_mem _ (mr3 _ (List.mem_of_getElem? (i := 2) rfl)))) (fun _ h => h) rfl er_23 dX0_copyFrom_89 ?_
  refine q_iconst hx hb dX0_copyFrom_92 ?_
  refine lv_aload_n hx hb dX0_copyFrom_93 rfl (lv_at hl 0 rfl) ?_
  obtain ⟨r_24, er_24, m_r_24, o_r_24⟩ := (show ∃ r, fR f_22 a0 11 = some r ∧ r ∈ L0 ∧ ArI f_22 r cy.2.1 16 from hg.2.1 _ m_a0 0 11 o_a0)
  refine q_getr (ci := 0) (C := RX0) (T := TX0) (N := 15) hx hb hts (fun w h => List.mem_cons_of_mem _ (mfX00 w h)) hown hK hw m_a0 o_a0 rfl 11 (by decide) (hts _ (List.mem_cons_of_mem _ (mr3 _ (List.mem_of_getElem? (i := 2) rfl)))) (fun _ h => h) rfl er_24 dX0_copyFrom_94 ?_
  refine q_iconst hx hb dX0_copyFrom_97 ?_
  refine q_bipush hx hb dX0_copyFrom_98 rfl ?_
  refine q_copy (n := 16) hx hb (hml.trans hl.1.symm) hown (hts _ (List.mem_cons_of_mem _ (mr40 _ (List.mem_of_getElem? (i := 20) rfl)))) (hts _ (List.mem_cons_of_mem _ (mr40 _ (List.mem_of_getElem? (i := 21) rfl)))) (hts _ (List.mem_cons_of_mem _ (mr40 _ (List.mem_of_getElem? (i := 22) rfl)))) (hts _ (List.mem_cons_of_mem _ (mr40 _ (List.mem_of_getElem? (i := 23) rfl)))) hK hw 1 (by decide) m_r_23 o_r_23 m_r_24 o_r_24 rfl (by decide) (by decide) (Nat.le_of_ble_eq_true rfl) (Nat.le_of_ble_eq_true rfl) dX0_copyFrom_100 (fun gg H locs hw => ?_)
  have oo := o_r_24
  obtain ⟨f_25, ef_25⟩ : ∃ g : Nat → va_E, g = aX f_22 r_24 gg := ⟨_, rfl⟩
  have hX : Ex cy f_22 f_25 := by rw [ef_25]; exact Ex_aX oo
  have hg : GI cy L0 f_25 := by rw [ef_25]; exact hg.putX oo
  rw [← ef_25] at hw
  have hE := hE.trans hX
  have o_a0 := hX.1.1 _ _ o_a0
  have o_a1 := hX.1.1 _ _ o_a1
  refine lv_aload_n hx hb dX0_copyFrom_103 rfl (lv_at hl 1 rfl) ?_
  obtain ⟨r_26, er_26, m_r_26, o_r_26⟩ := (show ∃ r, fR f_25 a1 12 = some r ∧ r ∈ L0 ∧ ArI f_25 r cy.2.1 16 from hg.2.1 _ m_a1 0 12 o_a1)
  refine q_getr (ci := 0) (C := RX0) (T := TX0) (N := 15) hx hb hts (fun w h => List.mem_cons_of_mem _ (mfX00 w h)) hown hK hw m_a1 o_a1 rfl 12 (by decide) (hts _ (List.mem_cons_of_mem _ (mr3 _ (List.mem_of_getElem? (i := 3) rfl)))) (fun _ h => h) rfl er_26 dX0_copyFrom_104 ?_
  refine q_iconst hx hb dX0_copyFrom_107 ?_
  refine lv_aload_n hx hb dX0_copyFrom_108 rfl (lv_at hl 0 rfl) ?_
  obtain ⟨r_27, er_27, m_r_27, o_r_27⟩ := (show ∃ r, fR f_25 a0 12 = some r ∧ r ∈ L0 ∧ ArI f_25 r cy.2.1 16 from hg.2.1 _ m_a0 0 12 o_a0)
  refine q_getr (ci := 0) (C := RX0) (T := TX0) (N := 15) hx hb hts (fun w h => List.mem_cons_of_mem _ (mfX00 w h)) hown hK hw m_a0 o_a0 rfl 12 (by decide) (hts _ (List.mem_cons_of_mem _ (mr3 _ (List.mem_of_getElem? (i := 3) rfl)))) (fun _ h => h) rfl er_27 dX0_copyFrom_109 ?_
  refine q_iconst hx hb dX0_copyFrom_112 ?_
  refine q_bipush hx hb dX0_copyFrom_113 rfl ?_
  refine q_copy (n := 16) hx hb (hml.trans hl.1.symm) hown (hts _ (List.mem_cons_of_mem _ (mr40 _ (List.mem_of_getElem? (i := 20) rfl)))) (hts _ (List.mem_cons_of_mem _ (mr40 _ (List.mem_of_getElem? (i := 21) rfl)))) (hts _ (List.mem_cons_of_mem _ (mr40 _ (List.mem_of_getElem? (i := 22) rfl)))) (hts _ (List.mem_cons_of_mem _ (mr40 _ (List.mem_of_getElem? (i := 23) rfl)))) hK hw 1 (by decide) m_r_26 o_r_26 m_r_27 o_r_27 rfl (by decide) (by decide) (Nat.le_of_ble_eq_true rfl) (Nat.le_of_ble_eq_true rfl) dX0_copyFrom_115 (fun gg H locs hw => ?_)
  have oo := o_r_27
  obtain ⟨f_28, ef_28⟩ : ∃ g : Nat → va_E, g = aX f_25 r_27 gg := ⟨_, rfl⟩
  have hX : Ex cy f_25 f_28 := by rw [ef_28]; exact Ex_aX oo
  have hg : GI cy L0 f_28 := by rw [ef_28]; exact hg.putX oo
  rw [← ef_28] at hw
  have hE := hE.trans hX
  have o_a0 := hX.1.1 _ _ o_a0
  have o_a1 := hX.1.1 _ _ o_a1
  exact q_ret_v hx hb hr hlocks hK hAe hw (Nat.le_of_ble_eq_true rfl) (Nat.le_of_ble_eq_true rfl) dX0_copyFrom_118 (by exact ⟨rfl, hg, hE, by first | trivial | omega⟩)
set_option maxHeartbeats 4000000 in
set_option maxRecDepth 100000 in
theorem c_X0_seek {Z : Zt} (zo : Zok Z) (l : Launch) (D : va_G) (cy : Cy) (L0 : List Nat) (f0 : Nat → va_E) (a0 : Nat) (x1 : Int) (lx1 : -2147483648 ≤ x1) (ux1 : x1 ≤ 2147483647) (x2 : Int) (lx2 : -2147483648 ≤ x2) (ux2 : x2 ≤ 2147483647) (m_a0 : a0 ∈ L0) (o_a0 : Ob f0 a0 0) (hg : GI cy L0 f0) : Ci Z l yX0_seek (Cond.code yX0_seek cX0_seek 8 (some .boolean) :: TB) ({ frames := 4, cells := 0, slots := 0, locals := 90 } : Room) 0 0 D (tq cy) [.ref a0, .int (iI x1), .int (iI x2)] L0 f0 (fun (r : Int) (L1 : List Nat) (f1 : Nat → va_E) => L0 = L1 ∧ GI cy L0 f1 ∧ Ex cy f0 f1 ∧ (r = 0 ∨ r = 1)) := by
  refine Ci.enter (cc := cX0_seek) (n := 8) rfl (plainFor_of_name (by decide)) (Nat.le_of_ble_eq_true rfl) ?_
  intro p e s m below meth c ls A hx hb hr hts hown hlocks hnm hml hK hA hAe hw hZ hl
  have hown : s.vm.findClass RX0 = some m.cls := hown
  have hl : lv_has ls 8 [(0, .ref a0), (1, .int (iI x1)), (2, .int (iI x2))] := hl
  have hN : ZN s := (zo.2.2.2.2 _ _ _ hZ).2
  have hE : Ex cy f0 f0 := Ex.refl cy f0
  refine lv_aload_n hx hb dX0_seek_0 rfl (lv_at hl 0 rfl) ?_
  refine lv_aload_n hx hb dX0_seek_1 rfl (lv_at hl 0 rfl) ?_
  refine lv_iload_n hx hb dX0_seek_2 rfl (lv_at hl 1 rfl) ?_
  refine q_call_i hA hK hw (va_runV (As := [.int (iI x1)]) (rest := [.ref a0]) ⟨hx, hb, hml, hown, hts⟩ (c_X0_ruledFrom zo l D cy L0 f0 a0 x1 lx1 ux1 m_a0 o_a0 hg _) (cwV 1 hts (gT (inV (mr29 _ (List.mem_of_getElem? (i := 14) rfl)) (mr29 _ (List.mem_of_getElem? (i := 15) rfl)) (mr29 _ (List.mem_of_getElem? (i := 16) rfl)) (mr2 _ (List.mem_of_getElem? (i := 9) rfl)) (mr29 _ (List.mem_of_getElem? (i := 17) rfl)))) rfl rfl rfl (by decide +kernel) ⟨Nat.le_of_ble_eq_true rfl, Nat.le_of_ble_eq_true rfl⟩) (Wd.preV zo hA hZ hw hK m_a0 o_a0 rfl) rfl rfl hl.1 rfl (lv_room (Nat.le_of_ble_eq_true rfl)) dX0_seek_3 ⟨Nat.le_of_ble_eq_true rfl, Nat.le_of_ble_eq_true rfl⟩) (fun x_1 L1 f1 H locs lx_1 ux_1 ex_1 hw => ?_)
  obtain ⟨rfl, rfl, ex_1⟩ := ex_1
  refine q_call_i hA hK hw (va_runV (As := [.int (iI x_1)]) (rest := []) ⟨hx, hb, hml, hown, hts⟩ (c_X0_keyFrom zo l D cy L0 f0 a0 x_1 lx_1 ux_1 m_a0 o_a0 hg _) (cwV 1 hts (gT (inV (mr26 _ (List.mem_of_getElem? (i := 10) rfl)) (mr24 _ (List.mem_of_getElem? (i := 13) rfl)) (mr24 _ (List.mem_of_getElem? (i := 14) rfl)) (mr2 _ (List.mem_of_getElem? (i := 9) rfl)) (mr24 _ (List.mem_of_getElem? (i := 15) rfl)))) rfl rfl rfl (by decide +kernel) ⟨Nat.le_of_ble_eq_true rfl, Nat.le_of_ble_eq_true rfl⟩) (Wd.preV zo hA hZ hw hK m_a0 o_a0 rfl) rfl rfl hl.1 rfl (lv_room (Nat.le_of_ble_eq_true rfl)) dX0_seek_6 ⟨Nat.le_of_ble_eq_true rfl, Nat.le_of_ble_eq_true rfl⟩) (fun x_2 L1 f1 H locs lx_2 ux_2 ex_2 hw => ?_)
  obtain ⟨rfl, rfl, ex_2⟩ := ex_2
  refine lv_istore_n (lv' := [(3, .int (iI x_2)), (0, .ref a0), (1, .int (iI x1)), (2, .int (iI x2))]) hx hb dX0_seek_9 rfl hl (by decide) rfl (fun ls hl => ?_)
  refine lv_iload_n hx hb dX0_seek_10 rfl (lv_at hl 0 rfl) ?_
  refine q_iconst hx hb dX0_seek_11 ?_
  have J37 : ∀ (z3_37 : Int) (lz3_37 : -2147483648 ≤ z3_37) (uz3_37 : z3_37 ≤ 2147483647) (H : Heap) (locs : List Loc) (ls : Array Slot) (hw : Wd D A s.heap L0 f0 H locs) (hl : lv_has ls 8 [(0, .ref a0), (1, .int (iI x1)), (2, .int (iI x2)), (3, .int (iI z3_37))]), W p l e ({ frames := 4, cells := 0, slots := 0, locals := 90 } : Room) s m ([.ref a0, .int (iI x1), .int (iI x2)] : List Value).toArray below meth c H locs (0 + 0 + 0) (0 + 0 + 0) (MQ below (Qi D (tq cy) L0 f0 s.heap.size (fun (r : Int) (L1 : List Nat) (f1 : Nat → va_E) => L0 = L1 ∧ GI cy L0 f1 ∧ Ex cy f0 f1 ∧ (r = 0 ∨ r = 1))) ([.ref a0, .int (iI x1), .int (iI x2)] : List Value).toArray s 0 0 A) (F0 m 37 ls []) := by
    intro z3_37 lz3_37 uz3_37 H locs ls hw hl
    refine q_iconst hx hb dX0_seek_37 ?_
    refine lv_istore (lv' := [(4, .int (iI 0)), (0, .ref a0), (1, .int (iI x1)), (2, .int (iI x2)), (3, .int (iI z3_37))]) hx hb dX0_seek_38 hl (by decide) rfl (fun ls hl => ?_)
    have J40 : ∀ (n40 : Nat) (y3_40 : Int) (ly3_40 : -2147483648 ≤ y3_40) (uy3_40 : y3_40 ≤ 2147483647) (y4_40 : Int) (ly4_40 : -2147483648 ≤ y4_40) (uy4_40 : y4_40 ≤ 2147483647) (i1 : 0 ≤ y4_40) (hn40 : ((2147483647 : Int) - y4_40).toNat < n40) (H : Heap) (locs : List Loc) (ls : Array Slot) (hw : Wd D A s.heap L0 f0 H locs) (hl : lv_has ls 8 [(0, .ref a0), (1, .int (iI x1)), (2, .int (iI x2)), (3, .int (iI y3_40)), (4, .int (iI y4_40))]), W p l e ({ frames := 4, cells := 0, slots := 0, locals := 90 } : Room) s m ([.ref a0, .int (iI x1), .int (iI x2)] : List Value).toArray below meth c H locs (0 + 0 + 0) (0 + 0 + 0) (MQ below (Qi D (tq cy) L0 f0 s.heap.size (fun (r : Int) (L1 : List Nat) (f1 : Nat → va_E) => L0 = L1 ∧ GI cy L0 f1 ∧ Ex cy f0 f1 ∧ (r = 0 ∨ r = 1))) ([.ref a0, .int (iI x1), .int (iI x2)] : List Value).toArray s 0 0 A) (F0 m 40 ls []) := by
      intro n40
      induction n40 with
      | zero => intro y3_40 ly3_40 uy3_40 y4_40 ly4_40 uy4_40 i1 hn40; exact absurd hn40 (Nat.not_lt_zero _)
      | succ n40 ih40 =>
        intro y3_40 ly3_40 uy3_40 y4_40 ly4_40 uy4_40 i1 hn40 H locs ls hw hl
        refine lv_iload hx hb dX0_seek_40 (lv_at hl 4 rfl) ?_
        refine lv_aload_n hx hb dX0_seek_42 rfl (lv_at hl 0 rfl) ?_
        refine q_geti (ci := 0) (C := RX0) (T := TX0) (N := 15) hx hb hts (fun w h => List.mem_cons_of_mem _ (mfX00 w h)) hown hK hw m_a0 o_a0 rfl 10 (by decide) (hts _ (List.mem_cons_of_mem _ (mr14 _ (List.mem_of_getElem? (i := 9) rfl)))) (fun _ h => h) rfl dX0_seek_43 (fun x_3 lx_3 ux_3 ex_3 => ?_)
        have bx_3 : 0 ≤ x_3 ∧ x_3 ≤ 16 := by rw [ex_3]; exact hg.1 _ m_a0 0 10 o_a0
        have J77 : ∀ (H : Heap) (locs : List Loc) (ls : Array Slot) (hw : Wd D A s.heap L0 f0 H locs) (hl : lv_has ls 8 [(0, .ref a0), (1, .int (iI x1)), (2, .int (iI x2)), (3, .int (iI y3_40))]), W p l e ({ frames := 4, cells := 0, slots := 0, locals := 90 } : Room) s m ([.ref a0, .int (iI x1), .int (iI x2)] : List Value).toArray below meth c H locs (0 + 0 + 0) (0 + 0 + 0) (MQ below (Qi D (tq cy) L0 f0 s.heap.size (fun (r : Int) (L1 : List Nat) (f1 : Nat → va_E) => L0 = L1 ∧ GI cy L0 f1 ∧ Ex cy f0 f1 ∧ (r = 0 ∨ r = 1))) ([.ref a0, .int (iI x1), .int (iI x2)] : List Value).toArray s 0 0 A) (F0 m 77 ls []) := by
          intro H locs ls hw hl
          refine lv_aload_n hx hb dX0_seek_77 rfl (lv_at hl 0 rfl) ?_
          refine lv_iload_n hx hb dX0_seek_78 rfl (lv_at hl 3 rfl) ?_
          refine q_puti (ci := 0) (C := RX0) (T := TX0) (N := 15) hx hb hts (fun w h => List.mem_cons_of_mem _ (mfX00 w h)) hown hK hw m_a0 o_a0 rfl 14 (by decide) (hts _ (List.mem_cons_of_mem _ (mr29 _ (List.mem_of_getElem? (i := 11) rfl)))) (fun _ h => h) tyX0 tyX0_ok nmX0 rfl (ty := .int) (by decide +kernel) rfl rfl dX0_seek_79 (fun H locs hw => ?_)
          have oo := o_a0
          obtain ⟨f_4, ef_4⟩ : ∃ g : Nat → va_E, g = pU f0 a0 14 (.int (iI y3_40)) := ⟨_, rfl⟩
          have hX : Ex cy f0 f_4 := by rw [ef_4]; exact Ex_pU oo rfl rfl (by decide)
          have hg : GI cy L0 f_4 := by rw [ef_4]; exact hg.putI oo rfl ⟨ly3_40, uy3_40⟩ trivial
          rw [← ef_4] at hw
          have hE := hE.trans hX
          have o_a0 := hX.1.1 _ _ o_a0
          have vf_4 : fI f_4 a0 14 = y3_40 := by rw [ef_4]; exact fI_pU_self oo rfl ⟨ly3_40, uy3_40⟩
          refine lv_aload_n hx hb dX0_seek_82 rfl (lv_at hl 0 rfl) ?_
          refine lv_iload_n hx hb dX0_seek_83 rfl (lv_at hl 3 rfl) ?_
          refine q_iconst hx hb dX0_seek_84 ?_
          have J98 : ∀ (w0_98 : Int) (lw0_98 : -2147483648 ≤ w0_98) (uw0_98 : w0_98 ≤ 2147483647) (H : Heap) (locs : List Loc) (ls : Array Slot) (hw : Wd D A s.heap L0 f_4 H locs) (hl : lv_has ls 8 [(0, .ref a0), (1, .int (iI x1)), (2, .int (iI x2))]), W p l e ({ frames := 4, cells := 0, slots := 0, locals := 90 } : Room) s m ([.ref a0, .int (iI x1), .int (iI x2)] : List Value).toArray below meth c H locs (0 + 0 + 0) (0 + 0 + 0) (MQ below (Qi D (tq cy) L0 f0 s.heap.size (fun (r : Int) (L1 : List Nat) (f1 : Nat → va_E) => L0 = L1 ∧ GI cy L0 f1 ∧ Ex cy f0 f1 ∧ (r = 0 ∨ r = 1))) ([.ref a0, .int (iI x1), .int (iI x2)] : List Value).toArray s 0 0 A) (F0 m 98 ls [.int (iI w0_98), .ref a0]) := by
            intro w0_98 lw0_98 uw0_98 H locs ls hw hl
            refine q_puti (ci := 0) (C := RX0) (T := TX0) (N := 15) hx hb hts (fun w h => List.mem_cons_of_mem _ (mfX00 w h)) hown hK hw m_a0 o_a0 rfl 13 (by decide) (hts _ (List.mem_cons_of_mem _ (mr29 _ (List.mem_of_getElem? (i := 13) rfl)))) (fun _ h => h) tyX0 tyX0_ok nmX0 rfl (ty := .int) (by decide +kernel) rfl rfl dX0_seek_98 (fun H locs hw => ?_)
            have oo := o_a0
            obtain ⟨f_5, ef_5⟩ : ∃ g : Nat → va_E, g = pU f_4 a0 13 (.int (iI w0_98)) := ⟨_, rfl⟩
            have hX : Ex cy f_4 f_5 := by rw [ef_5]; exact Ex_pU oo rfl rfl (by decide)
            have hg : GI cy L0 f_5 := by rw [ef_5]; exact hg.putI oo rfl ⟨lw0_98, uw0_98⟩ trivial
            rw [← ef_5] at hw
            have hE := hE.trans hX
            have o_a0 := hX.1.1 _ _ o_a0
            have vf_5 : fI f_5 a0 13 = w0_98 := by rw [ef_5]; exact fI_pU_self oo rfl ⟨lw0_98, uw0_98⟩
            refine q_iconst hx hb dX0_seek_101 ?_
            refine lv_istore (lv' := [(4, .int (iI 0)), (0, .ref a0), (1, .int (iI x1)), (2, .int (iI x2))]) hx hb dX0_seek_102 hl (by decide) rfl (fun ls hl => ?_)
            have J104 : ∀ (n104 : Nat) (y4_104 : Int) (ly4_104 : -2147483648 ≤ y4_104) (uy4_104 : y4_104 ≤ 2147483647) (L : List Nat) (f : Nat → va_E) (hg : GI cy L0 f) (hE : Ex cy f0 f) (o_a0 : Ob f a0 0) (i1 : 0 ≤ y4_104) (hn104 : ((2147483647 : Int) - y4_104).toNat < n104) (H : Heap) (locs : List Loc) (ls : Array Slot) (hw : Wd D A s.heap L0 f H locs) (hl : lv_has ls 8 [(0, .ref a0), (1, .int (iI x1)), (2, .int (iI x2)), (4, .int (iI y4_104))]), W p l e ({ frames := 4, cells := 0, slots := 0, locals := 90 } : Room) s m ([.ref a0, .int (iI x1), .int (iI x2)] : List Value).toArray below meth c H locs (0 + 0 + 0) (0 + 0 + 0) (MQ below (Qi D (tq cy) L0 f0 s.heap.size (fun (r : Int) (L1 : List Nat) (f1 : Nat → va_E) => L0 = L1 ∧ GI cy L0 f1 ∧ Ex cy f0 f1 ∧ (r = 0 ∨ r = 1))) ([.ref a0, .int (iI x1), .int (iI x2)] : List Value).toArray s 0 0 A) (F0 m 104 ls []) := by
              intro n104
              induction n104 with
              | zero => intro y4_104 ly4_104 uy4_104 L f hg hE o_a0 i1 hn104; exact absurd hn104 (Nat.not_lt_zero _)
              | succ n104 ih104 =>
                intro y4_104 ly4_104 uy4_104 L f hg hE o_a0 i1 hn104 H locs ls hw hl
                refine lv_iload hx hb dX0_seek_104 (lv_at hl 3 rfl) ?_
                refine lv_aload_n hx hb dX0_seek_106 rfl (lv_at hl 0 rfl) ?_
                refine q_geti (ci := 0) (C := RX0) (T := TX0) (N := 15) hx hb hts (fun w h => List.mem_cons_of_mem _ (mfX00 w h)) hown hK hw m_a0 o_a0 rfl 10 (by decide) (hts _ (List.mem_cons_of_mem _ (mr14 _ (List.mem_of_getElem? (i := 9) rfl)))) (fun _ h => h) rfl dX0_seek_107 (fun x_6 lx_6 ux_6 ex_6 => ?_)
                have bx_6 : 0 ≤ x_6 ∧ x_6 ≤ 16 := by rw [ex_6]; exact hg.1 _ m_a0 0 10 o_a0
                refine q_icmp_ge (tgt := 212) hx hb dX0_seek_110 (by decide) ⟨ly4_104, uy4_104⟩ ⟨lx_6, ux_6⟩ (fun c110 => ?_) (fun c110 => ?_)
                · refine lv_aload_n hx hb dX0_seek_212 rfl (lv_at hl 0 rfl) ?_
                  refine q_geti (ci := 0) (C := RX0) (T := TX0) (N := 15) hx hb hts (fun w h => List.mem_cons_of_mem _ (mfX00 w h)) hown hK hw m_a0 o_a0 rfl 14 (by decide) (hts _ (List.mem_cons_of_mem _ (mr29 _ (List.mem_of_getElem? (i := 11) rfl)))) (fun _ h => h) rfl dX0_seek_213 (fun x_7 lx_7 ux_7 ex_7 => ?_)
                  refine q_iconst hx hb dX0_seek_216 ?_
                  refine q_icmp_eq (tgt := 224) hx hb dX0_seek_217 (by decide) ⟨lx_7, ux_7⟩ ⟨by decide, by decide⟩ (fun c217 => ?_) (fun c217 => ?_)
                  · refine q_iconst hx hb dX0_seek_224 ?_
                    exact q_ret_z hx hb hr hlocks hK hAe hw (by omega) (Nat.le_of_ble_eq_true rfl) (Nat.le_of_ble_eq_true rfl) dX0_seek_225 (by exact ⟨rfl, hg, hE, by first | trivial | omega⟩)
                  · refine q_iconst hx hb dX0_seek_220 ?_
                    refine lv_goto (tgt := 225) hx hb dX0_seek_221 (by decide) ?_
                    exact q_ret_z hx hb hr hlocks hK hAe hw (by omega) (Nat.le_of_ble_eq_true rfl) (Nat.le_of_ble_eq_true rfl) dX0_seek_225 (by exact ⟨rfl, hg, hE, by first | trivial | omega⟩)
                · refine lv_aload_n hx hb dX0_seek_113 rfl (lv_at hl 0 rfl) ?_
                  obtain ⟨r_8, er_8, m_r_8, o_r_8⟩ := (show ∃ r, fR f a0 12 = some r ∧ r ∈ L0 ∧ ArI f r cy.2.1 16 from hg.2.1 _ m_a0 0 12 o_a0)
                  refine q_getr (ci := 0) (C := RX0) (T := TX0) (N := 15) hx hb hts (fun w h => List.mem_cons_of_mem _ (mfX00 w h)) hown hK hw m_a0 o_a0 rfl 12 (by decide) (hts _ (List.mem_cons_of_mem _ (mr3 _ (List.mem_of_getElem? (i := 3) rfl)))) (fun _ h => h) rfl er_8 dX0_seek_114 ?_
                  refine lv_iload hx hb dX0_seek_117 (lv_at hl 3 rfl) ?_
                  refine q_iald hx hb hK hw m_r_8 1 o_r_8 rfl ⟨ly4_104, uy4_104⟩ (by omega) (by omega) dX0_seek_119 (fun x_9 lx_9 ux_9 ex_9 => ?_)
                  refine lv_istore (lv' := [(5, .int (iI x_9)), (0, .ref a0), (1, .int (iI x1)), (2, .int (iI x2)), (4, .int (iI y4_104))]) hx hb dX0_seek_120 hl (by decide) rfl (fun ls hl => ?_)
                  refine lv_aload_n hx hb dX0_seek_122 rfl (lv_at hl 1 rfl) ?_
                  obtain ⟨r_10, er_10, m_r_10, o_r_10⟩ := (show ∃ r, fR f a0 11 = some r ∧ r ∈ L0 ∧ ArI f r cy.2.1 16 from hg.2.1 _ m_a0 0 11 o_a0)
                  refine q_getr (ci := 0) (C := RX0) (T := TX0) (N := 15) hx hb hts (fun w h => List.mem_cons_of_mem _ (mfX00 w h)) hown hK hw m_a0 o_a0 rfl 11 (by decide) (hts _ (List.mem_cons_of_mem _ (mr3 _ (List.mem_of_getElem? (i := 2) rfl)))) (fun _ h => h) rfl er_10 dX0_seek_123 ?_
                  refine lv_iload hx hb dX0_seek_126 (lv_at hl 4 rfl) ?_
                  refine q_iald hx hb hK hw m_r_10 1 o_r_10 rfl ⟨ly4_104, uy4_104⟩ (by omega) (by omega) dX0_seek_128 (fun x_11 lx_11 ux_11 ex_11 => ?_)
                  refine lv_istore (lv' := [(6, .int (iI x_11)), (5, .int (iI x_9)), (0, .ref a0), (1, .int (iI x1)), (2, .int (iI x2)), (4, .int (iI y4_104))]) hx hb dX0_seek_129 hl (by decide) rfl (fun ls hl => ?_)
                  refine lv_iload hx hb dX0_seek_131 (lv_at hl 1 rfl) ?_
                  refine lv_iload_n hx hb dX0_seek_133 rfl (lv_at hl 3 rfl) ?_
                  have J149 : ∀ (H : Heap) (locs : List Loc) (ls : Array Slot) (hw : Wd D A s.heap L0 f H locs) (hl : lv_has ls 8 [(0, .ref a0), (1, .int (iI x1)), (2, .int (iI x2)), (4, .int (iI y4_104)), (5, .int (iI x_9)), (6, .int (iI x_11))]), W p l e ({ frames := 4, cells := 0, slots := 0, locals := 90 } : Room) s m ([.ref a0, .int (iI x1), .int (iI x2)] : List Value).toArray below meth c H locs (0 + 0 + 0) (0 + 0 + 0) (MQ below (Qi D (tq cy) L0 f0 s.heap.size (fun (r : Int) (L1 : List Nat) (f1 : Nat → va_E) => L0 = L1 ∧ GI cy L0 f1 ∧ Ex cy f0 f1 ∧ (r = 0 ∨ r = 1))) ([.ref a0, .int (iI x1), .int (iI x2)] : List Value).toArray s 0 0 A) (F0 m 149 ls []) := by
                    intro H locs ls hw hl
                    refine q_iconst hx hb dX0_seek_149 ?_
                    refine lv_goto (tgt := 154) hx hb dX0_seek_150 (by decide) ?_
                    refine lv_istore (lv' := [(7, .int (iI 1)), (0, .ref a0), (1, .int (iI x1)), (2, .int (iI x2)), (4, .int (iI y4_104)), (5, .int (iI x_9)), (6, .int (iI x_11))]) hx hb dX0_seek_154 hl (by decide) rfl (fun ls hl => ?_)
                    refine lv_iload hx hb dX0_seek_156 (lv_at hl 5 rfl) ?_
                    refine q_iconst hx hb dX0_seek_158 ?_
                    have J206 : ∀ (L : List Nat) (f : Nat → va_E) (hg : GI cy L0 f) (hE : Ex cy f0 f) (o_a0 : Ob f a0 0) (H : Heap) (locs : List Loc) (ls : Array Slot) (hw : Wd D A s.heap L0 f H locs) (hl : lv_has ls 8 [(0, .ref a0), (1, .int (iI x1)), (2, .int (iI x2)), (4, .int (iI y4_104))]), W p l e ({ frames := 4, cells := 0, slots := 0, locals := 90 } : Room) s m ([.ref a0, .int (iI x1), .int (iI x2)] : List Value).toArray below meth c H locs (0 + 0 + 0) (0 + 0 + 0) (MQ below (Qi D (tq cy) L0 f0 s.heap.size (fun (r : Int) (L1 : List Nat) (f1 : Nat → va_E) => L0 = L1 ∧ GI cy L0 f1 ∧ Ex cy f0 f1 ∧ (r = 0 ∨ r = 1))) ([.ref a0, .int (iI x1), .int (iI x2)] : List Value).toArray s 0 0 A) (F0 m 206 ls []) := by
                      intro L f hg hE o_a0 H locs ls hw hl
                      obtain ⟨x_12, lx_12, ux_12, hx_12, ex_12⟩ := q_inc y4_104 (1)
                      try (replace ex_12 : x_12 = y4_104 + (1) := by omega)
                      refine lv_iinc (v := iI x_12) (lv' := [(4, .int (iI x_12)), (0, .ref a0), (1, .int (iI x1)), (2, .int (iI x2))]) hx hb dX0_seek_206 hl (k := 3) rfl hx_12 (by decide) rfl (fun ls hl => ?_)
                      refine lv_goto (tgt := 104) hx hb dX0_seek_209 (by decide) ?_
                      exact ih104 x_12 lx_12 ux_12 L0 f hg hE o_a0 (by omega) (by omega) _ _ _ hw (lv_sub hl [1, 2, 3, 0] rfl)
                    refine q_icmp_eq (tgt := 206) hx hb dX0_seek_159 (by decide) ⟨lx_9, ux_9⟩ ⟨by decide, by decide⟩ (fun c159 => ?_) (fun c159 => ?_)
                    · exact J206 L0 f hg hE o_a0 _ _ _ hw (lv_sub hl [1, 2, 3, 4] rfl)
                    · refine lv_iload hx hb dX0_seek_162 (lv_at hl 0 rfl) ?_
                      refine q_if_eq (tgt := 206) hx hb dX0_seek_164 (by decide) ⟨by decide, by decide⟩ (fun c164 => ?_) (fun c164 => ?_)
                      · exact J206 L0 f hg hE o_a0 _ _ _ hw (lv_sub hl [1, 2, 3, 4] rfl)
                      · refine lv_iload hx hb dX0_seek_167 (lv_at hl 5 rfl) ?_
                        refine lv_aload_n hx hb dX0_seek_169 rfl (lv_at hl 1 rfl) ?_
                        refine q_geti (ci := 0) (C := RX0) (T := TX0) (N := 15) hx hb hts (fun w h => List.mem_cons_of_mem _ (mfX00 w h)) hown hK hw m_a0 o_a0 rfl 13 (by decide) (hts _ (List.mem_cons_of_mem _ (mr29 _ (List.mem_of_getElem? (i := 13) rfl)))) (fun _ h => h) rfl dX0_seek_170 (fun x_13 lx_13 ux_13 ex_13 => ?_)
                        have J194 : ∀ (H : Heap) (locs : List Loc) (ls : Array Slot) (hw : Wd D A s.heap L0 f H locs) (hl : lv_has ls 8 [(0, .ref a0), (1, .int (iI x1)), (2, .int (iI x2)), (4, .int (iI y4_104)), (5, .int (iI x_9)), (6, .int (iI x_11))]), W p l e ({ frames := 4, cells := 0, slots := 0, locals := 90 } : Room) s m ([.ref a0, .int (iI x1), .int (iI x2)] : List Value).toArray below meth c H locs (0 + 0 + 0) (0 + 0 + 0) (MQ below (Qi D (tq cy) L0 f0 s.heap.size (fun (r : Int) (L1 : List Nat) (f1 : Nat → va_E) => L0 = L1 ∧ GI cy L0 f1 ∧ Ex cy f0 f1 ∧ (r = 0 ∨ r = 1))) ([.ref a0, .int (iI x1), .int (iI x2)] : List Value).toArray s 0 0 A) (F0 m 194 ls []) := by
                          intro H locs ls hw hl
                          refine lv_aload_n hx hb dX0_seek_194 rfl (lv_at hl 0 rfl) ?_
                          refine lv_iload hx hb dX0_seek_195 (lv_at hl 4 rfl) ?_
                          refine q_puti (ci := 0) (C := RX0) (T := TX0) (N := 15) hx hb hts (fun w h => List.mem_cons_of_mem _ (mfX00 w h)) hown hK hw m_a0 o_a0 rfl 13 (by decide) (hts _ (List.mem_cons_of_mem _ (mr29 _ (List.mem_of_getElem? (i := 13) rfl)))) (fun _ h => h) tyX0 tyX0_ok nmX0 rfl (ty := .int) (by decide +kernel) rfl rfl dX0_seek_197 (fun H locs hw => ?_)
                          have oo := o_a0
                          obtain ⟨f_14, ef_14⟩ : ∃ g : Nat → va_E, g = pU f a0 13 (.int (iI x_9)) := ⟨_, rfl⟩
                          have hX : Ex cy f f_14 := by rw [ef_14]; exact Ex_pU oo rfl rfl (by decide)
                          have hg : GI cy L0 f_14 := by rw [ef_14]; exact hg.putI oo rfl ⟨lx_9, ux_9⟩ trivial
                          rw [← ef_14] at hw
                          have hE := hE.trans hX
                          have o_a0 := hX.1.1 _ _ o_a0
                          have vf_14 : fI f_14 a0 13 = x_9 := by rw [ef_14]; exact fI_pU_self oo rfl ⟨lx_9, ux_9⟩
                          refine lv_aload_n hx hb dX0_seek_200 rfl (lv_at hl 0 rfl) ?_
                          refine lv_iload hx hb dX0_seek_201 (lv_at hl 5 rfl) ?_
                          refine q_puti (ci := 0) (C := RX0) (T := TX0) (N := 15) hx hb hts (fun w h => List.mem_cons_of_mem _ (mfX00 w h)) hown hK hw m_a0 o_a0 rfl 14 (by decide) (hts _ (List.mem_cons_of_mem _ (mr29 _ (List.mem_of_getElem? (i := 11) rfl)))) (fun _ h => h) tyX0 tyX0_ok nmX0 rfl (ty := .int) (by decide +kernel) rfl rfl dX0_seek_203 (fun H locs hw => ?_)
                          have oo := o_a0
                          obtain ⟨f_15, ef_15⟩ : ∃ g : Nat → va_E, g = pU f_14 a0 14 (.int (iI x_11)) := ⟨_, rfl⟩
                          have hX : Ex cy f_14 f_15 := by rw [ef_15]; exact Ex_pU oo rfl rfl (by decide)
                          have hg : GI cy L0 f_15 := by rw [ef_15]; exact hg.putI oo rfl ⟨lx_11, ux_11⟩ trivial
                          rw [← ef_15] at hw
                          have hE := hE.trans hX
                          have o_a0 := hX.1.1 _ _ o_a0
                          have vf_15 : fI f_15 a0 14 = x_11 := by rw [ef_15]; exact fI_pU_self oo rfl ⟨lx_11, ux_11⟩
                          exact J206 L0 f_15 hg hE o_a0 _ _ _ hw (lv_sub hl [0, 1, 2, 3] rfl)
                        refine q_icmp_lt (tgt := 194) hx hb dX0_seek_173 (by decide) ⟨lx_9, ux_9⟩ ⟨lx_13, ux_13⟩ (fun c173 => ?_) (fun c173 => ?_)
                        · exact J194 _ _ _ hw (lv_sub hl [1, 2, 3, 4, 5, 6] rfl)
                        · refine lv_iload hx hb dX0_seek_176 (lv_at hl 5 rfl) ?_
                          refine lv_aload_n hx hb dX0_seek_178 rfl (lv_at hl 1 rfl) ?_
                          refine q_geti (ci := 0) (C := RX0) (T := TX0) (N := 15) hx hb hts (fun w h => List.mem_cons_of_mem _ (mfX00 w h)) hown hK hw m_a0 o_a0 rfl 13 (by decide) (hts _ (List.mem_cons_of_mem _ (mr29 _ (List.mem_of_getElem? (i := 13) rfl)))) (fun _ h => h) rfl dX0_seek_179 (fun x_16 lx_16 ux_16 ex_16 => ?_)
                          refine q_icmp_ne (tgt := 206) hx hb dX0_seek_182 (by decide) ⟨lx_9, ux_9⟩ ⟨lx_16, ux_16⟩ (fun c182 => ?_) (fun c182 => ?_)
                          · exact J206 L0 f hg hE o_a0 _ _ _ hw (lv_sub hl [1, 2, 3, 4] rfl)
                          · refine lv_iload hx hb dX0_seek_185 (lv_at hl 6 rfl) ?_
                            refine lv_aload_n hx hb dX0_seek_187 rfl (lv_at hl 1 rfl) ?_
                            refine q_geti (ci := 0) (C := RX0) (T := TX0) (N := 15) hx hb hts (fun w h => List.mem_cons_of_mem _ (mfX00 w h)) hown hK hw m_a0 o_a0 rfl 14 (by decide) (hts _ (List.mem_cons_of_mem _ (mr29 _ (List.mem_of_getElem? (i := 11) rfl)))) (fun _ h => h) rfl dX0_seek_188 (fun x_17 lx_17 ux_17 ex_17 => ?_)
                            refine q_icmp_ge (tgt := 206) hx hb dX0_seek_191 (by decide) ⟨lx_11, ux_11⟩ ⟨lx_17, ux_17⟩ (fun c191 => ?_) (fun c191 => ?_)
                            · exact J206 L0 f hg hE o_a0 _ _ _ hw (lv_sub hl [1, 2, 3, 4] rfl)
                            · exact J194 _ _ _ hw (lv_sub hl [1, 2, 3, 4, 5, 6] rfl)
                  have J154 : ∀ (w0_154 : Int) (lw0_154 : -2147483648 ≤ w0_154) (uw0_154 : w0_154 ≤ 2147483647) (H : Heap) (locs : List Loc) (ls : Array Slot) (hw : Wd D A s.heap L0 f H locs) (hl : lv_has ls 8 [(0, .ref a0), (1, .int (iI x1)), (2, .int (iI x2)), (4, .int (iI y4_104)), (5, .int (iI x_9)), (6, .int (iI x_11))]), W p l e ({ frames := 4, cells := 0, slots := 0, locals := 90 } : Room) s m ([.ref a0, .int (iI x1), .int (iI x2)] : List Value).toArray below meth c H locs (0 + 0 + 0) (0 + 0 + 0) (MQ below (Qi D (tq cy) L0 f0 s.heap.size (fun (r : Int) (L1 : List Nat) (f1 : Nat → va_E) => L0 = L1 ∧ GI cy L0 f1 ∧ Ex cy f0 f1 ∧ (r = 0 ∨ r = 1))) ([.ref a0, .int (iI x1), .int (iI x2)] : List Value).toArray s 0 0 A) (F0 m 154 ls [.int (iI w0_154)]) := by
                    intro w0_154 lw0_154 uw0_154 H locs ls hw hl
                    refine lv_istore (lv' := [(7, .int (iI w0_154)), (0, .ref a0), (1, .int (iI x1)), (2, .int (iI x2)), (4, .int (iI y4_104)), (5, .int (iI x_9)), (6, .int (iI x_11))]) hx hb dX0_seek_154 hl (by decide) rfl (fun ls hl => ?_)
                    refine lv_iload hx hb dX0_seek_156 (lv_at hl 5 rfl) ?_
                    refine q_iconst hx hb dX0_seek_158 ?_
                    have J206 : ∀ (L : List Nat) (f : Nat → va_E) (hg : GI cy L0 f) (hE : Ex cy f0 f) (o_a0 : Ob f a0 0) (H : Heap) (locs : List Loc) (ls : Array Slot) (hw : Wd D A s.heap L0 f H locs) (hl : lv_has ls 8 [(0, .ref a0), (1, .int (iI x1)), (2, .int (iI x2)), (4, .int (iI y4_104))]), W p l e ({ frames := 4, cells := 0, slots := 0, locals := 90 } : Room) s m ([.ref a0, .int (iI x1), .int (iI x2)] : List Value).toArray below meth c H locs (0 + 0 + 0) (0 + 0 + 0) (MQ below (Qi D (tq cy) L0 f0 s.heap.size (fun (r : Int) (L1 : List Nat) (f1 : Nat → va_E) => L0 = L1 ∧ GI cy L0 f1 ∧ Ex cy f0 f1 ∧ (r = 0 ∨ r = 1))) ([.ref a0, .int (iI x1), .int (iI x2)] : List Value).toArray s 0 0 A) (F0 m 206 ls []) := by
                      intro L f hg hE o_a0 H locs ls hw hl
                      obtain ⟨x_18, lx_18, ux_18, hx_18, ex_18⟩ := q_inc y4_104 (1)
                      try (replace ex_18 : x_18 = y4_104 + (1) := by omega)
                      refine lv_iinc (v := iI x_18) (lv' := [(4, .int (iI x_18)), (0, .ref a0), (1, .int (iI x1)), (2, .int (iI x2))]) hx hb dX0_seek_206 hl (k := 3) rfl hx_18 (by decide) rfl (fun ls hl => ?_)
                      refine lv_goto (tgt := 104) hx hb dX0_seek_209 (by decide) ?_
                      exact ih104 x_18 lx_18 ux_18 L0 f hg hE o_a0 (by omega) (by omega) _ _ _ hw (lv_sub hl [1, 2, 3, 0] rfl)
                    refine q_icmp_eq (tgt := 206) hx hb dX0_seek_159 (by decide) ⟨lx_9, ux_9⟩ ⟨by decide, by decide⟩ (fun c159 => ?_) (fun c159 => ?_)
                    · exact J206 L0 f hg hE o_a0 _ _ _ hw (lv_sub hl [1, 2, 3, 4] rfl)
                    · refine lv_iload hx hb dX0_seek_162 (lv_at hl 0 rfl) ?_
                      refine q_if_eq (tgt := 206) hx hb dX0_seek_164 (by decide) ⟨lw0_154, uw0_154⟩ (fun c164 => ?_) (fun c164 => ?_)
                      · exact J206 L0 f hg hE o_a0 _ _ _ hw (lv_sub hl [1, 2, 3, 4] rfl)
                      · refine lv_iload hx hb dX0_seek_167 (lv_at hl 5 rfl) ?_
                        refine lv_aload_n hx hb dX0_seek_169 rfl (lv_at hl 1 rfl) ?_
                        refine q_geti (ci := 0) (C := RX0) (T := TX0) (N := 15) hx hb hts (fun w h => List.mem_cons_of_mem _ (mfX00 w h)) hown hK hw m_a0 o_a0 rfl 13 (by decide) (hts _ (List.mem_cons_of_mem _ (mr29 _ (List.mem_of_getElem? (i := 13) rfl)))) (fun _ h => h) rfl dX0_seek_170 (fun x_19 lx_19 ux_19 ex_19 => ?_)
                        have J194 : ∀ (H : Heap) (locs : List Loc) (ls : Array Slot) (hw : Wd D A s.heap L0 f H locs) (hl : lv_has ls 8 [(0, .ref a0), (1, .int (iI x1)), (2, .int (iI x2)), (4, .int (iI y4_104)), (5, .int (iI x_9)), (6, .int (iI x_11))]), W p l e ({ frames := 4, cells := 0, slots := 0, locals := 90 } : Room) s m ([.ref a0, .int (iI x1), .int (iI x2)] : List Value).toArray below meth c H locs (0 + 0 + 0) (0 + 0 + 0) (MQ below (Qi D (tq cy) L0 f0 s.heap.size (fun (r : Int) (L1 : List Nat) (f1 : Nat → va_E) => L0 = L1 ∧ GI cy L0 f1 ∧ Ex cy f0 f1 ∧ (r = 0 ∨ r = 1))) ([.ref a0, .int (iI x1), .int (iI x2)] : List Value).toArray s 0 0 A) (F0 m 194 ls []) := by
                          intro H locs ls hw hl
                          refine lv_aload_n hx hb dX0_seek_194 rfl (lv_at hl 0 rfl) ?_
                          refine lv_iload hx hb dX0_seek_195 (lv_at hl 4 rfl) ?_
                          refine q_puti (ci := 0) (C := RX0) (T := TX0) (N := 15) hx hb hts (fun w h => List.mem_cons_of_mem _ (mfX00 w h)) hown hK hw m_a0 o_a0 rfl 13 (by decide) (hts _ (List.mem_cons_of_mem _ (mr29 _ (List.mem_of_getElem? (i := 13) rfl)))) (fun _ h => h) tyX0 tyX0_ok nmX0 rfl (ty := .int) (by decide +kernel) rfl rfl dX0_seek_197 (fun H locs hw => ?_)
                          have oo := o_a0
                          obtain ⟨f_20, ef_20⟩ : ∃ g : Nat → va_E, g = pU f a0 13 (.int (iI x_9)) := ⟨_, rfl⟩
                          have hX : Ex cy f f_20 := by rw [ef_20]; exact Ex_pU oo rfl rfl (by decide)
                          have hg : GI cy L0 f_20 := by rw [ef_20]; exact hg.putI oo rfl ⟨lx_9, ux_9⟩ trivial
                          rw [← ef_20] at hw
                          have hE := hE.trans hX
                          have o_a0 := hX.1.1 _ _ o_a0
                          have vf_20 : fI f_20 a0 13 = x_9 := by rw [ef_20]; exact fI_pU_self oo rfl ⟨lx_9, ux_9⟩
                          refine lv_aload_n hx hb dX0_seek_200 rfl (lv_at hl 0 rfl) ?_
                          refine lv_iload hx hb dX0_seek_201 (lv_at hl 5 rfl) ?_
                          refine q_puti (ci := 0) (C := RX0) (T := TX0) (N := 15) hx hb hts (fun w h => List.mem_cons_of_mem _ (mfX00 w h)) hown hK hw m_a0 o_a0 rfl 14 (by decide) (hts _ (List.mem_cons_of_mem _ (mr29 _ (List.mem_of_getElem? (i := 11) rfl)))) (fun _ h => h) tyX0 tyX0_ok nmX0 rfl (ty := .int) (by decide +kernel) rfl rfl dX0_seek_203 (fun H locs hw => ?_)
                          have oo := o_a0
                          obtain ⟨f_21, ef_21⟩ : ∃ g : Nat → va_E, g = pU f_20 a0 14 (.int (iI x_11)) := ⟨_, rfl⟩
                          have hX : Ex cy f_20 f_21 := by rw [ef_21]; exact Ex_pU oo rfl rfl (by decide)
                          have hg : GI cy L0 f_21 := by rw [ef_21]; exact hg.putI oo rfl ⟨lx_11, ux_11⟩ trivial
                          rw [← ef_21] at hw
                          have hE := hE.trans hX
                          have o_a0 := hX.1.1 _ _ o_a0
                          have vf_21 : fI f_21 a0 14 = x_11 := by rw [ef_21]; exact fI_pU_self oo rfl ⟨lx_11, ux_11⟩
                          exact J206 L0 f_21 hg hE o_a0 _ _ _ hw (lv_sub hl [0, 1, 2, 3] rfl)
                        refine q_icmp_lt (tgt := 194) hx hb dX0_seek_173 (by decide) ⟨lx_9, ux_9⟩ ⟨lx_19, ux_19⟩ (fun c173 => ?_) (fun c173 => ?_)
                        · exact J194 _ _ _ hw (lv_sub hl [1, 2, 3, 4, 5, 6] rfl)
                        · refine lv_iload hx hb dX0_seek_176 (lv_at hl 5 rfl) ?_
                          refine lv_aload_n hx hb dX0_seek_178 rfl (lv_at hl 1 rfl) ?_
                          refine q_geti (ci := 0) (C := RX0) (T := TX0) (N := 15) hx hb hts (fun w h => List.mem_cons_of_mem _ (mfX00 w h)) hown hK hw m_a0 o_a0 rfl 13 (by decide) (hts _ (List.mem_cons_of_mem _ (mr29 _ (List.mem_of_getElem? (i := 13) rfl)))) (fun _ h => h) rfl dX0_seek_179 (fun x_22 lx_22 ux_22 ex_22 => ?_)
                          refine q_icmp_ne (tgt := 206) hx hb dX0_seek_182 (by decide) ⟨lx_9, ux_9⟩ ⟨lx_22, ux_22⟩ (fun c182 => ?_) (fun c182 => ?_)
                          · exact J206 L0 f hg hE o_a0 _ _ _ hw (lv_sub hl [1, 2, 3, 4] rfl)
                          · refine lv_iload hx hb dX0_seek_185 (lv_at hl 6 rfl) ?_
                            refine lv_aload_n hx hb dX0_seek_187 rfl (lv_at hl 1 rfl) ?_
                            refine q_geti (ci := 0) (C := RX0) (T := TX0) (N := 15) hx hb hts (fun w h => List.mem_cons_of_mem _ (mfX00 w h)) hown hK hw m_a0 o_a0 rfl 14 (by decide) (hts _ (List.mem_cons_of_mem _ (mr29 _ (List.mem_of_getElem? (i := 11) rfl)))) (fun _ h => h) rfl dX0_seek_188 (fun x_23 lx_23 ux_23 ex_23 => ?_)
                            refine q_icmp_ge (tgt := 206) hx hb dX0_seek_191 (by decide) ⟨lx_11, ux_11⟩ ⟨lx_23, ux_23⟩ (fun c191 => ?_) (fun c191 => ?_)
                            · exact J206 L0 f hg hE o_a0 _ _ _ hw (lv_sub hl [1, 2, 3, 4] rfl)
                            · exact J194 _ _ _ hw (lv_sub hl [1, 2, 3, 4, 5, 6] rfl)
                  refine q_icmp_gt (tgt := 149) hx hb dX0_seek_134 (by decide) ⟨lx_9, ux_9⟩ ⟨lx1, ux1⟩ (fun c134 => ?_) (fun c134 => ?_)
                  · exact J149 _ _ _ hw (lv_sub hl [2, 3, 4, 5, 1, 0] rfl)
                  · refine lv_iload hx hb dX0_seek_137 (lv_at hl 1 rfl) ?_
                    refine lv_iload_n hx hb dX0_seek_139 rfl (lv_at hl 3 rfl) ?_
                    have J153 : ∀ (H : Heap) (locs : List Loc) (ls : Array Slot) (hw : Wd D A s.heap L0 f H locs) (hl : lv_has ls 8 [(0, .ref a0), (1, .int (iI x1)), (2, .int (iI x2)), (4, .int (iI y4_104)), (5, .int (iI x_9)), (6, .int (iI x_11))]), W p l e ({ frames := 4, cells := 0, slots := 0, locals := 90 } : Room) s m ([.ref a0, .int (iI x1), .int (iI x2)] : List Value).toArray below meth c H locs (0 + 0 + 0) (0 + 0 + 0) (MQ below (Qi D (tq cy) L0 f0 s.heap.size (fun (r : Int) (L1 : List Nat) (f1 : Nat → va_E) => L0 = L1 ∧ GI cy L0 f1 ∧ Ex cy f0 f1 ∧ (r = 0 ∨ r = 1))) ([.ref a0, .int (iI x1), .int (iI x2)] : List Value).toArray s 0 0 A) (F0 m 153 ls []) := by
                      intro H locs ls hw hl
                      refine q_iconst hx hb dX0_seek_153 ?_
                      exact J154 0 (by decide) (by decide) _ _ _ hw (lv_sub hl [0, 1, 2, 3, 4, 5] rfl)
                    refine q_icmp_ne (tgt := 153) hx hb dX0_seek_140 (by decide) ⟨lx_9, ux_9⟩ ⟨lx1, ux1⟩ (fun c140 => ?_) (fun c140 => ?_)
                    · exact J153 _ _ _ hw (lv_sub hl [2, 3, 4, 5, 1, 0] rfl)
                    · refine lv_iload hx hb dX0_seek_143 (lv_at hl 0 rfl) ?_
                      refine lv_iload_n hx hb dX0_seek_145 rfl (lv_at hl 4 rfl) ?_
                      refine q_icmp_lt (tgt := 153) hx hb dX0_seek_146 (by decide) ⟨lx_11, ux_11⟩ ⟨lx2, ux2⟩ (fun c146 => ?_) (fun c146 => ?_)
                      · exact J153 _ _ _ hw (lv_sub hl [2, 3, 4, 5, 1, 0] rfl)
                      · exact J149 _ _ _ hw (lv_sub hl [2, 3, 4, 5, 1, 0] rfl)
            exact J104 ((((2147483647 : Int) - 0).toNat) + 1) 0 (by decide) (by decide) L0 f_5 hg hE o_a0 (by omega) (by omega) _ _ _ hw (lv_sub hl [1, 2, 3, 0] rfl)
          refine q_icmp_ne (tgt := 93) hx hb dX0_seek_85 (by decide) ⟨ly3_40, uy3_40⟩ ⟨by decide, by decide⟩ (fun c85 => ?_) (fun c85 => ?_)
          · refine lv_aload_n hx hb dX0_seek_93 rfl (lv_at hl 0 rfl) ?_
            refine lv_iload_n hx hb dX0_seek_94 rfl (lv_at hl 3 rfl) ?_
            refine q_call_i hA hK hw (va_runV (As := [.int (iI y3_40)]) (rest := [.ref a0]) ⟨hx, hb, hml, hown, hts⟩ (c_X0_timeOf zo l D cy L0 f_4 a0 y3_40 ly3_40 uy3_40 m_a0 o_a0 hg _) (cwV 1 hts (gT (inV (mr29 _ (List.mem_of_getElem? (i := 23) rfl)) (mr30 _ (List.mem_of_getElem? (i := 0) rfl)) (mr30 _ (List.mem_of_getElem? (i := 1) rfl)) (mr2 _ (List.mem_of_getElem? (i := 9) rfl)) (mr30 _ (List.mem_of_getElem? (i := 2) rfl)))) rfl rfl rfl (by decide +kernel) ⟨Nat.le_of_ble_eq_true rfl, Nat.le_of_ble_eq_true rfl⟩) (Wd.preV zo hA hZ hw hK m_a0 o_a0 rfl) rfl rfl hl.1 rfl (lv_room (Nat.le_of_ble_eq_true rfl)) dX0_seek_95 ⟨Nat.le_of_ble_eq_true rfl, Nat.le_of_ble_eq_true rfl⟩) (fun x_24 L1 f1 H locs lx_24 ux_24 ex_24 hw => ?_)
            obtain ⟨rfl, rfl, ex_24⟩ := ex_24
            exact J98 x_24 lx_24 ux_24 _ _ _ hw (lv_sub hl [0, 1, 2] rfl)
          · refine q_ldc (n := 2147483647) hx hb hown (hts _ (List.mem_cons_of_mem _ (mr29 _ (List.mem_of_getElem? (i := 12) rfl)))) rfl dX0_seek_88 ?_
            refine lv_goto (tgt := 98) hx hb dX0_seek_90 (by decide) ?_
            exact J98 2147483647 (by decide) (by decide) _ _ _ hw (lv_sub hl [0, 1, 2] rfl)
        refine q_icmp_ge (tgt := 77) hx hb dX0_seek_46 (by decide) ⟨ly4_40, uy4_40⟩ ⟨lx_3, ux_3⟩ (fun c46 => ?_) (fun c46 => ?_)
        · exact J77 _ _ _ hw (lv_sub hl [0, 1, 2, 3] rfl)
        · refine lv_iload_n hx hb dX0_seek_49 rfl (lv_at hl 3 rfl) ?_
          refine q_iconst hx hb dX0_seek_50 ?_
          refine q_icmp_eq (tgt := 77) hx hb dX0_seek_51 (by decide) ⟨ly3_40, uy3_40⟩ ⟨by decide, by decide⟩ (fun c51 => ?_) (fun c51 => ?_)
          · exact J77 _ _ _ hw (lv_sub hl [0, 1, 2, 3] rfl)
          · refine lv_aload_n hx hb dX0_seek_54 rfl (lv_at hl 0 rfl) ?_
            refine lv_iload_n hx hb dX0_seek_55 rfl (lv_at hl 3 rfl) ?_
            refine q_call_i hA hK hw (va_runV (As := [.int (iI y3_40)]) (rest := []) ⟨hx, hb, hml, hown, hts⟩ (c_X0_changeOf zo l D cy L0 f0 a0 y3_40 ly3_40 uy3_40 m_a0 o_a0 hg _) (cwV 1 hts (gT (inV (mr26 _ (List.mem_of_getElem? (i := 15) rfl)) (mr26 _ (List.mem_of_getElem? (i := 16) rfl)) (mr26 _ (List.mem_of_getElem? (i := 17) rfl)) (mr2 _ (List.mem_of_getElem? (i := 9) rfl)) (mr26 _ (List.mem_of_getElem? (i := 18) rfl)))) rfl rfl rfl (by decide +kernel) ⟨Nat.le_of_ble_eq_true rfl, Nat.le_of_ble_eq_true rfl⟩) (Wd.preV zo hA hZ hw hK m_a0 o_a0 rfl) rfl rfl hl.1 rfl (lv_room (Nat.le_of_ble_eq_true rfl)) dX0_seek_56 ⟨Nat.le_of_ble_eq_true rfl, Nat.le_of_ble_eq_true rfl⟩) (fun x_25 L1 f1 H locs lx_25 ux_25 ex_25 hw => ?_)
            obtain ⟨rfl, rfl, ex_25⟩ := ex_25
            refine q_iconst hx hb dX0_seek_59 ?_
            refine q_icmp_eq (tgt := 77) hx hb dX0_seek_60 (by decide) ⟨lx_25, ux_25⟩ ⟨by decide, by decide⟩ (fun c60 => ?_) (fun c60 => ?_)
            · exact J77 _ _ _ hw (lv_sub hl [0, 1, 2, 3] rfl)
            · refine lv_aload_n hx hb dX0_seek_63 rfl (lv_at hl 0 rfl) ?_
              refine lv_iload_n hx hb dX0_seek_64 rfl (lv_at hl 3 rfl) ?_
              refine q_iconst hx hb dX0_seek_65 ?_
              first | refine q_iadd hx hb dX0_seek_66 ⟨by omega, by omega⟩ (fun x_26 lx_26 ux_26 ex_26 => ?_) | refine q_iaddw hx hb dX0_seek_66 (fun x_26 lx_26 ux_26 _ => ?_)
              refine q_call_i hA hK hw (va_runV (As := [.int (iI x_26)]) (rest := []) ⟨hx, hb, hml, hown, hts⟩ (c_X0_keyFrom zo l D cy L0 f0 a0 x_26 lx_26 ux_26 m_a0 o_a0 hg _) (cwV 1 hts (gT (inV (mr26 _ (List.mem_of_getElem? (i := 10) rfl)) (mr24 _ (List.mem_of_getElem? (i := 13) rfl)) (mr24 _ (List.mem_of_getElem? (i := 14) rfl)) (mr2 _ (List.mem_of_getElem? (i := 9) rfl)) (mr24 _ (List.mem_of_getElem? (i := 15) rfl)))) rfl rfl rfl (by decide +kernel) ⟨Nat.le_of_ble_eq_true rfl, Nat.le_of_ble_eq_true rfl⟩) (Wd.preV zo hA hZ hw hK m_a0 o_a0 rfl) rfl rfl hl.1 rfl (lv_room (Nat.le_of_ble_eq_true rfl)) dX0_seek_67 ⟨Nat.le_of_ble_eq_true rfl, Nat.le_of_ble_eq_true rfl⟩) (fun x_27 L1 f1 H locs lx_27 ux_27 ex_27 hw => ?_)
              obtain ⟨rfl, rfl, ex_27⟩ := ex_27
              refine lv_istore_n (lv' := [(3, .int (iI x_27)), (0, .ref a0), (1, .int (iI x1)), (2, .int (iI x2)), (4, .int (iI y4_40))]) hx hb dX0_seek_70 rfl hl (by decide) rfl (fun ls hl => ?_)
              obtain ⟨x_28, lx_28, ux_28, hx_28, ex_28⟩ := q_inc y4_40 (1)
              try (replace ex_28 : x_28 = y4_40 + (1) := by omega)
              refine lv_iinc (v := iI x_28) (lv' := [(4, .int (iI x_28)), (3, .int (iI x_27)), (0, .ref a0), (1, .int (iI x1)), (2, .int (iI x2))]) hx hb dX0_seek_71 hl (k := 4) rfl hx_28 (by decide) rfl (fun ls hl => ?_)
              refine lv_goto (tgt := 40) hx hb dX0_seek_74 (by decide) ?_
              exact ih40 x_27 lx_27 ux_27 x_28 lx_28 ux_28 (by omega) (by omega) _ _ _ hw (lv_sub hl [2, 3, 4, 1, 0] rfl)
    exact J40 ((((2147483647 : Int) - 0).toNat) + 1) z3_37 lz3_37 uz3_37 0 (by decide) (by decide) (by omega) (by omega) _ _ _ hw (lv_sub hl [1, 2, 3, 4, 0] rfl)
  refine q_icmp_eq (tgt := 37) hx hb dX0_seek_12 (by decide) ⟨lx_2, ux_2⟩ ⟨by decide, by decide⟩ (fun c12 => ?_) (fun c12 => ?_)
  · exact J37 x_2 lx_2 ux_2 _ _ _ hw (lv_sub hl [1, 2, 3, 0] rfl)
  · refine lv_iload_n hx hb dX0_seek_15 rfl (lv_at hl 0 rfl) ?_
    refine lv_iload_n hx hb dX0_seek_16 rfl (lv_at hl 3 rfl) ?_
    refine q_icmp_ge (tgt := 37) hx hb dX0_seek_17 (by decide) ⟨lx_2, ux_2⟩ ⟨lx2, ux2⟩ (fun c17 => ?_) (fun c17 => ?_)
    · exact J37 x_2 lx_2 ux_2 _ _ _ hw (lv_sub hl [1, 2, 3, 0] rfl)
    · refine lv_aload_n hx hb dX0_seek_20 rfl (lv_at hl 1 rfl) ?_
      refine lv_iload_n hx hb dX0_seek_21 rfl (lv_at hl 0 rfl) ?_
      refine q_call_i hA hK hw (va_runV (As := [.int (iI x_2)]) (rest := []) ⟨hx, hb, hml, hown, hts⟩ (c_X0_timeOf zo l D cy L0 f0 a0 x_2 lx_2 ux_2 m_a0 o_a0 hg _) (cwV 1 hts (gT (inV (mr29 _ (List.mem_of_getElem? (i := 23) rfl)) (mr30 _ (List.mem_of_getElem? (i := 0) rfl)) (mr30 _ (List.mem_of_getElem? (i := 1) rfl)) (mr2 _ (List.mem_of_getElem? (i := 9) rfl)) (mr30 _ (List.mem_of_getElem? (i := 2) rfl)))) rfl rfl rfl (by decide +kernel) ⟨Nat.le_of_ble_eq_true rfl, Nat.le_of_ble_eq_true rfl⟩) (Wd.preV zo hA hZ hw hK m_a0 o_a0 rfl) rfl rfl hl.1 rfl (lv_room (Nat.le_of_ble_eq_true rfl)) dX0_seek_22 ⟨Nat.le_of_ble_eq_true rfl, Nat.le_of_ble_eq_true rfl⟩) (fun x_29 L1 f1 H locs lx_29 ux_29 ex_29 hw => ?_)
      obtain ⟨rfl, rfl, ex_29⟩ := ex_29
      refine lv_iload_n hx hb dX0_seek_25 rfl (lv_at hl 2 rfl) ?_
      refine q_icmp_ne (tgt := 37) hx hb dX0_seek_26 (by decide) ⟨lx_29, ux_29⟩ ⟨lx1, ux1⟩ (fun c26 => ?_) (fun c26 => ?_)
      · exact J37 x_2 lx_2 ux_2 _ _ _ hw (lv_sub hl [1, 2, 3, 0] rfl)
      · refine lv_aload_n hx hb dX0_seek_29 rfl (lv_at hl 1 rfl) ?_
        refine lv_iload_n hx hb dX0_seek_30 rfl (lv_at hl 0 rfl) ?_
        refine q_iconst hx hb dX0_seek_31 ?_
        first | refine q_iadd hx hb dX0_seek_32 ⟨by omega, by omega⟩ (fun x_30 lx_30 ux_30 ex_30 => ?_) | refine q_iaddw hx hb dX0_seek_32 (fun x_30 lx_30 ux_30 _ => ?_)
        refine q_call_i hA hK hw (va_runV (As := [.int (iI x_30)]) (rest := []) ⟨hx, hb, hml, hown, hts⟩ (c_X0_keyFrom zo l D cy L0 f0 a0 x_30 lx_30 ux_30 m_a0 o_a0 hg _) (cwV 1 hts (gT (inV (mr26 _ (List.mem_of_getElem? (i := 10) rfl)) (mr24 _ (List.mem_of_getElem? (i := 13) rfl)) (mr24 _ (List.mem_of_getElem? (i := 14) rfl)) (mr2 _ (List.mem_of_getElem? (i := 9) rfl)) (mr24 _ (List.mem_of_getElem? (i := 15) rfl)))) rfl rfl rfl (by decide +kernel) ⟨Nat.le_of_ble_eq_true rfl, Nat.le_of_ble_eq_true rfl⟩) (Wd.preV zo hA hZ hw hK m_a0 o_a0 rfl) rfl rfl hl.1 rfl (lv_room (Nat.le_of_ble_eq_true rfl)) dX0_seek_33 ⟨Nat.le_of_ble_eq_true rfl, Nat.le_of_ble_eq_true rfl⟩) (fun x_31 L1 f1 H locs lx_31 ux_31 ex_31 hw => ?_)
        obtain ⟨rfl, rfl, ex_31⟩ := ex_31
        refine lv_istore_n (lv' := [(3, .int (iI x_31)), (0, .ref a0), (1, .int (iI x1)), (2, .int (iI x2))]) hx hb dX0_seek_36 rfl hl (by decide) rfl (fun ls hl => ?_)
        exact J37 x_31 lx_31 ux_31 _ _ _ hw (lv_sub hl [1, 2, 3, 0] rfl)
set_option maxHeartbeats 4000000 in
set_option maxRecDepth 100000 in
theorem c_X0_seekAhead {Z : Zt} (zo : Zok Z) (l : Launch) (D : va_G) (cy : Cy) (L0 : List Nat) (f0 : Nat → va_E) (a0 : Nat) (x1 : Int) (lx1 : -2147483648 ≤ x1) (ux1 : x1 ≤ 2147483647) (m_a0 : a0 ∈ L0) (o_a0 : Ob f0 a0 0) (hg : GI cy L0 f0) : Ci Z l yX0_seekAhead (Cond.code yX0_seekAhead cX0_seekAhead 6 (some .boolean) :: TB) ({ frames := 4, cells := 0, slots := 0, locals := 88 } : Room) 0 0 D (tq cy) [.ref a0, .int (iI x1)] L0 f0 (fun (r : Int) (L1 : List Nat) (f1 : Nat → va_E) => L0 = L1 ∧ GI cy L0 f1 ∧ Ex cy f0 f1 ∧ (r = 0 ∨ r = 1)) := by
  refine Ci.enter (cc := cX0_seekAhead) (n := 6) rfl (plainFor_of_name (by decide)) (Nat.le_of_ble_eq_true rfl) ?_
  intro p e s m below meth c ls A hx hb hr hts hown hlocks hnm hml hK hA hAe hw hZ hl
  have hown : s.vm.findClass RX0 = some m.cls := hown
  have hl : lv_has ls 6 [(0, .ref a0), (1, .int (iI x1))] := hl
  have hN : ZN s := (zo.2.2.2.2 _ _ _ hZ).2
  have hE : Ex cy f0 f0 := Ex.refl cy f0
  refine lv_aload_n hx hb dX0_seekAhead_0 rfl (lv_at hl 0 rfl) ?_
  refine lv_aload_n hx hb dX0_seekAhead_1 rfl (lv_at hl 0 rfl) ?_
  refine lv_iload_n hx hb dX0_seekAhead_2 rfl (lv_at hl 1 rfl) ?_
  refine q_iconst hx hb dX0_seekAhead_3 ?_
  first | refine q_isub hx hb dX0_seekAhead_4 ⟨by omega, by omega⟩ (fun x_1 lx_1 ux_1 ex_1 => ?_) | refine q_isubw hx hb dX0_seekAhead_4 (fun x_1 lx_1 ux_1 _ => ?_)
  refine q_call_i hA hK hw (va_runV (As := [.int (iI x_1)]) (rest := [.ref a0]) ⟨hx, hb, hml, hown, hts⟩ (c_X0_ruledTo zo l D cy L0 f0 a0 x_1 lx_1 ux_1 m_a0 o_a0 hg _) (cwV 1 hts (gT (inV (mr30 _ (List.mem_of_getElem? (i := 23) rfl)) (mr31 _ (List.mem_of_getElem? (i := 0) rfl)) (mr31 _ (List.mem_of_getElem? (i := 1) rfl)) (mr2 _ (List.mem_of_getElem? (i := 9) rfl)) (mr31 _ (List.mem_of_getElem? (i := 2) rfl)))) rfl rfl rfl (by decide +kernel) ⟨Nat.le_of_ble_eq_true rfl, Nat.le_of_ble_eq_true rfl⟩) (Wd.preV zo hA hZ hw hK m_a0 o_a0 rfl) rfl rfl hl.1 rfl (lv_room (Nat.le_of_ble_eq_true rfl)) dX0_seekAhead_5 ⟨Nat.le_of_ble_eq_true rfl, Nat.le_of_ble_eq_true rfl⟩) (fun x_2 L1 f1 H locs lx_2 ux_2 ex_2 hw => ?_)
  obtain ⟨rfl, rfl, ex_2⟩ := ex_2
  refine q_call_i hA hK hw (va_runV (As := [.int (iI x_2)]) (rest := []) ⟨hx, hb, hml, hown, hts⟩ (c_X0_keyTo zo l D cy L0 f0 a0 x_2 lx_2 ux_2 m_a0 o_a0 hg _) (cwV 1 hts (gT (inV (mr31 _ (List.mem_of_getElem? (i := 3) rfl)) (mr31 _ (List.mem_of_getElem? (i := 4) rfl)) (mr31 _ (List.mem_of_getElem? (i := 5) rfl)) (mr2 _ (List.mem_of_getElem? (i := 9) rfl)) (mr31 _ (List.mem_of_getElem? (i := 6) rfl)))) rfl rfl rfl (by decide +kernel) ⟨Nat.le_of_ble_eq_true rfl, Nat.le_of_ble_eq_true rfl⟩) (Wd.preV zo hA hZ hw hK m_a0 o_a0 rfl) rfl rfl hl.1 rfl (lv_room (Nat.le_of_ble_eq_true rfl)) dX0_seekAhead_8 ⟨Nat.le_of_ble_eq_true rfl, Nat.le_of_ble_eq_true rfl⟩) (fun x_3 L1 f1 H locs lx_3 ux_3 ex_3 hw => ?_)
  obtain ⟨rfl, rfl, ex_3⟩ := ex_3
  refine lv_istore_n (lv' := [(2, .int (iI x_3)), (0, .ref a0), (1, .int (iI x1))]) hx hb dX0_seekAhead_11 rfl hl (by decide) rfl (fun ls hl => ?_)
  refine q_iconst hx hb dX0_seekAhead_12 ?_
  refine lv_istore_n (lv' := [(3, .int (iI 0)), (2, .int (iI x_3)), (0, .ref a0), (1, .int (iI x1))]) hx hb dX0_seekAhead_13 rfl hl (by decide) rfl (fun ls hl => ?_)
  have J14 : ∀ (n14 : Nat) (y2_14 : Int) (ly2_14 : -2147483648 ≤ y2_14) (uy2_14 : y2_14 ≤ 2147483647) (y3_14 : Int) (ly3_14 : -2147483648 ≤ y3_14) (uy3_14 : y3_14 ≤ 2147483647) (i1 : 0 ≤ y3_14) (hn14 : ((2147483647 : Int) - y3_14).toNat < n14) (H : Heap) (locs : List Loc) (ls : Array Slot) (hw : Wd D A s.heap L0 f0 H locs) (hl : lv_has ls 6 [(0, .ref a0), (1, .int (iI x1)), (2, .int (iI y2_14)), (3, .int (iI y3_14))]), W p l e ({ frames := 4, cells := 0, slots := 0, locals := 88 } : Room) s m ([.ref a0, .int (iI x1)] : List Value).toArray below meth c H locs (0 + 0 + 0) (0 + 0 + 0) (MQ below (Qi D (tq cy) L0 f0 s.heap.size (fun (r : Int) (L1 : List Nat) (f1 : Nat → va_E) => L0 = L1 ∧ GI cy L0 f1 ∧ Ex cy f0 f1 ∧ (r = 0 ∨ r = 1))) ([.ref a0, .int (iI x1)] : List Value).toArray s 0 0 A) (F0 m 14 ls []) := by
    intro n14
    induction n14 with
    | zero => intro y2_14 ly2_14 uy2_14 y3_14 ly3_14 uy3_14 i1 hn14; exact absurd hn14 (Nat.not_lt_zero _)
    | succ n14 ih14 =>
      intro y2_14 ly2_14 uy2_14 y3_14 ly3_14 uy3_14 i1 hn14 H locs ls hw hl
      refine lv_iload_n hx hb dX0_seekAhead_14 rfl (lv_at hl 3 rfl) ?_
      refine lv_aload_n hx hb dX0_seekAhead_15 rfl (lv_at hl 0 rfl) ?_
      refine q_geti (ci := 0) (C := RX0) (T := TX0) (N := 15) hx hb hts (fun w h => List.mem_cons_of_mem _ (mfX00 w h)) hown hK hw m_a0 o_a0 rfl 10 (by decide) (hts _ (List.mem_cons_of_mem _ (mr14 _ (List.mem_of_getElem? (i := 9) rfl)))) (fun _ h => h) rfl dX0_seekAhead_16 (fun x_4 lx_4 ux_4 ex_4 => ?_)
      have bx_4 : 0 ≤ x_4 ∧ x_4 ≤ 16 := by rw [ex_4]; exact hg.1 _ m_a0 0 10 o_a0
      have J50 : ∀ (H : Heap) (locs : List Loc) (ls : Array Slot) (hw : Wd D A s.heap L0 f0 H locs) (hl : lv_has ls 6 [(0, .ref a0), (1, .int (iI x1)), (2, .int (iI y2_14))]), W p l e ({ frames := 4, cells := 0, slots := 0, locals := 88 } : Room) s m ([.ref a0, .int (iI x1)] : List Value).toArray below meth c H locs (0 + 0 + 0) (0 + 0 + 0) (MQ below (Qi D (tq cy) L0 f0 s.heap.size (fun (r : Int) (L1 : List Nat) (f1 : Nat → va_E) => L0 = L1 ∧ GI cy L0 f1 ∧ Ex cy f0 f1 ∧ (r = 0 ∨ r = 1))) ([.ref a0, .int (iI x1)] : List Value).toArray s 0 0 A) (F0 m 50 ls []) := by
        intro H locs ls hw hl
        refine lv_aload_n hx hb dX0_seekAhead_50 rfl (lv_at hl 0 rfl) ?_
        refine lv_iload_n hx hb dX0_seekAhead_51 rfl (lv_at hl 2 rfl) ?_
        refine q_puti (ci := 0) (C := RX0) (T := TX0) (N := 15) hx hb hts (fun w h => List.mem_cons_of_mem _ (mfX00 w h)) hown hK hw m_a0 o_a0 rfl 14 (by decide) (hts _ (List.mem_cons_of_mem _ (mr29 _ (List.mem_of_getElem? (i := 11) rfl)))) (fun _ h => h) tyX0 tyX0_ok nmX0 rfl (ty := .int) (by decide +kernel) rfl rfl dX0_seekAhead_52 (fun H locs hw => ?_)
        have oo := o_a0
        obtain ⟨f_5, ef_5⟩ : ∃ g : Nat → va_E, g = pU f0 a0 14 (.int (iI y2_14)) := ⟨_, rfl⟩
        have hX : Ex cy f0 f_5 := by rw [ef_5]; exact Ex_pU oo rfl rfl (by decide)
        have hg : GI cy L0 f_5 := by rw [ef_5]; exact hg.putI oo rfl ⟨ly2_14, uy2_14⟩ trivial
        rw [← ef_5] at hw
        have hE := hE.trans hX
        have o_a0 := hX.1.1 _ _ o_a0
        have vf_5 : fI f_5 a0 14 = y2_14 := by rw [ef_5]; exact fI_pU_self oo rfl ⟨ly2_14, uy2_14⟩
        refine lv_aload_n hx hb dX0_seekAhead_55 rfl (lv_at hl 0 rfl) ?_
        refine lv_iload_n hx hb dX0_seekAhead_56 rfl (lv_at hl 2 rfl) ?_
        refine q_iconst hx hb dX0_seekAhead_57 ?_
        have J70 : ∀ (w0_70 : Int) (lw0_70 : -2147483648 ≤ w0_70) (uw0_70 : w0_70 ≤ 2147483647) (H : Heap) (locs : List Loc) (ls : Array Slot) (hw : Wd D A s.heap L0 f_5 H locs) (hl : lv_has ls 6 [(0, .ref a0), (1, .int (iI x1))]), W p l e ({ frames := 4, cells := 0, slots := 0, locals := 88 } : Room) s m ([.ref a0, .int (iI x1)] : List Value).toArray below meth c H locs (0 + 0 + 0) (0 + 0 + 0) (MQ below (Qi D (tq cy) L0 f0 s.heap.size (fun (r : Int) (L1 : List Nat) (f1 : Nat → va_E) => L0 = L1 ∧ GI cy L0 f1 ∧ Ex cy f0 f1 ∧ (r = 0 ∨ r = 1))) ([.ref a0, .int (iI x1)] : List Value).toArray s 0 0 A) (F0 m 70 ls [.int (iI w0_70), .ref a0]) := by
          intro w0_70 lw0_70 uw0_70 H locs ls hw hl
          refine q_puti (ci := 0) (C := RX0) (T := TX0) (N := 15) hx hb hts (fun w h => List.mem_cons_of_mem _ (mfX00 w h)) hown hK hw m_a0 o_a0 rfl 13 (by decide) (hts _ (List.mem_cons_of_mem _ (mr29 _ (List.mem_of_getElem? (i := 13) rfl)))) (fun _ h => h) tyX0 tyX0_ok nmX0 rfl (ty := .int) (by decide +kernel) rfl rfl dX0_seekAhead_70 (fun H locs hw => ?_)
          have oo := o_a0
          obtain ⟨f_6, ef_6⟩ : ∃ g : Nat → va_E, g = pU f_5 a0 13 (.int (iI w0_70)) := ⟨_, rfl⟩
          have hX : Ex cy f_5 f_6 := by rw [ef_6]; exact Ex_pU oo rfl rfl (by decide)
          have hg : GI cy L0 f_6 := by rw [ef_6]; exact hg.putI oo rfl ⟨lw0_70, uw0_70⟩ trivial
          rw [← ef_6] at hw
          have hE := hE.trans hX
          have o_a0 := hX.1.1 _ _ o_a0
          have vf_6 : fI f_6 a0 13 = w0_70 := by rw [ef_6]; exact fI_pU_self oo rfl ⟨lw0_70, uw0_70⟩
          refine q_iconst hx hb dX0_seekAhead_73 ?_
          refine lv_istore_n (lv' := [(3, .int (iI 0)), (0, .ref a0), (1, .int (iI x1))]) hx hb dX0_seekAhead_74 rfl hl (by decide) rfl (fun ls hl => ?_)
          have J75 : ∀ (n75 : Nat) (y3_75 : Int) (ly3_75 : -2147483648 ≤ y3_75) (uy3_75 : y3_75 ≤ 2147483647) (L : List Nat) (f : Nat → va_E) (hg : GI cy L0 f) (hE : Ex cy f0 f) (o_a0 : Ob f a0 0) (i1 : 0 ≤ y3_75) (hn75 : ((2147483647 : Int) - y3_75).toNat < n75) (H : Heap) (locs : List Loc) (ls : Array Slot) (hw : Wd D A s.heap L0 f H locs) (hl : lv_has ls 6 [(0, .ref a0), (1, .int (iI x1)), (3, .int (iI y3_75))]), W p l e ({ frames := 4, cells := 0, slots := 0, locals := 88 } : Room) s m ([.ref a0, .int (iI x1)] : List Value).toArray below meth c H locs (0 + 0 + 0) (0 + 0 + 0) (MQ below (Qi D (tq cy) L0 f0 s.heap.size (fun (r : Int) (L1 : List Nat) (f1 : Nat → va_E) => L0 = L1 ∧ GI cy L0 f1 ∧ Ex cy f0 f1 ∧ (r = 0 ∨ r = 1))) ([.ref a0, .int (iI x1)] : List Value).toArray s 0 0 A) (F0 m 75 ls []) := by
            intro n75
            induction n75 with
            | zero => intro y3_75 ly3_75 uy3_75 L f hg hE o_a0 i1 hn75; exact absurd hn75 (Nat.not_lt_zero _)
            | succ n75 ih75 =>
              intro y3_75 ly3_75 uy3_75 L f hg hE o_a0 i1 hn75 H locs ls hw hl
              refine lv_iload_n hx hb dX0_seekAhead_75 rfl (lv_at hl 2 rfl) ?_
              refine lv_aload_n hx hb dX0_seekAhead_76 rfl (lv_at hl 0 rfl) ?_
              refine q_geti (ci := 0) (C := RX0) (T := TX0) (N := 15) hx hb hts (fun w h => List.mem_cons_of_mem _ (mfX00 w h)) hown hK hw m_a0 o_a0 rfl 10 (by decide) (hts _ (List.mem_cons_of_mem _ (mr14 _ (List.mem_of_getElem? (i := 9) rfl)))) (fun _ h => h) rfl dX0_seekAhead_77 (fun x_7 lx_7 ux_7 ex_7 => ?_)
              have bx_7 : 0 ≤ x_7 ∧ x_7 ≤ 16 := by rw [ex_7]; exact hg.1 _ m_a0 0 10 o_a0
              refine q_icmp_ge (tgt := 156) hx hb dX0_seekAhead_80 (by decide) ⟨ly3_75, uy3_75⟩ ⟨lx_7, ux_7⟩ (fun c80 => ?_) (fun c80 => ?_)
              · refine lv_aload_n hx hb dX0_seekAhead_156 rfl (lv_at hl 0 rfl) ?_
                refine q_geti (ci := 0) (C := RX0) (T := TX0) (N := 15) hx hb hts (fun w h => List.mem_cons_of_mem _ (mfX00 w h)) hown hK hw m_a0 o_a0 rfl 14 (by decide) (hts _ (List.mem_cons_of_mem _ (mr29 _ (List.mem_of_getElem? (i := 11) rfl)))) (fun _ h => h) rfl dX0_seekAhead_157 (fun x_8 lx_8 ux_8 ex_8 => ?_)
                refine q_iconst hx hb dX0_seekAhead_160 ?_
                refine q_icmp_eq (tgt := 168) hx hb dX0_seekAhead_161 (by decide) ⟨lx_8, ux_8⟩ ⟨by decide, by decide⟩ (fun c161 => ?_) (fun c161 => ?_)
                · refine q_iconst hx hb dX0_seekAhead_168 ?_
                  exact q_ret_z hx hb hr hlocks hK hAe hw (by omega) (Nat.le_of_ble_eq_true rfl) (Nat.le_of_ble_eq_true rfl) dX0_seekAhead_169 (by exact ⟨rfl, hg, hE, by first | trivial | omega⟩)
                · refine q_iconst hx hb dX0_seekAhead_164 ?_
                  refine lv_goto (tgt := 169) hx hb dX0_seekAhead_165 (by decide) ?_
                  exact q_ret_z hx hb hr hlocks hK hAe hw (by omega) (Nat.le_of_ble_eq_true rfl) (Nat.le_of_ble_eq_true rfl) dX0_seekAhead_169 (by exact ⟨rfl, hg, hE, by first | trivial | omega⟩)
              · refine lv_aload_n hx hb dX0_seekAhead_83 rfl (lv_at hl 0 rfl) ?_
                obtain ⟨r_9, er_9, m_r_9, o_r_9⟩ := (show ∃ r, fR f a0 12 = some r ∧ r ∈ L0 ∧ ArI f r cy.2.1 16 from hg.2.1 _ m_a0 0 12 o_a0)
                refine q_getr (ci := 0) (C := RX0) (T := TX0) (N := 15) hx hb hts (fun w h => List.mem_cons_of_mem _ (mfX00 w h)) hown hK hw m_a0 o_a0 rfl 12 (by decide) (hts _ (List.mem_cons_of_mem _ (mr3 _ (List.mem_of_getElem? (i := 3) rfl)))) (fun _ h => h) rfl er_9 dX0_seekAhead_84 ?_
                refine lv_iload_n hx hb dX0_seekAhead_87 rfl (lv_at hl 2 rfl) ?_
                refine q_iald hx hb hK hw m_r_9 1 o_r_9 rfl ⟨ly3_75, uy3_75⟩ (by omega) (by omega) dX0_seekAhead_88 (fun x_10 lx_10 ux_10 ex_10 => ?_)
                refine lv_istore (lv' := [(4, .int (iI x_10)), (0, .ref a0), (1, .int (iI x1)), (3, .int (iI y3_75))]) hx hb dX0_seekAhead_89 hl (by decide) rfl (fun ls hl => ?_)
                refine lv_aload_n hx hb dX0_seekAhead_91 rfl (lv_at hl 1 rfl) ?_
                obtain ⟨r_11, er_11, m_r_11, o_r_11⟩ := (show ∃ r, fR f a0 11 = some r ∧ r ∈ L0 ∧ ArI f r cy.2.1 16 from hg.2.1 _ m_a0 0 11 o_a0)
                refine q_getr (ci := 0) (C := RX0) (T := TX0) (N := 15) hx hb hts (fun w h => List.mem_cons_of_mem _ (mfX00 w h)) hown hK hw m_a0 o_a0 rfl 11 (by decide) (hts _ (List.mem_cons_of_mem _ (mr3 _ (List.mem_of_getElem? (i := 2) rfl)))) (fun _ h => h) rfl er_11 dX0_seekAhead_92 ?_
                refine lv_iload_n hx hb dX0_seekAhead_95 rfl (lv_at hl 3 rfl) ?_
                refine q_iald hx hb hK hw m_r_11 1 o_r_11 rfl ⟨ly3_75, uy3_75⟩ (by omega) (by omega) dX0_seekAhead_96 (fun x_12 lx_12 ux_12 ex_12 => ?_)
                refine lv_istore (lv' := [(5, .int (iI x_12)), (4, .int (iI x_10)), (0, .ref a0), (1, .int (iI x1)), (3, .int (iI y3_75))]) hx hb dX0_seekAhead_97 hl (by decide) rfl (fun ls hl => ?_)
                refine lv_iload hx hb dX0_seekAhead_99 (lv_at hl 1 rfl) ?_
                refine q_iconst hx hb dX0_seekAhead_101 ?_
                have J150 : ∀ (L : List Nat) (f : Nat → va_E) (hg : GI cy L0 f) (hE : Ex cy f0 f) (o_a0 : Ob f a0 0) (H : Heap) (locs : List Loc) (ls : Array Slot) (hw : Wd D A s.heap L0 f H locs) (hl : lv_has ls 6 [(0, .ref a0), (1, .int (iI x1)), (3, .int (iI y3_75))]), W p l e ({ frames := 4, cells := 0, slots := 0, locals := 88 } : Room) s m ([.ref a0, .int (iI x1)] : List Value).toArray below meth c H locs (0 + 0 + 0) (0 + 0 + 0) (MQ below (Qi D (tq cy) L0 f0 s.heap.size (fun (r : Int) (L1 : List Nat) (f1 : Nat → va_E) => L0 = L1 ∧ GI cy L0 f1 ∧ Ex cy f0 f1 ∧ (r = 0 ∨ r = 1))) ([.ref a0, .int (iI x1)] : List Value).toArray s 0 0 A) (F0 m 150 ls []) := by
                  intro L f hg hE o_a0 H locs ls hw hl
                  obtain ⟨x_13, lx_13, ux_13, hx_13, ex_13⟩ := q_inc y3_75 (1)
                  try (replace ex_13 : x_13 = y3_75 + (1) := by omega)
                  refine lv_iinc (v := iI x_13) (lv' := [(3, .int (iI x_13)), (0, .ref a0), (1, .int (iI x1))]) hx hb dX0_seekAhead_150 hl (k := 2) rfl hx_13 (by decide) rfl (fun ls hl => ?_)
                  refine lv_goto (tgt := 75) hx hb dX0_seekAhead_153 (by decide) ?_
                  exact ih75 x_13 lx_13 ux_13 L0 f hg hE o_a0 (by omega) (by omega) _ _ _ hw (lv_sub hl [1, 2, 0] rfl)
                refine q_icmp_eq (tgt := 150) hx hb dX0_seekAhead_102 (by decide) ⟨lx_10, ux_10⟩ ⟨by decide, by decide⟩ (fun c102 => ?_) (fun c102 => ?_)
                · exact J150 L0 f hg hE o_a0 _ _ _ hw (lv_sub hl [2, 3, 4] rfl)
                · refine lv_iload hx hb dX0_seekAhead_105 (lv_at hl 1 rfl) ?_
                  refine lv_iload_n hx hb dX0_seekAhead_107 rfl (lv_at hl 3 rfl) ?_
                  refine q_icmp_ge (tgt := 150) hx hb dX0_seekAhead_108 (by decide) ⟨lx_10, ux_10⟩ ⟨lx1, ux1⟩ (fun c108 => ?_) (fun c108 => ?_)
                  · exact J150 L0 f hg hE o_a0 _ _ _ hw (lv_sub hl [2, 3, 4] rfl)
                  · refine lv_iload hx hb dX0_seekAhead_111 (lv_at hl 1 rfl) ?_
                    refine lv_aload_n hx hb dX0_seekAhead_113 rfl (lv_at hl 2 rfl) ?_
                    refine q_geti (ci := 0) (C := RX0) (T := TX0) (N := 15) hx hb hts (fun w h => List.mem_cons_of_mem _ (mfX00 w h)) hown hK hw m_a0 o_a0 rfl 13 (by decide) (hts _ (List.mem_cons_of_mem _ (mr29 _ (List.mem_of_getElem? (i := 13) rfl)))) (fun _ h => h) rfl dX0_seekAhead_114 (fun x_14 lx_14 ux_14 ex_14 => ?_)
                    have J138 : ∀ (H : Heap) (locs : List Loc) (ls : Array Slot) (hw : Wd D A s.heap L0 f H locs) (hl : lv_has ls 6 [(0, .ref a0), (1, .int (iI x1)), (3, .int (iI y3_75)), (4, .int (iI x_10)), (5, .int (iI x_12))]), W p l e ({ frames := 4, cells := 0, slots := 0, locals := 88 } : Room) s m ([.ref a0, .int (iI x1)] : List Value).toArray below meth c H locs (0 + 0 + 0) (0 + 0 + 0) (MQ below (Qi D (tq cy) L0 f0 s.heap.size (fun (r : Int) (L1 : List Nat) (f1 : Nat → va_E) => L0 = L1 ∧ GI cy L0 f1 ∧ Ex cy f0 f1 ∧ (r = 0 ∨ r = 1))) ([.ref a0, .int (iI x1)] : List Value).toArray s 0 0 A) (F0 m 138 ls []) := by
                      intro H locs ls hw hl
                      refine lv_aload_n hx hb dX0_seekAhead_138 rfl (lv_at hl 0 rfl) ?_
                      refine lv_iload hx hb dX0_seekAhead_139 (lv_at hl 3 rfl) ?_
                      refine q_puti (ci := 0) (C := RX0) (T := TX0) (N := 15) hx hb hts (fun w h => List.mem_cons_of_mem _ (mfX00 w h)) hown hK hw m_a0 o_a0 rfl 13 (by decide) (hts _ (List.mem_cons_of_mem _ (mr29 _ (List.mem_of_getElem? (i := 13) rfl)))) (fun _ h => h) tyX0 tyX0_ok nmX0 rfl (ty := .int) (by decide +kernel) rfl rfl dX0_seekAhead_141 (fun H locs hw => ?_)
                      have oo := o_a0
                      obtain ⟨f_15, ef_15⟩ : ∃ g : Nat → va_E, g = pU f a0 13 (.int (iI x_10)) := ⟨_, rfl⟩
                      have hX : Ex cy f f_15 := by rw [ef_15]; exact Ex_pU oo rfl rfl (by decide)
                      have hg : GI cy L0 f_15 := by rw [ef_15]; exact hg.putI oo rfl ⟨lx_10, ux_10⟩ trivial
                      rw [← ef_15] at hw
                      have hE := hE.trans hX
                      have o_a0 := hX.1.1 _ _ o_a0
                      have vf_15 : fI f_15 a0 13 = x_10 := by rw [ef_15]; exact fI_pU_self oo rfl ⟨lx_10, ux_10⟩
                      refine lv_aload_n hx hb dX0_seekAhead_144 rfl (lv_at hl 0 rfl) ?_
                      refine lv_iload hx hb dX0_seekAhead_145 (lv_at hl 4 rfl) ?_
                      refine q_puti (ci := 0) (C := RX0) (T := TX0) (N := 15) hx hb hts (fun w h => List.mem_cons_of_mem _ (mfX00 w h)) hown hK hw m_a0 o_a0 rfl 14 (by decide) (hts _ (List.mem_cons_of_mem _ (mr29 _ (List.mem_of_getElem? (i := 11) rfl)))) (fun _ h => h) tyX0 tyX0_ok nmX0 rfl (ty := .int) (by decide +kernel) rfl rfl dX0_seekAhead_147 (fun H locs hw => ?_)
                      have oo := o_a0
                      obtain ⟨f_16, ef_16⟩ : ∃ g : Nat → va_E, g = pU f_15 a0 14 (.int (iI x_12)) := ⟨_, rfl⟩
                      have hX : Ex cy f_15 f_16 := by rw [ef_16]; exact Ex_pU oo rfl rfl (by decide)
                      have hg : GI cy L0 f_16 := by rw [ef_16]; exact hg.putI oo rfl ⟨lx_12, ux_12⟩ trivial
                      rw [← ef_16] at hw
                      have hE := hE.trans hX
                      have o_a0 := hX.1.1 _ _ o_a0
                      have vf_16 : fI f_16 a0 14 = x_12 := by rw [ef_16]; exact fI_pU_self oo rfl ⟨lx_12, ux_12⟩
                      exact J150 L0 f_16 hg hE o_a0 _ _ _ hw (lv_sub hl [0, 1, 2] rfl)
                    refine q_icmp_gt (tgt := 138) hx hb dX0_seekAhead_117 (by decide) ⟨lx_10, ux_10⟩ ⟨lx_14, ux_14⟩ (fun c117 => ?_) (fun c117 => ?_)
                    · exact J138 _ _ _ hw (lv_sub hl [2, 3, 4, 1, 0] rfl)
                    · refine lv_iload hx hb dX0_seekAhead_120 (lv_at hl 1 rfl) ?_
                      refine lv_aload_n hx hb dX0_seekAhead_122 rfl (lv_at hl 2 rfl) ?_
                      refine q_geti (ci := 0) (C := RX0) (T := TX0) (N := 15) hx hb hts (fun w h => List.mem_cons_of_mem _ (mfX00 w h)) hown hK hw m_a0 o_a0 rfl 13 (by decide) (hts _ (List.mem_cons_of_mem _ (mr29 _ (List.mem_of_getElem? (i := 13) rfl)))) (fun _ h => h) rfl dX0_seekAhead_123 (fun x_17 lx_17 ux_17 ex_17 => ?_)
                      refine q_icmp_ne (tgt := 150) hx hb dX0_seekAhead_126 (by decide) ⟨lx_10, ux_10⟩ ⟨lx_17, ux_17⟩ (fun c126 => ?_) (fun c126 => ?_)
                      · exact J150 L0 f hg hE o_a0 _ _ _ hw (lv_sub hl [2, 3, 4] rfl)
                      · refine lv_iload hx hb dX0_seekAhead_129 (lv_at hl 0 rfl) ?_
                        refine lv_aload_n hx hb dX0_seekAhead_131 rfl (lv_at hl 2 rfl) ?_
                        refine q_geti (ci := 0) (C := RX0) (T := TX0) (N := 15) hx hb hts (fun w h => List.mem_cons_of_mem _ (mfX00 w h)) hown hK hw m_a0 o_a0 rfl 14 (by decide) (hts _ (List.mem_cons_of_mem _ (mr29 _ (List.mem_of_getElem? (i := 11) rfl)))) (fun _ h => h) rfl dX0_seekAhead_132 (fun x_18 lx_18 ux_18 ex_18 => ?_)
                        refine q_icmp_le (tgt := 150) hx hb dX0_seekAhead_135 (by decide) ⟨lx_12, ux_12⟩ ⟨lx_18, ux_18⟩ (fun c135 => ?_) (fun c135 => ?_)
                        · exact J150 L0 f hg hE o_a0 _ _ _ hw (lv_sub hl [2, 3, 4] rfl)
                        · exact J138 _ _ _ hw (lv_sub hl [2, 3, 4, 1, 0] rfl)
          exact J75 ((((2147483647 : Int) - 0).toNat) + 1) 0 (by decide) (by decide) L0 f_6 hg hE o_a0 (by omega) (by omega) _ _ _ hw (lv_sub hl [1, 2, 0] rfl)
        refine q_icmp_ne (tgt := 65) hx hb dX0_seekAhead_58 (by decide) ⟨ly2_14, uy2_14⟩ ⟨by decide, by decide⟩ (fun c58 => ?_) (fun c58 => ?_)
        · refine lv_aload_n hx hb dX0_seekAhead_65 rfl (lv_at hl 0 rfl) ?_
          refine lv_iload_n hx hb dX0_seekAhead_66 rfl (lv_at hl 2 rfl) ?_
          refine q_call_i hA hK hw (va_runV (As := [.int (iI y2_14)]) (rest := [.ref a0]) ⟨hx, hb, hml, hown, hts⟩ (c_X0_timeOf zo l D cy L0 f_5 a0 y2_14 ly2_14 uy2_14 m_a0 o_a0 hg _) (cwV 1 hts (gT (inV (mr29 _ (List.mem_of_getElem? (i := 23) rfl)) (mr30 _ (List.mem_of_getElem? (i := 0) rfl)) (mr30 _ (List.mem_of_getElem? (i := 1) rfl)) (mr2 _ (List.mem_of_getElem? (i := 9) rfl)) (mr30 _ (List.mem_of_getElem? (i := 2) rfl)))) rfl rfl rfl (by decide +kernel) ⟨Nat.le_of_ble_eq_true rfl, Nat.le_of_ble_eq_true rfl⟩) (Wd.preV zo hA hZ hw hK m_a0 o_a0 rfl) rfl rfl hl.1 rfl (lv_room (Nat.le_of_ble_eq_true rfl)) dX0_seekAhead_67 ⟨Nat.le_of_ble_eq_true rfl, Nat.le_of_ble_eq_true rfl⟩) (fun x_19 L1 f1 H locs lx_19 ux_19 ex_19 hw => ?_)
          obtain ⟨rfl, rfl, ex_19⟩ := ex_19
          exact J70 x_19 lx_19 ux_19 _ _ _ hw (lv_sub hl [0, 1] rfl)
        · refine q_iconst hx hb dX0_seekAhead_61 ?_
          refine lv_goto (tgt := 70) hx hb dX0_seekAhead_62 (by decide) ?_
          exact J70 ((-1)) (by decide) (by decide) _ _ _ hw (lv_sub hl [0, 1] rfl)
      refine q_icmp_ge (tgt := 50) hx hb dX0_seekAhead_19 (by decide) ⟨ly3_14, uy3_14⟩ ⟨lx_4, ux_4⟩ (fun c19 => ?_) (fun c19 => ?_)
      · exact J50 _ _ _ hw (lv_sub hl [0, 1, 2] rfl)
      · refine lv_iload_n hx hb dX0_seekAhead_22 rfl (lv_at hl 2 rfl) ?_
        refine q_iconst hx hb dX0_seekAhead_23 ?_
        refine q_icmp_eq (tgt := 50) hx hb dX0_seekAhead_24 (by decide) ⟨ly2_14, uy2_14⟩ ⟨by decide, by decide⟩ (fun c24 => ?_) (fun c24 => ?_)
        · exact J50 _ _ _ hw (lv_sub hl [0, 1, 2] rfl)
        · refine lv_aload_n hx hb dX0_seekAhead_27 rfl (lv_at hl 0 rfl) ?_
          refine lv_iload_n hx hb dX0_seekAhead_28 rfl (lv_at hl 2 rfl) ?_
          refine q_call_i hA hK hw (va_runV (As := [.int (iI y2_14)]) (rest := []) ⟨hx, hb, hml, hown, hts⟩ (c_X0_changeOf zo l D cy L0 f0 a0 y2_14 ly2_14 uy2_14 m_a0 o_a0 hg _) (cwV 1 hts (gT (inV (mr26 _ (List.mem_of_getElem? (i := 15) rfl)) (mr26 _ (List.mem_of_getElem? (i := 16) rfl)) (mr26 _ (List.mem_of_getElem? (i := 17) rfl)) (mr2 _ (List.mem_of_getElem? (i := 9) rfl)) (mr26 _ (List.mem_of_getElem? (i := 18) rfl)))) rfl rfl rfl (by decide +kernel) ⟨Nat.le_of_ble_eq_true rfl, Nat.le_of_ble_eq_true rfl⟩) (Wd.preV zo hA hZ hw hK m_a0 o_a0 rfl) rfl rfl hl.1 rfl (lv_room (Nat.le_of_ble_eq_true rfl)) dX0_seekAhead_29 ⟨Nat.le_of_ble_eq_true rfl, Nat.le_of_ble_eq_true rfl⟩) (fun x_20 L1 f1 H locs lx_20 ux_20 ex_20 hw => ?_)
          obtain ⟨rfl, rfl, ex_20⟩ := ex_20
          refine q_iconst hx hb dX0_seekAhead_32 ?_
          refine q_icmp_eq (tgt := 50) hx hb dX0_seekAhead_33 (by decide) ⟨lx_20, ux_20⟩ ⟨by decide, by decide⟩ (fun c33 => ?_) (fun c33 => ?_)
          · exact J50 _ _ _ hw (lv_sub hl [0, 1, 2] rfl)
          · refine lv_aload_n hx hb dX0_seekAhead_36 rfl (lv_at hl 0 rfl) ?_
            refine lv_iload_n hx hb dX0_seekAhead_37 rfl (lv_at hl 2 rfl) ?_
            refine q_iconst hx hb dX0_seekAhead_38 ?_
            first | refine q_isub hx hb dX0_seekAhead_39 ⟨by omega, by omega⟩ (fun x_21 lx_21 ux_21 ex_21 => ?_) | refine q_isubw hx hb dX0_seekAhead_39 (fun x_21 lx_21 ux_21 _ => ?_)
            refine q_call_i hA hK hw (va_runV (As := [.int (iI x_21)]) (rest := []) ⟨hx, hb, hml, hown, hts⟩ (c_X0_keyTo zo l D cy L0 f0 a0 x_21 lx_21 ux_21 m_a0 o_a0 hg _) (cwV 1 hts (gT (inV (mr31 _ (List.mem_of_getElem? (i := 3) rfl)) (mr31 _ (List.mem_of_getElem? (i := 4) rfl)) (mr31 _ (List.mem_of_getElem? (i := 5) rfl)) (mr2 _ (List.mem_of_getElem? (i := 9) rfl)) (mr31 _ (List.mem_of_getElem? (i := 6) rfl)))) rfl rfl rfl (by decide +kernel) ⟨Nat.le_of_ble_eq_true rfl, Nat.le_of_ble_eq_true rfl⟩) (Wd.preV zo hA hZ hw hK m_a0 o_a0 rfl) rfl rfl hl.1 rfl (lv_room (Nat.le_of_ble_eq_true rfl)) dX0_seekAhead_40 ⟨Nat.le_of_ble_eq_true rfl, Nat.le_of_ble_eq_true rfl⟩) (fun x_22 L1 f1 H locs lx_22 ux_22 ex_22 hw => ?_)
            obtain ⟨rfl, rfl, ex_22⟩ := ex_22
            refine lv_istore_n (lv' := [(2, .int (iI x_22)), (0, .ref a0), (1, .int (iI x1)), (3, .int (iI y3_14))]) hx hb dX0_seekAhead_43 rfl hl (by decide) rfl (fun ls hl => ?_)
            obtain ⟨x_23, lx_23, ux_23, hx_23, ex_23⟩ := q_inc y3_14 (1)
            try (replace ex_23 : x_23 = y3_14 + (1) := by omega)
            refine lv_iinc (v := iI x_23) (lv' := [(3, .int (iI x_23)), (2, .int (iI x_22)), (0, .ref a0), (1, .int (iI x1))]) hx hb dX0_seekAhead_44 hl (k := 3) rfl hx_23 (by decide) rfl (fun ls hl => ?_)
            refine lv_goto (tgt := 14) hx hb dX0_seekAhead_47 (by decide) ?_
            exact ih14 x_22 lx_22 ux_22 x_23 lx_23 ux_23 (by omega) (by omega) _ _ _ hw (lv_sub hl [2, 3, 1, 0] rfl)
  exact J14 ((((2147483647 : Int) - 0).toNat) + 1) x_3 lx_3 ux_3 0 (by decide) (by decide) (by omega) (by omega) _ _ _ hw (lv_sub hl [2, 3, 1, 0] rfl)
set_option maxHeartbeats 4000000 in
set_option maxRecDepth 100000 in
theorem c_X0_beginsIn {Z : Zt} (zo : Zok Z) (l : Launch) (D : va_G) (cy : Cy) (L0 : List Nat) (f0 : Nat → va_E) (a0 : Nat) (x1 : Int) (lx1 : -2147483648 ≤ x1) (ux1 : x1 ≤ 2147483647) (x2 : Int) (lx2 : -2147483648 ≤ x2) (ux2 : x2 ≤ 2147483647) (m_a0 : a0 ∈ L0) (o_a0 : Ob f0 a0 0) (hg : GI cy L0 f0) : Ci Z l yX0_beginsIn (Cond.code yX0_beginsIn cX0_beginsIn 7 (some .int) :: TB) ({ frames := 4, cells := 0, slots := 0, locals := 96 } : Room) 0 0 D (tq cy) [.ref a0, .int (iI x1), .int (iI x2)] L0 f0 (fun (r : Int) (L1 : List Nat) (f1 : Nat → va_E) => L0 = L1 ∧ f0 = f1 ∧ (True)) := by
  refine Ci.enter (cc := cX0_beginsIn) (n := 7) rfl (plainFor_of_name (by decide)) (Nat.le_of_ble_eq_true rfl) ?_
  intro p e s m below meth c ls A hx hb hr hts hown hlocks hnm hml hK hA hAe hw hZ hl
  have hown : s.vm.findClass RX0 = some m.cls := hown
  have hl : lv_has ls 7 [(0, .ref a0), (1, .int (iI x1)), (2, .int (iI x2))] := hl
  have hN : ZN s := (zo.2.2.2.2 _ _ _ hZ).2
  refine lv_aload_n hx hb dX0_beginsIn_0 rfl (lv_at hl 0 rfl) ?_
  refine lv_iload_n hx hb dX0_beginsIn_1 rfl (lv_at hl 1 rfl) ?_
  refine q_call_i hA hK hw (va_runV (As := [.int (iI x1)]) (rest := []) ⟨hx, hb, hml, hown, hts⟩ (c_X0_ruledFrom zo l D cy L0 f0 a0 x1 lx1 ux1 m_a0 o_a0 hg _) (cwV 1 hts (gT (inV (mr29 _ (List.mem_of_getElem? (i := 14) rfl)) (mr29 _ (List.mem_of_getElem? (i := 15) rfl)) (mr29 _ (List.mem_of_getElem? (i := 16) rfl)) (mr2 _ (List.mem_of_getElem? (i := 9) rfl)) (mr29 _ (List.mem_of_getElem? (i := 17) rfl)))) rfl rfl rfl (by decide +kernel) ⟨Nat.le_of_ble_eq_true rfl, Nat.le_of_ble_eq_true rfl⟩) (Wd.preV zo hA hZ hw hK m_a0 o_a0 rfl) rfl rfl hl.1 rfl (lv_room (Nat.le_of_ble_eq_true rfl)) dX0_beginsIn_2 ⟨Nat.le_of_ble_eq_true rfl, Nat.le_of_ble_eq_true rfl⟩) (fun x_1 L1 f1 H locs lx_1 ux_1 ex_1 hw => ?_)
  obtain ⟨rfl, rfl, ex_1⟩ := ex_1
  refine lv_istore_n (lv' := [(3, .int (iI x_1)), (0, .ref a0), (1, .int (iI x1)), (2, .int (iI x2))]) hx hb dX0_beginsIn_5 rfl hl (by decide) rfl (fun ls hl => ?_)
  refine lv_aload_n hx hb dX0_beginsIn_6 rfl (lv_at hl 1 rfl) ?_
  refine lv_iload_n hx hb dX0_beginsIn_7 rfl (lv_at hl 3 rfl) ?_
  refine q_call_i hA hK hw (va_runV (As := [.int (iI x2)]) (rest := []) ⟨hx, hb, hml, hown, hts⟩ (c_X0_ruledTo zo l D cy L0 f0 a0 x2 lx2 ux2 m_a0 o_a0 hg _) (cwV 1 hts (gT (inV (mr30 _ (List.mem_of_getElem? (i := 23) rfl)) (mr31 _ (List.mem_of_getElem? (i := 0) rfl)) (mr31 _ (List.mem_of_getElem? (i := 1) rfl)) (mr2 _ (List.mem_of_getElem? (i := 9) rfl)) (mr31 _ (List.mem_of_getElem? (i := 2) rfl)))) rfl rfl rfl (by decide +kernel) ⟨Nat.le_of_ble_eq_true rfl, Nat.le_of_ble_eq_true rfl⟩) (Wd.preV zo hA hZ hw hK m_a0 o_a0 rfl) rfl rfl hl.1 rfl (lv_room (Nat.le_of_ble_eq_true rfl)) dX0_beginsIn_8 ⟨Nat.le_of_ble_eq_true rfl, Nat.le_of_ble_eq_true rfl⟩) (fun x_2 L1 f1 H locs lx_2 ux_2 ex_2 hw => ?_)
  obtain ⟨rfl, rfl, ex_2⟩ := ex_2
  refine lv_istore (lv' := [(4, .int (iI x_2)), (3, .int (iI x_1)), (0, .ref a0), (1, .int (iI x1)), (2, .int (iI x2))]) hx hb dX0_beginsIn_11 hl (by decide) rfl (fun ls hl => ?_)
  refine lv_aload_n hx hb dX0_beginsIn_13 rfl (lv_at hl 2 rfl) ?_
  refine lv_iload_n hx hb dX0_beginsIn_14 rfl (lv_at hl 1 rfl) ?_
  refine lv_iload hx hb dX0_beginsIn_15 (lv_at hl 0 rfl) ?_
  refine q_call_i hA hK hw (va_runV (As := [.int (iI x_1), .int (iI x_2)]) (rest := []) ⟨hx, hb, hml, hown, hts⟩ (c_X0_keysIn zo l D cy L0 f0 a0 x_1 lx_1 ux_1 x_2 lx_2 ux_2 m_a0 o_a0 hg _) (cwV 2 hts (gT (inV (mr31 _ (List.mem_of_getElem? (i := 19) rfl)) (mr25 _ (List.mem_of_getElem? (i := 17) rfl)) (mr25 _ (List.mem_of_getElem? (i := 18) rfl)) (mr2 _ (List.mem_of_getElem? (i := 9) rfl)) (mr25 _ (List.mem_of_getElem? (i := 19) rfl)))) rfl rfl rfl (by decide +kernel) ⟨Nat.le_of_ble_eq_true rfl, Nat.le_of_ble_eq_true rfl⟩) (Wd.preV zo hA hZ hw hK m_a0 o_a0 rfl) rfl rfl hl.1 rfl (lv_room (Nat.le_of_ble_eq_true rfl)) dX0_beginsIn_17 ⟨Nat.le_of_ble_eq_true rfl, Nat.le_of_ble_eq_true rfl⟩) (fun x_3 L1 f1 H locs lx_3 ux_3 ex_3 hw => ?_)
  obtain ⟨rfl, rfl, ex_3⟩ := ex_3
  refine lv_istore (lv' := [(5, .int (iI x_3)), (4, .int (iI x_2)), (3, .int (iI x_1)), (0, .ref a0), (1, .int (iI x1)), (2, .int (iI x2))]) hx hb dX0_beginsIn_20 hl (by decide) rfl (fun ls hl => ?_)
  refine q_iconst hx hb dX0_beginsIn_22 ?_
  refine lv_istore (lv' := [(6, .int (iI 0)), (5, .int (iI x_3)), (4, .int (iI x_2)), (3, .int (iI x_1)), (0, .ref a0), (1, .int (iI x1)), (2, .int (iI x2))]) hx hb dX0_beginsIn_23 hl (by decide) rfl (fun ls hl => ?_)
  have J25 : ∀ (n25 : Nat) (y5_25 : Int) (ly5_25 : -2147483648 ≤ y5_25) (uy5_25 : y5_25 ≤ 2147483647) (y6_25 : Int) (ly6_25 : -2147483648 ≤ y6_25) (uy6_25 : y6_25 ≤ 2147483647) (i1 : 0 ≤ y6_25) (hn25 : ((2147483647 : Int) - y6_25).toNat < n25) (H : Heap) (locs : List Loc) (ls : Array Slot) (hw : Wd D A s.heap L0 f0 H locs) (hl : lv_has ls 7 [(0, .ref a0), (1, .int (iI x1)), (2, .int (iI x2)), (3, .int (iI x_1)), (4, .int (iI x_2)), (5, .int (iI y5_25)), (6, .int (iI y6_25))]), W p l e ({ frames := 4, cells := 0, slots := 0, locals := 96 } : Room) s m ([.ref a0, .int (iI x1), .int (iI x2)] : List Value).toArray below meth c H locs (0 + 0 + 0 + 0) (0 + 0 + 0 + 0) (MQ below (Qi D (tq cy) L0 f0 s.heap.size (fun (r : Int) (L1 : List Nat) (f1 : Nat → va_E) => L0 = L1 ∧ f0 = f1 ∧ (True))) ([.ref a0, .int (iI x1), .int (iI x2)] : List Value).toArray s 0 0 A) (F0 m 25 ls []) := by
    intro n25
    induction n25 with
    | zero => intro y5_25 ly5_25 uy5_25 y6_25 ly6_25 uy6_25 i1 hn25; exact absurd hn25 (Nat.not_lt_zero _)
    | succ n25 ih25 =>
      intro y5_25 ly5_25 uy5_25 y6_25 ly6_25 uy6_25 i1 hn25 H locs ls hw hl
      refine lv_iload hx hb dX0_beginsIn_25 (lv_at hl 6 rfl) ?_
      refine lv_aload_n hx hb dX0_beginsIn_27 rfl (lv_at hl 0 rfl) ?_
      refine q_geti (ci := 0) (C := RX0) (T := TX0) (N := 15) hx hb hts (fun w h => List.mem_cons_of_mem _ (mfX00 w h)) hown hK hw m_a0 o_a0 rfl 10 (by decide) (hts _ (List.mem_cons_of_mem _ (mr14 _ (List.mem_of_getElem? (i := 9) rfl)))) (fun _ h => h) rfl dX0_beginsIn_28 (fun x_4 lx_4 ux_4 ex_4 => ?_)
      have bx_4 : 0 ≤ x_4 ∧ x_4 ≤ 16 := by rw [ex_4]; exact hg.1 _ m_a0 0 10 o_a0
      refine q_icmp_ge (tgt := 102) hx hb dX0_beginsIn_31 (by decide) ⟨ly6_25, uy6_25⟩ ⟨lx_4, ux_4⟩ (fun c31 => ?_) (fun c31 => ?_)
      · refine lv_iload hx hb dX0_beginsIn_102 (lv_at hl 5 rfl) ?_
        exact q_ret_i hx hb hr hlocks hK hAe hw ⟨ly5_25, uy5_25⟩ (Nat.le_of_ble_eq_true rfl) (Nat.le_of_ble_eq_true rfl) dX0_beginsIn_104 ⟨rfl, rfl, by trivial⟩
      · refine lv_aload_n hx hb dX0_beginsIn_34 rfl (lv_at hl 0 rfl) ?_
        obtain ⟨r_5, er_5, m_r_5, o_r_5⟩ := (show ∃ r, fR f0 a0 11 = some r ∧ r ∈ L0 ∧ ArI f0 r cy.2.1 16 from hg.2.1 _ m_a0 0 11 o_a0)
        refine q_getr (ci := 0) (C := RX0) (T := TX0) (N := 15) hx hb hts (fun w h => List.mem_cons_of_mem _ (mfX00 w h)) hown hK hw m_a0 o_a0 rfl 11 (by decide) (hts _ (List.mem_cons_of_mem _ (mr3 _ (List.mem_of_getElem? (i := 2) rfl)))) (fun _ h => h) rfl er_5 dX0_beginsIn_35 ?_
        refine lv_iload hx hb dX0_beginsIn_38 (lv_at hl 6 rfl) ?_
        refine q_iald hx hb hK hw m_r_5 1 o_r_5 rfl ⟨ly6_25, uy6_25⟩ (by omega) (by omega) dX0_beginsIn_40 (fun x_6 lx_6 ux_6 ex_6 => ?_)
        refine lv_iload_n hx hb dX0_beginsIn_41 rfl (lv_at hl 3 rfl) ?_
        have J60 : ∀ (z5_60 : Int) (lz5_60 : -2147483648 ≤ z5_60) (uz5_60 : z5_60 ≤ 2147483647) (H : Heap) (locs : List Loc) (ls : Array Slot) (hw : Wd D A s.heap L0 f0 H locs) (hl : lv_has ls 7 [(0, .ref a0), (1, .int (iI x1)), (2, .int (iI x2)), (3, .int (iI x_1)), (4, .int (iI x_2)), (5, .int (iI z5_60)), (6, .int (iI y6_25))]), W p l e ({ frames := 4, cells := 0, slots := 0, locals := 96 } : Room) s m ([.ref a0, .int (iI x1), .int (iI x2)] : List Value).toArray below meth c H locs (0 + 0 + 0 + 0) (0 + 0 + 0 + 0) (MQ below (Qi D (tq cy) L0 f0 s.heap.size (fun (r : Int) (L1 : List Nat) (f1 : Nat → va_E) => L0 = L1 ∧ f0 = f1 ∧ (True))) ([.ref a0, .int (iI x1), .int (iI x2)] : List Value).toArray s 0 0 A) (F0 m 60 ls []) := by
          intro z5_60 lz5_60 uz5_60 H locs ls hw hl
          refine lv_aload_n hx hb dX0_beginsIn_60 rfl (lv_at hl 0 rfl) ?_
          obtain ⟨r_7, er_7, m_r_7, o_r_7⟩ := (show ∃ r, fR f0 a0 12 = some r ∧ r ∈ L0 ∧ ArI f0 r cy.2.1 16 from hg.2.1 _ m_a0 0 12 o_a0)
          refine q_getr (ci := 0) (C := RX0) (T := TX0) (N := 15) hx hb hts (fun w h => List.mem_cons_of_mem _ (mfX00 w h)) hown hK hw m_a0 o_a0 rfl 12 (by decide) (hts _ (List.mem_cons_of_mem _ (mr3 _ (List.mem_of_getElem? (i := 3) rfl)))) (fun _ h => h) rfl er_7 dX0_beginsIn_61 ?_
          refine lv_iload hx hb dX0_beginsIn_64 (lv_at hl 6 rfl) ?_
          refine q_iald hx hb hK hw m_r_7 1 o_r_7 rfl ⟨ly6_25, uy6_25⟩ (by omega) (by omega) dX0_beginsIn_66 (fun x_8 lx_8 ux_8 ex_8 => ?_)
          refine q_iconst hx hb dX0_beginsIn_67 ?_
          have J96 : ∀ (z5_96 : Int) (lz5_96 : -2147483648 ≤ z5_96) (uz5_96 : z5_96 ≤ 2147483647) (H : Heap) (locs : List Loc) (ls : Array Slot) (hw : Wd D A s.heap L0 f0 H locs) (hl : lv_has ls 7 [(0, .ref a0), (1, .int (iI x1)), (2, .int (iI x2)), (3, .int (iI x_1)), (4, .int (iI x_2)), (5, .int (iI z5_96)), (6, .int (iI y6_25))]), W p l e ({ frames := 4, cells := 0, slots := 0, locals := 96 } : Room) s m ([.ref a0, .int (iI x1), .int (iI x2)] : List Value).toArray below meth c H locs (0 + 0 + 0 + 0) (0 + 0 + 0 + 0) (MQ below (Qi D (tq cy) L0 f0 s.heap.size (fun (r : Int) (L1 : List Nat) (f1 : Nat → va_E) => L0 = L1 ∧ f0 = f1 ∧ (True))) ([.ref a0, .int (iI x1), .int (iI x2)] : List Value).toArray s 0 0 A) (F0 m 96 ls []) := by
            intro z5_96 lz5_96 uz5_96 H locs ls hw hl
            obtain ⟨x_9, lx_9, ux_9, hx_9, ex_9⟩ := q_inc y6_25 (1)
            try (replace ex_9 : x_9 = y6_25 + (1) := by omega)
            refine lv_iinc (v := iI x_9) (lv' := [(6, .int (iI x_9)), (0, .ref a0), (1, .int (iI x1)), (2, .int (iI x2)), (3, .int (iI x_1)), (4, .int (iI x_2)), (5, .int (iI z5_96))]) hx hb dX0_beginsIn_96 hl (k := 6) rfl hx_9 (by decide) rfl (fun ls hl => ?_)
            refine lv_goto (tgt := 25) hx hb dX0_beginsIn_99 (by decide) ?_
            exact ih25 z5_96 lz5_96 uz5_96 x_9 lx_9 ux_9 (by omega) (by omega) _ _ _ hw (lv_sub hl [1, 2, 3, 4, 5, 6, 0] rfl)
          refine q_icmp_eq (tgt := 96) hx hb dX0_beginsIn_68 (by decide) ⟨lx_8, ux_8⟩ ⟨by decide, by decide⟩ (fun c68 => ?_) (fun c68 => ?_)
          · exact J96 z5_60 lz5_60 uz5_60 _ _ _ hw (lv_sub hl [0, 1, 2, 3, 4, 5, 6] rfl)
          · refine lv_aload_n hx hb dX0_beginsIn_71 rfl (lv_at hl 0 rfl) ?_
            refine q_getr (ci := 0) (C := RX0) (T := TX0) (N := 15) hx hb hts (fun w h => List.mem_cons_of_mem _ (mfX00 w h)) hown hK hw m_a0 o_a0 rfl 12 (by decide) (hts _ (List.mem_cons_of_mem _ (mr3 _ (List.mem_of_getElem? (i := 3) rfl)))) (fun _ h => h) rfl er_7 dX0_beginsIn_72 ?_
            refine lv_iload hx hb dX0_beginsIn_75 (lv_at hl 6 rfl) ?_
            refine q_iald hx hb hK hw m_r_7 1 o_r_7 rfl ⟨ly6_25, uy6_25⟩ (by omega) (by omega) dX0_beginsIn_77 (fun x_10 lx_10 ux_10 ex_10 => ?_)
            refine lv_iload_n hx hb dX0_beginsIn_78 rfl (lv_at hl 1 rfl) ?_
            refine q_icmp_lt (tgt := 96) hx hb dX0_beginsIn_79 (by decide) ⟨lx_10, ux_10⟩ ⟨lx1, ux1⟩ (fun c79 => ?_) (fun c79 => ?_)
            · exact J96 z5_60 lz5_60 uz5_60 _ _ _ hw (lv_sub hl [0, 1, 2, 3, 4, 5, 6] rfl)
            · refine lv_aload_n hx hb dX0_beginsIn_82 rfl (lv_at hl 0 rfl) ?_
              refine q_getr (ci := 0) (C := RX0) (T := TX0) (N := 15) hx hb hts (fun w h => List.mem_cons_of_mem _ (mfX00 w h)) hown hK hw m_a0 o_a0 rfl 12 (by decide) (hts _ (List.mem_cons_of_mem _ (mr3 _ (List.mem_of_getElem? (i := 3) rfl)))) (fun _ h => h) rfl er_7 dX0_beginsIn_83 ?_
              refine lv_iload hx hb dX0_beginsIn_86 (lv_at hl 6 rfl) ?_
              refine q_iald hx hb hK hw m_r_7 1 o_r_7 rfl ⟨ly6_25, uy6_25⟩ (by omega) (by omega) dX0_beginsIn_88 (fun x_11 lx_11 ux_11 ex_11 => ?_)
              refine lv_iload_n hx hb dX0_beginsIn_89 rfl (lv_at hl 2 rfl) ?_
              refine q_icmp_gt (tgt := 96) hx hb dX0_beginsIn_90 (by decide) ⟨lx_11, ux_11⟩ ⟨lx2, ux2⟩ (fun c90 => ?_) (fun c90 => ?_)
              · exact J96 z5_60 lz5_60 uz5_60 _ _ _ hw (lv_sub hl [0, 1, 2, 3, 4, 5, 6] rfl)
              · obtain ⟨x_12, lx_12, ux_12, hx_12, ex_12⟩ := q_inc z5_60 (1)
                try (replace ex_12 : x_12 = z5_60 + (1) := by omega)
                refine lv_iinc (v := iI x_12) (lv' := [(5, .int (iI x_12)), (0, .ref a0), (1, .int (iI x1)), (2, .int (iI x2)), (3, .int (iI x_1)), (4, .int (iI x_2)), (6, .int (iI y6_25))]) hx hb dX0_beginsIn_93 hl (k := 5) rfl hx_12 (by decide) rfl (fun ls hl => ?_)
                exact J96 x_12 lx_12 ux_12 _ _ _ hw (lv_sub hl [1, 2, 3, 4, 5, 0, 6] rfl)
        refine q_icmp_lt (tgt := 60) hx hb dX0_beginsIn_42 (by decide) ⟨lx_6, ux_6⟩ ⟨lx_1, ux_1⟩ (fun c42 => ?_) (fun c42 => ?_)
        · exact J60 y5_25 ly5_25 uy5_25 _ _ _ hw (lv_sub hl [0, 1, 2, 3, 4, 5, 6] rfl)
        · refine lv_aload_n hx hb dX0_beginsIn_45 rfl (lv_at hl 0 rfl) ?_
          refine q_getr (ci := 0) (C := RX0) (T := TX0) (N := 15) hx hb hts (fun w h => List.mem_cons_of_mem _ (mfX00 w h)) hown hK hw m_a0 o_a0 rfl 11 (by decide) (hts _ (List.mem_cons_of_mem _ (mr3 _ (List.mem_of_getElem? (i := 2) rfl)))) (fun _ h => h) rfl er_5 dX0_beginsIn_46 ?_
          refine lv_iload hx hb dX0_beginsIn_49 (lv_at hl 6 rfl) ?_
          refine q_iald hx hb hK hw m_r_5 1 o_r_5 rfl ⟨ly6_25, uy6_25⟩ (by omega) (by omega) dX0_beginsIn_51 (fun x_13 lx_13 ux_13 ex_13 => ?_)
          refine lv_iload hx hb dX0_beginsIn_52 (lv_at hl 4 rfl) ?_
          refine q_icmp_gt (tgt := 60) hx hb dX0_beginsIn_54 (by decide) ⟨lx_13, ux_13⟩ ⟨lx_2, ux_2⟩ (fun c54 => ?_) (fun c54 => ?_)
          · exact J60 y5_25 ly5_25 uy5_25 _ _ _ hw (lv_sub hl [0, 1, 2, 3, 4, 5, 6] rfl)
          · obtain ⟨x_14, lx_14, ux_14, hx_14, ex_14⟩ := q_inc y5_25 (-1)
            try (replace ex_14 : x_14 = y5_25 + (-1) := by omega)
            refine lv_iinc (v := iI x_14) (lv' := [(5, .int (iI x_14)), (0, .ref a0), (1, .int (iI x1)), (2, .int (iI x2)), (3, .int (iI x_1)), (4, .int (iI x_2)), (6, .int (iI y6_25))]) hx hb dX0_beginsIn_57 hl (k := 5) rfl hx_14 (by decide) rfl (fun ls hl => ?_)
            exact J60 x_14 lx_14 ux_14 _ _ _ hw (lv_sub hl [1, 2, 3, 4, 5, 0, 6] rfl)
  exact J25 ((((2147483647 : Int) - 0).toNat) + 1) x_3 lx_3 ux_3 0 (by decide) (by decide) (by omega) (by omega) _ _ _ hw (lv_sub hl [4, 5, 6, 3, 2, 1, 0] rfl)
set_option maxHeartbeats 4000000 in
set_option maxRecDepth 100000 in
theorem c_X0_meet {Z : Zt} (zo : Zok Z) (l : Launch) (D : va_G) (cy : Cy) (L0 : List Nat) (f0 : Nat → va_E) (a0 : Nat) (x1 : Int) (lx1 : -2147483648 ≤ x1) (ux1 : x1 ≤ 2147483647) (x2 : Int) (lx2 : -2147483648 ≤ x2) (ux2 : x2 ≤ 2147483647) (x3 : Int) (lx3 : -2147483648 ≤ x3) (ux3 : x3 ≤ 2147483647) (m_a0 : a0 ∈ L0) (o_a0 : Ob f0 a0 0) (hg : GI cy L0 f0) : Ci Z l yX0_meet (Cond.code yX0_meet cX0_meet 4 (some .int) :: TB) ({ frames := 5, cells := 0, slots := 0, locals := 117 } : Room) 0 0 D (tq cy) [.ref a0, .int (iI x1), .int (iI x2), .int (iI x3)] L0 f0 (fun (r : Int) (L1 : List Nat) (f1 : Nat → va_E) => L0 = L1 ∧ GI cy L0 f1 ∧ Ex cy f0 f1 ∧ (True)) := by
  refine Ci.enter (cc := cX0_meet) (n := 4) rfl (plainFor_of_name (by decide)) (Nat.le_of_ble_eq_true rfl) ?_
  intro p e s m below meth c ls A hx hb hr hts hown hlocks hnm hml hK hA hAe hw hZ hl
  have hown : s.vm.findClass RX0 = some m.cls := hown
  have hl : lv_has ls 4 [(0, .ref a0), (1, .int (iI x1)), (2, .int (iI x2)), (3, .int (iI x3))] := hl
  have hN : ZN s := (zo.2.2.2.2 _ _ _ hZ).2
  have hE : Ex cy f0 f0 := Ex.refl cy f0
  refine lv_iload_n hx hb dX0_meet_0 rfl (lv_at hl 1 rfl) ?_
  refine lv_iload_n hx hb dX0_meet_1 rfl (lv_at hl 3 rfl) ?_
  have J30 : ∀ (L : List Nat) (f : Nat → va_E) (hg : GI cy L0 f) (hE : Ex cy f0 f) (o_a0 : Ob f a0 0) (H : Heap) (locs : List Loc) (ls : Array Slot) (hw : Wd D A s.heap L0 f H locs) (hl : lv_has ls 4 [(0, .ref a0), (1, .int (iI x1)), (2, .int (iI x2)), (3, .int (iI x3))]), W p l e ({ frames := 5, cells := 0, slots := 0, locals := 117 } : Room) s m ([.ref a0, .int (iI x1), .int (iI x2), .int (iI x3)] : List Value).toArray below meth c H locs (0) (0) (MQ below (Qi D (tq cy) L0 f0 s.heap.size (fun (r : Int) (L1 : List Nat) (f1 : Nat → va_E) => L0 = L1 ∧ GI cy L0 f1 ∧ Ex cy f0 f1 ∧ (True))) ([.ref a0, .int (iI x1), .int (iI x2), .int (iI x3)] : List Value).toArray s 0 0 A) (F0 m 30 ls []) := by
    intro L f hg hE o_a0 H locs ls hw hl
    refine lv_aload_n hx hb dX0_meet_30 rfl (lv_at hl 0 rfl) ?_
    refine lv_iload_n hx hb dX0_meet_31 rfl (lv_at hl 1 rfl) ?_
    refine q_iconst hx hb dX0_meet_32 ?_
    first | refine q_iadd hx hb dX0_meet_33 ⟨by omega, by omega⟩ (fun x_1 lx_1 ux_1 ex_1 => ?_) | refine q_iaddw hx hb dX0_meet_33 (fun x_1 lx_1 ux_1 _ => ?_)
    refine lv_iload_n hx hb dX0_meet_34 rfl (lv_at hl 3 rfl) ?_
    refine q_max hx hb (hml.trans hl.1.symm) hown (hts _ (List.mem_cons_of_mem _ (mr25 _ (List.mem_of_getElem? (i := 20) rfl)))) (hts _ (List.mem_cons_of_mem _ (mr13 _ (List.mem_of_getElem? (i := 0) rfl)))) (hts _ (List.mem_cons_of_mem _ (mr6 _ (List.mem_of_getElem? (i := 14) rfl)))) (hts _ (List.mem_cons_of_mem _ (mr13 _ (List.mem_of_getElem? (i := 1) rfl)))) (Nat.le_of_ble_eq_true rfl) (Nat.le_of_ble_eq_true rfl) (Nat.le_of_ble_eq_true rfl) (Nat.le_of_ble_eq_true rfl) ⟨lx_1, ux_1⟩ ⟨lx3, ux3⟩ dX0_meet_35 (fun x_2 lx_2 ux_2 ex_2 => ?_)
    refine q_iconst hx hb dX0_meet_38 ?_
    refine q_call_i hA hK hw (va_runV (As := [.int (iI x_2), .int (iI 0)]) (rest := []) ⟨hx, hb, hml, hown, hts⟩ (c_X0_seek zo l D cy L0 f a0 x_2 lx_2 ux_2 0 (by decide) (by decide) m_a0 o_a0 hg _) (cwV 2 hts (gT (inV (mr35 _ (List.mem_of_getElem? (i := 14) rfl)) (mr29 _ (List.mem_of_getElem? (i := 8) rfl)) (mr29 _ (List.mem_of_getElem? (i := 9) rfl)) (mr2 _ (List.mem_of_getElem? (i := 9) rfl)) (mr29 _ (List.mem_of_getElem? (i := 10) rfl)))) rfl rfl rfl (by decide +kernel) ⟨Nat.le_of_ble_eq_true rfl, Nat.le_of_ble_eq_true rfl⟩) (Wd.preV zo hA hZ hw hK m_a0 o_a0 rfl) rfl rfl hl.1 rfl (lv_room (Nat.le_of_ble_eq_true rfl)) dX0_meet_39 ⟨Nat.le_of_ble_eq_true rfl, Nat.le_of_ble_eq_true rfl⟩) (fun x_3 L1 f_4 H locs lx_3 ux_3 ex_3 hw => ?_)
    obtain ⟨rfl, hg, hX, ex_3⟩ := ex_3
    have hE := hE.trans hX
    have o_a0 := hX.1.1 _ _ o_a0
    refine q_if_eq (tgt := 60) hx hb dX0_meet_42 (by decide) ⟨lx_3, ux_3⟩ (fun c42 => ?_) (fun c42 => ?_)
    · refine q_ldc (n := 2147483647) hx hb hown (hts _ (List.mem_cons_of_mem _ (mr29 _ (List.mem_of_getElem? (i := 12) rfl)))) rfl dX0_meet_60 ?_
      exact q_ret_i hx hb hr hlocks hK hAe hw ⟨by decide, by decide⟩ (Nat.le_of_ble_eq_true rfl) (Nat.le_of_ble_eq_true rfl) dX0_meet_62 (by exact ⟨rfl, hg, hE, by first | trivial | omega⟩)
    · refine lv_aload_n hx hb dX0_meet_45 rfl (lv_at hl 0 rfl) ?_
      refine q_geti (ci := 0) (C := RX0) (T := TX0) (N := 15) hx hb hts (fun w h => List.mem_cons_of_mem _ (mfX00 w h)) hown hK hw m_a0 o_a0 rfl 13 (by decide) (hts _ (List.mem_cons_of_mem _ (mr29 _ (List.mem_of_getElem? (i := 13) rfl)))) (fun _ h => h) rfl dX0_meet_46 (fun x_5 lx_5 ux_5 ex_5 => ?_)
      refine lv_iload_n hx hb dX0_meet_49 rfl (lv_at hl 1 rfl) ?_
      refine lv_iload_n hx hb dX0_meet_50 rfl (lv_at hl 2 rfl) ?_
      first | refine q_iadd hx hb dX0_meet_51 ⟨by omega, by omega⟩ (fun x_6 lx_6 ux_6 ex_6 => ?_) | refine q_iaddw hx hb dX0_meet_51 (fun x_6 lx_6 ux_6 _ => ?_)
      refine q_icmp_ge (tgt := 60) hx hb dX0_meet_52 (by decide) ⟨lx_5, ux_5⟩ ⟨lx_6, ux_6⟩ (fun c52 => ?_) (fun c52 => ?_)
      · refine q_ldc (n := 2147483647) hx hb hown (hts _ (List.mem_cons_of_mem _ (mr29 _ (List.mem_of_getElem? (i := 12) rfl)))) rfl dX0_meet_60 ?_
        exact q_ret_i hx hb hr hlocks hK hAe hw ⟨by decide, by decide⟩ (Nat.le_of_ble_eq_true rfl) (Nat.le_of_ble_eq_true rfl) dX0_meet_62 (by exact ⟨rfl, hg, hE, by first | trivial | omega⟩)
      · refine lv_aload_n hx hb dX0_meet_55 rfl (lv_at hl 0 rfl) ?_
        refine q_geti (ci := 0) (C := RX0) (T := TX0) (N := 15) hx hb hts (fun w h => List.mem_cons_of_mem _ (mfX00 w h)) hown hK hw m_a0 o_a0 rfl 13 (by decide) (hts _ (List.mem_cons_of_mem _ (mr29 _ (List.mem_of_getElem? (i := 13) rfl)))) (fun _ h => h) rfl dX0_meet_56 (fun x_7 lx_7 ux_7 ex_7 => ?_)
        exact q_ret_i hx hb hr hlocks hK hAe hw ⟨lx_7, ux_7⟩ (Nat.le_of_ble_eq_true rfl) (Nat.le_of_ble_eq_true rfl) dX0_meet_59 (by exact ⟨rfl, hg, hE, by first | trivial | omega⟩)
  refine q_icmp_lt (tgt := 30) hx hb dX0_meet_2 (by decide) ⟨lx1, ux1⟩ ⟨lx3, ux3⟩ (fun c2 => ?_) (fun c2 => ?_)
  · exact J30 L0 f0 hg hE o_a0 _ _ _ hw (lv_sub hl [0, 1, 2, 3] rfl)
  · refine lv_aload_n hx hb dX0_meet_5 rfl (lv_at hl 0 rfl) ?_
    refine lv_iload_n hx hb dX0_meet_6 rfl (lv_at hl 1 rfl) ?_
    refine q_iconst hx hb dX0_meet_7 ?_
    first | refine q_iadd hx hb dX0_meet_8 ⟨by omega, by omega⟩ (fun x_8 lx_8 ux_8 ex_8 => ?_) | refine q_iaddw hx hb dX0_meet_8 (fun x_8 lx_8 ux_8 _ => ?_)
    refine q_call_i hA hK hw (va_runV (As := [.int (iI x_8)]) (rest := []) ⟨hx, hb, hml, hown, hts⟩ (c_X0_seekAhead zo l D cy L0 f0 a0 x_8 lx_8 ux_8 m_a0 o_a0 hg _) (cwV 1 hts (gT (inV (mr35 _ (List.mem_of_getElem? (i := 13) rfl)) (mr30 _ (List.mem_of_getElem? (i := 20) rfl)) (mr30 _ (List.mem_of_getElem? (i := 21) rfl)) (mr2 _ (List.mem_of_getElem? (i := 9) rfl)) (mr30 _ (List.mem_of_getElem? (i := 22) rfl)))) rfl rfl rfl (by decide +kernel) ⟨Nat.le_of_ble_eq_true rfl, Nat.le_of_ble_eq_true rfl⟩) (Wd.preV zo hA hZ hw hK m_a0 o_a0 rfl) rfl rfl hl.1 rfl (lv_room (Nat.le_of_ble_eq_true rfl)) dX0_meet_9 ⟨Nat.le_of_ble_eq_true rfl, Nat.le_of_ble_eq_true rfl⟩) (fun x_9 L1 f_10 H locs lx_9 ux_9 ex_9 hw => ?_)
    obtain ⟨rfl, hg, hX, ex_9⟩ := ex_9
    have hE := hE.trans hX
    have o_a0 := hX.1.1 _ _ o_a0
    refine q_if_eq (tgt := 30) hx hb dX0_meet_12 (by decide) ⟨lx_9, ux_9⟩ (fun c12 => ?_) (fun c12 => ?_)
    · exact J30 L0 f_10 hg hE o_a0 _ _ _ hw (lv_sub hl [0, 1, 2, 3] rfl)
    · refine lv_aload_n hx hb dX0_meet_15 rfl (lv_at hl 0 rfl) ?_
      refine q_geti (ci := 0) (C := RX0) (T := TX0) (N := 15) hx hb hts (fun w h => List.mem_cons_of_mem _ (mfX00 w h)) hown hK hw m_a0 o_a0 rfl 13 (by decide) (hts _ (List.mem_cons_of_mem _ (mr29 _ (List.mem_of_getElem? (i := 13) rfl)))) (fun _ h => h) rfl dX0_meet_16 (fun x_11 lx_11 ux_11 ex_11 => ?_)
      refine lv_aload_n hx hb dX0_meet_19 rfl (lv_at hl 0 rfl) ?_
      refine q_geti (ci := 0) (C := RX0) (T := TX0) (N := 15) hx hb hts (fun w h => List.mem_cons_of_mem _ (mfX00 w h)) hown hK hw m_a0 o_a0 rfl 2 (by decide) (hts _ (List.mem_cons_of_mem _ (mr35 _ (List.mem_of_getElem? (i := 12) rfl)))) (fun _ h => h) rfl dX0_meet_20 (fun x_12 lx_12 ux_12 ex_12 => ?_)
      first | refine q_iadd hx hb dX0_meet_23 ⟨by omega, by omega⟩ (fun x_13 lx_13 ux_13 ex_13 => ?_) | refine q_iaddw hx hb dX0_meet_23 (fun x_13 lx_13 ux_13 _ => ?_)
      refine lv_iload_n hx hb dX0_meet_24 rfl (lv_at hl 1 rfl) ?_
      refine q_icmp_le (tgt := 30) hx hb dX0_meet_25 (by decide) ⟨lx_13, ux_13⟩ ⟨lx1, ux1⟩ (fun c25 => ?_) (fun c25 => ?_)
      · exact J30 L0 f_10 hg hE o_a0 _ _ _ hw (lv_sub hl [0, 1, 2, 3] rfl)
      · refine lv_iload_n hx hb dX0_meet_28 rfl (lv_at hl 1 rfl) ?_
        exact q_ret_i hx hb hr hlocks hK hAe hw ⟨lx1, ux1⟩ (Nat.le_of_ble_eq_true rfl) (Nat.le_of_ble_eq_true rfl) dX0_meet_29 (by exact ⟨rfl, hg, hE, by first | trivial | omega⟩)
set_option maxHeartbeats 4000000 in
set_option maxRecDepth 100000 in
theorem c_X0_cutInto {Z : Zt} (zo : Zok Z) (l : Launch) (D : va_G) (cy : Cy) (L0 : List Nat) (f0 : Nat → va_E) (a0 : Nat) (a1 : Nat) (x2 : Int) (lx2 : -2147483648 ≤ x2) (ux2 : x2 ≤ 2147483647) (m_a0 : a0 ∈ L0) (o_a0 : Ob f0 a0 0) (m_a1 : a1 ∈ L0) (o_a1 : Ob f0 a1 0) (hg : GI cy L0 f0) : Cv Z l yX0_cutInto (Cond.code yX0_cutInto cX0_cutInto 4 none :: TB) ({ frames := 5, cells := 0, slots := 0, locals := 113 } : Room) 0 0 D (tq cy) [.ref a0, .ref a1, .int (iI x2)] L0 f0 (fun (L1 : List Nat) (f1 : Nat → va_E) => L0 = L1 ∧ GI cy L0 f1 ∧ Ex cy f0 f1 ∧ (True)) := by
  refine Cv.enter (cc := cX0_cutInto) (n := 4) rfl (plainFor_of_name (by decide)) (Nat.le_of_ble_eq_true rfl) ?_
  intro p e s m below meth c ls A hx hb hr hts hown hlocks hnm hml hK hA hAe hw hZ hl
  have hown : s.vm.findClass RX0 = some m.cls := hown
  have hl : lv_has ls 4 [(0, .ref a0), (1, .ref a1), (2, .int (iI x2))] := hl
  have hN : ZN s := (zo.2.2.2.2 _ _ _ hZ).2
  have hE : Ex cy f0 f0 := Ex.refl cy f0
  refine lv_aload_n hx hb dX0_cutInto_0 rfl (lv_at hl 1 rfl) ?_
  refine lv_aload_n hx hb dX0_cutInto_1 rfl (lv_at hl 0 rfl) ?_
  refine q_call_v hA hK hw (va_runV (As := [.ref a0]) (rest := []) ⟨hx, hb, hml, hown, hts⟩ (c_X0_copyFrom zo l D cy L0 f0 a1 a0 m_a1 o_a1 m_a0 o_a0 hg _) (cwV 1 hts (gT (inV (mr40 _ (List.mem_of_getElem? (i := 15) rfl)) (mr40 _ (List.mem_of_getElem? (i := 16) rfl)) (mr40 _ (List.mem_of_getElem? (i := 17) rfl)) (mr2 _ (List.mem_of_getElem? (i := 9) rfl)) (mr40 _ (List.mem_of_getElem? (i := 18) rfl)))) rfl rfl rfl (by decide +kernel) ⟨Nat.le_of_ble_eq_true rfl, Nat.le_of_ble_eq_true rfl⟩) (Wd.preV zo hA hZ hw hK m_a1 o_a1 rfl) rfl rfl hl.1 rfl (lv_room (Nat.le_of_ble_eq_true rfl)) dX0_cutInto_2 ⟨Nat.le_of_ble_eq_true rfl, Nat.le_of_ble_eq_true rfl⟩) (fun L1 f_2 H locs ex_1 hw => ?_)
  obtain ⟨rfl, hg, hX, ex_1⟩ := ex_1
  have hE := hE.trans hX
  have o_a0 := hX.1.1 _ _ o_a0
  have o_a1 := hX.1.1 _ _ o_a1
  refine lv_aload_n hx hb dX0_cutInto_5 rfl (lv_at hl 1 rfl) ?_
  refine lv_iload_n hx hb dX0_cutInto_6 rfl (lv_at hl 2 rfl) ?_
  refine q_puti (ci := 0) (C := RX0) (T := TX0) (N := 15) hx hb hts (fun w h => List.mem_cons_of_mem _ (mfX00 w h)) hown hK hw m_a1 o_a1 rfl 6 (by decide) (hts _ (List.mem_cons_of_mem _ (mr14 _ (List.mem_of_getElem? (i := 6) rfl)))) (fun _ h => h) tyX0 tyX0_ok nmX0 rfl (ty := .int) (by decide +kernel) rfl rfl dX0_cutInto_7 (fun H locs hw => ?_)
  have oo := o_a1
  obtain ⟨f_3, ef_3⟩ : ∃ g : Nat → va_E, g = pU f_2 a1 6 (.int (iI x2)) := ⟨_, rfl⟩
  have hX : Ex cy f_2 f_3 := by rw [ef_3]; exact Ex_pU oo rfl rfl (by decide)
  have hg : GI cy L0 f_3 := by rw [ef_3]; exact hg.putI oo rfl ⟨lx2, ux2⟩ trivial
  rw [← ef_3] at hw
  have hE := hE.trans hX
  have o_a0 := hX.1.1 _ _ o_a0
  have o_a1 := hX.1.1 _ _ o_a1
  have vf_3 : fI f_3 a1 6 = x2 := by rw [ef_3]; exact fI_pU_self oo rfl ⟨lx2, ux2⟩
  refine lv_aload_n hx hb dX0_cutInto_10 rfl (lv_at hl 0 rfl) ?_
  refine q_geti (ci := 0) (C := RX0) (T := TX0) (N := 15) hx hb hts (fun w h => List.mem_cons_of_mem _ (mfX00 w h)) hown hK hw m_a0 o_a0 rfl 5 (by decide) (hts _ (List.mem_cons_of_mem _ (mr14 _ (List.mem_of_getElem? (i := 8) rfl)))) (fun _ h => h) rfl dX0_cutInto_11 (fun x_4 lx_4 ux_4 ex_4 => ?_)
  refine q_iconst hx hb dX0_cutInto_14 ?_
  have J53 : ∀ (L : List Nat) (f : Nat → va_E) (hg : GI cy L0 f) (hE : Ex cy f0 f) (o_a0 : Ob f a0 0) (o_a1 : Ob f a1 0) (H : Heap) (locs : List Loc) (ls : Array Slot) (hw : Wd D A s.heap L0 f H locs) (hl : lv_has ls 4 [(0, .ref a0), (1, .ref a1), (2, .int (iI x2))]), W p l e ({ frames := 5, cells := 0, slots := 0, locals := 113 } : Room) s m ([.ref a0, .ref a1, .int (iI x2)] : List Value).toArray below meth c H locs (0 + 0) (0 + 0) (MQ below (Qv D (tq cy) L0 f0 s.heap.size (fun (L1 : List Nat) (f1 : Nat → va_E) => L0 = L1 ∧ GI cy L0 f1 ∧ Ex cy f0 f1 ∧ (True))) ([.ref a0, .ref a1, .int (iI x2)] : List Value).toArray s 0 0 A) (F0 m 53 ls []) := by
    intro L f hg hE o_a0 o_a1 H locs ls hw hl
    refine q_bipush hx hb dX0_cutInto_53 rfl ?_
    refine lv_istore_n (lv' := [(3, .int (iI 15)), (0, .ref a0), (1, .ref a1), (2, .int (iI x2))]) hx hb dX0_cutInto_55 rfl hl (by decide) rfl (fun ls hl => ?_)
    have J56 : ∀ (n56 : Nat) (y3_56 : Int) (ly3_56 : -2147483648 ≤ y3_56) (uy3_56 : y3_56 ≤ 2147483647) (L : List Nat) (f : Nat → va_E) (hg : GI cy L0 f) (hE : Ex cy f0 f) (o_a0 : Ob f a0 0) (o_a1 : Ob f a1 0) (i1 : -1 ≤ y3_56) (i2 : y3_56 ≤ 15) (hn56 : (y3_56 + (2147483648 : Int)).toNat < n56) (H : Heap) (locs : List Loc) (ls : Array Slot) (hw : Wd D A s.heap L0 f H locs) (hl : lv_has ls 4 [(0, .ref a0), (1, .ref a1), (2, .int (iI x2)), (3, .int (iI y3_56))]), W p l e ({ frames := 5, cells := 0, slots := 0, locals := 113 } : Room) s m ([.ref a0, .ref a1, .int (iI x2)] : List Value).toArray below meth c H locs (0 + 0) (0 + 0) (MQ below (Qv D (tq cy) L0 f0 s.heap.size (fun (L1 : List Nat) (f1 : Nat → va_E) => L0 = L1 ∧ GI cy L0 f1 ∧ Ex cy f0 f1 ∧ (True))) ([.ref a0, .ref a1, .int (iI x2)] : List Value).toArray s 0 0 A) (F0 m 56 ls []) := by
      intro n56
      induction n56 with
      | zero => intro y3_56 ly3_56 uy3_56 L f hg hE o_a0 o_a1 i1 i2 hn56; exact absurd hn56 (Nat.not_lt_zero _)
      | succ n56 ih56 =>
        intro y3_56 ly3_56 uy3_56 L f hg hE o_a0 o_a1 i1 i2 hn56 H locs ls hw hl
        refine lv_iload_n hx hb dX0_cutInto_56 rfl (lv_at hl 3 rfl) ?_
        refine q_if_lt (tgt := 112) hx hb dX0_cutInto_57 (by decide) ⟨ly3_56, uy3_56⟩ (fun c57 => ?_) (fun c57 => ?_)
        · refine lv_aload_n hx hb dX0_cutInto_112 rfl (lv_at hl 0 rfl) ?_
          refine q_call_v hA hK hw (va_runV (As := []) (rest := []) ⟨hx, hb, hml, hown, hts⟩ (c_X0_settle zo l D cy L0 f a0 m_a0 o_a0 hg _) (cwV 0 hts (gT (inV (mr41 _ (List.mem_of_getElem? (i := 0) rfl)) (mr14 _ (List.mem_of_getElem? (i := 16) rfl)) (mr14 _ (List.mem_of_getElem? (i := 17) rfl)) (mr2 _ (List.mem_of_getElem? (i := 9) rfl)) (mr14 _ (List.mem_of_getElem? (i := 18) rfl)))) rfl rfl rfl (by decide +kernel) ⟨Nat.le_of_ble_eq_true rfl, Nat.le_of_ble_eq_true rfl⟩) (Wd.preV zo hA hZ hw hK m_a0 o_a0 rfl) rfl rfl hl.1 rfl (lv_room (Nat.le_of_ble_eq_true rfl)) dX0_cutInto_113 ⟨Nat.le_of_ble_eq_true rfl, Nat.le_of_ble_eq_true rfl⟩) (fun L1 f_6 H locs ex_5 hw => ?_)
          obtain ⟨rfl, hg, hX, ex_5⟩ := ex_5
          have hE := hE.trans hX
          have o_a0 := hX.1.1 _ _ o_a0
          have o_a1 := hX.1.1 _ _ o_a1
          refine lv_aload_n hx hb dX0_cutInto_116 rfl (lv_at hl 1 rfl) ?_
          refine q_call_v hA hK hw (va_runV (As := []) (rest := []) ⟨hx, hb, hml, hown, hts⟩ (c_X0_settle zo l D cy L0 f_6 a1 m_a1 o_a1 hg _) (cwV 0 hts (gT (inV (mr41 _ (List.mem_of_getElem? (i := 0) rfl)) (mr14 _ (List.mem_of_getElem? (i := 16) rfl)) (mr14 _ (List.mem_of_getElem? (i := 17) rfl)) (mr2 _ (List.mem_of_getElem? (i := 9) rfl)) (mr14 _ (List.mem_of_getElem? (i := 18) rfl)))) rfl rfl rfl (by decide +kernel) ⟨Nat.le_of_ble_eq_true rfl, Nat.le_of_ble_eq_true rfl⟩) (Wd.preV zo hA hZ hw hK m_a1 o_a1 rfl) rfl rfl hl.1 rfl (lv_room (Nat.le_of_ble_eq_true rfl)) dX0_cutInto_117 ⟨Nat.le_of_ble_eq_true rfl, Nat.le_of_ble_eq_true rfl⟩) (fun L1 f_8 H locs ex_7 hw => ?_)
          obtain ⟨rfl, hg, hX, ex_7⟩ := ex_7
          have hE := hE.trans hX
          have o_a0 := hX.1.1 _ _ o_a0
          have o_a1 := hX.1.1 _ _ o_a1
          exact q_ret_v hx hb hr hlocks hK hAe hw (Nat.le_of_ble_eq_true rfl) (Nat.le_of_ble_eq_true rfl) dX0_cutInto_120 (by exact ⟨rfl, hg, hE, by first | trivial | omega⟩)
        · refine lv_iload_n hx hb dX0_cutInto_60 rfl (lv_at hl 3 rfl) ?_
          refine lv_aload_n hx hb dX0_cutInto_61 rfl (lv_at hl 1 rfl) ?_
          refine q_geti (ci := 0) (C := RX0) (T := TX0) (N := 15) hx hb hts (fun w h => List.mem_cons_of_mem _ (mfX00 w h)) hown hK hw m_a1 o_a1 rfl 10 (by decide) (hts _ (List.mem_cons_of_mem _ (mr14 _ (List.mem_of_getElem? (i := 9) rfl)))) (fun _ h => h) rfl dX0_cutInto_62 (fun x_9 lx_9 ux_9 ex_9 => ?_)
          have bx_9 : 0 ≤ x_9 ∧ x_9 ≤ 16 := by rw [ex_9]; exact hg.1 _ m_a1 0 10 o_a1
          have J83 : ∀ (L : List Nat) (f : Nat → va_E) (hg : GI cy L0 f) (hE : Ex cy f0 f) (o_a0 : Ob f a0 0) (o_a1 : Ob f a1 0) (H : Heap) (locs : List Loc) (ls : Array Slot) (hw : Wd D A s.heap L0 f H locs) (hl : lv_has ls 4 [(0, .ref a0), (1, .ref a1), (2, .int (iI x2)), (3, .int (iI y3_56))]), W p l e ({ frames := 5, cells := 0, slots := 0, locals := 113 } : Room) s m ([.ref a0, .ref a1, .int (iI x2)] : List Value).toArray below meth c H locs (0 + 0) (0 + 0) (MQ below (Qv D (tq cy) L0 f0 s.heap.size (fun (L1 : List Nat) (f1 : Nat → va_E) => L0 = L1 ∧ GI cy L0 f1 ∧ Ex cy f0 f1 ∧ (True))) ([.ref a0, .ref a1, .int (iI x2)] : List Value).toArray s 0 0 A) (F0 m 83 ls []) := by
            intro L f hg hE o_a0 o_a1 H locs ls hw hl
            refine lv_iload_n hx hb dX0_cutInto_83 rfl (lv_at hl 3 rfl) ?_
            refine lv_aload_n hx hb dX0_cutInto_84 rfl (lv_at hl 0 rfl) ?_
            refine q_geti (ci := 0) (C := RX0) (T := TX0) (N := 15) hx hb hts (fun w h => List.mem_cons_of_mem _ (mfX00 w h)) hown hK hw m_a0 o_a0 rfl 10 (by decide) (hts _ (List.mem_cons_of_mem _ (mr14 _ (List.mem_of_getElem? (i := 9) rfl)))) (fun _ h => h) rfl dX0_cutInto_85 (fun x_10 lx_10 ux_10 ex_10 => ?_)
            have bx_10 : 0 ≤ x_10 ∧ x_10 ≤ 16 := by rw [ex_10]; exact hg.1 _ m_a0 0 10 o_a0
            have J106 : ∀ (L : List Nat) (f : Nat → va_E) (hg : GI cy L0 f) (hE : Ex cy f0 f) (o_a0 : Ob f a0 0) (o_a1 : Ob f a1 0) (H : Heap) (locs : List Loc) (ls : Array Slot) (hw : Wd D A s.heap L0 f H locs) (hl : lv_has ls 4 [(0, .ref a0), (1, .ref a1), (2, .int (iI x2)), (3, .int (iI y3_56))]), W p l e ({ frames := 5, cells := 0, slots := 0, locals := 113 } : Room) s m ([.ref a0, .ref a1, .int (iI x2)] : List Value).toArray below meth c H locs (0 + 0) (0 + 0) (MQ below (Qv D (tq cy) L0 f0 s.heap.size (fun (L1 : List Nat) (f1 : Nat → va_E) => L0 = L1 ∧ GI cy L0 f1 ∧ Ex cy f0 f1 ∧ (True))) ([.ref a0, .ref a1, .int (iI x2)] : List Value).toArray s 0 0 A) (F0 m 106 ls []) := by
              intro L f hg hE o_a0 o_a1 H locs ls hw hl
              obtain ⟨x_11, lx_11, ux_11, hx_11, ex_11⟩ := q_inc y3_56 (-1)
              try (replace ex_11 : x_11 = y3_56 + (-1) := by omega)
              refine lv_iinc (v := iI x_11) (lv' := [(3, .int (iI x_11)), (0, .ref a0), (1, .ref a1), (2, .int (iI x2))]) hx hb dX0_cutInto_106 hl (k := 3) rfl hx_11 (by decide) rfl (fun ls hl => ?_)
              refine lv_goto (tgt := 56) hx hb dX0_cutInto_109 (by decide) ?_
              exact ih56 x_11 lx_11 ux_11 L0 f hg hE o_a0 o_a1 (by omega) (by omega) (by omega) _ _ _ hw (lv_sub hl [1, 2, 3, 0] rfl)
            refine q_icmp_ge (tgt := 106) hx hb dX0_cutInto_88 (by decide) ⟨ly3_56, uy3_56⟩ ⟨lx_10, ux_10⟩ (fun c88 => ?_) (fun c88 => ?_)
            · exact J106 L0 f hg hE o_a0 o_a1 _ _ _ hw (lv_sub hl [0, 1, 2, 3] rfl)
            · refine lv_aload_n hx hb dX0_cutInto_91 rfl (lv_at hl 0 rfl) ?_
              obtain ⟨r_12, er_12, m_r_12, o_r_12⟩ := (show ∃ r, fR f a0 11 = some r ∧ r ∈ L0 ∧ ArI f r cy.2.1 16 from hg.2.1 _ m_a0 0 11 o_a0)
              refine q_getr (ci := 0) (C := RX0) (T := TX0) (N := 15) hx hb hts (fun w h => List.mem_cons_of_mem _ (mfX00 w h)) hown hK hw m_a0 o_a0 rfl 11 (by decide) (hts _ (List.mem_cons_of_mem _ (mr3 _ (List.mem_of_getElem? (i := 2) rfl)))) (fun _ h => h) rfl er_12 dX0_cutInto_92 ?_
              refine lv_iload_n hx hb dX0_cutInto_95 rfl (lv_at hl 3 rfl) ?_
              refine q_iald hx hb hK hw m_r_12 1 o_r_12 rfl ⟨ly3_56, uy3_56⟩ (by omega) (by omega) dX0_cutInto_96 (fun x_13 lx_13 ux_13 ex_13 => ?_)
              refine lv_iload_n hx hb dX0_cutInto_97 rfl (lv_at hl 2 rfl) ?_
              refine q_icmp_lt (tgt := 106) hx hb dX0_cutInto_98 (by decide) ⟨lx_13, ux_13⟩ ⟨lx2, ux2⟩ (fun c98 => ?_) (fun c98 => ?_)
              · exact J106 L0 f hg hE o_a0 o_a1 _ _ _ hw (lv_sub hl [0, 1, 2, 3] rfl)
              · refine lv_aload_n hx hb dX0_cutInto_101 rfl (lv_at hl 0 rfl) ?_
                refine lv_iload_n hx hb dX0_cutInto_102 rfl (lv_at hl 3 rfl) ?_
                refine q_call_v hA hK hw (va_runV (As := [.int (iI y3_56)]) (rest := []) ⟨hx, hb, hml, hown, hts⟩ (c_X0_forget zo l D cy L0 f a0 y3_56 ly3_56 uy3_56 m_a0 o_a0 hg (by omega) (by omega) (by omega) _) (cwV 1 hts (gT (inV (mr28 _ (List.mem_of_getElem? (i := 15) rfl)) (mr28 _ (List.mem_of_getElem? (i := 16) rfl)) (mr28 _ (List.mem_of_getElem? (i := 17) rfl)) (mr2 _ (List.mem_of_getElem? (i := 9) rfl)) (mr28 _ (List.mem_of_getElem? (i := 18) rfl)))) rfl rfl rfl (by decide +kernel) ⟨Nat.le_of_ble_eq_true rfl, Nat.le_of_ble_eq_true rfl⟩) (Wd.preV zo hA hZ hw hK m_a0 o_a0 rfl) rfl rfl hl.1 rfl (lv_room (Nat.le_of_ble_eq_true rfl)) dX0_cutInto_103 ⟨Nat.le_of_ble_eq_true rfl, Nat.le_of_ble_eq_true rfl⟩) (fun L1 f_15 H locs ex_14 hw => ?_)
                obtain ⟨rfl, hg, hX, ex_14⟩ := ex_14
                have hE := hE.trans hX
                have o_a0 := hX.1.1 _ _ o_a0
                have o_a1 := hX.1.1 _ _ o_a1
                exact J106 L0 f_15 hg hE o_a0 o_a1 _ _ _ hw (lv_sub hl [0, 1, 2, 3] rfl)
          refine q_icmp_ge (tgt := 83) hx hb dX0_cutInto_65 (by decide) ⟨ly3_56, uy3_56⟩ ⟨lx_9, ux_9⟩ (fun c65 => ?_) (fun c65 => ?_)
          · exact J83 L0 f hg hE o_a0 o_a1 _ _ _ hw (lv_sub hl [0, 1, 2, 3] rfl)
          · refine lv_aload_n hx hb dX0_cutInto_68 rfl (lv_at hl 1 rfl) ?_
            obtain ⟨r_16, er_16, m_r_16, o_r_16⟩ := (show ∃ r, fR f a1 11 = some r ∧ r ∈ L0 ∧ ArI f r cy.2.1 16 from hg.2.1 _ m_a1 0 11 o_a1)
            refine q_getr (ci := 0) (C := RX0) (T := TX0) (N := 15) hx hb hts (fun w h => List.mem_cons_of_mem _ (mfX00 w h)) hown hK hw m_a1 o_a1 rfl 11 (by decide) (hts _ (List.mem_cons_of_mem _ (mr3 _ (List.mem_of_getElem? (i := 2) rfl)))) (fun _ h => h) rfl er_16 dX0_cutInto_69 ?_
            refine lv_iload_n hx hb dX0_cutInto_72 rfl (lv_at hl 3 rfl) ?_
            refine q_iald hx hb hK hw m_r_16 1 o_r_16 rfl ⟨ly3_56, uy3_56⟩ (by omega) (by omega) dX0_cutInto_73 (fun x_17 lx_17 ux_17 ex_17 => ?_)
            refine lv_iload_n hx hb dX0_cutInto_74 rfl (lv_at hl 2 rfl) ?_
            refine q_icmp_ge (tgt := 83) hx hb dX0_cutInto_75 (by decide) ⟨lx_17, ux_17⟩ ⟨lx2, ux2⟩ (fun c75 => ?_) (fun c75 => ?_)
            · exact J83 L0 f hg hE o_a0 o_a1 _ _ _ hw (lv_sub hl [0, 1, 2, 3] rfl)
            · refine lv_aload_n hx hb dX0_cutInto_78 rfl (lv_at hl 1 rfl) ?_
              refine lv_iload_n hx hb dX0_cutInto_79 rfl (lv_at hl 3 rfl) ?_
              refine q_call_v hA hK hw (va_runV (As := [.int (iI y3_56)]) (rest := []) ⟨hx, hb, hml, hown, hts⟩ (c_X0_forget zo l D cy L0 f a1 y3_56 ly3_56 uy3_56 m_a1 o_a1 hg (by omega) (by omega) (by omega) _) (cwV 1 hts (gT (inV (mr28 _ (List.mem_of_getElem? (i := 15) rfl)) (mr28 _ (List.mem_of_getElem? (i := 16) rfl)) (mr28 _ (List.mem_of_getElem? (i := 17) rfl)) (mr2 _ (List.mem_of_getElem? (i := 9) rfl)) (mr28 _ (List.mem_of_getElem? (i := 18) rfl)))) rfl rfl rfl (by decide +kernel) ⟨Nat.le_of_ble_eq_true rfl, Nat.le_of_ble_eq_true rfl⟩) (Wd.preV zo hA hZ hw hK m_a1 o_a1 rfl) rfl rfl hl.1 rfl (lv_room (Nat.le_of_ble_eq_true rfl)) dX0_cutInto_80 ⟨Nat.le_of_ble_eq_true rfl, Nat.le_of_ble_eq_true rfl⟩) (fun L1 f_19 H locs ex_18 hw => ?_)
              obtain ⟨rfl, hg, hX, ex_18⟩ := ex_18
              have hE := hE.trans hX
              have o_a0 := hX.1.1 _ _ o_a0
              have o_a1 := hX.1.1 _ _ o_a1
              exact J83 L0 f_19 hg hE o_a0 o_a1 _ _ _ hw (lv_sub hl [0, 1, 2, 3] rfl)
    exact J56 (((15 + (2147483648 : Int)).toNat) + 1) 15 (by decide) (by decide) L0 f hg hE o_a0 o_a1 (by omega) (by omega) (by omega) _ _ _ hw (lv_sub hl [1, 2, 3, 0] rfl)
  refine q_icmp_ne (tgt := 28) hx hb dX0_cutInto_15 (by decide) ⟨lx_4, ux_4⟩ ⟨by decide, by decide⟩ (fun c15 => ?_) (fun c15 => ?_)
  · refine lv_aload_n hx hb dX0_cutInto_28 rfl (lv_at hl 0 rfl) ?_
    refine lv_aload_n hx hb dX0_cutInto_29 rfl (lv_at hl 0 rfl) ?_
    refine q_iconst hx hb dX0_cutInto_30 ?_
    refine lv_iload_n hx hb dX0_cutInto_31 rfl (lv_at hl 2 rfl) ?_
    refine q_iconst hx hb dX0_cutInto_32 ?_
    first | refine q_isub hx hb dX0_cutInto_33 ⟨by omega, by omega⟩ (fun x_20 lx_20 ux_20 ex_20 => ?_) | refine q_isubw hx hb dX0_cutInto_33 (fun x_20 lx_20 ux_20 _ => ?_)
    refine q_call_i hA hK hw (va_runV (As := [.int (iI 0), .int (iI x_20)]) (rest := [.ref a0]) ⟨hx, hb, hml, hown, hts⟩ (c_X0_keysIn zo l D cy L0 f_3 a0 0 (by decide) (by decide) x_20 lx_20 ux_20 m_a0 o_a0 hg _) (cwV 2 hts (gT (inV (mr31 _ (List.mem_of_getElem? (i := 19) rfl)) (mr25 _ (List.mem_of_getElem? (i := 17) rfl)) (mr25 _ (List.mem_of_getElem? (i := 18) rfl)) (mr2 _ (List.mem_of_getElem? (i := 9) rfl)) (mr25 _ (List.mem_of_getElem? (i := 19) rfl)))) rfl rfl rfl (by decide +kernel) ⟨Nat.le_of_ble_eq_true rfl, Nat.le_of_ble_eq_true rfl⟩) (Wd.preV zo hA hZ hw hK m_a0 o_a0 rfl) rfl rfl hl.1 rfl (lv_room (Nat.le_of_ble_eq_true rfl)) dX0_cutInto_34 ⟨Nat.le_of_ble_eq_true rfl, Nat.le_of_ble_eq_true rfl⟩) (fun x_21 L1 f1 H locs lx_21 ux_21 ex_21 hw => ?_)
    obtain ⟨rfl, rfl, ex_21⟩ := ex_21
    refine q_puti (ci := 0) (C := RX0) (T := TX0) (N := 15) hx hb hts (fun w h => List.mem_cons_of_mem _ (mfX00 w h)) hown hK hw m_a0 o_a0 rfl 5 (by decide) (hts _ (List.mem_cons_of_mem _ (mr14 _ (List.mem_of_getElem? (i := 8) rfl)))) (fun _ h => h) tyX0 tyX0_ok nmX0 rfl (ty := .int) (by decide +kernel) rfl rfl dX0_cutInto_37 (fun H locs hw => ?_)
    have oo := o_a0
    obtain ⟨f_22, ef_22⟩ : ∃ g : Nat → va_E, g = pU f_3 a0 5 (.int (iI x_21)) := ⟨_, rfl⟩
    have hX : Ex cy f_3 f_22 := by rw [ef_22]; exact Ex_pU oo rfl rfl (by decide)
    have hg : GI cy L0 f_22 := by rw [ef_22]; exact hg.putI oo rfl ⟨lx_21, ux_21⟩ trivial
    rw [← ef_22] at hw
    have hE := hE.trans hX
    have o_a0 := hX.1.1 _ _ o_a0
    have o_a1 := hX.1.1 _ _ o_a1
    have vf_22 : fI f_22 a0 5 = x_21 := by rw [ef_22]; exact fI_pU_self oo rfl ⟨lx_21, ux_21⟩
    refine lv_aload_n hx hb dX0_cutInto_40 rfl (lv_at hl 1 rfl) ?_
    refine lv_aload_n hx hb dX0_cutInto_41 rfl (lv_at hl 0 rfl) ?_
    refine q_geti (ci := 0) (C := RX0) (T := TX0) (N := 15) hx hb hts (fun w h => List.mem_cons_of_mem _ (mfX00 w h)) hown hK hw m_a0 o_a0 rfl 9 (by decide) (hts _ (List.mem_cons_of_mem _ (mr14 _ (List.mem_of_getElem? (i := 22) rfl)))) (fun _ h => h) rfl dX0_cutInto_42 (fun x_23 lx_23 ux_23 ex_23 => ?_)
    refine lv_aload_n hx hb dX0_cutInto_45 rfl (lv_at hl 0 rfl) ?_
    refine q_geti (ci := 0) (C := RX0) (T := TX0) (N := 15) hx hb hts (fun w h => List.mem_cons_of_mem _ (mfX00 w h)) hown hK hw m_a0 o_a0 rfl 5 (by decide) (hts _ (List.mem_cons_of_mem _ (mr14 _ (List.mem_of_getElem? (i := 8) rfl)))) (fun _ h => h) rfl dX0_cutInto_46 (fun x_24 lx_24 ux_24 ex_24 => ?_)
    first | refine q_isub hx hb dX0_cutInto_49 ⟨by omega, by omega⟩ (fun x_25 lx_25 ux_25 ex_25 => ?_) | refine q_isubw hx hb dX0_cutInto_49 (fun x_25 lx_25 ux_25 _ => ?_)
    refine q_puti (ci := 0) (C := RX0) (T := TX0) (N := 15) hx hb hts (fun w h => List.mem_cons_of_mem _ (mfX00 w h)) hown hK hw m_a1 o_a1 rfl 5 (by decide) (hts _ (List.mem_cons_of_mem _ (mr14 _ (List.mem_of_getElem? (i := 8) rfl)))) (fun _ h => h) tyX0 tyX0_ok nmX0 rfl (ty := .int) (by decide +kernel) rfl rfl dX0_cutInto_50 (fun H locs hw => ?_)
    have oo := o_a1
    obtain ⟨f_26, ef_26⟩ : ∃ g : Nat → va_E, g = pU f_22 a1 5 (.int (iI x_25)) := ⟨_, rfl⟩
    have hX : Ex cy f_22 f_26 := by rw [ef_26]; exact Ex_pU oo rfl rfl (by decide)
    have hg : GI cy L0 f_26 := by rw [ef_26]; exact hg.putI oo rfl ⟨lx_25, ux_25⟩ trivial
    rw [← ef_26] at hw
    have hE := hE.trans hX
    have o_a0 := hX.1.1 _ _ o_a0
    have o_a1 := hX.1.1 _ _ o_a1
    have vf_26 : fI f_26 a1 5 = x_25 := by rw [ef_26]; exact fI_pU_self oo rfl ⟨lx_25, ux_25⟩
    exact J53 L0 f_26 hg hE o_a0 o_a1 _ _ _ hw (lv_sub hl [0, 1, 2] rfl)
  · refine lv_aload_n hx hb dX0_cutInto_18 rfl (lv_at hl 0 rfl) ?_
    refine lv_iload_n hx hb dX0_cutInto_19 rfl (lv_at hl 2 rfl) ?_
    refine q_iconst hx hb dX0_cutInto_20 ?_
    first | refine q_isub hx hb dX0_cutInto_21 ⟨by omega, by omega⟩ (fun x_27 lx_27 ux_27 ex_27 => ?_) | refine q_isubw hx hb dX0_cutInto_21 (fun x_27 lx_27 ux_27 _ => ?_)
    refine q_puti (ci := 0) (C := RX0) (T := TX0) (N := 15) hx hb hts (fun w h => List.mem_cons_of_mem _ (mfX00 w h)) hown hK hw m_a0 o_a0 rfl 4 (by decide) (hts _ (List.mem_cons_of_mem _ (mr14 _ (List.mem_of_getElem? (i := 7) rfl)))) (fun _ h => h) tyX0 tyX0_ok nmX0 rfl (ty := .int) (by decide +kernel) rfl rfl dX0_cutInto_22 (fun H locs hw => ?_)
    have oo := o_a0
    obtain ⟨f_28, ef_28⟩ : ∃ g : Nat → va_E, g = pU f_3 a0 4 (.int (iI x_27)) := ⟨_, rfl⟩
    have hX : Ex cy f_3 f_28 := by rw [ef_28]; exact Ex_pU oo rfl rfl (by decide)
    have hg : GI cy L0 f_28 := by rw [ef_28]; exact hg.putI oo rfl ⟨lx_27, ux_27⟩ trivial
    rw [← ef_28] at hw
    have hE := hE.trans hX
    have o_a0 := hX.1.1 _ _ o_a0
    have o_a1 := hX.1.1 _ _ o_a1
    have vf_28 : fI f_28 a0 4 = x_27 := by rw [ef_28]; exact fI_pU_self oo rfl ⟨lx_27, ux_27⟩
    refine lv_goto (tgt := 53) hx hb dX0_cutInto_25 (by decide) ?_
    exact J53 L0 f_28 hg hE o_a0 o_a1 _ _ _ hw (lv_sub hl [0, 1, 2] rfl)
set_option maxHeartbeats 4000000 in
set_option maxRecDepth 100000 in
theorem c_X0_tell {Z : Zt} (zo : Zok Z) (l : Launch) (D : va_G) (cy : Cy) (L0 : List Nat) (f0 : Nat → va_E) (a0 : Nat) (x1 : Int) (lx1 : -2147483648 ≤ x1) (ux1 : x1 ≤ 2147483647) (m_a0 : a0 ∈ L0) (o_a0 : Ob f0 a0 0) (hg : GI cy L0 f0) : Ci Z l yX0_tell (Cond.code yX0_tell cX0_tell 2 (some .int) :: TB) ({ frames := 1, cells := 0, slots := 0, locals := 22 } : Room) 0 0 D (tq cy) [.ref a0, .int (iI x1)] L0 f0 (fun (r : Int) (L1 : List Nat) (f1 : Nat → va_E) => L0 = L1 ∧ f0 = f1 ∧ (True)) := by
  refine Ci.enter (cc := cX0_tell) (n := 2) rfl (plainFor_of_name (by decide)) (Nat.le_of_ble_eq_true rfl) ?_
  intro p e s m below meth c ls A hx hb hr hts hown hlocks hnm hml hK hA hAe hw hZ hl
  have hown : s.vm.findClass RX0 = some m.cls := hown
  have hl : lv_has ls 2 [(0, .ref a0), (1, .int (iI x1))] := hl
  have hN : ZN s := (zo.2.2.2.2 _ _ _ hZ).2
  refine lv_iload_n hx hb dX0_tell_0 rfl (lv_at hl 1 rfl) ?_
  have t1 : (iI x1).toInt = x1 := iI_toInt ⟨lx1, ux1⟩
  rcases (show (x1 < 0 ∨ 13 < x1) ∨ (x1 = 0) ∨ (x1 = 1) ∨ (x1 = 2) ∨ (x1 = 3) ∨ (x1 = 4) ∨ (x1 = 5) ∨ (x1 = 6) ∨ (x1 = 7) ∨ (x1 = 8) ∨ (x1 = 9) ∨ (x1 = 10) ∨ (x1 = 11) ∨ (x1 = 12) ∨ (x1 = 13) by omega) with k1 | k1 | k1 | k1 | k1 | k1 | k1 | k1 | k1 | k1 | k1 | k1 | k1 | k1 | k1
  · refine lv_tableOut (tgt := 162) hx hb dX0_tell_1 (by rw [t1]; omega) (by decide) ?_
    refine q_bipush hx hb dX0_tell_162 rfl ?_
    exact q_ret_i hx hb hr hlocks hK hAe hw ⟨by decide, by decide⟩ (Nat.le_of_ble_eq_true rfl) (Nat.le_of_ble_eq_true rfl) dX0_tell_164 ⟨rfl, rfl, by trivial⟩
  · refine lv_tableIn (tgt := 72) (off := 71) hx hb dX0_tell_1 (by rw [t1]; omega) (by rw [t1]; omega) (by rw [t1, k1]; rfl) (by decide) ?_
    refine lv_aload_n hx hb dX0_tell_72 rfl (lv_at hl 0 rfl) ?_
    refine q_geti (ci := 0) (C := RX0) (T := TX0) (N := 15) hx hb hts (fun w h => List.mem_cons_of_mem _ (mfX00 w h)) hown hK hw m_a0 o_a0 rfl 0 (by decide) (hts _ (List.mem_cons_of_mem _ (mr40 _ (List.mem_of_getElem? (i := 19) rfl)))) (fun _ h => h) rfl dX0_tell_73 (fun x_1 lx_1 ux_1 ex_1 => ?_)
    exact q_ret_i hx hb hr hlocks hK hAe hw ⟨lx_1, ux_1⟩ (Nat.le_of_ble_eq_true rfl) (Nat.le_of_ble_eq_true rfl) dX0_tell_76 ⟨rfl, rfl, by trivial⟩
  · refine lv_tableIn (tgt := 77) (off := 76) hx hb dX0_tell_1 (by rw [t1]; omega) (by rw [t1]; omega) (by rw [t1, k1]; rfl) (by decide) ?_
    refine lv_aload_n hx hb dX0_tell_77 rfl (lv_at hl 0 rfl) ?_
    refine q_geti (ci := 0) (C := RX0) (T := TX0) (N := 15) hx hb hts (fun w h => List.mem_cons_of_mem _ (mfX00 w h)) hown hK hw m_a0 o_a0 rfl 1 (by decide) (hts _ (List.mem_cons_of_mem _ (mr29 _ (List.mem_of_getElem? (i := 18) rfl)))) (fun _ h => h) rfl dX0_tell_78 (fun x_2 lx_2 ux_2 ex_2 => ?_)
    exact q_ret_i hx hb hr hlocks hK hAe hw ⟨lx_2, ux_2⟩ (Nat.le_of_ble_eq_true rfl) (Nat.le_of_ble_eq_true rfl) dX0_tell_81 ⟨rfl, rfl, by trivial⟩
  · refine lv_tableIn (tgt := 82) (off := 81) hx hb dX0_tell_1 (by rw [t1]; omega) (by rw [t1]; omega) (by rw [t1, k1]; rfl) (by decide) ?_
    refine lv_aload_n hx hb dX0_tell_82 rfl (lv_at hl 0 rfl) ?_
    refine q_geti (ci := 0) (C := RX0) (T := TX0) (N := 15) hx hb hts (fun w h => List.mem_cons_of_mem _ (mfX00 w h)) hown hK hw m_a0 o_a0 rfl 2 (by decide) (hts _ (List.mem_cons_of_mem _ (mr35 _ (List.mem_of_getElem? (i := 12) rfl)))) (fun _ h => h) rfl dX0_tell_83 (fun x_3 lx_3 ux_3 ex_3 => ?_)
    exact q_ret_i hx hb hr hlocks hK hAe hw ⟨lx_3, ux_3⟩ (Nat.le_of_ble_eq_true rfl) (Nat.le_of_ble_eq_true rfl) dX0_tell_86 ⟨rfl, rfl, by trivial⟩
  · refine lv_tableIn (tgt := 87) (off := 86) hx hb dX0_tell_1 (by rw [t1]; omega) (by rw [t1]; omega) (by rw [t1, k1]; rfl) (by decide) ?_
    refine lv_aload_n hx hb dX0_tell_87 rfl (lv_at hl 0 rfl) ?_
    obtain ⟨r_4, er_4, m_r_4, o_r_4⟩ := (show ∃ r, fR f0 a0 3 = some r ∧ r ∈ L0 ∧ Rl f0 r from hg.2.1 _ m_a0 0 3 o_a0)
    refine q_getr (ci := 0) (C := RX0) (T := TX0) (N := 15) hx hb hts (fun w h => List.mem_cons_of_mem _ (mfX00 w h)) hown hK hw m_a0 o_a0 rfl 3 (by decide) (hts _ (List.mem_cons_of_mem _ (mr3 _ (List.mem_of_getElem? (i := 4) rfl)))) (fun _ h => h) rfl er_4 dX0_tell_88 ?_
    have K91 : ∀ (x_5 : Int) (lx_5 : -2147483648 ≤ x_5) (ux_5 : x_5 ≤ 2147483647) (H : Heap) (locs : List Loc) (hw : Wd D A s.heap L0 f0 H locs), W p l e ({ frames := 1, cells := 0, slots := 0, locals := 22 } : Room) s m ([.ref a0, .int (iI x1)] : List Value).toArray below meth c H locs (0) (0) (MQ below (Qi D (tq cy) L0 f0 s.heap.size (fun (r : Int) (L1 : List Nat) (f1 : Nat → va_E) => L0 = L1 ∧ f0 = f1 ∧ (True))) ([.ref a0, .int (iI x1)] : List Value).toArray s 0 0 A) (F0 m 94 ls (.int (iI x_5) :: [])) := by
      intro x_5 lx_5 ux_5 H locs hw
      exact q_ret_i hx hb hr hlocks hK hAe hw ⟨lx_5, ux_5⟩ (Nat.le_of_ble_eq_true rfl) (Nat.le_of_ble_eq_true rfl) dX0_tell_94 ⟨rfl, rfl, by trivial⟩
    rcases o_r_4 with o9 | o9 | o9 | o9
    · exact q_geti (ci := 1) (C := RX2) (T := TX2) (N := 4) hx hb hts (fun w h => List.mem_cons_of_mem _ (mfX20 w h)) hown hK hw m_r_4 o9 rfl 0 (by decide) (hts _ (List.mem_cons_of_mem _ (mr43 _ (List.mem_of_getElem? (i := 0) rfl)))) (fun _ h => h) rfl dX0_tell_91 (fun x_5 lx_5 ux_5 _ => K91 x_5 lx_5 ux_5 _ _ hw)
    · exact q_geti (ci := 2) (C := RX3) (T := TX3) (N := 7) hx hb hts (fun w h => List.mem_cons_of_mem _ (mfX30 w h)) hown hK hw m_r_4 o9 rfl 0 (by decide) (hts _ (List.mem_cons_of_mem _ (mr43 _ (List.mem_of_getElem? (i := 0) rfl)))) (fun _ h => h) rfl dX0_tell_91 (fun x_5 lx_5 ux_5 _ => K91 x_5 lx_5 ux_5 _ _ hw)
    · exact q_geti (ci := 3) (C := RX4) (T := TX4) (N := 3) hx hb hts (fun w h => List.mem_cons_of_mem _ (mfX40 w h)) hown hK hw m_r_4 o9 rfl 0 (by decide) (hts _ (List.mem_cons_of_mem _ (mr43 _ (List.mem_of_getElem? (i := 0) rfl)))) (fun _ h => h) rfl dX0_tell_91 (fun x_5 lx_5 ux_5 _ => K91 x_5 lx_5 ux_5 _ _ hw)
    · exact q_geti (ci := 6) (C := RX8) (T := TX8) (N := 6) hx hb hts (fun w h => List.mem_cons_of_mem _ (mfX80 w h)) hown hK hw m_r_4 o9 rfl 0 (by decide) (hts _ (List.mem_cons_of_mem _ (mr43 _ (List.mem_of_getElem? (i := 0) rfl)))) (fun _ h => h) rfl dX0_tell_91 (fun x_5 lx_5 ux_5 _ => K91 x_5 lx_5 ux_5 _ _ hw)
  · refine lv_tableIn (tgt := 95) (off := 94) hx hb dX0_tell_1 (by rw [t1]; omega) (by rw [t1]; omega) (by rw [t1, k1]; rfl) (by decide) ?_
    refine lv_aload_n hx hb dX0_tell_95 rfl (lv_at hl 0 rfl) ?_
    obtain ⟨r_6, er_6, m_r_6, o_r_6⟩ := (show ∃ r, fR f0 a0 3 = some r ∧ r ∈ L0 ∧ Rl f0 r from hg.2.1 _ m_a0 0 3 o_a0)
    refine q_getr (ci := 0) (C := RX0) (T := TX0) (N := 15) hx hb hts (fun w h => List.mem_cons_of_mem _ (mfX00 w h)) hown hK hw m_a0 o_a0 rfl 3 (by decide) (hts _ (List.mem_cons_of_mem _ (mr3 _ (List.mem_of_getElem? (i := 4) rfl)))) (fun _ h => h) rfl er_6 dX0_tell_96 ?_
    have K99 : ∀ (x_7 : Int) (lx_7 : -2147483648 ≤ x_7) (ux_7 : x_7 ≤ 2147483647) (H : Heap) (locs : List Loc) (hw : Wd D A s.heap L0 f0 H locs), W p l e ({ frames := 1, cells := 0, slots := 0, locals := 22 } : Room) s m ([.ref a0, .int (iI x1)] : List Value).toArray below meth c H locs (0) (0) (MQ below (Qi D (tq cy) L0 f0 s.heap.size (fun (r : Int) (L1 : List Nat) (f1 : Nat → va_E) => L0 = L1 ∧ f0 = f1 ∧ (True))) ([.ref a0, .int (iI x1)] : List Value).toArray s 0 0 A) (F0 m 102 ls (.int (iI x_7) :: [])) := by
      intro x_7 lx_7 ux_7 H locs hw
      exact q_ret_i hx hb hr hlocks hK hAe hw ⟨lx_7, ux_7⟩ (Nat.le_of_ble_eq_true rfl) (Nat.le_of_ble_eq_true rfl) dX0_tell_102 ⟨rfl, rfl, by trivial⟩
    rcases o_r_6 with o9 | o9 | o9 | o9
    · exact q_geti (ci := 1) (C := RX2) (T := TX2) (N := 4) hx hb hts (fun w h => List.mem_cons_of_mem _ (mfX20 w h)) hown hK hw m_r_6 o9 rfl 1 (by decide) (hts _ (List.mem_cons_of_mem _ (mr43 _ (List.mem_of_getElem? (i := 1) rfl)))) (fun _ h => h) rfl dX0_tell_99 (fun x_7 lx_7 ux_7 _ => K99 x_7 lx_7 ux_7 _ _ hw)
    · exact q_geti (ci := 2) (C := RX3) (T := TX3) (N := 7) hx hb hts (fun w h => List.mem_cons_of_mem _ (mfX30 w h)) hown hK hw m_r_6 o9 rfl 1 (by decide) (hts _ (List.mem_cons_of_mem _ (mr43 _ (List.mem_of_getElem? (i := 1) rfl)))) (fun _ h => h) rfl dX0_tell_99 (fun x_7 lx_7 ux_7 _ => K99 x_7 lx_7 ux_7 _ _ hw)
    · exact q_geti (ci := 3) (C := RX4) (T := TX4) (N := 3) hx hb hts (fun w h => List.mem_cons_of_mem _ (mfX40 w h)) hown hK hw m_r_6 o9 rfl 1 (by decide) (hts _ (List.mem_cons_of_mem _ (mr43 _ (List.mem_of_getElem? (i := 1) rfl)))) (fun _ h => h) rfl dX0_tell_99 (fun x_7 lx_7 ux_7 _ => K99 x_7 lx_7 ux_7 _ _ hw)
    · exact q_geti (ci := 6) (C := RX8) (T := TX8) (N := 6) hx hb hts (fun w h => List.mem_cons_of_mem _ (mfX80 w h)) hown hK hw m_r_6 o9 rfl 1 (by decide) (hts _ (List.mem_cons_of_mem _ (mr43 _ (List.mem_of_getElem? (i := 1) rfl)))) (fun _ h => h) rfl dX0_tell_99 (fun x_7 lx_7 ux_7 _ => K99 x_7 lx_7 ux_7 _ _ hw)
  · refine lv_tableIn (tgt := 103) (off := 102) hx hb dX0_tell_1 (by rw [t1]; omega) (by rw [t1]; omega) (by rw [t1, k1]; rfl) (by decide) ?_
    refine lv_aload_n hx hb dX0_tell_103 rfl (lv_at hl 0 rfl) ?_
    obtain ⟨r_8, er_8, m_r_8, o_r_8⟩ := (show ∃ r, fR f0 a0 3 = some r ∧ r ∈ L0 ∧ Rl f0 r from hg.2.1 _ m_a0 0 3 o_a0)
    refine q_getr (ci := 0) (C := RX0) (T := TX0) (N := 15) hx hb hts (fun w h => List.mem_cons_of_mem _ (mfX00 w h)) hown hK hw m_a0 o_a0 rfl 3 (by decide) (hts _ (List.mem_cons_of_mem _ (mr3 _ (List.mem_of_getElem? (i := 4) rfl)))) (fun _ h => h) rfl er_8 dX0_tell_104 ?_
    have K107 : ∀ (x_9 : Int) (lx_9 : -2147483648 ≤ x_9) (ux_9 : x_9 ≤ 2147483647) (H : Heap) (locs : List Loc) (hw : Wd D A s.heap L0 f0 H locs), W p l e ({ frames := 1, cells := 0, slots := 0, locals := 22 } : Room) s m ([.ref a0, .int (iI x1)] : List Value).toArray below meth c H locs (0) (0) (MQ below (Qi D (tq cy) L0 f0 s.heap.size (fun (r : Int) (L1 : List Nat) (f1 : Nat → va_E) => L0 = L1 ∧ f0 = f1 ∧ (True))) ([.ref a0, .int (iI x1)] : List Value).toArray s 0 0 A) (F0 m 110 ls (.int (iI x_9) :: [])) := by
      intro x_9 lx_9 ux_9 H locs hw
      exact q_ret_i hx hb hr hlocks hK hAe hw ⟨lx_9, ux_9⟩ (Nat.le_of_ble_eq_true rfl) (Nat.le_of_ble_eq_true rfl) dX0_tell_110 ⟨rfl, rfl, by trivial⟩
    rcases o_r_8 with o9 | o9 | o9 | o9
    · exact q_geti (ci := 1) (C := RX2) (T := TX2) (N := 4) hx hb hts (fun w h => List.mem_cons_of_mem _ (mfX20 w h)) hown hK hw m_r_8 o9 rfl 2 (by decide) (hts _ (List.mem_cons_of_mem _ (mr14 _ (List.mem_of_getElem? (i := 5) rfl)))) (fun _ h => h) rfl dX0_tell_107 (fun x_9 lx_9 ux_9 _ => K107 x_9 lx_9 ux_9 _ _ hw)
    · exact q_geti (ci := 2) (C := RX3) (T := TX3) (N := 7) hx hb hts (fun w h => List.mem_cons_of_mem _ (mfX30 w h)) hown hK hw m_r_8 o9 rfl 2 (by decide) (hts _ (List.mem_cons_of_mem _ (mr14 _ (List.mem_of_getElem? (i := 5) rfl)))) (fun _ h => h) rfl dX0_tell_107 (fun x_9 lx_9 ux_9 _ => K107 x_9 lx_9 ux_9 _ _ hw)
    · exact q_geti (ci := 3) (C := RX4) (T := TX4) (N := 3) hx hb hts (fun w h => List.mem_cons_of_mem _ (mfX40 w h)) hown hK hw m_r_8 o9 rfl 2 (by decide) (hts _ (List.mem_cons_of_mem _ (mr14 _ (List.mem_of_getElem? (i := 5) rfl)))) (fun _ h => h) rfl dX0_tell_107 (fun x_9 lx_9 ux_9 _ => K107 x_9 lx_9 ux_9 _ _ hw)
    · exact q_geti (ci := 6) (C := RX8) (T := TX8) (N := 6) hx hb hts (fun w h => List.mem_cons_of_mem _ (mfX80 w h)) hown hK hw m_r_8 o9 rfl 2 (by decide) (hts _ (List.mem_cons_of_mem _ (mr14 _ (List.mem_of_getElem? (i := 5) rfl)))) (fun _ h => h) rfl dX0_tell_107 (fun x_9 lx_9 ux_9 _ => K107 x_9 lx_9 ux_9 _ _ hw)
  · refine lv_tableIn (tgt := 111) (off := 110) hx hb dX0_tell_1 (by rw [t1]; omega) (by rw [t1]; omega) (by rw [t1, k1]; rfl) (by decide) ?_
    refine lv_aload_n hx hb dX0_tell_111 rfl (lv_at hl 0 rfl) ?_
    obtain ⟨r_10, er_10, m_r_10, o_r_10⟩ := (show ∃ r, fR f0 a0 3 = some r ∧ r ∈ L0 ∧ Rl f0 r from hg.2.1 _ m_a0 0 3 o_a0)
    refine q_getr (ci := 0) (C := RX0) (T := TX0) (N := 15) hx hb hts (fun w h => List.mem_cons_of_mem _ (mfX00 w h)) hown hK hw m_a0 o_a0 rfl 3 (by decide) (hts _ (List.mem_cons_of_mem _ (mr3 _ (List.mem_of_getElem? (i := 4) rfl)))) (fun _ h => h) rfl er_10 dX0_tell_112 ?_
    have K115 : ∀ (x_11 : Int) (lx_11 : -2147483648 ≤ x_11) (ux_11 : x_11 ≤ 2147483647) (ex_11 : True) (H : Heap) (locs : List Loc) (hw : Wd D A s.heap L0 f0 H locs), W p l e ({ frames := 1, cells := 0, slots := 0, locals := 22 } : Room) s m ([.ref a0, .int (iI x1)] : List Value).toArray below meth c H locs (0) (0) (MQ below (Qi D (tq cy) L0 f0 s.heap.size (fun (r : Int) (L1 : List Nat) (f1 : Nat → va_E) => L0 = L1 ∧ f0 = f1 ∧ (True))) ([.ref a0, .int (iI x1)] : List Value).toArray s 0 0 A) (F0 m 118 ls (.int (iI x_11) :: [])) := by
      intro x_11 lx_11 ux_11 ex_11 H locs hw
      exact q_ret_i hx hb hr hlocks hK hAe hw ⟨lx_11, ux_11⟩ (Nat.le_of_ble_eq_true rfl) (Nat.le_of_ble_eq_true rfl) dX0_tell_118 ⟨rfl, rfl, by trivial⟩
    rcases o_r_10 with o9 | o9 | o9 | o9
    · refine q_call_i hA hK hw (va_runU (As := []) (rest := []) ⟨hx, hb, hml, hown, hts⟩ (c_X6_detail zo l D cy L0 f0 r_10 _) (va_cwU 0 hts (gT (inU (mr43 _ (List.mem_of_getElem? (i := 2) rfl)) (mr43 _ (List.mem_of_getElem? (i := 3) rfl)) (mr43 _ (List.mem_of_getElem? (i := 4) rfl)) (mr43 _ (List.mem_of_getElem? (i := 5) rfl)) (mr2 _ (List.mem_of_getElem? (i := 15) rfl)) (mr43 _ (List.mem_of_getElem? (i := 6) rfl)))) rfl rfl rfl rfl (by decide +kernel) ⟨Nat.le_of_ble_eq_true rfl, Nat.le_of_ble_eq_true rfl⟩) (Wd.preV zo hA hZ hw hK m_r_10 o9 rfl) rfl rfl hl.1 rfl (lv_room (Nat.le_of_ble_eq_true rfl)) dX0_tell_115 ⟨Nat.le_of_ble_eq_true rfl, Nat.le_of_ble_eq_true rfl⟩) (fun x_11 L1 f1 H locs lx_11 ux_11 ex_11 hw => ?_)
      obtain ⟨rfl, rfl, ex_11⟩ := ex_11
      exact K115 x_11 lx_11 ux_11 trivial H locs hw
    · refine q_call_i hA hK hw (va_runU (As := []) (rest := []) ⟨hx, hb, hml, hown, hts⟩ (c_X3_detail zo l D cy L0 f0 r_10 m_r_10 o9 hg _) (va_cwO 0 hts (gT (inO (mr43 _ (List.mem_of_getElem? (i := 2) rfl)) (mr43 _ (List.mem_of_getElem? (i := 3) rfl)) (mr43 _ (List.mem_of_getElem? (i := 5) rfl)) (mr43 _ (List.mem_of_getElem? (i := 8) rfl)) (mr43 _ (List.mem_of_getElem? (i := 9) rfl)) (mr12 _ (List.mem_of_getElem? (i := 18) rfl)) (mr43 _ (List.mem_of_getElem? (i := 10) rfl)))) rfl rfl rfl (List.mem_cons_of_mem _ (mr43 _ (List.mem_of_getElem? (i := 6) rfl))) (by decide +kernel) ⟨Nat.le_of_ble_eq_true rfl, Nat.le_of_ble_eq_true rfl⟩) (Wd.preV zo hA hZ hw hK m_r_10 o9 rfl) rfl rfl hl.1 rfl (lv_room (Nat.le_of_ble_eq_true rfl)) dX0_tell_115 ⟨Nat.le_of_ble_eq_true rfl, Nat.le_of_ble_eq_true rfl⟩) (fun x_11 L1 f1 H locs lx_11 ux_11 ex_11 hw => ?_)
      obtain ⟨rfl, rfl, ex_11⟩ := ex_11
      exact K115 x_11 lx_11 ux_11 trivial H locs hw
    · refine q_call_i hA hK hw (va_runU (As := []) (rest := []) ⟨hx, hb, hml, hown, hts⟩ (c_X6_detail zo l D cy L0 f0 r_10 _) (va_cwU 0 hts (gT (inU (mr43 _ (List.mem_of_getElem? (i := 2) rfl)) (mr43 _ (List.mem_of_getElem? (i := 3) rfl)) (mr43 _ (List.mem_of_getElem? (i := 11) rfl)) (mr43 _ (List.mem_of_getElem? (i := 5) rfl)) (mr2 _ (List.mem_of_getElem? (i := 15) rfl)) (mr43 _ (List.mem_of_getElem? (i := 6) rfl)))) rfl rfl rfl rfl (by decide +kernel) ⟨Nat.le_of_ble_eq_true rfl, Nat.le_of_ble_eq_true rfl⟩) (Wd.preV zo hA hZ hw hK m_r_10 o9 rfl) rfl rfl hl.1 rfl (lv_room (Nat.le_of_ble_eq_true rfl)) dX0_tell_115 ⟨Nat.le_of_ble_eq_true rfl, Nat.le_of_ble_eq_true rfl⟩) (fun x_11 L1 f1 H locs lx_11 ux_11 ex_11 hw => ?_)
      obtain ⟨rfl, rfl, ex_11⟩ := ex_11
      exact K115 x_11 lx_11 ux_11 trivial H locs hw
    · refine q_call_i hA hK hw (va_runU (As := []) (rest := []) ⟨hx, hb, hml, hown, hts⟩ (c_X8_detail zo l D cy L0 f0 r_10 m_r_10 o9 hg _) (va_cwO 0 hts (gT (inO (mr43 _ (List.mem_of_getElem? (i := 2) rfl)) (mr43 _ (List.mem_of_getElem? (i := 3) rfl)) (mr43 _ (List.mem_of_getElem? (i := 5) rfl)) (mr43 _ (List.mem_of_getElem? (i := 12) rfl)) (mr43 _ (List.mem_of_getElem? (i := 13) rfl)) (mr12 _ (List.mem_of_getElem? (i := 15) rfl)) (mr43 _ (List.mem_of_getElem? (i := 14) rfl)))) rfl rfl rfl (List.mem_cons_of_mem _ (mr43 _ (List.mem_of_getElem? (i := 6) rfl))) (by decide +kernel) ⟨Nat.le_of_ble_eq_true rfl, Nat.le_of_ble_eq_true rfl⟩) (Wd.preV zo hA hZ hw hK m_r_10 o9 rfl) rfl rfl hl.1 rfl (lv_room (Nat.le_of_ble_eq_true rfl)) dX0_tell_115 ⟨Nat.le_of_ble_eq_true rfl, Nat.le_of_ble_eq_true rfl⟩) (fun x_11 L1 f1 H locs lx_11 ux_11 ex_11 hw => ?_)
      obtain ⟨rfl, rfl, ex_11⟩ := ex_11
      exact K115 x_11 lx_11 ux_11 trivial H locs hw
  · refine lv_tableIn (tgt := 119) (off := 118) hx hb dX0_tell_1 (by rw [t1]; omega) (by rw [t1]; omega) (by rw [t1, k1]; rfl) (by decide) ?_
    refine lv_aload_n hx hb dX0_tell_119 rfl (lv_at hl 0 rfl) ?_
    obtain ⟨r_12, er_12, m_r_12, o_r_12⟩ := (show ∃ r, fR f0 a0 3 = some r ∧ r ∈ L0 ∧ Rl f0 r from hg.2.1 _ m_a0 0 3 o_a0)
    refine q_getr (ci := 0) (C := RX0) (T := TX0) (N := 15) hx hb hts (fun w h => List.mem_cons_of_mem _ (mfX00 w h)) hown hK hw m_a0 o_a0 rfl 3 (by decide) (hts _ (List.mem_cons_of_mem _ (mr3 _ (List.mem_of_getElem? (i := 4) rfl)))) (fun _ h => h) rfl er_12 dX0_tell_120 ?_
    have K123 : ∀ (x_13 : Int) (lx_13 : -2147483648 ≤ x_13) (ux_13 : x_13 ≤ 2147483647) (ex_13 : True) (H : Heap) (locs : List Loc) (hw : Wd D A s.heap L0 f0 H locs), W p l e ({ frames := 1, cells := 0, slots := 0, locals := 22 } : Room) s m ([.ref a0, .int (iI x1)] : List Value).toArray below meth c H locs (0) (0) (MQ below (Qi D (tq cy) L0 f0 s.heap.size (fun (r : Int) (L1 : List Nat) (f1 : Nat → va_E) => L0 = L1 ∧ f0 = f1 ∧ (True))) ([.ref a0, .int (iI x1)] : List Value).toArray s 0 0 A) (F0 m 126 ls (.int (iI x_13) :: [])) := by
      intro x_13 lx_13 ux_13 ex_13 H locs hw
      exact q_ret_i hx hb hr hlocks hK hAe hw ⟨lx_13, ux_13⟩ (Nat.le_of_ble_eq_true rfl) (Nat.le_of_ble_eq_true rfl) dX0_tell_126 ⟨rfl, rfl, by trivial⟩
    rcases o_r_12 with o9 | o9 | o9 | o9
    · refine q_call_i hA hK hw (va_runU (As := []) (rest := []) ⟨hx, hb, hml, hown, hts⟩ (c_X6_nthWeekday zo l D cy L0 f0 r_12 _) (va_cwU 0 hts (gT (inU (mr43 _ (List.mem_of_getElem? (i := 15) rfl)) (mr43 _ (List.mem_of_getElem? (i := 16) rfl)) (mr43 _ (List.mem_of_getElem? (i := 17) rfl)) (mr43 _ (List.mem_of_getElem? (i := 18) rfl)) (mr2 _ (List.mem_of_getElem? (i := 15) rfl)) (mr43 _ (List.mem_of_getElem? (i := 19) rfl)))) rfl rfl rfl rfl (by decide +kernel) ⟨Nat.le_of_ble_eq_true rfl, Nat.le_of_ble_eq_true rfl⟩) (Wd.preV zo hA hZ hw hK m_r_12 o9 rfl) rfl rfl hl.1 rfl (lv_room (Nat.le_of_ble_eq_true rfl)) dX0_tell_123 ⟨Nat.le_of_ble_eq_true rfl, Nat.le_of_ble_eq_true rfl⟩) (fun x_13 L1 f1 H locs lx_13 ux_13 ex_13 hw => ?_)
      obtain ⟨rfl, rfl, ex_13⟩ := ex_13
      exact K123 x_13 lx_13 ux_13 trivial H locs hw
    · refine q_call_i hA hK hw (va_runU (As := []) (rest := []) ⟨hx, hb, hml, hown, hts⟩ (c_X3_nthWeekday zo l D cy L0 f0 r_12 m_r_12 o9 hg _) (va_cwO 0 hts (gT (inO (mr43 _ (List.mem_of_getElem? (i := 15) rfl)) (mr43 _ (List.mem_of_getElem? (i := 16) rfl)) (mr43 _ (List.mem_of_getElem? (i := 18) rfl)) (mr43 _ (List.mem_of_getElem? (i := 21) rfl)) (mr43 _ (List.mem_of_getElem? (i := 22) rfl)) (mr12 _ (List.mem_of_getElem? (i := 18) rfl)) (mr43 _ (List.mem_of_getElem? (i := 23) rfl)))) rfl rfl rfl (List.mem_cons_of_mem _ (mr43 _ (List.mem_of_getElem? (i := 19) rfl))) (by decide +kernel) ⟨Nat.le_of_ble_eq_true rfl, Nat.le_of_ble_eq_true rfl⟩) (Wd.preV zo hA hZ hw hK m_r_12 o9 rfl) rfl rfl hl.1 rfl (lv_room (Nat.le_of_ble_eq_true rfl)) dX0_tell_123 ⟨Nat.le_of_ble_eq_true rfl, Nat.le_of_ble_eq_true rfl⟩) (fun x_13 L1 f1 H locs lx_13 ux_13 ex_13 hw => ?_)
      obtain ⟨rfl, rfl, ex_13⟩ := ex_13
      exact K123 x_13 lx_13 ux_13 trivial H locs hw
    · refine q_call_i hA hK hw (va_runU (As := []) (rest := []) ⟨hx, hb, hml, hown, hts⟩ (c_X6_nthWeekday zo l D cy L0 f0 r_12 _) (va_cwU 0 hts (gT (inU (mr43 _ (List.mem_of_getElem? (i := 15) rfl)) (mr43 _ (List.mem_of_getElem? (i := 16) rfl)) (mr44 _ (List.mem_of_getElem? (i := 0) rfl)) (mr43 _ (List.mem_of_getElem? (i := 18) rfl)) (mr2 _ (List.mem_of_getElem? (i := 15) rfl)) (mr43 _ (List.mem_of_getElem? (i := 19) rfl)))) rfl rfl rfl rfl (by decide +kernel) ⟨Nat.le_of_ble_eq_true rfl, Nat.le_of_ble_eq_true rfl⟩) (Wd.preV zo hA hZ hw hK m_r_12 o9 rfl) rfl rfl hl.1 rfl (lv_room (Nat.le_of_ble_eq_true rfl)) dX0_tell_123 ⟨Nat.le_of_ble_eq_true rfl, Nat.le_of_ble_eq_true rfl⟩) (fun x_13 L1 f1 H locs lx_13 ux_13 ex_13 hw => ?_)
      obtain ⟨rfl, rfl, ex_13⟩ := ex_13
      exact K123 x_13 lx_13 ux_13 trivial H locs hw
    · refine q_call_i hA hK hw (va_runU (As := []) (rest := []) ⟨hx, hb, hml, hown, hts⟩ (c_X6_nthWeekday zo l D cy L0 f0 r_12 _) (va_cwU 0 hts (gT (inU (mr43 _ (List.mem_of_getElem? (i := 15) rfl)) (mr43 _ (List.mem_of_getElem? (i := 16) rfl)) (mr44 _ (List.mem_of_getElem? (i := 1) rfl)) (mr43 _ (List.mem_of_getElem? (i := 18) rfl)) (mr2 _ (List.mem_of_getElem? (i := 15) rfl)) (mr43 _ (List.mem_of_getElem? (i := 19) rfl)))) rfl rfl rfl rfl (by decide +kernel) ⟨Nat.le_of_ble_eq_true rfl, Nat.le_of_ble_eq_true rfl⟩) (Wd.preV zo hA hZ hw hK m_r_12 o9 rfl) rfl rfl hl.1 rfl (lv_room (Nat.le_of_ble_eq_true rfl)) dX0_tell_123 ⟨Nat.le_of_ble_eq_true rfl, Nat.le_of_ble_eq_true rfl⟩) (fun x_13 L1 f1 H locs lx_13 ux_13 ex_13 hw => ?_)
      obtain ⟨rfl, rfl, ex_13⟩ := ex_13
      exact K123 x_13 lx_13 ux_13 trivial H locs hw
  · refine lv_tableIn (tgt := 127) (off := 126) hx hb dX0_tell_1 (by rw [t1]; omega) (by rw [t1]; omega) (by rw [t1, k1]; rfl) (by decide) ?_
    refine lv_aload_n hx hb dX0_tell_127 rfl (lv_at hl 0 rfl) ?_
    refine q_geti (ci := 0) (C := RX0) (T := TX0) (N := 15) hx hb hts (fun w h => List.mem_cons_of_mem _ (mfX00 w h)) hown hK hw m_a0 o_a0 rfl 4 (by decide) (hts _ (List.mem_cons_of_mem _ (mr14 _ (List.mem_of_getElem? (i := 7) rfl)))) (fun _ h => h) rfl dX0_tell_128 (fun x_14 lx_14 ux_14 ex_14 => ?_)
    exact q_ret_i hx hb hr hlocks hK hAe hw ⟨lx_14, ux_14⟩ (Nat.le_of_ble_eq_true rfl) (Nat.le_of_ble_eq_true rfl) dX0_tell_131 ⟨rfl, rfl, by trivial⟩
  · refine lv_tableIn (tgt := 132) (off := 131) hx hb dX0_tell_1 (by rw [t1]; omega) (by rw [t1]; omega) (by rw [t1, k1]; rfl) (by decide) ?_
    refine lv_aload_n hx hb dX0_tell_132 rfl (lv_at hl 0 rfl) ?_
    refine q_geti (ci := 0) (C := RX0) (T := TX0) (N := 15) hx hb hts (fun w h => List.mem_cons_of_mem _ (mfX00 w h)) hown hK hw m_a0 o_a0 rfl 5 (by decide) (hts _ (List.mem_cons_of_mem _ (mr14 _ (List.mem_of_getElem? (i := 8) rfl)))) (fun _ h => h) rfl dX0_tell_133 (fun x_15 lx_15 ux_15 ex_15 => ?_)
    exact q_ret_i hx hb hr hlocks hK hAe hw ⟨lx_15, ux_15⟩ (Nat.le_of_ble_eq_true rfl) (Nat.le_of_ble_eq_true rfl) dX0_tell_136 ⟨rfl, rfl, by trivial⟩
  · refine lv_tableIn (tgt := 137) (off := 136) hx hb dX0_tell_1 (by rw [t1]; omega) (by rw [t1]; omega) (by rw [t1, k1]; rfl) (by decide) ?_
    refine lv_aload_n hx hb dX0_tell_137 rfl (lv_at hl 0 rfl) ?_
    refine q_call_i hA hK hw (va_runV (As := []) (rest := []) ⟨hx, hb, hml, hown, hts⟩ (c_X0_droppedOnes zo l D cy L0 f0 a0 m_a0 o_a0 hg _) (cwV 0 hts (gT (inV (mr44 _ (List.mem_of_getElem? (i := 2) rfl)) (mr44 _ (List.mem_of_getElem? (i := 3) rfl)) (mr44 _ (List.mem_of_getElem? (i := 4) rfl)) (mr2 _ (List.mem_of_getElem? (i := 9) rfl)) (mr44 _ (List.mem_of_getElem? (i := 5) rfl)))) rfl rfl rfl (by decide +kernel) ⟨Nat.le_of_ble_eq_true rfl, Nat.le_of_ble_eq_true rfl⟩) (Wd.preV zo hA hZ hw hK m_a0 o_a0 rfl) rfl rfl hl.1 rfl (lv_room (Nat.le_of_ble_eq_true rfl)) dX0_tell_138 ⟨Nat.le_of_ble_eq_true rfl, Nat.le_of_ble_eq_true rfl⟩) (fun x_16 L1 f1 H locs lx_16 ux_16 ex_16 hw => ?_)
    obtain ⟨rfl, rfl, ex_16⟩ := ex_16
    exact q_ret_i hx hb hr hlocks hK hAe hw ⟨lx_16, ux_16⟩ (Nat.le_of_ble_eq_true rfl) (Nat.le_of_ble_eq_true rfl) dX0_tell_141 ⟨rfl, rfl, by trivial⟩
  · refine lv_tableIn (tgt := 142) (off := 141) hx hb dX0_tell_1 (by rw [t1]; omega) (by rw [t1]; omega) (by rw [t1, k1]; rfl) (by decide) ?_
    refine lv_aload_n hx hb dX0_tell_142 rfl (lv_at hl 0 rfl) ?_
    refine q_geti (ci := 0) (C := RX0) (T := TX0) (N := 15) hx hb hts (fun w h => List.mem_cons_of_mem _ (mfX00 w h)) hown hK hw m_a0 o_a0 rfl 10 (by decide) (hts _ (List.mem_cons_of_mem _ (mr14 _ (List.mem_of_getElem? (i := 9) rfl)))) (fun _ h => h) rfl dX0_tell_143 (fun x_17 lx_17 ux_17 ex_17 => ?_)
    have bx_17 : 0 ≤ x_17 ∧ x_17 ≤ 16 := by rw [ex_17]; exact hg.1 _ m_a0 0 10 o_a0
    refine lv_aload_n hx hb dX0_tell_146 rfl (lv_at hl 0 rfl) ?_
    refine q_call_i hA hK hw (va_runV (As := []) (rest := [.int (iI x_17)]) ⟨hx, hb, hml, hown, hts⟩ (c_X0_droppedOnes zo l D cy L0 f0 a0 m_a0 o_a0 hg _) (cwV 0 hts (gT (inV (mr44 _ (List.mem_of_getElem? (i := 2) rfl)) (mr44 _ (List.mem_of_getElem? (i := 3) rfl)) (mr44 _ (List.mem_of_getElem? (i := 4) rfl)) (mr2 _ (List.mem_of_getElem? (i := 9) rfl)) (mr44 _ (List.mem_of_getElem? (i := 5) rfl)))) rfl rfl rfl (by decide +kernel) ⟨Nat.le_of_ble_eq_true rfl, Nat.le_of_ble_eq_true rfl⟩) (Wd.preV zo hA hZ hw hK m_a0 o_a0 rfl) rfl rfl hl.1 rfl (lv_room (Nat.le_of_ble_eq_true rfl)) dX0_tell_147 ⟨Nat.le_of_ble_eq_true rfl, Nat.le_of_ble_eq_true rfl⟩) (fun x_18 L1 f1 H locs lx_18 ux_18 ex_18 hw => ?_)
    obtain ⟨rfl, rfl, ex_18⟩ := ex_18
    first | refine q_isub hx hb dX0_tell_150 ⟨by omega, by omega⟩ (fun x_19 lx_19 ux_19 ex_19 => ?_) | refine q_isubw hx hb dX0_tell_150 (fun x_19 lx_19 ux_19 _ => ?_)
    exact q_ret_i hx hb hr hlocks hK hAe hw ⟨lx_19, ux_19⟩ (Nat.le_of_ble_eq_true rfl) (Nat.le_of_ble_eq_true rfl) dX0_tell_151 ⟨rfl, rfl, by trivial⟩
  · refine lv_tableIn (tgt := 152) (off := 151) hx hb dX0_tell_1 (by rw [t1]; omega) (by rw [t1]; omega) (by rw [t1, k1]; rfl) (by decide) ?_
    refine lv_aload_n hx hb dX0_tell_152 rfl (lv_at hl 0 rfl) ?_
    refine q_geti (ci := 0) (C := RX0) (T := TX0) (N := 15) hx hb hts (fun w h => List.mem_cons_of_mem _ (mfX00 w h)) hown hK hw m_a0 o_a0 rfl 7 (by decide) (hts _ (List.mem_cons_of_mem _ (mr14 _ (List.mem_of_getElem? (i := 20) rfl)))) (fun _ h => h) rfl dX0_tell_153 (fun x_20 lx_20 ux_20 ex_20 => ?_)
    exact q_ret_i hx hb hr hlocks hK hAe hw ⟨lx_20, ux_20⟩ (Nat.le_of_ble_eq_true rfl) (Nat.le_of_ble_eq_true rfl) dX0_tell_156 ⟨rfl, rfl, by trivial⟩
  · refine lv_tableIn (tgt := 157) (off := 156) hx hb dX0_tell_1 (by rw [t1]; omega) (by rw [t1]; omega) (by rw [t1, k1]; rfl) (by decide) ?_
    refine lv_aload_n hx hb dX0_tell_157 rfl (lv_at hl 0 rfl) ?_
    refine q_geti (ci := 0) (C := RX0) (T := TX0) (N := 15) hx hb hts (fun w h => List.mem_cons_of_mem _ (mfX00 w h)) hown hK hw m_a0 o_a0 rfl 8 (by decide) (hts _ (List.mem_cons_of_mem _ (mr14 _ (List.mem_of_getElem? (i := 21) rfl)))) (fun _ h => h) rfl dX0_tell_158 (fun x_21 lx_21 ux_21 ex_21 => ?_)
    exact q_ret_i hx hb hr hlocks hK hAe hw ⟨lx_21, ux_21⟩ (Nat.le_of_ble_eq_true rfl) (Nat.le_of_ble_eq_true rfl) dX0_tell_161 ⟨rfl, rfl, by trivial⟩
