set_option maxHeartbeats 4000000 in
set_option maxRecDepth 100000 in
theorem c_X0_keyFrom_f {Z : Zt} (zo : Zok Z) (l : Launch) (D : va_G) (cy : Cy) (L0 : List Nat) (f0 : Nat → va_E) (a0 : Nat) (x1 : Int) (lx1 : -2147483648 ≤ x1) (ux1 : x1 ≤ 2147483647) (m_a0 : a0 ∈ L0) (o_a0 : Ob f0 a0 0) (hg : GI cy L0 f0) (r0 : Nat) (er : fR f0 a0 3 = some r0) (kk : Int) (nn : Int) (ss : Int) (vv : Int) (ww : Int) (rk : RuK f0 r0 kk nn ss vv ww) (low : Int) (hi : Int) (most : Int) (bd : Bd (Ky (onK kk nn ss vv ww) low hi most) (fI f0 a0 7) (fI f0 a0 8)) (lw : ss ≤ low) : Ci Z l yX0_keyFrom (Cond.code yX0_keyFrom cX0_keyFrom 2 (some .int) :: TB) ({ frames := 3, cells := 0, slots := 0, locals := 69 } : Room) 0 0 D (tq cy) [.ref a0, .int (iI x1)] L0 f0 (fun (r : Int) (L1 : List Nat) (f1 : Nat → va_E) => L0 = L1 ∧ f0 = f1 ∧ (Fst (Ky (onK kk nn ss vv ww) low hi most) x1 r)) := by
  refine Ci.enter (cc := cX0_keyFrom) (n := 2) rfl (plainFor_of_name (by decide)) (Nat.le_of_ble_eq_true rfl) ?_
  intro p e s m below meth c ls A hx hb hr hts hown hlocks hnm hml hK hA hAe hw hZ hl
  have hown : s.vm.findClass RX0 = some m.cls := hown
  have hl : lv_has ls 2 [(0, .ref a0), (1, .int (iI x1))] := hl
  have hN : ZN s := (zo.2.2.2.2 _ _ _ hZ).2
  have sb := rk.st
  have bq := bd.bq lw
  refine lv_aload_n hx hb dX0_keyFrom_0 rfl (lv_at hl 0 rfl) ?_
  refine q_geti (ci := 0) (C := RX0) (T := TX0) (N := 15) hx hb hts (fun w h => List.mem_cons_of_mem _ (mfX00 w h)) hown hK hw m_a0 o_a0 rfl 7 (by decide) (hts _ (List.mem_cons_of_mem _ (mr14 _ (List.mem_of_getElem? (i := 20) rfl)))) (fun _ h => h) rfl dX0_keyFrom_1 (fun x_1 lx_1 ux_1 ex_1 => ?_)
  refine q_iconst hx hb dX0_keyFrom_4 ?_
  refine q_icmp_eq (tgt := 16) hx hb dX0_keyFrom_5 (by decide) ⟨lx_1, ux_1⟩ ⟨by decide, by decide⟩ (fun c5 => ?_) (fun c5 => ?_)
  · refine q_iconst hx hb dX0_keyFrom_16 ?_
    exact q_ret_i hx hb hr hlocks hK hAe hw ⟨by decide, by decide⟩ (Nat.le_of_ble_eq_true rfl) (Nat.le_of_ble_eq_true rfl) dX0_keyFrom_17 ⟨rfl, rfl, by exact kf_none bd (by omega)⟩
  · refine lv_iload_n hx hb dX0_keyFrom_8 rfl (lv_at hl 1 rfl) ?_
    refine lv_aload_n hx hb dX0_keyFrom_9 rfl (lv_at hl 0 rfl) ?_
    refine q_geti (ci := 0) (C := RX0) (T := TX0) (N := 15) hx hb hts (fun w h => List.mem_cons_of_mem _ (mfX00 w h)) hown hK hw m_a0 o_a0 rfl 8 (by decide) (hts _ (List.mem_cons_of_mem _ (mr14 _ (List.mem_of_getElem? (i := 21) rfl)))) (fun _ h => h) rfl dX0_keyFrom_10 (fun x_2 lx_2 ux_2 ex_2 => ?_)
    refine q_icmp_le (tgt := 18) hx hb dX0_keyFrom_13 (by decide) ⟨lx1, ux1⟩ ⟨lx_2, ux_2⟩ (fun c13 => ?_) (fun c13 => ?_)
    · refine lv_iload_n hx hb dX0_keyFrom_18 rfl (lv_at hl 1 rfl) ?_
      refine lv_aload_n hx hb dX0_keyFrom_19 rfl (lv_at hl 0 rfl) ?_
      refine q_geti (ci := 0) (C := RX0) (T := TX0) (N := 15) hx hb hts (fun w h => List.mem_cons_of_mem _ (mfX00 w h)) hown hK hw m_a0 o_a0 rfl 7 (by decide) (hts _ (List.mem_cons_of_mem _ (mr14 _ (List.mem_of_getElem? (i := 20) rfl)))) (fun _ h => h) rfl dX0_keyFrom_20 (fun x_3 lx_3 ux_3 ex_3 => ?_)
      refine q_icmp_gt (tgt := 33) hx hb dX0_keyFrom_23 (by decide) ⟨lx1, ux1⟩ ⟨lx_3, ux_3⟩ (fun c23 => ?_) (fun c23 => ?_)
      · refine lv_aload_n hx hb dX0_keyFrom_33 rfl (lv_at hl 0 rfl) ?_
        obtain ⟨r_4, er_4, m_r_4, o_r_4⟩ := (show ∃ r, fR f0 a0 3 = some r ∧ r ∈ L0 ∧ Rl f0 r from hg.2.1 _ m_a0 0 3 o_a0)
        refine q_getr (ci := 0) (C := RX0) (T := TX0) (N := 15) hx hb hts (fun w h => List.mem_cons_of_mem _ (mfX00 w h)) hown hK hw m_a0 o_a0 rfl 3 (by decide) (hts _ (List.mem_cons_of_mem _ (mr3 _ (List.mem_of_getElem? (i := 4) rfl)))) (fun _ h => h) rfl er_4 dX0_keyFrom_34 ?_
        refine lv_iload_n hx hb dX0_keyFrom_37 rfl (lv_at hl 1 rfl) ?_
        have K38 : ∀ (x_5 : Int) (lx_5 : -2147483648 ≤ x_5) (ux_5 : x_5 ≤ 2147483647) (ex_5 : Fst (onK kk nn ss vv ww) x1 x_5) (H : Heap) (locs : List Loc) (hw : Wd D A s.heap L0 f0 H locs), W p l e ({ frames := 3, cells := 0, slots := 0, locals := 69 } : Room) s m ([.ref a0, .int (iI x1)] : List Value).toArray below meth c H locs (0) (0) (MQ below (Qi D (tq cy) L0 f0 s.heap.size (fun (r : Int) (L1 : List Nat) (f1 : Nat → va_E) => L0 = L1 ∧ f0 = f1 ∧ (Fst (Ky (onK kk nn ss vv ww) low hi most) x1 r))) ([.ref a0, .int (iI x1)] : List Value).toArray s 0 0 A) (F0 m 41 ls (.int (iI x_5) :: [])) := by
          intro x_5 lx_5 ux_5 ex_5 H locs hw
          exact q_ret_i hx hb hr hlocks hK hAe hw ⟨lx_5, ux_5⟩ (Nat.le_of_ble_eq_true rfl) (Nat.le_of_ble_eq_true rfl) dX0_keyFrom_41 ⟨rfl, rfl, by first | exact kf_first' bd (by omega) (by omega) (by omega) | exact kf_rule bd (by omega) (by omega) (by omega) ex_5 | fail "none"⟩
        rcases o_r_4 with o9 | o9 | o9 | o9
        · refine q_call_i hA hK hw (va_runU (As := [.int (iI x1)]) (rest := []) ⟨hx, hb, hml, hown, hts⟩ (c_X2_dayFrom_f zo l D cy L0 f0 r_4 x1 lx1 ux1 m_r_4 o9 hg kk nn ss vv ww (by have z9 := Option.some.inj (er_4.symm.trans er); rw [z9]; exact rk) (by omega) (by omega) _) (va_cwA 1 hts (gT (inU (mr14 _ (List.mem_of_getElem? (i := 23) rfl)) (mr15 _ (List.mem_of_getElem? (i := 0) rfl)) (mr15 _ (List.mem_of_getElem? (i := 1) rfl)) (mr15 _ (List.mem_of_getElem? (i := 2) rfl)) (mr12 _ (List.mem_of_getElem? (i := 12) rfl)) (mr15 _ (List.mem_of_getElem? (i := 3) rfl)))) rfl rfl rfl (hN _ (List.mem_of_getElem? (i := 15) rfl)) (by decide +kernel) ⟨Nat.le_of_ble_eq_true rfl, Nat.le_of_ble_eq_true rfl⟩) (Wd.preV zo hA hZ hw hK m_r_4 o9 rfl) rfl rfl hl.1 rfl (lv_room (Nat.le_of_ble_eq_true rfl)) dX0_keyFrom_38 ⟨Nat.le_of_ble_eq_true rfl, Nat.le_of_ble_eq_true rfl⟩) (fun x_5 L1 f1 H locs lx_5 ux_5 ex_5 hw => ?_)
          obtain ⟨rfl, rfl, ex_5⟩ := ex_5
          exact K38 x_5 lx_5 ux_5 ex_5 H locs hw
        · refine q_call_i hA hK hw (va_runU (As := [.int (iI x1)]) (rest := []) ⟨hx, hb, hml, hown, hts⟩ (c_X3_dayFrom_f zo l D cy L0 f0 r_4 x1 lx1 ux1 m_r_4 o9 hg kk nn ss vv ww (by have z9 := Option.some.inj (er_4.symm.trans er); rw [z9]; exact rk) (by omega) (by omega) _) (va_cwA 1 hts (gT (inU (mr14 _ (List.mem_of_getElem? (i := 23) rfl)) (mr15 _ (List.mem_of_getElem? (i := 0) rfl)) (mr15 _ (List.mem_of_getElem? (i := 7) rfl)) (mr15 _ (List.mem_of_getElem? (i := 8) rfl)) (mr12 _ (List.mem_of_getElem? (i := 18) rfl)) (mr15 _ (List.mem_of_getElem? (i := 9) rfl)))) rfl rfl rfl (hN _ (List.mem_of_getElem? (i := 15) rfl)) (by decide +kernel) ⟨Nat.le_of_ble_eq_true rfl, Nat.le_of_ble_eq_true rfl⟩) (Wd.preV zo hA hZ hw hK m_r_4 o9 rfl) rfl rfl hl.1 rfl (lv_room (Nat.le_of_ble_eq_true rfl)) dX0_keyFrom_38 ⟨Nat.le_of_ble_eq_true rfl, Nat.le_of_ble_eq_true rfl⟩) (fun x_5 L1 f1 H locs lx_5 ux_5 ex_5 hw => ?_)
          obtain ⟨rfl, rfl, ex_5⟩ := ex_5
          exact K38 x_5 lx_5 ux_5 ex_5 H locs hw
        · refine q_call_i hA hK hw (va_runU (As := [.int (iI x1)]) (rest := []) ⟨hx, hb, hml, hown, hts⟩ (c_X4_dayFrom_f zo l D cy L0 f0 r_4 x1 lx1 ux1 m_r_4 o9 hg kk nn ss vv ww (by have z9 := Option.some.inj (er_4.symm.trans er); rw [z9]; exact rk) (by omega) (by omega) _) (va_cwA 1 hts (gT (inU (mr14 _ (List.mem_of_getElem? (i := 23) rfl)) (mr15 _ (List.mem_of_getElem? (i := 0) rfl)) (mr15 _ (List.mem_of_getElem? (i := 22) rfl)) (mr15 _ (List.mem_of_getElem? (i := 23) rfl)) (mr2 _ (List.mem_of_getElem? (i := 7) rfl)) (mr16 _ (List.mem_of_getElem? (i := 0) rfl)))) rfl rfl rfl (hN _ (List.mem_of_getElem? (i := 15) rfl)) (by decide +kernel) ⟨Nat.le_of_ble_eq_true rfl, Nat.le_of_ble_eq_true rfl⟩) (Wd.preV zo hA hZ hw hK m_r_4 o9 rfl) rfl rfl hl.1 rfl (lv_room (Nat.le_of_ble_eq_true rfl)) dX0_keyFrom_38 ⟨Nat.le_of_ble_eq_true rfl, Nat.le_of_ble_eq_true rfl⟩) (fun x_5 L1 f1 H locs lx_5 ux_5 ex_5 hw => ?_)
          obtain ⟨rfl, rfl, ex_5⟩ := ex_5
          exact K38 x_5 lx_5 ux_5 ex_5 H locs hw
        · refine q_call_i hA hK hw (va_runU (As := [.int (iI x1)]) (rest := []) ⟨hx, hb, hml, hown, hts⟩ (c_X8_dayFrom_f zo l D cy L0 f0 r_4 x1 lx1 ux1 m_r_4 o9 hg kk nn ss vv ww (by have z9 := Option.some.inj (er_4.symm.trans er); rw [z9]; exact rk) (by omega) (by omega) _) (va_cwA 1 hts (gT (inU (mr14 _ (List.mem_of_getElem? (i := 23) rfl)) (mr15 _ (List.mem_of_getElem? (i := 0) rfl)) (mr16 _ (List.mem_of_getElem? (i := 3) rfl)) (mr16 _ (List.mem_of_getElem? (i := 4) rfl)) (mr12 _ (List.mem_of_getElem? (i := 15) rfl)) (mr16 _ (List.mem_of_getElem? (i := 5) rfl)))) rfl rfl rfl (hN _ (List.mem_of_getElem? (i := 15) rfl)) (by decide +kernel) ⟨Nat.le_of_ble_eq_true rfl, Nat.le_of_ble_eq_true rfl⟩) (Wd.preV zo hA hZ hw hK m_r_4 o9 rfl) rfl rfl hl.1 rfl (lv_room (Nat.le_of_ble_eq_true rfl)) dX0_keyFrom_38 ⟨Nat.le_of_ble_eq_true rfl, Nat.le_of_ble_eq_true rfl⟩) (fun x_5 L1 f1 H locs lx_5 ux_5 ex_5 hw => ?_)
          obtain ⟨rfl, rfl, ex_5⟩ := ex_5
          exact K38 x_5 lx_5 ux_5 ex_5 H locs hw
      · refine lv_aload_n hx hb dX0_keyFrom_26 rfl (lv_at hl 0 rfl) ?_
        refine q_geti (ci := 0) (C := RX0) (T := TX0) (N := 15) hx hb hts (fun w h => List.mem_cons_of_mem _ (mfX00 w h)) hown hK hw m_a0 o_a0 rfl 7 (by decide) (hts _ (List.mem_cons_of_mem _ (mr14 _ (List.mem_of_getElem? (i := 20) rfl)))) (fun _ h => h) rfl dX0_keyFrom_27 (fun x_6 lx_6 ux_6 ex_6 => ?_)
        refine lv_goto (tgt := 41) hx hb dX0_keyFrom_30 (by decide) ?_
        exact q_ret_i hx hb hr hlocks hK hAe hw ⟨lx_6, ux_6⟩ (Nat.le_of_ble_eq_true rfl) (Nat.le_of_ble_eq_true rfl) dX0_keyFrom_41 ⟨rfl, rfl, by first | exact kf_first' bd (by omega) (by omega) (by omega) | exact kf_rule bd (by omega) (by omega) (by omega) ex_6 | fail "none"⟩
    · refine q_iconst hx hb dX0_keyFrom_16 ?_
      exact q_ret_i hx hb hr hlocks hK hAe hw ⟨by decide, by decide⟩ (Nat.le_of_ble_eq_true rfl) (Nat.le_of_ble_eq_true rfl) dX0_keyFrom_17 ⟨rfl, rfl, by exact kf_none bd (by omega)⟩
set_option maxHeartbeats 4000000 in
set_option maxRecDepth 100000 in
theorem c_X0_keyTo_f {Z : Zt} (zo : Zok Z) (l : Launch) (D : va_G) (cy : Cy) (L0 : List Nat) (f0 : Nat → va_E) (a0 : Nat) (x1 : Int) (lx1 : -2147483648 ≤ x1) (ux1 : x1 ≤ 2147483647) (m_a0 : a0 ∈ L0) (o_a0 : Ob f0 a0 0) (hg : GI cy L0 f0) (r0 : Nat) (er : fR f0 a0 3 = some r0) (kk : Int) (nn : Int) (ss : Int) (vv : Int) (ww : Int) (rk : RuK f0 r0 kk nn ss vv ww) (low : Int) (hi : Int) (most : Int) (bd : Bd (Ky (onK kk nn ss vv ww) low hi most) (fI f0 a0 7) (fI f0 a0 8)) (lw : ss ≤ low) : Ci Z l yX0_keyTo (Cond.code yX0_keyTo cX0_keyTo 2 (some .int) :: TB) ({ frames := 3, cells := 0, slots := 0, locals := 67 } : Room) 0 0 D (tq cy) [.ref a0, .int (iI x1)] L0 f0 (fun (r : Int) (L1 : List Nat) (f1 : Nat → va_E) => L0 = L1 ∧ f0 = f1 ∧ (Lst (Ky (onK kk nn ss vv ww) low hi most) x1 r)) := by
  refine Ci.enter (cc := cX0_keyTo) (n := 2) rfl (plainFor_of_name (by decide)) (Nat.le_of_ble_eq_true rfl) ?_
  intro p e s m below meth c ls A hx hb hr hts hown hlocks hnm hml hK hA hAe hw hZ hl
  have hown : s.vm.findClass RX0 = some m.cls := hown
  have hl : lv_has ls 2 [(0, .ref a0), (1, .int (iI x1))] := hl
  have hN : ZN s := (zo.2.2.2.2 _ _ _ hZ).2
  have sb := rk.st
  have bq := bd.bq lw
  refine lv_aload_n hx hb dX0_keyTo_0 rfl (lv_at hl 0 rfl) ?_
  refine q_geti (ci := 0) (C := RX0) (T := TX0) (N := 15) hx hb hts (fun w h => List.mem_cons_of_mem _ (mfX00 w h)) hown hK hw m_a0 o_a0 rfl 7 (by decide) (hts _ (List.mem_cons_of_mem _ (mr14 _ (List.mem_of_getElem? (i := 20) rfl)))) (fun _ h => h) rfl dX0_keyTo_1 (fun x_1 lx_1 ux_1 ex_1 => ?_)
  refine q_iconst hx hb dX0_keyTo_4 ?_
  refine q_icmp_eq (tgt := 16) hx hb dX0_keyTo_5 (by decide) ⟨lx_1, ux_1⟩ ⟨by decide, by decide⟩ (fun c5 => ?_) (fun c5 => ?_)
  · refine q_iconst hx hb dX0_keyTo_16 ?_
    exact q_ret_i hx hb hr hlocks hK hAe hw ⟨by decide, by decide⟩ (Nat.le_of_ble_eq_true rfl) (Nat.le_of_ble_eq_true rfl) dX0_keyTo_17 ⟨rfl, rfl, by exact kt_none bd (by omega)⟩
  · refine lv_iload_n hx hb dX0_keyTo_8 rfl (lv_at hl 1 rfl) ?_
    refine lv_aload_n hx hb dX0_keyTo_9 rfl (lv_at hl 0 rfl) ?_
    refine q_geti (ci := 0) (C := RX0) (T := TX0) (N := 15) hx hb hts (fun w h => List.mem_cons_of_mem _ (mfX00 w h)) hown hK hw m_a0 o_a0 rfl 7 (by decide) (hts _ (List.mem_cons_of_mem _ (mr14 _ (List.mem_of_getElem? (i := 20) rfl)))) (fun _ h => h) rfl dX0_keyTo_10 (fun x_2 lx_2 ux_2 ex_2 => ?_)
    refine q_icmp_ge (tgt := 18) hx hb dX0_keyTo_13 (by decide) ⟨lx1, ux1⟩ ⟨lx_2, ux_2⟩ (fun c13 => ?_) (fun c13 => ?_)
    · refine lv_iload_n hx hb dX0_keyTo_18 rfl (lv_at hl 1 rfl) ?_
      refine lv_aload_n hx hb dX0_keyTo_19 rfl (lv_at hl 0 rfl) ?_
      refine q_geti (ci := 0) (C := RX0) (T := TX0) (N := 15) hx hb hts (fun w h => List.mem_cons_of_mem _ (mfX00 w h)) hown hK hw m_a0 o_a0 rfl 8 (by decide) (hts _ (List.mem_cons_of_mem _ (mr14 _ (List.mem_of_getElem? (i := 21) rfl)))) (fun _ h => h) rfl dX0_keyTo_20 (fun x_3 lx_3 ux_3 ex_3 => ?_)
      refine q_icmp_lt (tgt := 33) hx hb dX0_keyTo_23 (by decide) ⟨lx1, ux1⟩ ⟨lx_3, ux_3⟩ (fun c23 => ?_) (fun c23 => ?_)
      · refine lv_aload_n hx hb dX0_keyTo_33 rfl (lv_at hl 0 rfl) ?_
        obtain ⟨r_4, er_4, m_r_4, o_r_4⟩ := (show ∃ r, fR f0 a0 3 = some r ∧ r ∈ L0 ∧ Rl f0 r from hg.2.1 _ m_a0 0 3 o_a0)
        refine q_getr (ci := 0) (C := RX0) (T := TX0) (N := 15) hx hb hts (fun w h => List.mem_cons_of_mem _ (mfX00 w h)) hown hK hw m_a0 o_a0 rfl 3 (by decide) (hts _ (List.mem_cons_of_mem _ (mr3 _ (List.mem_of_getElem? (i := 4) rfl)))) (fun _ h => h) rfl er_4 dX0_keyTo_34 ?_
        refine lv_iload_n hx hb dX0_keyTo_37 rfl (lv_at hl 1 rfl) ?_
        have K38 : ∀ (x_5 : Int) (lx_5 : -2147483648 ≤ x_5) (ux_5 : x_5 ≤ 2147483647) (ex_5 : Lst (onK kk nn ss vv ww) x1 x_5) (H : Heap) (locs : List Loc) (hw : Wd D A s.heap L0 f0 H locs), W p l e ({ frames := 3, cells := 0, slots := 0, locals := 67 } : Room) s m ([.ref a0, .int (iI x1)] : List Value).toArray below meth c H locs (0) (0) (MQ below (Qi D (tq cy) L0 f0 s.heap.size (fun (r : Int) (L1 : List Nat) (f1 : Nat → va_E) => L0 = L1 ∧ f0 = f1 ∧ (Lst (Ky (onK kk nn ss vv ww) low hi most) x1 r))) ([.ref a0, .int (iI x1)] : List Value).toArray s 0 0 A) (F0 m 41 ls (.int (iI x_5) :: [])) := by
          intro x_5 lx_5 ux_5 ex_5 H locs hw
          exact q_ret_i hx hb hr hlocks hK hAe hw ⟨lx_5, ux_5⟩ (Nat.le_of_ble_eq_true rfl) (Nat.le_of_ble_eq_true rfl) dX0_keyTo_41 ⟨rfl, rfl, by first | exact kt_last' bd (by omega) (by omega) (by omega) | exact kt_rule bd (by omega) (by omega) (by omega) ex_5 | fail "none"⟩
        rcases o_r_4 with o9 | o9 | o9 | o9
        · refine q_call_i hA hK hw (va_runU (As := [.int (iI x1)]) (rest := []) ⟨hx, hb, hml, hown, hts⟩ (c_X2_dayTo_f zo l D cy L0 f0 r_4 x1 lx1 ux1 m_r_4 o9 hg kk nn ss vv ww (by have z9 := Option.some.inj (er_4.symm.trans er); rw [z9]; exact rk) (by omega) (by omega) _) (va_cwA 1 hts (gT (inU (mr16 _ (List.mem_of_getElem? (i := 13) rfl)) (mr16 _ (List.mem_of_getElem? (i := 14) rfl)) (mr16 _ (List.mem_of_getElem? (i := 15) rfl)) (mr16 _ (List.mem_of_getElem? (i := 16) rfl)) (mr12 _ (List.mem_of_getElem? (i := 12) rfl)) (mr16 _ (List.mem_of_getElem? (i := 17) rfl)))) rfl rfl rfl (hN _ (List.mem_of_getElem? (i := 16) rfl)) (by decide +kernel) ⟨Nat.le_of_ble_eq_true rfl, Nat.le_of_ble_eq_true rfl⟩) (Wd.preV zo hA hZ hw hK m_r_4 o9 rfl) rfl rfl hl.1 rfl (lv_room (Nat.le_of_ble_eq_true rfl)) dX0_keyTo_38 ⟨Nat.le_of_ble_eq_true rfl, Nat.le_of_ble_eq_true rfl⟩) (fun x_5 L1 f1 H locs lx_5 ux_5 ex_5 hw => ?_)
          obtain ⟨rfl, rfl, ex_5⟩ := ex_5
          exact K38 x_5 lx_5 ux_5 ex_5 H locs hw
        · refine q_call_i hA hK hw (va_runU (As := [.int (iI x1)]) (rest := []) ⟨hx, hb, hml, hown, hts⟩ (c_X3_dayTo_f zo l D cy L0 f0 r_4 x1 lx1 ux1 m_r_4 o9 hg kk nn ss vv ww (by have z9 := Option.some.inj (er_4.symm.trans er); rw [z9]; exact rk) (by omega) (by omega) _) (va_cwA 1 hts (gT (inU (mr16 _ (List.mem_of_getElem? (i := 13) rfl)) (mr16 _ (List.mem_of_getElem? (i := 14) rfl)) (mr16 _ (List.mem_of_getElem? (i := 18) rfl)) (mr16 _ (List.mem_of_getElem? (i := 19) rfl)) (mr12 _ (List.mem_of_getElem? (i := 18) rfl)) (mr16 _ (List.mem_of_getElem? (i := 20) rfl)))) rfl rfl rfl (hN _ (List.mem_of_getElem? (i := 16) rfl)) (by decide +kernel) ⟨Nat.le_of_ble_eq_true rfl, Nat.le_of_ble_eq_true rfl⟩) (Wd.preV zo hA hZ hw hK m_r_4 o9 rfl) rfl rfl hl.1 rfl (lv_room (Nat.le_of_ble_eq_true rfl)) dX0_keyTo_38 ⟨Nat.le_of_ble_eq_true rfl, Nat.le_of_ble_eq_true rfl⟩) (fun x_5 L1 f1 H locs lx_5 ux_5 ex_5 hw => ?_)
          obtain ⟨rfl, rfl, ex_5⟩ := ex_5
          exact K38 x_5 lx_5 ux_5 ex_5 H locs hw
        · refine q_call_i hA hK hw (va_runU (As := [.int (iI x1)]) (rest := []) ⟨hx, hb, hml, hown, hts⟩ (c_X4_dayTo_f zo l D cy L0 f0 r_4 x1 lx1 ux1 m_r_4 o9 hg kk nn ss vv ww (by have z9 := Option.some.inj (er_4.symm.trans er); rw [z9]; exact rk) (by omega) (by omega) _) (va_cwA 1 hts (gT (inU (mr16 _ (List.mem_of_getElem? (i := 13) rfl)) (mr16 _ (List.mem_of_getElem? (i := 14) rfl)) (mr16 _ (List.mem_of_getElem? (i := 21) rfl)) (mr16 _ (List.mem_of_getElem? (i := 22) rfl)) (mr2 _ (List.mem_of_getElem? (i := 7) rfl)) (mr16 _ (List.mem_of_getElem? (i := 23) rfl)))) rfl rfl rfl (hN _ (List.mem_of_getElem? (i := 16) rfl)) (by decide +kernel) ⟨Nat.le_of_ble_eq_true rfl, Nat.le_of_ble_eq_true rfl⟩) (Wd.preV zo hA hZ hw hK m_r_4 o9 rfl) rfl rfl hl.1 rfl (lv_room (Nat.le_of_ble_eq_true rfl)) dX0_keyTo_38 ⟨Nat.le_of_ble_eq_true rfl, Nat.le_of_ble_eq_true rfl⟩) (fun x_5 L1 f1 H locs lx_5 ux_5 ex_5 hw => ?_)
          obtain ⟨rfl, rfl, ex_5⟩ := ex_5
          exact K38 x_5 lx_5 ux_5 ex_5 H locs hw
        · refine q_call_i hA hK hw (va_runU (As := [.int (iI x1)]) (rest := []) ⟨hx, hb, hml, hown, hts⟩ (c_X8_dayTo_f zo l D cy L0 f0 r_4 x1 lx1 ux1 m_r_4 o9 hg kk nn ss vv ww (by have z9 := Option.some.inj (er_4.symm.trans er); rw [z9]; exact rk) (by omega) (by omega) _) (va_cwA 1 hts (gT (inU (mr16 _ (List.mem_of_getElem? (i := 13) rfl)) (mr16 _ (List.mem_of_getElem? (i := 14) rfl)) (mr17 _ (List.mem_of_getElem? (i := 0) rfl)) (mr17 _ (List.mem_of_getElem? (i := 1) rfl)) (mr12 _ (List.mem_of_getElem? (i := 15) rfl)) (mr17 _ (List.mem_of_getElem? (i := 2) rfl)))) rfl rfl rfl (hN _ (List.mem_of_getElem? (i := 16) rfl)) (by decide +kernel) ⟨Nat.le_of_ble_eq_true rfl, Nat.le_of_ble_eq_true rfl⟩) (Wd.preV zo hA hZ hw hK m_r_4 o9 rfl) rfl rfl hl.1 rfl (lv_room (Nat.le_of_ble_eq_true rfl)) dX0_keyTo_38 ⟨Nat.le_of_ble_eq_true rfl, Nat.le_of_ble_eq_true rfl⟩) (fun x_5 L1 f1 H locs lx_5 ux_5 ex_5 hw => ?_)
          obtain ⟨rfl, rfl, ex_5⟩ := ex_5
          exact K38 x_5 lx_5 ux_5 ex_5 H locs hw
      · refine lv_aload_n hx hb dX0_keyTo_26 rfl (lv_at hl 0 rfl) ?_
        refine q_geti (ci := 0) (C := RX0) (T := TX0) (N := 15) hx hb hts (fun w h => List.mem_cons_of_mem _ (mfX00 w h)) hown hK hw m_a0 o_a0 rfl 8 (by decide) (hts _ (List.mem_cons_of_mem _ (mr14 _ (List.mem_of_getElem? (i := 21) rfl)))) (fun _ h => h) rfl dX0_keyTo_27 (fun x_6 lx_6 ux_6 ex_6 => ?_)
        refine lv_goto (tgt := 41) hx hb dX0_keyTo_30 (by decide) ?_
        exact q_ret_i hx hb hr hlocks hK hAe hw ⟨lx_6, ux_6⟩ (Nat.le_of_ble_eq_true rfl) (Nat.le_of_ble_eq_true rfl) dX0_keyTo_41 ⟨rfl, rfl, by first | exact kt_last' bd (by omega) (by omega) (by omega) | exact kt_rule bd (by omega) (by omega) (by omega) ex_6 | fail "none"⟩
    · refine q_iconst hx hb dX0_keyTo_16 ?_
      exact q_ret_i hx hb hr hlocks hK hAe hw ⟨by decide, by decide⟩ (Nat.le_of_ble_eq_true rfl) (Nat.le_of_ble_eq_true rfl) dX0_keyTo_17 ⟨rfl, rfl, by exact kt_none bd (by omega)⟩
set_option maxHeartbeats 4000000 in
set_option maxRecDepth 100000 in
theorem c_X0_keysIn_f {Z : Zt} (zo : Zok Z) (l : Launch) (D : va_G) (cy : Cy) (L0 : List Nat) (f0 : Nat → va_E) (a0 : Nat) (x1 : Int) (lx1 : -2147483648 ≤ x1) (ux1 : x1 ≤ 2147483647) (x2 : Int) (lx2 : -2147483648 ≤ x2) (ux2 : x2 ≤ 2147483647) (m_a0 : a0 ∈ L0) (o_a0 : Ob f0 a0 0) (hg : GI cy L0 f0) (r0 : Nat) (er : fR f0 a0 3 = some r0) (kk : Int) (nn : Int) (ss : Int) (vv : Int) (ww : Int) (rk : RuK f0 r0 kk nn ss vv ww) (low : Int) (hi : Int) (most : Int) (bd : Bd (Ky (onK kk nn ss vv ww) low hi most) (fI f0 a0 7) (fI f0 a0 8)) (lw : ss ≤ low) : Ci Z l yX0_keysIn (Cond.code yX0_keysIn cX0_keysIn 5 (some .int) :: TB) ({ frames := 3, cells := 0, slots := 0, locals := 72 } : Room) 0 0 D (tq cy) [.ref a0, .int (iI x1), .int (iI x2)] L0 f0 (fun (r : Int) (L1 : List Nat) (f1 : Nat → va_E) => L0 = L1 ∧ f0 = f1 ∧ (r = cn (Ky (onK kk nn ss vv ww) low hi most) x1 (x2 + 1))) := by
  refine Ci.enter (cc := cX0_keysIn) (n := 5) rfl (plainFor_of_name (by decide)) (Nat.le_of_ble_eq_true rfl) ?_
  intro p e s m below meth c ls A hx hb hr hts hown hlocks hnm hml hK hA hAe hw hZ hl
  have hown : s.vm.findClass RX0 = some m.cls := hown
  have hl : lv_has ls 5 [(0, .ref a0), (1, .int (iI x1)), (2, .int (iI x2))] := hl
  have hN : ZN s := (zo.2.2.2.2 _ _ _ hZ).2
  have sb := rk.st
  have bq := bd.bq lw
  refine lv_iload_n hx hb dX0_keysIn_0 rfl (lv_at hl 1 rfl) ?_
  refine lv_aload_n hx hb dX0_keysIn_1 rfl (lv_at hl 0 rfl) ?_
  refine q_geti (ci := 0) (C := RX0) (T := TX0) (N := 15) hx hb hts (fun w h => List.mem_cons_of_mem _ (mfX00 w h)) hown hK hw m_a0 o_a0 rfl 7 (by decide) (hts _ (List.mem_cons_of_mem _ (mr14 _ (List.mem_of_getElem? (i := 20) rfl)))) (fun _ h => h) rfl dX0_keysIn_2 (fun x_1 lx_1 ux_1 ex_1 => ?_)
  refine q_max hx hb (hml.trans hl.1.symm) hown (hts _ (List.mem_cons_of_mem _ (mr25 _ (List.mem_of_getElem? (i := 20) rfl)))) (hts _ (List.mem_cons_of_mem _ (mr13 _ (List.mem_of_getElem? (i := 0) rfl)))) (hts _ (List.mem_cons_of_mem _ (mr6 _ (List.mem_of_getElem? (i := 14) rfl)))) (hts _ (List.mem_cons_of_mem _ (mr13 _ (List.mem_of_getElem? (i := 1) rfl)))) (Nat.le_of_ble_eq_true rfl) (Nat.le_of_ble_eq_true rfl) (Nat.le_of_ble_eq_true rfl) (Nat.le_of_ble_eq_true rfl) ⟨lx1, ux1⟩ ⟨lx_1, ux_1⟩ dX0_keysIn_5 (fun x_2 lx_2 ux_2 ex_2 => ?_)
  refine lv_istore_n (lv' := [(3, .int (iI x_2)), (0, .ref a0), (1, .int (iI x1)), (2, .int (iI x2))]) hx hb dX0_keysIn_8 rfl hl (by decide) rfl (fun ls hl => ?_)
  refine lv_iload_n hx hb dX0_keysIn_9 rfl (lv_at hl 3 rfl) ?_
  refine lv_aload_n hx hb dX0_keysIn_10 rfl (lv_at hl 1 rfl) ?_
  refine q_geti (ci := 0) (C := RX0) (T := TX0) (N := 15) hx hb hts (fun w h => List.mem_cons_of_mem _ (mfX00 w h)) hown hK hw m_a0 o_a0 rfl 8 (by decide) (hts _ (List.mem_cons_of_mem _ (mr14 _ (List.mem_of_getElem? (i := 21) rfl)))) (fun _ h => h) rfl dX0_keysIn_11 (fun x_3 lx_3 ux_3 ex_3 => ?_)
  refine q_min hx hb (hml.trans hl.1.symm) hown (hts _ (List.mem_cons_of_mem _ (mr25 _ (List.mem_of_getElem? (i := 21) rfl)))) (hts _ (List.mem_cons_of_mem _ (mr6 _ (List.mem_of_getElem? (i := 13) rfl)))) (hts _ (List.mem_cons_of_mem _ (mr6 _ (List.mem_of_getElem? (i := 14) rfl)))) (hts _ (List.mem_cons_of_mem _ (mr6 _ (List.mem_of_getElem? (i := 15) rfl)))) (Nat.le_of_ble_eq_true rfl) (Nat.le_of_ble_eq_true rfl) (Nat.le_of_ble_eq_true rfl) (Nat.le_of_ble_eq_true rfl) ⟨lx2, ux2⟩ ⟨lx_3, ux_3⟩ dX0_keysIn_14 (fun x_4 lx_4 ux_4 ex_4 => ?_)
  refine lv_istore (lv' := [(4, .int (iI x_4)), (3, .int (iI x_2)), (0, .ref a0), (1, .int (iI x1)), (2, .int (iI x2))]) hx hb dX0_keysIn_17 hl (by decide) rfl (fun ls hl => ?_)
  refine lv_aload_n hx hb dX0_keysIn_19 rfl (lv_at hl 2 rfl) ?_
  refine q_geti (ci := 0) (C := RX0) (T := TX0) (N := 15) hx hb hts (fun w h => List.mem_cons_of_mem _ (mfX00 w h)) hown hK hw m_a0 o_a0 rfl 7 (by decide) (hts _ (List.mem_cons_of_mem _ (mr14 _ (List.mem_of_getElem? (i := 20) rfl)))) (fun _ h => h) rfl dX0_keysIn_20 (fun x_5 lx_5 ux_5 ex_5 => ?_)
  refine q_iconst hx hb dX0_keysIn_23 ?_
  refine q_icmp_eq (tgt := 33) hx hb dX0_keysIn_24 (by decide) ⟨lx_5, ux_5⟩ ⟨by decide, by decide⟩ (fun c24 => ?_) (fun c24 => ?_)
  · refine q_iconst hx hb dX0_keysIn_33 ?_
    refine lv_goto (tgt := 47) hx hb dX0_keysIn_34 (by decide) ?_
    exact q_ret_i hx hb hr hlocks hK hAe hw ⟨by decide, by decide⟩ (Nat.le_of_ble_eq_true rfl) (Nat.le_of_ble_eq_true rfl) dX0_keysIn_47 ⟨rfl, rfl, by first | exact (kn_no bd (by omega)).symm | exact kn_in' bd (by omega) (by omega) (by omega) e0 | fail "none"⟩
  · refine lv_iload_n hx hb dX0_keysIn_27 rfl (lv_at hl 1 rfl) ?_
    refine lv_iload hx hb dX0_keysIn_28 (lv_at hl 0 rfl) ?_
    refine q_icmp_le (tgt := 37) hx hb dX0_keysIn_30 (by decide) ⟨lx_2, ux_2⟩ ⟨lx_4, ux_4⟩ (fun c30 => ?_) (fun c30 => ?_)
    · refine lv_aload_n hx hb dX0_keysIn_37 rfl (lv_at hl 2 rfl) ?_
      obtain ⟨r_6, er_6, m_r_6, o_r_6⟩ := (show ∃ r, fR f0 a0 3 = some r ∧ r ∈ L0 ∧ Rl f0 r from hg.2.1 _ m_a0 0 3 o_a0)
      refine q_getr (ci := 0) (C := RX0) (T := TX0) (N := 15) hx hb hts (fun w h => List.mem_cons_of_mem _ (mfX00 w h)) hown hK hw m_a0 o_a0 rfl 3 (by decide) (hts _ (List.mem_cons_of_mem _ (mr3 _ (List.mem_of_getElem? (i := 4) rfl)))) (fun _ h => h) rfl er_6 dX0_keysIn_38 ?_
      refine lv_iload_n hx hb dX0_keysIn_41 rfl (lv_at hl 1 rfl) ?_
      refine lv_iload hx hb dX0_keysIn_42 (lv_at hl 0 rfl) ?_
      have K44 : ∀ (x_7 : Int) (lx_7 : -2147483648 ≤ x_7) (ux_7 : x_7 ≤ 2147483647) (ex_7 : x_7 = cn (onK kk nn ss vv ww) x_2 (x_4 + 1)) (H : Heap) (locs : List Loc) (hw : Wd D A s.heap L0 f0 H locs), W p l e ({ frames := 3, cells := 0, slots := 0, locals := 72 } : Room) s m ([.ref a0, .int (iI x1), .int (iI x2)] : List Value).toArray below meth c H locs (0) (0) (MQ below (Qi D (tq cy) L0 f0 s.heap.size (fun (r : Int) (L1 : List Nat) (f1 : Nat → va_E) => L0 = L1 ∧ f0 = f1 ∧ (r = cn (Ky (onK kk nn ss vv ww) low hi most) x1 (x2 + 1)))) ([.ref a0, .int (iI x1), .int (iI x2)] : List Value).toArray s 0 0 A) (F0 m 47 ls (.int (iI x_7) :: [])) := by
        intro x_7 lx_7 ux_7 ex_7 H locs hw
        exact q_ret_i hx hb hr hlocks hK hAe hw ⟨lx_7, ux_7⟩ (Nat.le_of_ble_eq_true rfl) (Nat.le_of_ble_eq_true rfl) dX0_keysIn_47 ⟨rfl, rfl, by first | exact (kn_no bd (by omega)).symm | exact kn_in' bd (by omega) (by omega) (by omega) ex_7 | fail "none"⟩
      rcases o_r_6 with o9 | o9 | o9 | o9
      · refine q_call_i hA hK hw (va_runU (As := [.int (iI x_2), .int (iI x_4)]) (rest := []) ⟨hx, hb, hml, hown, hts⟩ (c_X2_daysIn_f zo l D cy L0 f0 r_6 x_2 lx_2 ux_2 x_4 lx_4 ux_4 m_r_6 o9 hg kk nn ss vv ww (by have z9 := Option.some.inj (er_6.symm.trans er); rw [z9]; exact rk) (by omega) (by omega) (by omega) _) (va_cwA 2 hts (gT (inU (mr17 _ (List.mem_of_getElem? (i := 11) rfl)) (mr17 _ (List.mem_of_getElem? (i := 12) rfl)) (mr17 _ (List.mem_of_getElem? (i := 13) rfl)) (mr17 _ (List.mem_of_getElem? (i := 14) rfl)) (mr12 _ (List.mem_of_getElem? (i := 12) rfl)) (mr17 _ (List.mem_of_getElem? (i := 15) rfl)))) rfl rfl rfl (hN _ (List.mem_of_getElem? (i := 17) rfl)) (by decide +kernel) ⟨Nat.le_of_ble_eq_true rfl, Nat.le_of_ble_eq_true rfl⟩) (Wd.preV zo hA hZ hw hK m_r_6 o9 rfl) rfl rfl hl.1 rfl (lv_room (Nat.le_of_ble_eq_true rfl)) dX0_keysIn_44 ⟨Nat.le_of_ble_eq_true rfl, Nat.le_of_ble_eq_true rfl⟩) (fun x_7 L1 f1 H locs lx_7 ux_7 ex_7 hw => ?_)
        obtain ⟨rfl, rfl, ex_7⟩ := ex_7
        exact K44 x_7 lx_7 ux_7 ex_7 H locs hw
      · refine q_call_i hA hK hw (va_runU (As := [.int (iI x_2), .int (iI x_4)]) (rest := []) ⟨hx, hb, hml, hown, hts⟩ (c_X3_daysIn_f zo l D cy L0 f0 r_6 x_2 lx_2 ux_2 x_4 lx_4 ux_4 m_r_6 o9 hg kk nn ss vv ww (by have z9 := Option.some.inj (er_6.symm.trans er); rw [z9]; exact rk) (by omega) (by omega) (by omega) _) (va_cwA 2 hts (gT (inU (mr17 _ (List.mem_of_getElem? (i := 11) rfl)) (mr17 _ (List.mem_of_getElem? (i := 12) rfl)) (mr17 _ (List.mem_of_getElem? (i := 20) rfl)) (mr17 _ (List.mem_of_getElem? (i := 21) rfl)) (mr12 _ (List.mem_of_getElem? (i := 18) rfl)) (mr17 _ (List.mem_of_getElem? (i := 22) rfl)))) rfl rfl rfl (hN _ (List.mem_of_getElem? (i := 17) rfl)) (by decide +kernel) ⟨Nat.le_of_ble_eq_true rfl, Nat.le_of_ble_eq_true rfl⟩) (Wd.preV zo hA hZ hw hK m_r_6 o9 rfl) rfl rfl hl.1 rfl (lv_room (Nat.le_of_ble_eq_true rfl)) dX0_keysIn_44 ⟨Nat.le_of_ble_eq_true rfl, Nat.le_of_ble_eq_true rfl⟩) (fun x_7 L1 f1 H locs lx_7 ux_7 ex_7 hw => ?_)
        obtain ⟨rfl, rfl, ex_7⟩ := ex_7
        exact K44 x_7 lx_7 ux_7 ex_7 H locs hw
      · refine q_call_i hA hK hw (va_runU (As := [.int (iI x_2), .int (iI x_4)]) (rest := []) ⟨hx, hb, hml, hown, hts⟩ (c_X4_daysIn_f zo l D cy L0 f0 r_6 x_2 lx_2 ux_2 x_4 lx_4 ux_4 m_r_6 o9 hg kk nn ss vv ww (by have z9 := Option.some.inj (er_6.symm.trans er); rw [z9]; exact rk) (by omega) (by omega) (by omega) _) (va_cwA 2 hts (gT (inU (mr17 _ (List.mem_of_getElem? (i := 11) rfl)) (mr17 _ (List.mem_of_getElem? (i := 12) rfl)) (mr17 _ (List.mem_of_getElem? (i := 23) rfl)) (mr18 _ (List.mem_of_getElem? (i := 0) rfl)) (mr2 _ (List.mem_of_getElem? (i := 7) rfl)) (mr18 _ (List.mem_of_getElem? (i := 1) rfl)))) rfl rfl rfl (hN _ (List.mem_of_getElem? (i := 17) rfl)) (by decide +kernel) ⟨Nat.le_of_ble_eq_true rfl, Nat.le_of_ble_eq_true rfl⟩) (Wd.preV zo hA hZ hw hK m_r_6 o9 rfl) rfl rfl hl.1 rfl (lv_room (Nat.le_of_ble_eq_true rfl)) dX0_keysIn_44 ⟨Nat.le_of_ble_eq_true rfl, Nat.le_of_ble_eq_true rfl⟩) (fun x_7 L1 f1 H locs lx_7 ux_7 ex_7 hw => ?_)
        obtain ⟨rfl, rfl, ex_7⟩ := ex_7
        exact K44 x_7 lx_7 ux_7 ex_7 H locs hw
      · refine q_call_i hA hK hw (va_runU (As := [.int (iI x_2), .int (iI x_4)]) (rest := []) ⟨hx, hb, hml, hown, hts⟩ (c_X8_daysIn_f zo l D cy L0 f0 r_6 x_2 lx_2 ux_2 x_4 lx_4 ux_4 m_r_6 o9 hg kk nn ss vv ww (by have z9 := Option.some.inj (er_6.symm.trans er); rw [z9]; exact rk) (by omega) (by omega) (by omega) _) (va_cwA 2 hts (gT (inU (mr17 _ (List.mem_of_getElem? (i := 11) rfl)) (mr17 _ (List.mem_of_getElem? (i := 12) rfl)) (mr18 _ (List.mem_of_getElem? (i := 2) rfl)) (mr18 _ (List.mem_of_getElem? (i := 3) rfl)) (mr12 _ (List.mem_of_getElem? (i := 15) rfl)) (mr18 _ (List.mem_of_getElem? (i := 4) rfl)))) rfl rfl rfl (hN _ (List.mem_of_getElem? (i := 17) rfl)) (by decide +kernel) ⟨Nat.le_of_ble_eq_true rfl, Nat.le_of_ble_eq_true rfl⟩) (Wd.preV zo hA hZ hw hK m_r_6 o9 rfl) rfl rfl hl.1 rfl (lv_room (Nat.le_of_ble_eq_true rfl)) dX0_keysIn_44 ⟨Nat.le_of_ble_eq_true rfl, Nat.le_of_ble_eq_true rfl⟩) (fun x_7 L1 f1 H locs lx_7 ux_7 ex_7 hw => ?_)
        obtain ⟨rfl, rfl, ex_7⟩ := ex_7
        exact K44 x_7 lx_7 ux_7 ex_7 H locs hw
    · refine q_iconst hx hb dX0_keysIn_33 ?_
      refine lv_goto (tgt := 47) hx hb dX0_keysIn_34 (by decide) ?_
      exact q_ret_i hx hb hr hlocks hK hAe hw ⟨by decide, by decide⟩ (Nat.le_of_ble_eq_true rfl) (Nat.le_of_ble_eq_true rfl) dX0_keysIn_47 ⟨rfl, rfl, by first | exact (kn_no bd (by omega)).symm | exact kn_in' bd (by omega) (by omega) (by omega) e0 | fail "none"⟩
set_option maxHeartbeats 4000000 in
set_option maxRecDepth 100000 in
theorem c_X0_isKey_f {Z : Zt} (zo : Zok Z) (l : Launch) (D : va_G) (cy : Cy) (L0 : List Nat) (f0 : Nat → va_E) (a0 : Nat) (x1 : Int) (lx1 : -2147483648 ≤ x1) (ux1 : x1 ≤ 2147483647) (m_a0 : a0 ∈ L0) (o_a0 : Ob f0 a0 0) (hg : GI cy L0 f0) (r0 : Nat) (er : fR f0 a0 3 = some r0) (kk : Int) (nn : Int) (ss : Int) (vv : Int) (ww : Int) (rk : RuK f0 r0 kk nn ss vv ww) (low : Int) (hi : Int) (most : Int) (bd : Bd (Ky (onK kk nn ss vv ww) low hi most) (fI f0 a0 7) (fI f0 a0 8)) (lw : ss ≤ low) : Ci Z l yX0_isKey (Cond.code yX0_isKey cX0_isKey 2 (some .boolean) :: TB) ({ frames := 4, cells := 0, slots := 0, locals := 90 } : Room) 0 0 D (tq cy) [.ref a0, .int (iI x1)] L0 f0 (fun (r : Int) (L1 : List Nat) (f1 : Nat → va_E) => L0 = L1 ∧ f0 = f1 ∧ ((r = 1 ∧ 0 ≤ x1 ∧ x1 ≤ 36524 ∧ Ky (onK kk nn ss vv ww) low hi most x1) ∨ (r = 0 ∧ ¬ (0 ≤ x1 ∧ x1 ≤ 36524 ∧ Ky (onK kk nn ss vv ww) low hi most x1)))) := by
  refine Ci.enter (cc := cX0_isKey) (n := 2) rfl (plainFor_of_name (by decide)) (Nat.le_of_ble_eq_true rfl) ?_
  intro p e s m below meth c ls A hx hb hr hts hown hlocks hnm hml hK hA hAe hw hZ hl
  have hown : s.vm.findClass RX0 = some m.cls := hown
  have hl : lv_has ls 2 [(0, .ref a0), (1, .int (iI x1))] := hl
  have hN : ZN s := (zo.2.2.2.2 _ _ _ hZ).2
  have sb := rk.st
  have bq := bd.bq lw
  refine lv_iload_n hx hb dX0_isKey_0 rfl (lv_at hl 1 rfl) ?_
  refine q_call_i hA hK hw (va_runSN (As := [.int (iI x1)]) (rest := []) ⟨hx, hb, hml, hown, hts⟩ (c_X9_isDay zo l D cy L0 f0 x1 lx1 ux1 _) ⟨va_cnB 1 hts (gT (inC (mr23 _ (List.mem_of_getElem? (i := 15) rfl)))) rfl rfl rfl (hN _ (List.mem_of_getElem? (i := 13) rfl)) (hts _ (List.mem_cons_of_mem _ (mr1 _ (List.mem_of_getElem? (i := 2) rfl)))) (by decide +kernel) ⟨Nat.le_of_ble_eq_true rfl, Nat.le_of_ble_eq_true rfl⟩, (hts _ (List.mem_cons_of_mem _ (mr23 _ (List.mem_of_getElem? (i := 14) rfl)))), trivial⟩ (Wd.preS zo hA hZ hw hK) rfl rfl hl.1 rfl (lv_room (Nat.le_of_ble_eq_true rfl)) dX0_isKey_1 ⟨Nat.le_of_ble_eq_true rfl, Nat.le_of_ble_eq_true rfl⟩) (fun x_1 L1 f1 H locs lx_1 ux_1 ex_1 hw => ?_)
  obtain ⟨rfl, rfl, ex_1⟩ := ex_1
  refine q_if_eq (tgt := 20) hx hb dX0_isKey_4 (by decide) ⟨lx_1, ux_1⟩ (fun c4 => ?_) (fun c4 => ?_)
  · refine q_iconst hx hb dX0_isKey_20 ?_
    exact q_ret_z hx hb hr hlocks hK hAe hw (by omega) (Nat.le_of_ble_eq_true rfl) (Nat.le_of_ble_eq_true rfl) dX0_isKey_21 ⟨rfl, rfl, by first | exact Or.inl ⟨by omega, by omega, by omega, kf.is (by omega) (by omega)⟩ | exact Or.inr ⟨by omega, fun z => kf.isno (by omega) (by omega) z.2.2⟩ | exact Or.inr ⟨by omega, fun z => by omega⟩ | fail "none"⟩
  · refine lv_aload_n hx hb dX0_isKey_7 rfl (lv_at hl 0 rfl) ?_
    refine lv_iload_n hx hb dX0_isKey_8 rfl (lv_at hl 1 rfl) ?_
    refine q_call_i hA hK hw (va_runV (As := [.int (iI x1)]) (rest := []) ⟨hx, hb, hml, hown, hts⟩ (c_X0_keyFrom_f zo l D cy L0 f0 a0 x1 lx1 ux1 m_a0 o_a0 hg r0 er kk nn ss vv ww rk low hi most bd (by omega) _) (cwV 1 hts (gT (inV (mr26 _ (List.mem_of_getElem? (i := 10) rfl)) (mr24 _ (List.mem_of_getElem? (i := 13) rfl)) (mr24 _ (List.mem_of_getElem? (i := 14) rfl)) (mr2 _ (List.mem_of_getElem? (i := 9) rfl)) (mr24 _ (List.mem_of_getElem? (i := 15) rfl)))) rfl rfl rfl (by decide +kernel) ⟨Nat.le_of_ble_eq_true rfl, Nat.le_of_ble_eq_true rfl⟩) (Wd.preV zo hA hZ hw hK m_a0 o_a0 rfl) rfl rfl hl.1 rfl (lv_room (Nat.le_of_ble_eq_true rfl)) dX0_isKey_9 ⟨Nat.le_of_ble_eq_true rfl, Nat.le_of_ble_eq_true rfl⟩) (fun x_2 L1 f1 H locs lx_2 ux_2 ex_2 hw => ?_)
    obtain ⟨rfl, rfl, ex_2⟩ := ex_2
    have kf := ex_2
    refine lv_iload_n hx hb dX0_isKey_12 rfl (lv_at hl 1 rfl) ?_
    refine q_icmp_ne (tgt := 20) hx hb dX0_isKey_13 (by decide) ⟨lx_2, ux_2⟩ ⟨lx1, ux1⟩ (fun c13 => ?_) (fun c13 => ?_)
    · refine q_iconst hx hb dX0_isKey_20 ?_
      exact q_ret_z hx hb hr hlocks hK hAe hw (by omega) (Nat.le_of_ble_eq_true rfl) (Nat.le_of_ble_eq_true rfl) dX0_isKey_21 ⟨rfl, rfl, by first | exact Or.inl ⟨by omega, by omega, by omega, kf.is (by omega) (by omega)⟩ | exact Or.inr ⟨by omega, fun z => kf.isno (by omega) (by omega) z.2.2⟩ | exact Or.inr ⟨by omega, fun z => by omega⟩ | fail "none"⟩
    · refine q_iconst hx hb dX0_isKey_16 ?_
      refine lv_goto (tgt := 21) hx hb dX0_isKey_17 (by decide) ?_
      exact q_ret_z hx hb hr hlocks hK hAe hw (by omega) (Nat.le_of_ble_eq_true rfl) (Nat.le_of_ble_eq_true rfl) dX0_isKey_21 ⟨rfl, rfl, by first | exact Or.inl ⟨by omega, by omega, by omega, kf.is (by omega) (by omega)⟩ | exact Or.inr ⟨by omega, fun z => kf.isno (by omega) (by omega) z.2.2⟩ | exact Or.inr ⟨by omega, fun z => by omega⟩ | fail "none"⟩
set_option maxHeartbeats 4000000 in
set_option maxRecDepth 100000 in
theorem c_X0_lastOfTimes_f {Z : Zt} (zo : Zok Z) (l : Launch) (D : va_G) (cy : Cy) (L0 : List Nat) (f0 : Nat → va_E) (a0 : Nat) (m_a0 : a0 ∈ L0) (o_a0 : Ob f0 a0 0) (hg : GI cy L0 f0) (r0 : Nat) (er : fR f0 a0 3 = some r0) (kk : Int) (nn : Int) (ss : Int) (vv : Int) (ww : Int) (rk : RuK f0 r0 kk nn ss vv ww) (low : Int) (lw : ss ≤ low) (f7 : Fst (onK kk nn ss vv ww) low (fI f0 a0 7)) (t1 : 1 ≤ fI f0 a0 5) (t2 : fI f0 a0 5 ≤ 999) : Ci Z l yX0_lastOfTimes (Cond.code yX0_lastOfTimes cX0_lastOfTimes 4 (some .int) :: TB) ({ frames := 3, cells := 0, slots := 0, locals := 69 } : Room) 0 0 D (tq cy) [.ref a0] L0 f0 (fun (r : Int) (L1 : List Nat) (f1 : Nat → va_E) => L0 = L1 ∧ f0 = f1 ∧ (LO5 (onK kk nn ss vv ww) low (fI f0 a0 7) (fI f0 a0 5) r)) := by
  refine Ci.enter (cc := cX0_lastOfTimes) (n := 4) rfl (plainFor_of_name (by decide)) (Nat.le_of_ble_eq_true rfl) ?_
  intro p e s m below meth c ls A hx hb hr hts hown hlocks hnm hml hK hA hAe hw hZ hl
  have hown : s.vm.findClass RX0 = some m.cls := hown
  have hl : lv_has ls 4 [(0, .ref a0)] := hl
  have hN : ZN s := (zo.2.2.2.2 _ _ _ hZ).2
  have sb := rk.st
  refine lv_aload_n hx hb dX0_lastOfTimes_0 rfl (lv_at hl 0 rfl) ?_
  refine q_geti (ci := 0) (C := RX0) (T := TX0) (N := 15) hx hb hts (fun w h => List.mem_cons_of_mem _ (mfX00 w h)) hown hK hw m_a0 o_a0 rfl 7 (by decide) (hts _ (List.mem_cons_of_mem _ (mr14 _ (List.mem_of_getElem? (i := 20) rfl)))) (fun _ h => h) rfl dX0_lastOfTimes_1 (fun x_1 lx_1 ux_1 ex_1 => ?_)
  refine lv_istore_n (lv' := [(1, .int (iI x_1)), (0, .ref a0)]) hx hb dX0_lastOfTimes_4 rfl hl (by decide) rfl (fun ls hl => ?_)
  refine q_iconst hx hb dX0_lastOfTimes_5 ?_
  refine lv_istore_n (lv' := [(2, .int (iI 1)), (1, .int (iI x_1)), (0, .ref a0)]) hx hb dX0_lastOfTimes_6 rfl hl (by decide) rfl (fun ls hl => ?_)
  have J7 : ∀ (n7 : Nat) (y1_7 : Int) (ly1_7 : -2147483648 ≤ y1_7) (uy1_7 : y1_7 ≤ 2147483647) (y2_7 : Int) (ly2_7 : -2147483648 ≤ y2_7) (uy2_7 : y2_7 ≤ 2147483647) (i1 : 1 ≤ y2_7) (i2 : y2_7 ≤ fI f0 a0 5) (i3 : LT5 (onK kk nn ss vv ww) low (fI f0 a0 7) y1_7 y2_7) (hn7 : ((2147483647 : Int) - y2_7).toNat < n7) (H : Heap) (locs : List Loc) (ls : Array Slot) (hw : Wd D A s.heap L0 f0 H locs) (hl : lv_has ls 4 [(0, .ref a0), (1, .int (iI y1_7)), (2, .int (iI y2_7))]), W p l e ({ frames := 3, cells := 0, slots := 0, locals := 69 } : Room) s m ([.ref a0] : List Value).toArray below meth c H locs (0) (0) (MQ below (Qi D (tq cy) L0 f0 s.heap.size (fun (r : Int) (L1 : List Nat) (f1 : Nat → va_E) => L0 = L1 ∧ f0 = f1 ∧ (LO5 (onK kk nn ss vv ww) low (fI f0 a0 7) (fI f0 a0 5) r))) ([.ref a0] : List Value).toArray s 0 0 A) (F0 m 7 ls []) := by
    intro n7
    induction n7 with
    | zero => intro y1_7 ly1_7 uy1_7 y2_7 ly2_7 uy2_7 i1 i2 i3 hn7; exact absurd hn7 (Nat.not_lt_zero _)
    | succ n7 ih7 =>
      intro y1_7 ly1_7 uy1_7 y2_7 ly2_7 uy2_7 i1 i2 i3 hn7 H locs ls hw hl
      have i4 := i3.b
      refine lv_iload_n hx hb dX0_lastOfTimes_7 rfl (lv_at hl 2 rfl) ?_
      refine lv_aload_n hx hb dX0_lastOfTimes_8 rfl (lv_at hl 0 rfl) ?_
      refine q_geti (ci := 0) (C := RX0) (T := TX0) (N := 15) hx hb hts (fun w h => List.mem_cons_of_mem _ (mfX00 w h)) hown hK hw m_a0 o_a0 rfl 5 (by decide) (hts _ (List.mem_cons_of_mem _ (mr14 _ (List.mem_of_getElem? (i := 8) rfl)))) (fun _ h => h) rfl dX0_lastOfTimes_9 (fun x_2 lx_2 ux_2 ex_2 => ?_)
      refine q_icmp_ge (tgt := 46) hx hb dX0_lastOfTimes_12 (by decide) ⟨ly2_7, uy2_7⟩ ⟨lx_2, ux_2⟩ (fun c12 => ?_) (fun c12 => ?_)
      · refine lv_iload_n hx hb dX0_lastOfTimes_46 rfl (lv_at hl 1 rfl) ?_
        exact q_ret_i hx hb hr hlocks hK hAe hw ⟨ly1_7, uy1_7⟩ (Nat.le_of_ble_eq_true rfl) (Nat.le_of_ble_eq_true rfl) dX0_lastOfTimes_47 ⟨rfl, rfl, by exact i3.out (by omega) (by omega)⟩
      · refine lv_iload_n hx hb dX0_lastOfTimes_15 rfl (lv_at hl 1 rfl) ?_
        refine q_iconst hx hb dX0_lastOfTimes_16 ?_
        refine q_icmp_eq (tgt := 46) hx hb dX0_lastOfTimes_17 (by decide) ⟨ly1_7, uy1_7⟩ ⟨by decide, by decide⟩ (fun c17 => ?_) (fun c17 => ?_)
        · refine lv_iload_n hx hb dX0_lastOfTimes_46 rfl (lv_at hl 1 rfl) ?_
          exact q_ret_i hx hb hr hlocks hK hAe hw ⟨ly1_7, uy1_7⟩ (Nat.le_of_ble_eq_true rfl) (Nat.le_of_ble_eq_true rfl) dX0_lastOfTimes_47 ⟨rfl, rfl, by exact i3.out (by omega) (by omega)⟩
        · refine lv_aload_n hx hb dX0_lastOfTimes_20 rfl (lv_at hl 0 rfl) ?_
          obtain ⟨r_3, er_3, m_r_3, o_r_3⟩ := (show ∃ r, fR f0 a0 3 = some r ∧ r ∈ L0 ∧ Rl f0 r from hg.2.1 _ m_a0 0 3 o_a0)
          refine q_getr (ci := 0) (C := RX0) (T := TX0) (N := 15) hx hb hts (fun w h => List.mem_cons_of_mem _ (mfX00 w h)) hown hK hw m_a0 o_a0 rfl 3 (by decide) (hts _ (List.mem_cons_of_mem _ (mr3 _ (List.mem_of_getElem? (i := 4) rfl)))) (fun _ h => h) rfl er_3 dX0_lastOfTimes_21 ?_
          refine lv_iload_n hx hb dX0_lastOfTimes_24 rfl (lv_at hl 1 rfl) ?_
          refine q_iconst hx hb dX0_lastOfTimes_25 ?_
          first | refine q_iadd hx hb dX0_lastOfTimes_26 ⟨by omega, by omega⟩ (fun x_4 lx_4 ux_4 ex_4 => ?_) | refine q_iaddw hx hb dX0_lastOfTimes_26 (fun x_4 lx_4 ux_4 _ => ?_)
          have K27 : ∀ (x_5 : Int) (lx_5 : -2147483648 ≤ x_5) (ux_5 : x_5 ≤ 2147483647) (ex_5 : Fst (onK kk nn ss vv ww) x_4 x_5) (H : Heap) (locs : List Loc) (hw : Wd D A s.heap L0 f0 H locs), W p l e ({ frames := 3, cells := 0, slots := 0, locals := 69 } : Room) s m ([.ref a0] : List Value).toArray below meth c H locs (0) (0) (MQ below (Qi D (tq cy) L0 f0 s.heap.size (fun (r : Int) (L1 : List Nat) (f1 : Nat → va_E) => L0 = L1 ∧ f0 = f1 ∧ (LO5 (onK kk nn ss vv ww) low (fI f0 a0 7) (fI f0 a0 5) r))) ([.ref a0] : List Value).toArray s 0 0 A) (F0 m 30 ls (.int (iI x_5) :: [])) := by
            intro x_5 lx_5 ux_5 ex_5 H locs hw
            have d27 := ex_5
            refine lv_istore_n (lv' := [(3, .int (iI x_5)), (0, .ref a0), (1, .int (iI y1_7)), (2, .int (iI y2_7))]) hx hb dX0_lastOfTimes_30 rfl hl (by decide) rfl (fun ls hl => ?_)
            refine lv_iload_n hx hb dX0_lastOfTimes_31 rfl (lv_at hl 0 rfl) ?_
            refine q_iconst hx hb dX0_lastOfTimes_32 ?_
            refine q_icmp_ne (tgt := 38) hx hb dX0_lastOfTimes_33 (by decide) ⟨lx_5, ux_5⟩ ⟨by decide, by decide⟩ (fun c33 => ?_) (fun c33 => ?_)
            · refine lv_iload_n hx hb dX0_lastOfTimes_38 rfl (lv_at hl 0 rfl) ?_
              refine lv_istore_n (lv' := [(1, .int (iI x_5)), (3, .int (iI x_5)), (0, .ref a0), (2, .int (iI y2_7))]) hx hb dX0_lastOfTimes_39 rfl hl (by decide) rfl (fun ls hl => ?_)
              obtain ⟨x_6, lx_6, ux_6, hx_6, ex_6⟩ := q_inc y2_7 (1)
              try (replace ex_6 : x_6 = y2_7 + (1) := by omega)
              refine lv_iinc (v := iI x_6) (lv' := [(2, .int (iI x_6)), (1, .int (iI x_5)), (3, .int (iI x_5)), (0, .ref a0)]) hx hb dX0_lastOfTimes_40 hl (k := 3) rfl hx_6 (by decide) rfl (fun ls hl => ?_)
              refine lv_goto (tgt := 7) hx hb dX0_lastOfTimes_43 (by decide) ?_
              exact ih7 x_5 lx_5 ux_5 x_6 lx_6 ux_6 (by omega) (by omega) (by first | exact LT5.start f7 (by omega) | exact i3.step (by omega) d27 (by omega) (by omega) (by omega) | fail "none") (by omega) _ _ _ hw (lv_sub hl [3, 1, 0] rfl)
            · refine lv_iload_n hx hb dX0_lastOfTimes_36 rfl (lv_at hl 2 rfl) ?_
              exact q_ret_i hx hb hr hlocks hK hAe hw ⟨ly1_7, uy1_7⟩ (Nat.le_of_ble_eq_true rfl) (Nat.le_of_ble_eq_true rfl) dX0_lastOfTimes_37 ⟨rfl, rfl, by exact i3.stop (by omega) (by omega) d27 (by omega) (by omega) (by omega)⟩
          rcases o_r_3 with o9 | o9 | o9 | o9
          · refine q_call_i hA hK hw (va_runU (As := [.int (iI x_4)]) (rest := []) ⟨hx, hb, hml, hown, hts⟩ (c_X2_dayFrom_f zo l D cy L0 f0 r_3 x_4 lx_4 ux_4 m_r_3 o9 hg kk nn ss vv ww (by have z9 := Option.some.inj (er_3.symm.trans er); rw [z9]; exact rk) (by omega) (by omega) _) (va_cwA 1 hts (gT (inU (mr14 _ (List.mem_of_getElem? (i := 23) rfl)) (mr15 _ (List.mem_of_getElem? (i := 0) rfl)) (mr15 _ (List.mem_of_getElem? (i := 1) rfl)) (mr15 _ (List.mem_of_getElem? (i := 2) rfl)) (mr12 _ (List.mem_of_getElem? (i := 12) rfl)) (mr15 _ (List.mem_of_getElem? (i := 3) rfl)))) rfl rfl rfl (hN _ (List.mem_of_getElem? (i := 15) rfl)) (by decide +kernel) ⟨Nat.le_of_ble_eq_true rfl, Nat.le_of_ble_eq_true rfl⟩) (Wd.preV zo hA hZ hw hK m_r_3 o9 rfl) rfl rfl hl.1 rfl (lv_room (Nat.le_of_ble_eq_true rfl)) dX0_lastOfTimes_27 ⟨Nat.le_of_ble_eq_true rfl, Nat.le_of_ble_eq_true rfl⟩) (fun x_5 L1 f1 H locs lx_5 ux_5 ex_5 hw => ?_)
            obtain ⟨rfl, rfl, ex_5⟩ := ex_5
            exact K27 x_5 lx_5 ux_5 ex_5 H locs hw
          · refine q_call_i hA hK hw (va_runU (As := [.int (iI x_4)]) (rest := []) ⟨hx, hb, hml, hown, hts⟩ (c_X3_dayFrom_f zo l D cy L0 f0 r_3 x_4 lx_4 ux_4 m_r_3 o9 hg kk nn ss vv ww (by have z9 := Option.some.inj (er_3.symm.trans er); rw [z9]; exact rk) (by omega) (by omega) _) (va_cwA 1 hts (gT (inU (mr14 _ (List.mem_of_getElem? (i := 23) rfl)) (mr15 _ (List.mem_of_getElem? (i := 0) rfl)) (mr15 _ (List.mem_of_getElem? (i := 7) rfl)) (mr15 _ (List.mem_of_getElem? (i := 8) rfl)) (mr12 _ (List.mem_of_getElem? (i := 18) rfl)) (mr15 _ (List.mem_of_getElem? (i := 9) rfl)))) rfl rfl rfl (hN _ (List.mem_of_getElem? (i := 15) rfl)) (by decide +kernel) ⟨Nat.le_of_ble_eq_true rfl, Nat.le_of_ble_eq_true rfl⟩) (Wd.preV zo hA hZ hw hK m_r_3 o9 rfl) rfl rfl hl.1 rfl (lv_room (Nat.le_of_ble_eq_true rfl)) dX0_lastOfTimes_27 ⟨Nat.le_of_ble_eq_true rfl, Nat.le_of_ble_eq_true rfl⟩) (fun x_5 L1 f1 H locs lx_5 ux_5 ex_5 hw => ?_)
            obtain ⟨rfl, rfl, ex_5⟩ := ex_5
            exact K27 x_5 lx_5 ux_5 ex_5 H locs hw
          · refine q_call_i hA hK hw (va_runU (As := [.int (iI x_4)]) (rest := []) ⟨hx, hb, hml, hown, hts⟩ (c_X4_dayFrom_f zo l D cy L0 f0 r_3 x_4 lx_4 ux_4 m_r_3 o9 hg kk nn ss vv ww (by have z9 := Option.some.inj (er_3.symm.trans er); rw [z9]; exact rk) (by omega) (by omega) _) (va_cwA 1 hts (gT (inU (mr14 _ (List.mem_of_getElem? (i := 23) rfl)) (mr15 _ (List.mem_of_getElem? (i := 0) rfl)) (mr15 _ (List.mem_of_getElem? (i := 22) rfl)) (mr15 _ (List.mem_of_getElem? (i := 23) rfl)) (mr2 _ (List.mem_of_getElem? (i := 7) rfl)) (mr16 _ (List.mem_of_getElem? (i := 0) rfl)))) rfl rfl rfl (hN _ (List.mem_of_getElem? (i := 15) rfl)) (by decide +kernel) ⟨Nat.le_of_ble_eq_true rfl, Nat.le_of_ble_eq_true rfl⟩) (Wd.preV zo hA hZ hw hK m_r_3 o9 rfl) rfl rfl hl.1 rfl (lv_room (Nat.le_of_ble_eq_true rfl)) dX0_lastOfTimes_27 ⟨Nat.le_of_ble_eq_true rfl, Nat.le_of_ble_eq_true rfl⟩) (fun x_5 L1 f1 H locs lx_5 ux_5 ex_5 hw => ?_)
            obtain ⟨rfl, rfl, ex_5⟩ := ex_5
            exact K27 x_5 lx_5 ux_5 ex_5 H locs hw
          · refine q_call_i hA hK hw (va_runU (As := [.int (iI x_4)]) (rest := []) ⟨hx, hb, hml, hown, hts⟩ (c_X8_dayFrom_f zo l D cy L0 f0 r_3 x_4 lx_4 ux_4 m_r_3 o9 hg kk nn ss vv ww (by have z9 := Option.some.inj (er_3.symm.trans er); rw [z9]; exact rk) (by omega) (by omega) _) (va_cwA 1 hts (gT (inU (mr14 _ (List.mem_of_getElem? (i := 23) rfl)) (mr15 _ (List.mem_of_getElem? (i := 0) rfl)) (mr16 _ (List.mem_of_getElem? (i := 3) rfl)) (mr16 _ (List.mem_of_getElem? (i := 4) rfl)) (mr12 _ (List.mem_of_getElem? (i := 15) rfl)) (mr16 _ (List.mem_of_getElem? (i := 5) rfl)))) rfl rfl rfl (hN _ (List.mem_of_getElem? (i := 15) rfl)) (by decide +kernel) ⟨Nat.le_of_ble_eq_true rfl, Nat.le_of_ble_eq_true rfl⟩) (Wd.preV zo hA hZ hw hK m_r_3 o9 rfl) rfl rfl hl.1 rfl (lv_room (Nat.le_of_ble_eq_true rfl)) dX0_lastOfTimes_27 ⟨Nat.le_of_ble_eq_true rfl, Nat.le_of_ble_eq_true rfl⟩) (fun x_5 L1 f1 H locs lx_5 ux_5 ex_5 hw => ?_)
            obtain ⟨rfl, rfl, ex_5⟩ := ex_5
            exact K27 x_5 lx_5 ux_5 ex_5 H locs hw
  exact J7 ((((2147483647 : Int) - 1).toNat) + 1) x_1 lx_1 ux_1 1 (by decide) (by decide) (by omega) (by omega) (by first | exact LT5.start f7 (by omega) | exact i3.step (by omega) d27 (by omega) (by omega) (by omega) | fail "none") (by omega) _ _ _ hw (lv_sub hl [2, 1, 0] rfl)
set_option maxHeartbeats 4000000 in
set_option maxRecDepth 100000 in
theorem c_X0_settle_f {Z : Zt} (zo : Zok Z) (l : Launch) (D : va_G) (cy : Cy) (L0 : List Nat) (f0 : Nat → va_E) (a0 : Nat) (m_a0 : a0 ∈ L0) (o_a0 : Ob f0 a0 0) (hg : GI cy L0 f0) (r0 : Nat) (er0 : fR f0 a0 3 = some r0) (kk : Int) (nn : Int) (ss : Int) (vv : Int) (ww : Int) (rk0 : RuK f0 r0 kk nn ss vv ww) (ub : fI f0 a0 4 = -1 ∨ (ss ≤ fI f0 a0 4 ∧ fI f0 a0 4 ≤ 36524)) (tb : fI f0 a0 5 = -1 ∨ (1 ≤ fI f0 a0 5 ∧ fI f0 a0 5 ≤ 999 ∧ fI f0 a0 4 = -1)) (lw : ss ≤ fI f0 a0 6) (lw2 : fI f0 a0 6 ≤ 36524) : Cv Z l yX0_settle (Cond.code yX0_settle cX0_settle 2 none :: TB) ({ frames := 4, cells := 0, slots := 0, locals := 92 } : Room) 0 0 D (tq cy) [.ref a0] L0 f0 (fun (L1 : List Nat) (f1 : Nat → va_E) => L0 = L1 ∧ GI cy L0 f1 ∧ Ex cy f0 f1 ∧ (SeT f0 f1 a0 ∧ Bd (Ky (onK kk nn ss vv ww) (fI f0 a0 6) (HI (fI f0 a0 4)) (fI f0 a0 5)) (fI f1 a0 7) (fI f1 a0 8) ∧ fI f1 a0 9 = cn (Ky (onK kk nn ss vv ww) (fI f0 a0 6) (HI (fI f0 a0 4)) (fI f0 a0 5)) 0 36525)) := by
  refine Cv.enter (cc := cX0_settle) (n := 2) rfl (plainFor_of_name (by decide)) (Nat.le_of_ble_eq_true rfl) ?_
  intro p e s m below meth c ls A hx hb hr hts hown hlocks hnm hml hK hA hAe hw hZ hl
  have hown : s.vm.findClass RX0 = some m.cls := hown
  have hl : lv_has ls 2 [(0, .ref a0)] := hl
  have hN : ZN s := (zo.2.2.2.2 _ _ _ hZ).2
  have hE : Ex cy f0 f0 := Ex.refl cy f0
  have er := er0
  have rk := rk0
  have sb := rk0.st
  have ob0 := o_a0
  have fr := SeT.refl f0 a0
  have hh : ss ≤ HI (fI f0 a0 4) ∧ HI (fI f0 a0 4) ≤ 36524 := by unfold HI; split <;> omega
  refine lv_aload_n hx hb dX0_settle_0 rfl (lv_at hl 0 rfl) ?_
  refine q_geti (ci := 0) (C := RX0) (T := TX0) (N := 15) hx hb hts (fun w h => List.mem_cons_of_mem _ (mfX00 w h)) hown hK hw m_a0 o_a0 rfl 4 (by decide) (hts _ (List.mem_cons_of_mem _ (mr14 _ (List.mem_of_getElem? (i := 7) rfl)))) (fun _ h => h) rfl dX0_settle_1 (fun x_1 lx_1 ux_1 ex_1 => ?_)
  refine q_iconst hx hb dX0_settle_4 ?_
  have J17 : ∀ (w0_17 : Int) (lw0_17 : -2147483648 ≤ w0_17) (uw0_17 : w0_17 ≤ 2147483647) (k1 : w0_17 = HI (fI f0 a0 4)) (H : Heap) (locs : List Loc) (ls : Array Slot) (hw : Wd D A s.heap L0 f0 H locs) (hl : lv_has ls 2 [(0, .ref a0)]), W p l e ({ frames := 4, cells := 0, slots := 0, locals := 92 } : Room) s m ([.ref a0] : List Value).toArray below meth c H locs (0) (0) (MQ below (Qv D (tq cy) L0 f0 s.heap.size (fun (L1 : List Nat) (f1 : Nat → va_E) => L0 = L1 ∧ GI cy L0 f1 ∧ Ex cy f0 f1 ∧ (SeT f0 f1 a0 ∧ Bd (Ky (onK kk nn ss vv ww) (fI f0 a0 6) (HI (fI f0 a0 4)) (fI f0 a0 5)) (fI f1 a0 7) (fI f1 a0 8) ∧ fI f1 a0 9 = cn (Ky (onK kk nn ss vv ww) (fI f0 a0 6) (HI (fI f0 a0 4)) (fI f0 a0 5)) 0 36525))) ([.ref a0] : List Value).toArray s 0 0 A) (F0 m 17 ls [.int (iI w0_17)]) := by
    intro w0_17 lw0_17 uw0_17 k1 H locs ls hw hl
    refine lv_istore_n (lv' := [(1, .int (iI w0_17)), (0, .ref a0)]) hx hb dX0_settle_17 rfl hl (by decide) rfl (fun ls hl => ?_)
    refine lv_aload_n hx hb dX0_settle_18 rfl (lv_at hl 1 rfl) ?_
    refine lv_aload_n hx hb dX0_settle_19 rfl (lv_at hl 1 rfl) ?_
    obtain ⟨r_2, er_2, m_r_2, o_r_2⟩ := (show ∃ r, fR f0 a0 3 = some r ∧ r ∈ L0 ∧ Rl f0 r from hg.2.1 _ m_a0 0 3 o_a0)
    refine q_getr (ci := 0) (C := RX0) (T := TX0) (N := 15) hx hb hts (fun w h => List.mem_cons_of_mem _ (mfX00 w h)) hown hK hw m_a0 o_a0 rfl 3 (by decide) (hts _ (List.mem_cons_of_mem _ (mr3 _ (List.mem_of_getElem? (i := 4) rfl)))) (fun _ h => h) rfl er_2 dX0_settle_20 ?_
    refine lv_aload_n hx hb dX0_settle_23 rfl (lv_at hl 1 rfl) ?_
    refine q_geti (ci := 0) (C := RX0) (T := TX0) (N := 15) hx hb hts (fun w h => List.mem_cons_of_mem _ (mfX00 w h)) hown hK hw m_a0 o_a0 rfl 6 (by decide) (hts _ (List.mem_cons_of_mem _ (mr14 _ (List.mem_of_getElem? (i := 6) rfl)))) (fun _ h => h) rfl dX0_settle_24 (fun x_3 lx_3 ux_3 ex_3 => ?_)
    have K27 : ∀ (x_4 : Int) (lx_4 : -2147483648 ≤ x_4) (ux_4 : x_4 ≤ 2147483647) (ex_4 : Fst (onK kk nn ss vv ww) x_3 x_4) (H : Heap) (locs : List Loc) (hw : Wd D A s.heap L0 f0 H locs), W p l e ({ frames := 4, cells := 0, slots := 0, locals := 92 } : Room) s m ([.ref a0] : List Value).toArray below meth c H locs (0) (0) (MQ below (Qv D (tq cy) L0 f0 s.heap.size (fun (L1 : List Nat) (f1 : Nat → va_E) => L0 = L1 ∧ GI cy L0 f1 ∧ Ex cy f0 f1 ∧ (SeT f0 f1 a0 ∧ Bd (Ky (onK kk nn ss vv ww) (fI f0 a0 6) (HI (fI f0 a0 4)) (fI f0 a0 5)) (fI f1 a0 7) (fI f1 a0 8) ∧ fI f1 a0 9 = cn (Ky (onK kk nn ss vv ww) (fI f0 a0 6) (HI (fI f0 a0 4)) (fI f0 a0 5)) 0 36525))) ([.ref a0] : List Value).toArray s 0 0 A) (F0 m 30 ls (.int (iI x_4) :: [.ref a0])) := by
      intro x_4 lx_4 ux_4 ex_4 H locs hw
      have d27 := ex_4
      refine q_puti (ci := 0) (C := RX0) (T := TX0) (N := 15) hx hb hts (fun w h => List.mem_cons_of_mem _ (mfX00 w h)) hown hK hw m_a0 o_a0 rfl 7 (by decide) (hts _ (List.mem_cons_of_mem _ (mr14 _ (List.mem_of_getElem? (i := 20) rfl)))) (fun _ h => h) tyX0 tyX0_ok nmX0 rfl (ty := .int) (by decide +kernel) rfl rfl dX0_settle_30 (fun H locs hw => ?_)
      have oo := o_a0
      obtain ⟨f_5, ef_5⟩ : ∃ g : Nat → va_E, g = pU f0 a0 7 (.int (iI x_4)) := ⟨_, rfl⟩
      have hX : Ex cy f0 f_5 := by rw [ef_5]; exact Ex_pU oo rfl rfl (by decide)
      have hg : GI cy L0 f_5 := by rw [ef_5]; exact hg.putI oo rfl ⟨lx_4, ux_4⟩ trivial
      rw [← ef_5] at hw
      have hE := hE.trans hX
      have o_a0 := hX.1.1 _ _ o_a0
      have t_a0_8_f_5 : fI f_5 a0 8 = fI f0 a0 8 := by rw [ef_5]; exact fI_pU (Or.inr (by decide))
      have vf_5 : fI f_5 a0 7 = x_4 := by rw [ef_5]; exact fI_pU_self oo rfl ⟨lx_4, ux_4⟩
      have fr : SeT f0 f_5 a0 := fr.put ef_5 (by decide)
      have er := fr.er er0
      have rk := fr.rk rk0 ob0
      have w4 : fI f_5 a0 4 = fI f0 a0 4 := fr.int (by decide) (by decide) (by decide)
      have w5 : fI f_5 a0 5 = fI f0 a0 5 := fr.int (by decide) (by decide) (by decide)
      have w6 : fI f_5 a0 6 = fI f0 a0 6 := fr.int (by decide) (by decide) (by decide)
      have p7 : Fst (onK kk nn ss vv ww) (fI f0 a0 6) (fI f_5 a0 7) := by rw [vf_5]; exact d27.arg (by omega)
      refine lv_aload_n hx hb dX0_settle_33 rfl (lv_at hl 1 rfl) ?_
      refine lv_aload_n hx hb dX0_settle_34 rfl (lv_at hl 1 rfl) ?_
      refine q_geti (ci := 0) (C := RX0) (T := TX0) (N := 15) hx hb hts (fun w h => List.mem_cons_of_mem _ (mfX00 w h)) hown hK hw m_a0 o_a0 rfl 5 (by decide) (hts _ (List.mem_cons_of_mem _ (mr14 _ (List.mem_of_getElem? (i := 8) rfl)))) (fun _ h => h) rfl dX0_settle_35 (fun x_6 lx_6 ux_6 ex_6 => ?_)
      refine q_iconst hx hb dX0_settle_38 ?_
      have J57 : ∀ (w0_57 : Int) (lw0_57 : -2147483648 ≤ w0_57) (uw0_57 : w0_57 ≤ 2147483647) (p8 : SE (onK kk nn ss vv ww) (fI f0 a0 6) (fI f0 a0 4) (fI f0 a0 5) (fI f_5 a0 7) w0_57) (H : Heap) (locs : List Loc) (ls : Array Slot) (hw : Wd D A s.heap L0 f_5 H locs) (hl : lv_has ls 2 [(0, .ref a0)]), W p l e ({ frames := 4, cells := 0, slots := 0, locals := 92 } : Room) s m ([.ref a0] : List Value).toArray below meth c H locs (0) (0) (MQ below (Qv D (tq cy) L0 f0 s.heap.size (fun (L1 : List Nat) (f1 : Nat → va_E) => L0 = L1 ∧ GI cy L0 f1 ∧ Ex cy f0 f1 ∧ (SeT f0 f1 a0 ∧ Bd (Ky (onK kk nn ss vv ww) (fI f0 a0 6) (HI (fI f0 a0 4)) (fI f0 a0 5)) (fI f1 a0 7) (fI f1 a0 8) ∧ fI f1 a0 9 = cn (Ky (onK kk nn ss vv ww) (fI f0 a0 6) (HI (fI f0 a0 4)) (fI f0 a0 5)) 0 36525))) ([.ref a0] : List Value).toArray s 0 0 A) (F0 m 57 ls [.int (iI w0_57), .ref a0]) := by
        intro w0_57 lw0_57 uw0_57 p8 H locs ls hw hl
        refine q_puti (ci := 0) (C := RX0) (T := TX0) (N := 15) hx hb hts (fun w h => List.mem_cons_of_mem _ (mfX00 w h)) hown hK hw m_a0 o_a0 rfl 8 (by decide) (hts _ (List.mem_cons_of_mem _ (mr14 _ (List.mem_of_getElem? (i := 21) rfl)))) (fun _ h => h) tyX0 tyX0_ok nmX0 rfl (ty := .int) (by decide +kernel) rfl rfl dX0_settle_57 (fun H locs hw => ?_)
        have oo := o_a0
        obtain ⟨f_7, ef_7⟩ : ∃ g : Nat → va_E, g = pU f_5 a0 8 (.int (iI w0_57)) := ⟨_, rfl⟩
        have hX : Ex cy f_5 f_7 := by rw [ef_7]; exact Ex_pU oo rfl rfl (by decide)
        have hg : GI cy L0 f_7 := by rw [ef_7]; exact hg.putI oo rfl ⟨lw0_57, uw0_57⟩ trivial
        rw [← ef_7] at hw
        have hE := hE.trans hX
        have o_a0 := hX.1.1 _ _ o_a0
        have t_a0_7_f_7 : fI f_7 a0 7 = fI f_5 a0 7 := by rw [ef_7]; exact fI_pU (Or.inr (by decide))
        have vf_7 : fI f_7 a0 8 = w0_57 := by rw [ef_7]; exact fI_pU_self oo rfl ⟨lw0_57, uw0_57⟩
        have fr : SeT f0 f_7 a0 := fr.put ef_7 (by decide)
        have er := fr.er er0
        have rk := fr.rk rk0 ob0
        have w4 : fI f_7 a0 4 = fI f0 a0 4 := fr.int (by decide) (by decide) (by decide)
        have w5 : fI f_7 a0 5 = fI f0 a0 5 := fr.int (by decide) (by decide) (by decide)
        have w6 : fI f_7 a0 6 = fI f0 a0 6 := fr.int (by decide) (by decide) (by decide)
        have p7 : Fst (onK kk nn ss vv ww) (fI f0 a0 6) (fI f_7 a0 7) := by rw [t_a0_7_f_7]; exact p7
        have p8 : SE (onK kk nn ss vv ww) (fI f0 a0 6) (fI f0 a0 4) (fI f0 a0 5) (fI f_7 a0 7) (fI f_7 a0 8) := by rw [t_a0_7_f_7, vf_7]; exact p8
        refine lv_aload_n hx hb dX0_settle_60 rfl (lv_at hl 0 rfl) ?_
        refine q_geti (ci := 0) (C := RX0) (T := TX0) (N := 15) hx hb hts (fun w h => List.mem_cons_of_mem _ (mfX00 w h)) hown hK hw m_a0 o_a0 rfl 7 (by decide) (hts _ (List.mem_cons_of_mem _ (mr14 _ (List.mem_of_getElem? (i := 20) rfl)))) (fun _ h => h) rfl dX0_settle_61 (fun x_8 lx_8 ux_8 ex_8 => ?_)
        refine q_iconst hx hb dX0_settle_64 ?_
        have J79 : ∀ (bn : Bd (Ky (onK kk nn ss vv ww) (fI f0 a0 6) (HI (fI f0 a0 4)) (fI f0 a0 5)) (-1) (-1)) (H : Heap) (locs : List Loc) (ls : Array Slot) (hw : Wd D A s.heap L0 f_7 H locs) (hl : lv_has ls 2 [(0, .ref a0)]), W p l e ({ frames := 4, cells := 0, slots := 0, locals := 92 } : Room) s m ([.ref a0] : List Value).toArray below meth c H locs (0) (0) (MQ below (Qv D (tq cy) L0 f0 s.heap.size (fun (L1 : List Nat) (f1 : Nat → va_E) => L0 = L1 ∧ GI cy L0 f1 ∧ Ex cy f0 f1 ∧ (SeT f0 f1 a0 ∧ Bd (Ky (onK kk nn ss vv ww) (fI f0 a0 6) (HI (fI f0 a0 4)) (fI f0 a0 5)) (fI f1 a0 7) (fI f1 a0 8) ∧ fI f1 a0 9 = cn (Ky (onK kk nn ss vv ww) (fI f0 a0 6) (HI (fI f0 a0 4)) (fI f0 a0 5)) 0 36525))) ([.ref a0] : List Value).toArray s 0 0 A) (F0 m 79 ls []) := by
          intro bn H locs ls hw hl
          refine lv_aload_n hx hb dX0_settle_79 rfl (lv_at hl 0 rfl) ?_
          refine q_iconst hx hb dX0_settle_80 ?_
          refine q_puti (ci := 0) (C := RX0) (T := TX0) (N := 15) hx hb hts (fun w h => List.mem_cons_of_mem _ (mfX00 w h)) hown hK hw m_a0 o_a0 rfl 7 (by decide) (hts _ (List.mem_cons_of_mem _ (mr14 _ (List.mem_of_getElem? (i := 20) rfl)))) (fun _ h => h) tyX0 tyX0_ok nmX0 rfl (ty := .int) (by decide +kernel) rfl rfl dX0_settle_81 (fun H locs hw => ?_)
          have oo := o_a0
          obtain ⟨f_9, ef_9⟩ : ∃ g : Nat → va_E, g = pU f_7 a0 7 (.int (iI ((-1)))) := ⟨_, rfl⟩
          have hX : Ex cy f_7 f_9 := by rw [ef_9]; exact Ex_pU oo rfl rfl (by decide)
          have hg : GI cy L0 f_9 := by rw [ef_9]; exact hg.putI oo rfl ⟨by decide, by decide⟩ trivial
          rw [← ef_9] at hw
          have hE := hE.trans hX
          have o_a0 := hX.1.1 _ _ o_a0
          have t_a0_8_f_9 : fI f_9 a0 8 = fI f_7 a0 8 := by rw [ef_9]; exact fI_pU (Or.inr (by decide))
          have vf_9 : fI f_9 a0 7 = ((-1)) := by rw [ef_9]; exact fI_pU_self oo rfl ⟨by decide, by decide⟩
          have fr : SeT f0 f_9 a0 := fr.put ef_9 (by decide)
          have er := fr.er er0
          have rk := fr.rk rk0 ob0
          have w4 : fI f_9 a0 4 = fI f0 a0 4 := fr.int (by decide) (by decide) (by decide)
          have w5 : fI f_9 a0 5 = fI f0 a0 5 := fr.int (by decide) (by decide) (by decide)
          have w6 : fI f_9 a0 6 = fI f0 a0 6 := fr.int (by decide) (by decide) (by decide)
          have v81 := vf_9
          refine lv_aload_n hx hb dX0_settle_84 rfl (lv_at hl 0 rfl) ?_
          refine q_iconst hx hb dX0_settle_85 ?_
          refine q_puti (ci := 0) (C := RX0) (T := TX0) (N := 15) hx hb hts (fun w h => List.mem_cons_of_mem _ (mfX00 w h)) hown hK hw m_a0 o_a0 rfl 8 (by decide) (hts _ (List.mem_cons_of_mem _ (mr14 _ (List.mem_of_getElem? (i := 21) rfl)))) (fun _ h => h) tyX0 tyX0_ok nmX0 rfl (ty := .int) (by decide +kernel) rfl rfl dX0_settle_86 (fun H locs hw => ?_)
          have oo := o_a0
          obtain ⟨f_10, ef_10⟩ : ∃ g : Nat → va_E, g = pU f_9 a0 8 (.int (iI ((-1)))) := ⟨_, rfl⟩
          have hX : Ex cy f_9 f_10 := by rw [ef_10]; exact Ex_pU oo rfl rfl (by decide)
          have hg : GI cy L0 f_10 := by rw [ef_10]; exact hg.putI oo rfl ⟨by decide, by decide⟩ trivial
          rw [← ef_10] at hw
          have hE := hE.trans hX
          have o_a0 := hX.1.1 _ _ o_a0
          have t_a0_7_f_10 : fI f_10 a0 7 = fI f_9 a0 7 := by rw [ef_10]; exact fI_pU (Or.inr (by decide))
          have vf_10 : fI f_10 a0 8 = ((-1)) := by rw [ef_10]; exact fI_pU_self oo rfl ⟨by decide, by decide⟩
          have fr : SeT f0 f_10 a0 := fr.put ef_10 (by decide)
          have er := fr.er er0
          have rk := fr.rk rk0 ob0
          have w4 : fI f_10 a0 4 = fI f0 a0 4 := fr.int (by decide) (by decide) (by decide)
          have w5 : fI f_10 a0 5 = fI f0 a0 5 := fr.int (by decide) (by decide) (by decide)
          have w6 : fI f_10 a0 6 = fI f0 a0 6 := fr.int (by decide) (by decide) (by decide)
          have bd : Bd (Ky (onK kk nn ss vv ww) (fI f0 a0 6) (HI (fI f0 a0 4)) (fI f0 a0 5)) (fI f_10 a0 7) (fI f_10 a0 8) := by rw [t_a0_7_f_10, v81, vf_10]; exact bn
          have bq := bd.bq lw
          refine lv_aload_n hx hb dX0_settle_89 rfl (lv_at hl 0 rfl) ?_
          refine lv_aload_n hx hb dX0_settle_90 rfl (lv_at hl 0 rfl) ?_
          refine q_geti (ci := 0) (C := RX0) (T := TX0) (N := 15) hx hb hts (fun w h => List.mem_cons_of_mem _ (mfX00 w h)) hown hK hw m_a0 o_a0 rfl 7 (by decide) (hts _ (List.mem_cons_of_mem _ (mr14 _ (List.mem_of_getElem? (i := 20) rfl)))) (fun _ h => h) rfl dX0_settle_91 (fun x_11 lx_11 ux_11 ex_11 => ?_)
          refine q_iconst hx hb dX0_settle_94 ?_
          refine q_icmp_ne (tgt := 102) hx hb dX0_settle_95 (by decide) ⟨lx_11, ux_11⟩ ⟨by decide, by decide⟩ (fun c95 => ?_) (fun c95 => ?_)
          · refine lv_aload_n hx hb dX0_settle_102 rfl (lv_at hl 0 rfl) ?_
            obtain ⟨r_12, er_12, m_r_12, o_r_12⟩ := (show ∃ r, fR f_10 a0 3 = some r ∧ r ∈ L0 ∧ Rl f_10 r from hg.2.1 _ m_a0 0 3 o_a0)
            refine q_getr (ci := 0) (C := RX0) (T := TX0) (N := 15) hx hb hts (fun w h => List.mem_cons_of_mem _ (mfX00 w h)) hown hK hw m_a0 o_a0 rfl 3 (by decide) (hts _ (List.mem_cons_of_mem _ (mr3 _ (List.mem_of_getElem? (i := 4) rfl)))) (fun _ h => h) rfl er_12 dX0_settle_103 ?_
            refine lv_aload_n hx hb dX0_settle_106 rfl (lv_at hl 0 rfl) ?_
            refine q_geti (ci := 0) (C := RX0) (T := TX0) (N := 15) hx hb hts (fun w h => List.mem_cons_of_mem _ (mfX00 w h)) hown hK hw m_a0 o_a0 rfl 7 (by decide) (hts _ (List.mem_cons_of_mem _ (mr14 _ (List.mem_of_getElem? (i := 20) rfl)))) (fun _ h => h) rfl dX0_settle_107 (fun x_13 lx_13 ux_13 ex_13 => ?_)
            refine lv_aload_n hx hb dX0_settle_110 rfl (lv_at hl 0 rfl) ?_
            refine q_geti (ci := 0) (C := RX0) (T := TX0) (N := 15) hx hb hts (fun w h => List.mem_cons_of_mem _ (mfX00 w h)) hown hK hw m_a0 o_a0 rfl 8 (by decide) (hts _ (List.mem_cons_of_mem _ (mr14 _ (List.mem_of_getElem? (i := 21) rfl)))) (fun _ h => h) rfl dX0_settle_111 (fun x_14 lx_14 ux_14 ex_14 => ?_)
            have K114 : ∀ (x_15 : Int) (lx_15 : -2147483648 ≤ x_15) (ux_15 : x_15 ≤ 2147483647) (ex_15 : x_15 = cn (onK kk nn ss vv ww) x_13 (x_14 + 1)) (H : Heap) (locs : List Loc) (hw : Wd D A s.heap L0 f_10 H locs), W p l e ({ frames := 4, cells := 0, slots := 0, locals := 92 } : Room) s m ([.ref a0] : List Value).toArray below meth c H locs (0) (0) (MQ below (Qv D (tq cy) L0 f0 s.heap.size (fun (L1 : List Nat) (f1 : Nat → va_E) => L0 = L1 ∧ GI cy L0 f1 ∧ Ex cy f0 f1 ∧ (SeT f0 f1 a0 ∧ Bd (Ky (onK kk nn ss vv ww) (fI f0 a0 6) (HI (fI f0 a0 4)) (fI f0 a0 5)) (fI f1 a0 7) (fI f1 a0 8) ∧ fI f1 a0 9 = cn (Ky (onK kk nn ss vv ww) (fI f0 a0 6) (HI (fI f0 a0 4)) (fI f0 a0 5)) 0 36525))) ([.ref a0] : List Value).toArray s 0 0 A) (F0 m 117 ls (.int (iI x_15) :: [.ref a0])) := by
              intro x_15 lx_15 ux_15 ex_15 H locs hw
              have d114 := ex_15
              refine q_puti (ci := 0) (C := RX0) (T := TX0) (N := 15) hx hb hts (fun w h => List.mem_cons_of_mem _ (mfX00 w h)) hown hK hw m_a0 o_a0 rfl 9 (by decide) (hts _ (List.mem_cons_of_mem _ (mr14 _ (List.mem_of_getElem? (i := 22) rfl)))) (fun _ h => h) tyX0 tyX0_ok nmX0 rfl (ty := .int) (by decide +kernel) rfl rfl dX0_settle_117 (fun H locs hw => ?_)
              have oo := o_a0
              obtain ⟨f_16, ef_16⟩ : ∃ g : Nat → va_E, g = pU f_10 a0 9 (.int (iI x_15)) := ⟨_, rfl⟩
              have hX : Ex cy f_10 f_16 := by rw [ef_16]; exact Ex_pU oo rfl rfl (by decide)
              have hg : GI cy L0 f_16 := by rw [ef_16]; exact hg.putI oo rfl ⟨lx_15, ux_15⟩ trivial
              rw [← ef_16] at hw
              have hE := hE.trans hX
              have o_a0 := hX.1.1 _ _ o_a0
              have t_a0_7_f_16 : fI f_16 a0 7 = fI f_10 a0 7 := by rw [ef_16]; exact fI_pU (Or.inr (by decide))
              have t_a0_8_f_16 : fI f_16 a0 8 = fI f_10 a0 8 := by rw [ef_16]; exact fI_pU (Or.inr (by decide))
              have vf_16 : fI f_16 a0 9 = x_15 := by rw [ef_16]; exact fI_pU_self oo rfl ⟨lx_15, ux_15⟩
              have fr : SeT f0 f_16 a0 := fr.put ef_16 (by decide)
              exact q_ret_v hx hb hr hlocks hK hAe hw (Nat.le_of_ble_eq_true rfl) (Nat.le_of_ble_eq_true rfl) dX0_settle_120 (by exact ⟨rfl, hg, hE, fr, by rw [t_a0_7_f_16, t_a0_8_f_16]; exact bd, by rw [vf_16]; exact bd.total (by first | exact Or.inl ⟨by omega, by omega⟩ | exact Or.inr ⟨by omega, cn_arg d114 (by omega) (by omega)⟩ | fail "none")⟩)
            rcases o_r_12 with o9 | o9 | o9 | o9
            · refine q_call_i hA hK hw (va_runU (As := [.int (iI x_13), .int (iI x_14)]) (rest := [.ref a0]) ⟨hx, hb, hml, hown, hts⟩ (c_X2_daysIn_f zo l D cy L0 f_10 r_12 x_13 lx_13 ux_13 x_14 lx_14 ux_14 m_r_12 o9 hg kk nn ss vv ww (by have z9 := Option.some.inj (er_12.symm.trans er); rw [z9]; exact rk) (by omega) (by omega) (by omega) _) (va_cwA 2 hts (gT (inU (mr17 _ (List.mem_of_getElem? (i := 11) rfl)) (mr17 _ (List.mem_of_getElem? (i := 12) rfl)) (mr17 _ (List.mem_of_getElem? (i := 13) rfl)) (mr17 _ (List.mem_of_getElem? (i := 14) rfl)) (mr12 _ (List.mem_of_getElem? (i := 12) rfl)) (mr17 _ (List.mem_of_getElem? (i := 15) rfl)))) rfl rfl rfl (hN _ (List.mem_of_getElem? (i := 17) rfl)) (by decide +kernel) ⟨Nat.le_of_ble_eq_true rfl, Nat.le_of_ble_eq_true rfl⟩) (Wd.preV zo hA hZ hw hK m_r_12 o9 rfl) rfl rfl hl.1 rfl (lv_room (Nat.le_of_ble_eq_true rfl)) dX0_settle_114 ⟨Nat.le_of_ble_eq_true rfl, Nat.le_of_ble_eq_true rfl⟩) (fun x_15 L1 f1 H locs lx_15 ux_15 ex_15 hw => ?_)
              obtain ⟨rfl, rfl, ex_15⟩ := ex_15
              exact K114 x_15 lx_15 ux_15 ex_15 H locs hw
            · refine q_call_i hA hK hw (va_runU (As := [.int (iI x_13), .int (iI x_14)]) (rest := [.ref a0]) ⟨hx, hb, hml, hown, hts⟩ (c_X3_daysIn_f zo l D cy L0 f_10 r_12 x_13 lx_13 ux_13 x_14 lx_14 ux_14 m_r_12 o9 hg kk nn ss vv ww (by have z9 := Option.some.inj (er_12.symm.trans er); rw [z9]; exact rk) (by omega) (by omega) (by omega) _) (va_cwA 2 hts (gT (inU (mr17 _ (List.mem_of_getElem? (i := 11) rfl)) (mr17 _ (List.mem_of_getElem? (i := 12) rfl)) (mr17 _ (List.mem_of_getElem? (i := 20) rfl)) (mr17 _ (List.mem_of_getElem? (i := 21) rfl)) (mr12 _ (List.mem_of_getElem? (i := 18) rfl)) (mr17 _ (List.mem_of_getElem? (i := 22) rfl)))) rfl rfl rfl (hN _ (List.mem_of_getElem? (i := 17) rfl)) (by decide +kernel) ⟨Nat.le_of_ble_eq_true rfl, Nat.le_of_ble_eq_true rfl⟩) (Wd.preV zo hA hZ hw hK m_r_12 o9 rfl) rfl rfl hl.1 rfl (lv_room (Nat.le_of_ble_eq_true rfl)) dX0_settle_114 ⟨Nat.le_of_ble_eq_true rfl, Nat.le_of_ble_eq_true rfl⟩) (fun x_15 L1 f1 H locs lx_15 ux_15 ex_15 hw => ?_)
              obtain ⟨rfl, rfl, ex_15⟩ := ex_15
              exact K114 x_15 lx_15 ux_15 ex_15 H locs hw
            · refine q_call_i hA hK hw (va_runU (As := [.int (iI x_13), .int (iI x_14)]) (rest := [.ref a0]) ⟨hx, hb, hml, hown, hts⟩ (c_X4_daysIn_f zo l D cy L0 f_10 r_12 x_13 lx_13 ux_13 x_14 lx_14 ux_14 m_r_12 o9 hg kk nn ss vv ww (by have z9 := Option.some.inj (er_12.symm.trans er); rw [z9]; exact rk) (by omega) (by omega) (by omega) _) (va_cwA 2 hts (gT (inU (mr17 _ (List.mem_of_getElem? (i := 11) rfl)) (mr17 _ (List.mem_of_getElem? (i := 12) rfl)) (mr17 _ (List.mem_of_getElem? (i := 23) rfl)) (mr18 _ (List.mem_of_getElem? (i := 0) rfl)) (mr2 _ (List.mem_of_getElem? (i := 7) rfl)) (mr18 _ (List.mem_of_getElem? (i := 1) rfl)))) rfl rfl rfl (hN _ (List.mem_of_getElem? (i := 17) rfl)) (by decide +kernel) ⟨Nat.le_of_ble_eq_true rfl, Nat.le_of_ble_eq_true rfl⟩) (Wd.preV zo hA hZ hw hK m_r_12 o9 rfl) rfl rfl hl.1 rfl (lv_room (Nat.le_of_ble_eq_true rfl)) dX0_settle_114 ⟨Nat.le_of_ble_eq_true rfl, Nat.le_of_ble_eq_true rfl⟩) (fun x_15 L1 f1 H locs lx_15 ux_15 ex_15 hw => ?_)
              obtain ⟨rfl, rfl, ex_15⟩ := ex_15
              exact K114 x_15 lx_15 ux_15 ex_15 H locs hw
            · refine q_call_i hA hK hw (va_runU (As := [.int (iI x_13), .int (iI x_14)]) (rest := [.ref a0]) ⟨hx, hb, hml, hown, hts⟩ (c_X8_daysIn_f zo l D cy L0 f_10 r_12 x_13 lx_13 ux_13 x_14 lx_14 ux_14 m_r_12 o9 hg kk nn ss vv ww (by have z9 := Option.some.inj (er_12.symm.trans er); rw [z9]; exact rk) (by omega) (by omega) (by omega) _) (va_cwA 2 hts (gT (inU (mr17 _ (List.mem_of_getElem? (i := 11) rfl)) (mr17 _ (List.mem_of_getElem? (i := 12) rfl)) (mr18 _ (List.mem_of_getElem? (i := 2) rfl)) (mr18 _ (List.mem_of_getElem? (i := 3) rfl)) (mr12 _ (List.mem_of_getElem? (i := 15) rfl)) (mr18 _ (List.mem_of_getElem? (i := 4) rfl)))) rfl rfl rfl (hN _ (List.mem_of_getElem? (i := 17) rfl)) (by decide +kernel) ⟨Nat.le_of_ble_eq_true rfl, Nat.le_of_ble_eq_true rfl⟩) (Wd.preV zo hA hZ hw hK m_r_12 o9 rfl) rfl rfl hl.1 rfl (lv_room (Nat.le_of_ble_eq_true rfl)) dX0_settle_114 ⟨Nat.le_of_ble_eq_true rfl, Nat.le_of_ble_eq_true rfl⟩) (fun x_15 L1 f1 H locs lx_15 ux_15 ex_15 hw => ?_)
              obtain ⟨rfl, rfl, ex_15⟩ := ex_15
              exact K114 x_15 lx_15 ux_15 ex_15 H locs hw
          · refine q_iconst hx hb dX0_settle_98 ?_
            refine lv_goto (tgt := 117) hx hb dX0_settle_99 (by decide) ?_
            refine q_puti (ci := 0) (C := RX0) (T := TX0) (N := 15) hx hb hts (fun w h => List.mem_cons_of_mem _ (mfX00 w h)) hown hK hw m_a0 o_a0 rfl 9 (by decide) (hts _ (List.mem_cons_of_mem _ (mr14 _ (List.mem_of_getElem? (i := 22) rfl)))) (fun _ h => h) tyX0 tyX0_ok nmX0 rfl (ty := .int) (by decide +kernel) rfl rfl dX0_settle_117 (fun H locs hw => ?_)
            have oo := o_a0
            obtain ⟨f_17, ef_17⟩ : ∃ g : Nat → va_E, g = pU f_10 a0 9 (.int (iI 0)) := ⟨_, rfl⟩
            have hX : Ex cy f_10 f_17 := by rw [ef_17]; exact Ex_pU oo rfl rfl (by decide)
            have hg : GI cy L0 f_17 := by rw [ef_17]; exact hg.putI oo rfl ⟨by decide, by decide⟩ trivial
            rw [← ef_17] at hw
            have hE := hE.trans hX
            have o_a0 := hX.1.1 _ _ o_a0
            have t_a0_7_f_17 : fI f_17 a0 7 = fI f_10 a0 7 := by rw [ef_17]; exact fI_pU (Or.inr (by decide))
            have t_a0_8_f_17 : fI f_17 a0 8 = fI f_10 a0 8 := by rw [ef_17]; exact fI_pU (Or.inr (by decide))
            have vf_17 : fI f_17 a0 9 = 0 := by rw [ef_17]; exact fI_pU_self oo rfl ⟨by decide, by decide⟩
            have fr : SeT f0 f_17 a0 := fr.put ef_17 (by decide)
            exact q_ret_v hx hb hr hlocks hK hAe hw (Nat.le_of_ble_eq_true rfl) (Nat.le_of_ble_eq_true rfl) dX0_settle_120 (by exact ⟨rfl, hg, hE, fr, by rw [t_a0_7_f_17, t_a0_8_f_17]; exact bd, by rw [vf_17]; exact bd.total (by first | exact Or.inl ⟨by omega, by omega⟩ | exact Or.inr ⟨by omega, cn_arg d114 (by omega) (by omega)⟩ | fail "none")⟩)
        have J89 : ∀ (L : List Nat) (fw89 : Nat → va_E) (hg : GI cy L0 fw89) (hE : Ex cy f0 fw89) (o_a0 : Ob fw89 a0 0) (fr : SeT f0 fw89 a0) (bd : Bd (Ky (onK kk nn ss vv ww) (fI f0 a0 6) (HI (fI f0 a0 4)) (fI f0 a0 5)) (fI fw89 a0 7) (fI fw89 a0 8)) (H : Heap) (locs : List Loc) (ls : Array Slot) (hw : Wd D A s.heap L0 fw89 H locs) (hl : lv_has ls 2 [(0, .ref a0)]), W p l e ({ frames := 4, cells := 0, slots := 0, locals := 92 } : Room) s m ([.ref a0] : List Value).toArray below meth c H locs (0) (0) (MQ below (Qv D (tq cy) L0 f0 s.heap.size (fun (L1 : List Nat) (f1 : Nat → va_E) => L0 = L1 ∧ GI cy L0 f1 ∧ Ex cy f0 f1 ∧ (SeT f0 f1 a0 ∧ Bd (Ky (onK kk nn ss vv ww) (fI f0 a0 6) (HI (fI f0 a0 4)) (fI f0 a0 5)) (fI f1 a0 7) (fI f1 a0 8) ∧ fI f1 a0 9 = cn (Ky (onK kk nn ss vv ww) (fI f0 a0 6) (HI (fI f0 a0 4)) (fI f0 a0 5)) 0 36525))) ([.ref a0] : List Value).toArray s 0 0 A) (F0 m 89 ls []) := by
          intro L fw89 hg hE o_a0 fr bd H locs ls hw hl
          have er := fr.er er0
          have rk := fr.rk rk0 ob0
          have w4 : fI fw89 a0 4 = fI f0 a0 4 := fr.int (by decide) (by decide) (by decide)
          have w5 : fI fw89 a0 5 = fI f0 a0 5 := fr.int (by decide) (by decide) (by decide)
          have w6 : fI fw89 a0 6 = fI f0 a0 6 := fr.int (by decide) (by decide) (by decide)
          have bq := bd.bq lw
          refine lv_aload_n hx hb dX0_settle_89 rfl (lv_at hl 0 rfl) ?_
          refine lv_aload_n hx hb dX0_settle_90 rfl (lv_at hl 0 rfl) ?_
          refine q_geti (ci := 0) (C := RX0) (T := TX0) (N := 15) hx hb hts (fun w h => List.mem_cons_of_mem _ (mfX00 w h)) hown hK hw m_a0 o_a0 rfl 7 (by decide) (hts _ (List.mem_cons_of_mem _ (mr14 _ (List.mem_of_getElem? (i := 20) rfl)))) (fun _ h => h) rfl dX0_settle_91 (fun x_18 lx_18 ux_18 ex_18 => ?_)
          refine q_iconst hx hb dX0_settle_94 ?_
          refine q_icmp_ne (tgt := 102) hx hb dX0_settle_95 (by decide) ⟨lx_18, ux_18⟩ ⟨by decide, by decide⟩ (fun c95 => ?_) (fun c95 => ?_)
          · refine lv_aload_n hx hb dX0_settle_102 rfl (lv_at hl 0 rfl) ?_
            obtain ⟨r_19, er_19, m_r_19, o_r_19⟩ := (show ∃ r, fR fw89 a0 3 = some r ∧ r ∈ L0 ∧ Rl fw89 r from hg.2.1 _ m_a0 0 3 o_a0)
            refine q_getr (ci := 0) (C := RX0) (T := TX0) (N := 15) hx hb hts (fun w h => List.mem_cons_of_mem _ (mfX00 w h)) hown hK hw m_a0 o_a0 rfl 3 (by decide) (hts _ (List.mem_cons_of_mem _ (mr3 _ (List.mem_of_getElem? (i := 4) rfl)))) (fun _ h => h) rfl er_19 dX0_settle_103 ?_
            refine lv_aload_n hx hb dX0_settle_106 rfl (lv_at hl 0 rfl) ?_
            refine q_geti (ci := 0) (C := RX0) (T := TX0) (N := 15) hx hb hts (fun w h => List.mem_cons_of_mem _ (mfX00 w h)) hown hK hw m_a0 o_a0 rfl 7 (by decide) (hts _ (List.mem_cons_of_mem _ (mr14 _ (List.mem_of_getElem? (i := 20) rfl)))) (fun _ h => h) rfl dX0_settle_107 (fun x_20 lx_20 ux_20 ex_20 => ?_)
            refine lv_aload_n hx hb dX0_settle_110 rfl (lv_at hl 0 rfl) ?_
            refine q_geti (ci := 0) (C := RX0) (T := TX0) (N := 15) hx hb hts (fun w h => List.mem_cons_of_mem _ (mfX00 w h)) hown hK hw m_a0 o_a0 rfl 8 (by decide) (hts _ (List.mem_cons_of_mem _ (mr14 _ (List.mem_of_getElem? (i := 21) rfl)))) (fun _ h => h) rfl dX0_settle_111 (fun x_21 lx_21 ux_21 ex_21 => ?_)
            have K114 : ∀ (x_22 : Int) (lx_22 : -2147483648 ≤ x_22) (ux_22 : x_22 ≤ 2147483647) (ex_22 : x_22 = cn (onK kk nn ss vv ww) x_20 (x_21 + 1)) (H : Heap) (locs : List Loc) (hw : Wd D A s.heap L0 fw89 H locs), W p l e ({ frames := 4, cells := 0, slots := 0, locals := 92 } : Room) s m ([.ref a0] : List Value).toArray below meth c H locs (0) (0) (MQ below (Qv D (tq cy) L0 f0 s.heap.size (fun (L1 : List Nat) (f1 : Nat → va_E) => L0 = L1 ∧ GI cy L0 f1 ∧ Ex cy f0 f1 ∧ (SeT f0 f1 a0 ∧ Bd (Ky (onK kk nn ss vv ww) (fI f0 a0 6) (HI (fI f0 a0 4)) (fI f0 a0 5)) (fI f1 a0 7) (fI f1 a0 8) ∧ fI f1 a0 9 = cn (Ky (onK kk nn ss vv ww) (fI f0 a0 6) (HI (fI f0 a0 4)) (fI f0 a0 5)) 0 36525))) ([.ref a0] : List Value).toArray s 0 0 A) (F0 m 117 ls (.int (iI x_22) :: [.ref a0])) := by
              intro x_22 lx_22 ux_22 ex_22 H locs hw
              have d114 := ex_22
              refine q_puti (ci := 0) (C := RX0) (T := TX0) (N := 15) hx hb hts (fun w h => List.mem_cons_of_mem _ (mfX00 w h)) hown hK hw m_a0 o_a0 rfl 9 (by decide) (hts _ (List.mem_cons_of_mem _ (mr14 _ (List.mem_of_getElem? (i := 22) rfl)))) (fun _ h => h) tyX0 tyX0_ok nmX0 rfl (ty := .int) (by decide +kernel) rfl rfl dX0_settle_117 (fun H locs hw => ?_)
              have oo := o_a0
              obtain ⟨f_23, ef_23⟩ : ∃ g : Nat → va_E, g = pU fw89 a0 9 (.int (iI x_22)) := ⟨_, rfl⟩
              have hX : Ex cy fw89 f_23 := by rw [ef_23]; exact Ex_pU oo rfl rfl (by decide)
              have hg : GI cy L0 f_23 := by rw [ef_23]; exact hg.putI oo rfl ⟨lx_22, ux_22⟩ trivial
              rw [← ef_23] at hw
              have hE := hE.trans hX
              have o_a0 := hX.1.1 _ _ o_a0
              have t_a0_7_f_23 : fI f_23 a0 7 = fI fw89 a0 7 := by rw [ef_23]; exact fI_pU (Or.inr (by decide))
              have t_a0_8_f_23 : fI f_23 a0 8 = fI fw89 a0 8 := by rw [ef_23]; exact fI_pU (Or.inr (by decide))
              have vf_23 : fI f_23 a0 9 = x_22 := by rw [ef_23]; exact fI_pU_self oo rfl ⟨lx_22, ux_22⟩
              have fr : SeT f0 f_23 a0 := fr.put ef_23 (by decide)
              exact q_ret_v hx hb hr hlocks hK hAe hw (Nat.le_of_ble_eq_true rfl) (Nat.le_of_ble_eq_true rfl) dX0_settle_120 (by exact ⟨rfl, hg, hE, fr, by rw [t_a0_7_f_23, t_a0_8_f_23]; exact bd, by rw [vf_23]; exact bd.total (by first | exact Or.inl ⟨by omega, by omega⟩ | exact Or.inr ⟨by omega, cn_arg d114 (by omega) (by omega)⟩ | fail "none")⟩)
            rcases o_r_19 with o9 | o9 | o9 | o9
            · refine q_call_i hA hK hw (va_runU (As := [.int (iI x_20), .int (iI x_21)]) (rest := [.ref a0]) ⟨hx, hb, hml, hown, hts⟩ (c_X2_daysIn_f zo l D cy L0 fw89 r_19 x_20 lx_20 ux_20 x_21 lx_21 ux_21 m_r_19 o9 hg kk nn ss vv ww (by have z9 := Option.some.inj (er_19.symm.trans er); rw [z9]; exact rk) (by omega) (by omega) (by omega) _) (va_cwA 2 hts (gT (inU (mr17 _ (List.mem_of_getElem? (i := 11) rfl)) (mr17 _ (List.mem_of_getElem? (i := 12) rfl)) (mr17 _ (List.mem_of_getElem? (i := 13) rfl)) (mr17 _ (List.mem_of_getElem? (i := 14) rfl)) (mr12 _ (List.mem_of_getElem? (i := 12) rfl)) (mr17 _ (List.mem_of_getElem? (i := 15) rfl)))) rfl rfl rfl (hN _ (List.mem_of_getElem? (i := 17) rfl)) (by decide +kernel) ⟨Nat.le_of_ble_eq_true rfl, Nat.le_of_ble_eq_true rfl⟩) (Wd.preV zo hA hZ hw hK m_r_19 o9 rfl) rfl rfl hl.1 rfl (lv_room (Nat.le_of_ble_eq_true rfl)) dX0_settle_114 ⟨Nat.le_of_ble_eq_true rfl, Nat.le_of_ble_eq_true rfl⟩) (fun x_22 L1 f1 H locs lx_22 ux_22 ex_22 hw => ?_)
              obtain ⟨rfl, rfl, ex_22⟩ := ex_22
              exact K114 x_22 lx_22 ux_22 ex_22 H locs hw
            · refine q_call_i hA hK hw (va_runU (As := [.int (iI x_20), .int (iI x_21)]) (rest := [.ref a0]) ⟨hx, hb, hml, hown, hts⟩ (c_X3_daysIn_f zo l D cy L0 fw89 r_19 x_20 lx_20 ux_20 x_21 lx_21 ux_21 m_r_19 o9 hg kk nn ss vv ww (by have z9 := Option.some.inj (er_19.symm.trans er); rw [z9]; exact rk) (by omega) (by omega) (by omega) _) (va_cwA 2 hts (gT (inU (mr17 _ (List.mem_of_getElem? (i := 11) rfl)) (mr17 _ (List.mem_of_getElem? (i := 12) rfl)) (mr17 _ (List.mem_of_getElem? (i := 20) rfl)) (mr17 _ (List.mem_of_getElem? (i := 21) rfl)) (mr12 _ (List.mem_of_getElem? (i := 18) rfl)) (mr17 _ (List.mem_of_getElem? (i := 22) rfl)))) rfl rfl rfl (hN _ (List.mem_of_getElem? (i := 17) rfl)) (by decide +kernel) ⟨Nat.le_of_ble_eq_true rfl, Nat.le_of_ble_eq_true rfl⟩) (Wd.preV zo hA hZ hw hK m_r_19 o9 rfl) rfl rfl hl.1 rfl (lv_room (Nat.le_of_ble_eq_true rfl)) dX0_settle_114 ⟨Nat.le_of_ble_eq_true rfl, Nat.le_of_ble_eq_true rfl⟩) (fun x_22 L1 f1 H locs lx_22 ux_22 ex_22 hw => ?_)
              obtain ⟨rfl, rfl, ex_22⟩ := ex_22
              exact K114 x_22 lx_22 ux_22 ex_22 H locs hw
            · refine q_call_i hA hK hw (va_runU (As := [.int (iI x_20), .int (iI x_21)]) (rest := [.ref a0]) ⟨hx, hb, hml, hown, hts⟩ (c_X4_daysIn_f zo l D cy L0 fw89 r_19 x_20 lx_20 ux_20 x_21 lx_21 ux_21 m_r_19 o9 hg kk nn ss vv ww (by have z9 := Option.some.inj (er_19.symm.trans er); rw [z9]; exact rk) (by omega) (by omega) (by omega) _) (va_cwA 2 hts (gT (inU (mr17 _ (List.mem_of_getElem? (i := 11) rfl)) (mr17 _ (List.mem_of_getElem? (i := 12) rfl)) (mr17 _ (List.mem_of_getElem? (i := 23) rfl)) (mr18 _ (List.mem_of_getElem? (i := 0) rfl)) (mr2 _ (List.mem_of_getElem? (i := 7) rfl)) (mr18 _ (List.mem_of_getElem? (i := 1) rfl)))) rfl rfl rfl (hN _ (List.mem_of_getElem? (i := 17) rfl)) (by decide +kernel) ⟨Nat.le_of_ble_eq_true rfl, Nat.le_of_ble_eq_true rfl⟩) (Wd.preV zo hA hZ hw hK m_r_19 o9 rfl) rfl rfl hl.1 rfl (lv_room (Nat.le_of_ble_eq_true rfl)) dX0_settle_114 ⟨Nat.le_of_ble_eq_true rfl, Nat.le_of_ble_eq_true rfl⟩) (fun x_22 L1 f1 H locs lx_22 ux_22 ex_22 hw => ?_)
              obtain ⟨rfl, rfl, ex_22⟩ := ex_22
              exact K114 x_22 lx_22 ux_22 ex_22 H locs hw
            · refine q_call_i hA hK hw (va_runU (As := [.int (iI x_20), .int (iI x_21)]) (rest := [.ref a0]) ⟨hx, hb, hml, hown, hts⟩ (c_X8_daysIn_f zo l D cy L0 fw89 r_19 x_20 lx_20 ux_20 x_21 lx_21 ux_21 m_r_19 o9 hg kk nn ss vv ww (by have z9 := Option.some.inj (er_19.symm.trans er); rw [z9]; exact rk) (by omega) (by omega) (by omega) _) (va_cwA 2 hts (gT (inU (mr17 _ (List.mem_of_getElem? (i := 11) rfl)) (mr17 _ (List.mem_of_getElem? (i := 12) rfl)) (mr18 _ (List.mem_of_getElem? (i := 2) rfl)) (mr18 _ (List.mem_of_getElem? (i := 3) rfl)) (mr12 _ (List.mem_of_getElem? (i := 15) rfl)) (mr18 _ (List.mem_of_getElem? (i := 4) rfl)))) rfl rfl rfl (hN _ (List.mem_of_getElem? (i := 17) rfl)) (by decide +kernel) ⟨Nat.le_of_ble_eq_true rfl, Nat.le_of_ble_eq_true rfl⟩) (Wd.preV zo hA hZ hw hK m_r_19 o9 rfl) rfl rfl hl.1 rfl (lv_room (Nat.le_of_ble_eq_true rfl)) dX0_settle_114 ⟨Nat.le_of_ble_eq_true rfl, Nat.le_of_ble_eq_true rfl⟩) (fun x_22 L1 f1 H locs lx_22 ux_22 ex_22 hw => ?_)
              obtain ⟨rfl, rfl, ex_22⟩ := ex_22
              exact K114 x_22 lx_22 ux_22 ex_22 H locs hw
          · refine q_iconst hx hb dX0_settle_98 ?_
            refine lv_goto (tgt := 117) hx hb dX0_settle_99 (by decide) ?_
            refine q_puti (ci := 0) (C := RX0) (T := TX0) (N := 15) hx hb hts (fun w h => List.mem_cons_of_mem _ (mfX00 w h)) hown hK hw m_a0 o_a0 rfl 9 (by decide) (hts _ (List.mem_cons_of_mem _ (mr14 _ (List.mem_of_getElem? (i := 22) rfl)))) (fun _ h => h) tyX0 tyX0_ok nmX0 rfl (ty := .int) (by decide +kernel) rfl rfl dX0_settle_117 (fun H locs hw => ?_)
            have oo := o_a0
            obtain ⟨f_24, ef_24⟩ : ∃ g : Nat → va_E, g = pU fw89 a0 9 (.int (iI 0)) := ⟨_, rfl⟩
            have hX : Ex cy fw89 f_24 := by rw [ef_24]; exact Ex_pU oo rfl rfl (by decide)
            have hg : GI cy L0 f_24 := by rw [ef_24]; exact hg.putI oo rfl ⟨by decide, by decide⟩ trivial
            rw [← ef_24] at hw
            have hE := hE.trans hX
            have o_a0 := hX.1.1 _ _ o_a0
            have t_a0_7_f_24 : fI f_24 a0 7 = fI fw89 a0 7 := by rw [ef_24]; exact fI_pU (Or.inr (by decide))
            have t_a0_8_f_24 : fI f_24 a0 8 = fI fw89 a0 8 := by rw [ef_24]; exact fI_pU (Or.inr (by decide))
            have vf_24 : fI f_24 a0 9 = 0 := by rw [ef_24]; exact fI_pU_self oo rfl ⟨by decide, by decide⟩
            have fr : SeT f0 f_24 a0 := fr.put ef_24 (by decide)
            exact q_ret_v hx hb hr hlocks hK hAe hw (Nat.le_of_ble_eq_true rfl) (Nat.le_of_ble_eq_true rfl) dX0_settle_120 (by exact ⟨rfl, hg, hE, fr, by rw [t_a0_7_f_24, t_a0_8_f_24]; exact bd, by rw [vf_24]; exact bd.total (by first | exact Or.inl ⟨by omega, by omega⟩ | exact Or.inr ⟨by omega, cn_arg d114 (by omega) (by omega)⟩ | fail "none")⟩)
        refine q_icmp_eq (tgt := 79) hx hb dX0_settle_65 (by decide) ⟨lx_8, ux_8⟩ ⟨by decide, by decide⟩ (fun c65 => ?_) (fun c65 => ?_)
        · exact J79 (by exact SE.none (by omega) (by omega) (by omega) p7 p8 (by omega)) _ _ _ hw (lv_sub hl [0] rfl)
        · refine lv_aload_n hx hb dX0_settle_68 rfl (lv_at hl 0 rfl) ?_
          refine q_geti (ci := 0) (C := RX0) (T := TX0) (N := 15) hx hb hts (fun w h => List.mem_cons_of_mem _ (mfX00 w h)) hown hK hw m_a0 o_a0 rfl 8 (by decide) (hts _ (List.mem_cons_of_mem _ (mr14 _ (List.mem_of_getElem? (i := 21) rfl)))) (fun _ h => h) rfl dX0_settle_69 (fun x_25 lx_25 ux_25 ex_25 => ?_)
          refine lv_aload_n hx hb dX0_settle_72 rfl (lv_at hl 0 rfl) ?_
          refine q_geti (ci := 0) (C := RX0) (T := TX0) (N := 15) hx hb hts (fun w h => List.mem_cons_of_mem _ (mfX00 w h)) hown hK hw m_a0 o_a0 rfl 7 (by decide) (hts _ (List.mem_cons_of_mem _ (mr14 _ (List.mem_of_getElem? (i := 20) rfl)))) (fun _ h => h) rfl dX0_settle_73 (fun x_26 lx_26 ux_26 ex_26 => ?_)
          refine q_icmp_ge (tgt := 89) hx hb dX0_settle_76 (by decide) ⟨lx_25, ux_25⟩ ⟨lx_26, ux_26⟩ (fun c76 => ?_) (fun c76 => ?_)
          · exact J89 L0 f_7 hg hE o_a0 (by exact fr) (by first | exact bd | exact SE.some (by omega) (by omega) (by omega) p7 p8 (by omega) (by omega) | fail "none") _ _ _ hw (lv_sub hl [0] rfl)
          · exact J79 (by exact SE.none (by omega) (by omega) (by omega) p7 p8 (by omega)) _ _ _ hw (lv_sub hl [0] rfl)
      refine q_icmp_ne (tgt := 53) hx hb dX0_settle_39 (by decide) ⟨lx_6, ux_6⟩ ⟨by decide, by decide⟩ (fun c39 => ?_) (fun c39 => ?_)
      · refine lv_aload_n hx hb dX0_settle_53 rfl (lv_at hl 1 rfl) ?_
        refine q_call_i hA hK hw (va_runV (As := []) (rest := [.ref a0]) ⟨hx, hb, hml, hown, hts⟩ (c_X0_lastOfTimes_f zo l D cy L0 f_5 a0 m_a0 o_a0 hg r0 er kk nn ss vv ww rk (fI f0 a0 6) (by omega) p7 (by omega) (by omega) _) (cwV 0 hts (gT (inV (mr17 _ (List.mem_of_getElem? (i := 7) rfl)) (mr17 _ (List.mem_of_getElem? (i := 8) rfl)) (mr17 _ (List.mem_of_getElem? (i := 9) rfl)) (mr2 _ (List.mem_of_getElem? (i := 9) rfl)) (mr17 _ (List.mem_of_getElem? (i := 10) rfl)))) rfl rfl rfl (by decide +kernel) ⟨Nat.le_of_ble_eq_true rfl, Nat.le_of_ble_eq_true rfl⟩) (Wd.preV zo hA hZ hw hK m_a0 o_a0 rfl) rfl rfl hl.1 rfl (lv_room (Nat.le_of_ble_eq_true rfl)) dX0_settle_54 ⟨Nat.le_of_ble_eq_true rfl, Nat.le_of_ble_eq_true rfl⟩) (fun x_27 L1 f1 H locs lx_27 ux_27 ex_27 hw => ?_)
        obtain ⟨rfl, rfl, ex_27⟩ := ex_27
        have d54 := ex_27
        exact J57 x_27 lx_27 ux_27 (by first | exact Or.inl ⟨by omega, d47.arg k1⟩ | exact Or.inr ⟨by omega, by have z := d54; rw [w5] at z; exact z⟩ | fail "none") _ _ _ hw (lv_sub hl [1] rfl)
      · refine lv_aload_n hx hb dX0_settle_42 rfl (lv_at hl 1 rfl) ?_
        obtain ⟨r_28, er_28, m_r_28, o_r_28⟩ := (show ∃ r, fR f_5 a0 3 = some r ∧ r ∈ L0 ∧ Rl f_5 r from hg.2.1 _ m_a0 0 3 o_a0)
        refine q_getr (ci := 0) (C := RX0) (T := TX0) (N := 15) hx hb hts (fun w h => List.mem_cons_of_mem _ (mfX00 w h)) hown hK hw m_a0 o_a0 rfl 3 (by decide) (hts _ (List.mem_cons_of_mem _ (mr3 _ (List.mem_of_getElem? (i := 4) rfl)))) (fun _ h => h) rfl er_28 dX0_settle_43 ?_
        refine lv_iload_n hx hb dX0_settle_46 rfl (lv_at hl 0 rfl) ?_
        have K47 : ∀ (x_29 : Int) (lx_29 : -2147483648 ≤ x_29) (ux_29 : x_29 ≤ 2147483647) (ex_29 : Lst (onK kk nn ss vv ww) w0_17 x_29) (H : Heap) (locs : List Loc) (hw : Wd D A s.heap L0 f_5 H locs), W p l e ({ frames := 4, cells := 0, slots := 0, locals := 92 } : Room) s m ([.ref a0] : List Value).toArray below meth c H locs (0) (0) (MQ below (Qv D (tq cy) L0 f0 s.heap.size (fun (L1 : List Nat) (f1 : Nat → va_E) => L0 = L1 ∧ GI cy L0 f1 ∧ Ex cy f0 f1 ∧ (SeT f0 f1 a0 ∧ Bd (Ky (onK kk nn ss vv ww) (fI f0 a0 6) (HI (fI f0 a0 4)) (fI f0 a0 5)) (fI f1 a0 7) (fI f1 a0 8) ∧ fI f1 a0 9 = cn (Ky (onK kk nn ss vv ww) (fI f0 a0 6) (HI (fI f0 a0 4)) (fI f0 a0 5)) 0 36525))) ([.ref a0] : List Value).toArray s 0 0 A) (F0 m 50 ls (.int (iI x_29) :: [.ref a0])) := by
          intro x_29 lx_29 ux_29 ex_29 H locs hw
          have d47 := ex_29
          refine lv_goto (tgt := 57) hx hb dX0_settle_50 (by decide) ?_
          exact J57 x_29 lx_29 ux_29 (by first | exact Or.inl ⟨by omega, d47.arg k1⟩ | exact Or.inr ⟨by omega, by have z := d54; rw [w5] at z; exact z⟩ | fail "none") _ _ _ hw (lv_sub hl [1] rfl)
        rcases o_r_28 with o9 | o9 | o9 | o9
        · refine q_call_i hA hK hw (va_runU (As := [.int (iI w0_17)]) (rest := [.ref a0]) ⟨hx, hb, hml, hown, hts⟩ (c_X2_dayTo_f zo l D cy L0 f_5 r_28 w0_17 lw0_17 uw0_17 m_r_28 o9 hg kk nn ss vv ww (by have z9 := Option.some.inj (er_28.symm.trans er); rw [z9]; exact rk) (by omega) (by omega) _) (va_cwA 1 hts (gT (inU (mr16 _ (List.mem_of_getElem? (i := 13) rfl)) (mr16 _ (List.mem_of_getElem? (i := 14) rfl)) (mr16 _ (List.mem_of_getElem? (i := 15) rfl)) (mr16 _ (List.mem_of_getElem? (i := 16) rfl)) (mr12 _ (List.mem_of_getElem? (i := 12) rfl)) (mr16 _ (List.mem_of_getElem? (i := 17) rfl)))) rfl rfl rfl (hN _ (List.mem_of_getElem? (i := 16) rfl)) (by decide +kernel) ⟨Nat.le_of_ble_eq_true rfl, Nat.le_of_ble_eq_true rfl⟩) (Wd.preV zo hA hZ hw hK m_r_28 o9 rfl) rfl rfl hl.1 rfl (lv_room (Nat.le_of_ble_eq_true rfl)) dX0_settle_47 ⟨Nat.le_of_ble_eq_true rfl, Nat.le_of_ble_eq_true rfl⟩) (fun x_29 L1 f1 H locs lx_29 ux_29 ex_29 hw => ?_)
          obtain ⟨rfl, rfl, ex_29⟩ := ex_29
          exact K47 x_29 lx_29 ux_29 ex_29 H locs hw
        · refine q_call_i hA hK hw (va_runU (As := [.int (iI w0_17)]) (rest := [.ref a0]) ⟨hx, hb, hml, hown, hts⟩ (c_X3_dayTo_f zo l D cy L0 f_5 r_28 w0_17 lw0_17 uw0_17 m_r_28 o9 hg kk nn ss vv ww (by have z9 := Option.some.inj (er_28.symm.trans er); rw [z9]; exact rk) (by omega) (by omega) _) (va_cwA 1 hts (gT (inU (mr16 _ (List.mem_of_getElem? (i := 13) rfl)) (mr16 _ (List.mem_of_getElem? (i := 14) rfl)) (mr16 _ (List.mem_of_getElem? (i := 18) rfl)) (mr16 _ (List.mem_of_getElem? (i := 19) rfl)) (mr12 _ (List.mem_of_getElem? (i := 18) rfl)) (mr16 _ (List.mem_of_getElem? (i := 20) rfl)))) rfl rfl rfl (hN _ (List.mem_of_getElem? (i := 16) rfl)) (by decide +kernel) ⟨Nat.le_of_ble_eq_true rfl, Nat.le_of_ble_eq_true rfl⟩) (Wd.preV zo hA hZ hw hK m_r_28 o9 rfl) rfl rfl hl.1 rfl (lv_room (Nat.le_of_ble_eq_true rfl)) dX0_settle_47 ⟨Nat.le_of_ble_eq_true rfl, Nat.le_of_ble_eq_true rfl⟩) (fun x_29 L1 f1 H locs lx_29 ux_29 ex_29 hw => ?_)
          obtain ⟨rfl, rfl, ex_29⟩ := ex_29
          exact K47 x_29 lx_29 ux_29 ex_29 H locs hw
        · refine q_call_i hA hK hw (va_runU (As := [.int (iI w0_17)]) (rest := [.ref a0]) ⟨hx, hb, hml, hown, hts⟩ (c_X4_dayTo_f zo l D cy L0 f_5 r_28 w0_17 lw0_17 uw0_17 m_r_28 o9 hg kk nn ss vv ww (by have z9 := Option.some.inj (er_28.symm.trans er); rw [z9]; exact rk) (by omega) (by omega) _) (va_cwA 1 hts (gT (inU (mr16 _ (List.mem_of_getElem? (i := 13) rfl)) (mr16 _ (List.mem_of_getElem? (i := 14) rfl)) (mr16 _ (List.mem_of_getElem? (i := 21) rfl)) (mr16 _ (List.mem_of_getElem? (i := 22) rfl)) (mr2 _ (List.mem_of_getElem? (i := 7) rfl)) (mr16 _ (List.mem_of_getElem? (i := 23) rfl)))) rfl rfl rfl (hN _ (List.mem_of_getElem? (i := 16) rfl)) (by decide +kernel) ⟨Nat.le_of_ble_eq_true rfl, Nat.le_of_ble_eq_true rfl⟩) (Wd.preV zo hA hZ hw hK m_r_28 o9 rfl) rfl rfl hl.1 rfl (lv_room (Nat.le_of_ble_eq_true rfl)) dX0_settle_47 ⟨Nat.le_of_ble_eq_true rfl, Nat.le_of_ble_eq_true rfl⟩) (fun x_29 L1 f1 H locs lx_29 ux_29 ex_29 hw => ?_)
          obtain ⟨rfl, rfl, ex_29⟩ := ex_29
          exact K47 x_29 lx_29 ux_29 ex_29 H locs hw
        · refine q_call_i hA hK hw (va_runU (As := [.int (iI w0_17)]) (rest := [.ref a0]) ⟨hx, hb, hml, hown, hts⟩ (c_X8_dayTo_f zo l D cy L0 f_5 r_28 w0_17 lw0_17 uw0_17 m_r_28 o9 hg kk nn ss vv ww (by have z9 := Option.some.inj (er_28.symm.trans er); rw [z9]; exact rk) (by omega) (by omega) _) (va_cwA 1 hts (gT (inU (mr16 _ (List.mem_of_getElem? (i := 13) rfl)) (mr16 _ (List.mem_of_getElem? (i := 14) rfl)) (mr17 _ (List.mem_of_getElem? (i := 0) rfl)) (mr17 _ (List.mem_of_getElem? (i := 1) rfl)) (mr12 _ (List.mem_of_getElem? (i := 15) rfl)) (mr17 _ (List.mem_of_getElem? (i := 2) rfl)))) rfl rfl rfl (hN _ (List.mem_of_getElem? (i := 16) rfl)) (by decide +kernel) ⟨Nat.le_of_ble_eq_true rfl, Nat.le_of_ble_eq_true rfl⟩) (Wd.preV zo hA hZ hw hK m_r_28 o9 rfl) rfl rfl hl.1 rfl (lv_room (Nat.le_of_ble_eq_true rfl)) dX0_settle_47 ⟨Nat.le_of_ble_eq_true rfl, Nat.le_of_ble_eq_true rfl⟩) (fun x_29 L1 f1 H locs lx_29 ux_29 ex_29 hw => ?_)
          obtain ⟨rfl, rfl, ex_29⟩ := ex_29
          exact K47 x_29 lx_29 ux_29 ex_29 H locs hw
    rcases o_r_2 with o9 | o9 | o9 | o9
    · refine q_call_i hA hK hw (va_runU (As := [.int (iI x_3)]) (rest := [.ref a0]) ⟨hx, hb, hml, hown, hts⟩ (c_X2_dayFrom_f zo l D cy L0 f0 r_2 x_3 lx_3 ux_3 m_r_2 o9 hg kk nn ss vv ww (by have z9 := Option.some.inj (er_2.symm.trans er); rw [z9]; exact rk) (by omega) (by omega) _) (va_cwA 1 hts (gT (inU (mr14 _ (List.mem_of_getElem? (i := 23) rfl)) (mr15 _ (List.mem_of_getElem? (i := 0) rfl)) (mr15 _ (List.mem_of_getElem? (i := 1) rfl)) (mr15 _ (List.mem_of_getElem? (i := 2) rfl)) (mr12 _ (List.mem_of_getElem? (i := 12) rfl)) (mr15 _ (List.mem_of_getElem? (i := 3) rfl)))) rfl rfl rfl (hN _ (List.mem_of_getElem? (i := 15) rfl)) (by decide +kernel) ⟨Nat.le_of_ble_eq_true rfl, Nat.le_of_ble_eq_true rfl⟩) (Wd.preV zo hA hZ hw hK m_r_2 o9 rfl) rfl rfl hl.1 rfl (lv_room (Nat.le_of_ble_eq_true rfl)) dX0_settle_27 ⟨Nat.le_of_ble_eq_true rfl, Nat.le_of_ble_eq_true rfl⟩) (fun x_4 L1 f1 H locs lx_4 ux_4 ex_4 hw => ?_)
      obtain ⟨rfl, rfl, ex_4⟩ := ex_4
      exact K27 x_4 lx_4 ux_4 ex_4 H locs hw
    · refine q_call_i hA hK hw (va_runU (As := [.int (iI x_3)]) (rest := [.ref a0]) ⟨hx, hb, hml, hown, hts⟩ (c_X3_dayFrom_f zo l D cy L0 f0 r_2 x_3 lx_3 ux_3 m_r_2 o9 hg kk nn ss vv ww (by have z9 := Option.some.inj (er_2.symm.trans er); rw [z9]; exact rk) (by omega) (by omega) _) (va_cwA 1 hts (gT (inU (mr14 _ (List.mem_of_getElem? (i := 23) rfl)) (mr15 _ (List.mem_of_getElem? (i := 0) rfl)) (mr15 _ (List.mem_of_getElem? (i := 7) rfl)) (mr15 _ (List.mem_of_getElem? (i := 8) rfl)) (mr12 _ (List.mem_of_getElem? (i := 18) rfl)) (mr15 _ (List.mem_of_getElem? (i := 9) rfl)))) rfl rfl rfl (hN _ (List.mem_of_getElem? (i := 15) rfl)) (by decide +kernel) ⟨Nat.le_of_ble_eq_true rfl, Nat.le_of_ble_eq_true rfl⟩) (Wd.preV zo hA hZ hw hK m_r_2 o9 rfl) rfl rfl hl.1 rfl (lv_room (Nat.le_of_ble_eq_true rfl)) dX0_settle_27 ⟨Nat.le_of_ble_eq_true rfl, Nat.le_of_ble_eq_true rfl⟩) (fun x_4 L1 f1 H locs lx_4 ux_4 ex_4 hw => ?_)
      obtain ⟨rfl, rfl, ex_4⟩ := ex_4
      exact K27 x_4 lx_4 ux_4 ex_4 H locs hw
    · refine q_call_i hA hK hw (va_runU (As := [.int (iI x_3)]) (rest := [.ref a0]) ⟨hx, hb, hml, hown, hts⟩ (c_X4_dayFrom_f zo l D cy L0 f0 r_2 x_3 lx_3 ux_3 m_r_2 o9 hg kk nn ss vv ww (by have z9 := Option.some.inj (er_2.symm.trans er); rw [z9]; exact rk) (by omega) (by omega) _) (va_cwA 1 hts (gT (inU (mr14 _ (List.mem_of_getElem? (i := 23) rfl)) (mr15 _ (List.mem_of_getElem? (i := 0) rfl)) (mr15 _ (List.mem_of_getElem? (i := 22) rfl)) (mr15 _ (List.mem_of_getElem? (i := 23) rfl)) (mr2 _ (List.mem_of_getElem? (i := 7) rfl)) (mr16 _ (List.mem_of_getElem? (i := 0) rfl)))) rfl rfl rfl (hN _ (List.mem_of_getElem? (i := 15) rfl)) (by decide +kernel) ⟨Nat.le_of_ble_eq_true rfl, Nat.le_of_ble_eq_true rfl⟩) (Wd.preV zo hA hZ hw hK m_r_2 o9 rfl) rfl rfl hl.1 rfl (lv_room (Nat.le_of_ble_eq_true rfl)) dX0_settle_27 ⟨Nat.le_of_ble_eq_true rfl, Nat.le_of_ble_eq_true rfl⟩) (fun x_4 L1 f1 H locs lx_4 ux_4 ex_4 hw => ?_)
      obtain ⟨rfl, rfl, ex_4⟩ := ex_4
      exact K27 x_4 lx_4 ux_4 ex_4 H locs hw
    · refine q_call_i hA hK hw (va_runU (As := [.int (iI x_3)]) (rest := [.ref a0]) ⟨hx, hb, hml, hown, hts⟩ (c_X8_dayFrom_f zo l D cy L0 f0 r_2 x_3 lx_3 ux_3 m_r_2 o9 hg kk nn ss vv ww (by have z9 := Option.some.inj (er_2.symm.trans er); rw [z9]; exact rk) (by omega) (by omega) _) (va_cwA 1 hts (gT (inU (mr14 _ (List.mem_of_getElem? (i := 23) rfl)) (mr15 _ (List.mem_of_getElem? (i := 0) rfl)) (mr16 _ (List.mem_of_getElem? (i := 3) rfl)) (mr16 _ (List.mem_of_getElem? (i := 4) rfl)) (mr12 _ (List.mem_of_getElem? (i := 15) rfl)) (mr16 _ (List.mem_of_getElem? (i := 5) rfl)))) rfl rfl rfl (hN _ (List.mem_of_getElem? (i := 15) rfl)) (by decide +kernel) ⟨Nat.le_of_ble_eq_true rfl, Nat.le_of_ble_eq_true rfl⟩) (Wd.preV zo hA hZ hw hK m_r_2 o9 rfl) rfl rfl hl.1 rfl (lv_room (Nat.le_of_ble_eq_true rfl)) dX0_settle_27 ⟨Nat.le_of_ble_eq_true rfl, Nat.le_of_ble_eq_true rfl⟩) (fun x_4 L1 f1 H locs lx_4 ux_4 ex_4 hw => ?_)
      obtain ⟨rfl, rfl, ex_4⟩ := ex_4
      exact K27 x_4 lx_4 ux_4 ex_4 H locs hw
  refine q_icmp_ne (tgt := 13) hx hb dX0_settle_5 (by decide) ⟨lx_1, ux_1⟩ ⟨by decide, by decide⟩ (fun c5 => ?_) (fun c5 => ?_)
  · refine lv_aload_n hx hb dX0_settle_13 rfl (lv_at hl 0 rfl) ?_
    refine q_geti (ci := 0) (C := RX0) (T := TX0) (N := 15) hx hb hts (fun w h => List.mem_cons_of_mem _ (mfX00 w h)) hown hK hw m_a0 o_a0 rfl 4 (by decide) (hts _ (List.mem_cons_of_mem _ (mr14 _ (List.mem_of_getElem? (i := 7) rfl)))) (fun _ h => h) rfl dX0_settle_14 (fun x_30 lx_30 ux_30 ex_30 => ?_)
    exact J17 x_30 lx_30 ux_30 (by unfold HI; split <;> omega) _ _ _ hw (lv_sub hl [0] rfl)
  · refine q_ldc (n := 36524) hx hb hown (hts _ (List.mem_cons_of_mem _ (mr14 _ (List.mem_of_getElem? (i := 19) rfl)))) rfl dX0_settle_8 ?_
    refine lv_goto (tgt := 17) hx hb dX0_settle_10 (by decide) ?_
    exact J17 36524 (by decide) (by decide) (by unfold HI; split <;> omega) _ _ _ hw (lv_sub hl [0] rfl)
set_option maxHeartbeats 4000000 in
set_option maxRecDepth 100000 in
theorem c_X10_isOn_f {Z : Zt} (zo : Zok Z) (l : Launch) (D : va_G) (cy : Cy) (L0 : List Nat) (f0 : Nat → va_E) (a0 : Nat) (x1 : Int) (lx1 : -2147483648 ≤ x1) (ux1 : x1 ≤ 2147483647) (x2 : Int) (lx2 : -2147483648 ≤ x2) (ux2 : x2 ≤ 2147483647) (ad : Nat → Nat) (hs : MS cy L0 f0 a0 ad) (b1 : 0 ≤ x1) (b2 : x1 ≤ 11) (s34 : aI f0 (ad 4) (44 * x1 + 3) = 0 ∨ 1 ≤ aI f0 (ad 4) (44 * x1 + 4)) (s5a : 0 ≤ aI f0 (ad 4) (44 * x1 + 5)) (s5b : aI f0 (ad 4) (44 * x1 + 5) ≤ 36524) (d1 : 0 ≤ x2) (d2 : x2 ≤ 36524) (hd : DT f0 ad 36525) (ok : okW (aI f0 (ad 4) (44 * x1 + 3)) (aI f0 (ad 4) (44 * x1 + 4)) (aI f0 (ad 4) (44 * x1 + 6)) (aI f0 (ad 4) (44 * x1 + 7))) : Ci Z l yX10_isOn (Cond.code yX10_isOn cX10_isOn 7 (some .boolean) :: TB) ({ frames := 1, cells := 0, slots := 0, locals := 22 } : Room) 0 0 D (tq cy) [.ref a0, .int (iI x1), .int (iI x2)] L0 f0 (fun (r : Int) (L1 : List Nat) (f1 : Nat → va_E) => L0 = L1 ∧ f0 = f1 ∧ (OnR (aI f0 (ad 4) (44 * x1 + 3)) (aI f0 (ad 4) (44 * x1 + 4)) (aI f0 (ad 4) (44 * x1 + 5)) (aI f0 (ad 4) (44 * x1 + 6)) (aI f0 (ad 4) (44 * x1 + 7)) x2 r)) := by
  refine Ci.enter (cc := cX10_isOn) (n := 7) rfl (plainFor_of_name (by decide)) (Nat.le_of_ble_eq_true rfl) ?_
  intro p e s m below meth c ls A hx hb hr hts hown hlocks hnm hml hK hA hAe hw hZ hl
  have hown : s.vm.findClass RX10 = some m.cls := hown
  have hl : lv_has ls 7 [(0, .ref a0), (1, .int (iI x1)), (2, .int (iI x2))] := hl
  have hN : ZN s := (zo.2.2.2.2 _ _ _ hZ).2
  refine lv_aload_n hx hb dX10_isOn_0 rfl (lv_at hl 0 rfl) ?_
  refine lv_iload_n hx hb dX10_isOn_1 rfl (lv_at hl 1 rfl) ?_
  refine q_iconst hx hb dX10_isOn_2 ?_
  refine q_call_i hA hK hw (va_runV (As := [.int (iI x1), .int (iI 5)]) (rest := []) ⟨hx, hb, hml, hown, hts⟩ (c_X10_get zo l D cy L0 f0 a0 x1 lx1 ux1 5 (by decide) (by decide) ad hs (by omega) (by omega) (by omega) (by omega) _) (cwV 2 hts (gT (inV (mr25 _ (List.mem_of_getElem? (i := 0) rfl)) (mr25 _ (List.mem_of_getElem? (i := 1) rfl)) (mr25 _ (List.mem_of_getElem? (i := 2) rfl)) (mr1 _ (List.mem_of_getElem? (i := 5) rfl)) (mr25 _ (List.mem_of_getElem? (i := 3) rfl)))) rfl rfl rfl (by decide +kernel) ⟨Nat.le_of_ble_eq_true rfl, Nat.le_of_ble_eq_true rfl⟩) (Wd.preV zo hA hZ hw hK hs.1 hs.2.1 rfl) rfl rfl hl.1 rfl (lv_room (Nat.le_of_ble_eq_true rfl)) dX10_isOn_3 ⟨Nat.le_of_ble_eq_true rfl, Nat.le_of_ble_eq_true rfl⟩) (fun x_1 L1 f1 H locs lx_1 ux_1 ex_1 hw => ?_)
  obtain ⟨rfl, rfl, ex_1⟩ := ex_1
  have es := ex_1
  refine lv_istore_n (lv' := [(3, .int (iI x_1)), (0, .ref a0), (1, .int (iI x1)), (2, .int (iI x2))]) hx hb dX10_isOn_6 rfl hl (by decide) rfl (fun ls hl => ?_)
  refine lv_aload_n hx hb dX10_isOn_7 rfl (lv_at hl 1 rfl) ?_
  refine lv_iload_n hx hb dX10_isOn_8 rfl (lv_at hl 2 rfl) ?_
  refine q_iconst hx hb dX10_isOn_9 ?_
  refine q_call_i hA hK hw (va_runV (As := [.int (iI x1), .int (iI 4)]) (rest := []) ⟨hx, hb, hml, hown, hts⟩ (c_X10_get zo l D cy L0 f0 a0 x1 lx1 ux1 4 (by decide) (by decide) ad hs (by omega) (by omega) (by omega) (by omega) _) (cwV 2 hts (gT (inV (mr25 _ (List.mem_of_getElem? (i := 0) rfl)) (mr25 _ (List.mem_of_getElem? (i := 1) rfl)) (mr25 _ (List.mem_of_getElem? (i := 2) rfl)) (mr1 _ (List.mem_of_getElem? (i := 5) rfl)) (mr25 _ (List.mem_of_getElem? (i := 3) rfl)))) rfl rfl rfl (by decide +kernel) ⟨Nat.le_of_ble_eq_true rfl, Nat.le_of_ble_eq_true rfl⟩) (Wd.preV zo hA hZ hw hK hs.1 hs.2.1 rfl) rfl rfl hl.1 rfl (lv_room (Nat.le_of_ble_eq_true rfl)) dX10_isOn_10 ⟨Nat.le_of_ble_eq_true rfl, Nat.le_of_ble_eq_true rfl⟩) (fun x_2 L1 f1 H locs lx_2 ux_2 ex_2 hw => ?_)
  obtain ⟨rfl, rfl, ex_2⟩ := ex_2
  have en := ex_2
  refine lv_istore (lv' := [(4, .int (iI x_2)), (3, .int (iI x_1)), (0, .ref a0), (1, .int (iI x1)), (2, .int (iI x2))]) hx hb dX10_isOn_13 hl (by decide) rfl (fun ls hl => ?_)
  refine lv_aload_n hx hb dX10_isOn_15 rfl (lv_at hl 2 rfl) ?_
  refine lv_iload_n hx hb dX10_isOn_16 rfl (lv_at hl 3 rfl) ?_
  refine q_bipush hx hb dX10_isOn_17 rfl ?_
  refine q_call_i hA hK hw (va_runV (As := [.int (iI x1), .int (iI 6)]) (rest := []) ⟨hx, hb, hml, hown, hts⟩ (c_X10_get zo l D cy L0 f0 a0 x1 lx1 ux1 6 (by decide) (by decide) ad hs (by omega) (by omega) (by omega) (by omega) _) (cwV 2 hts (gT (inV (mr25 _ (List.mem_of_getElem? (i := 0) rfl)) (mr25 _ (List.mem_of_getElem? (i := 1) rfl)) (mr25 _ (List.mem_of_getElem? (i := 2) rfl)) (mr1 _ (List.mem_of_getElem? (i := 5) rfl)) (mr25 _ (List.mem_of_getElem? (i := 3) rfl)))) rfl rfl rfl (by decide +kernel) ⟨Nat.le_of_ble_eq_true rfl, Nat.le_of_ble_eq_true rfl⟩) (Wd.preV zo hA hZ hw hK hs.1 hs.2.1 rfl) rfl rfl hl.1 rfl (lv_room (Nat.le_of_ble_eq_true rfl)) dX10_isOn_19 ⟨Nat.le_of_ble_eq_true rfl, Nat.le_of_ble_eq_true rfl⟩) (fun x_3 L1 f1 H locs lx_3 ux_3 ex_3 hw => ?_)
  obtain ⟨rfl, rfl, ex_3⟩ := ex_3
  have ev := ex_3
  refine lv_istore (lv' := [(5, .int (iI x_3)), (4, .int (iI x_2)), (3, .int (iI x_1)), (0, .ref a0), (1, .int (iI x1)), (2, .int (iI x2))]) hx hb dX10_isOn_22 hl (by decide) rfl (fun ls hl => ?_)
  refine lv_iload_n hx hb dX10_isOn_24 rfl (lv_at hl 5 rfl) ?_
  refine lv_iload_n hx hb dX10_isOn_25 rfl (lv_at hl 2 rfl) ?_
  refine q_icmp_ge (tgt := 31) hx hb dX10_isOn_26 (by decide) ⟨lx2, ux2⟩ ⟨lx_1, ux_1⟩ (fun c26 => ?_) (fun c26 => ?_)
  · obtain ⟨yy, mm, jj, dv⟩ := DV.of (d := x2) (by omega) (by omega)
    have dd := hd.day dv
    obtain ⟨ys, ms, js, sv⟩ := DV.of (d := x_1) (by omega) (by omega)
    have sd := hd.day sv
    have rm := rk_mo sv dv
    have ml := mo_le (d := x_1) (e := x2) (by omega) (by omega)
    have dj := dv.2.2.2.2.1
    have dj2 := dv.2.2.2.2.2.1
    have dib := dI_b yy mm
    have dy1 := dv.1
    have dy2 := dv.2.1
    have sy1 := sv.1
    have sy2 := sv.2.1
    have dm1 := dv.2.2.1
    have dm2 := dv.2.2.2.1
    have sm1 := sv.2.2.1
    have sm2 := sv.2.2.2.1
    refine q_bipush hx hb dX10_isOn_31 rfl ?_
    refine lv_aload_n hx hb dX10_isOn_33 rfl (lv_at hl 3 rfl) ?_
    refine q_getr (ci := 8) (C := RX10) (T := TX10) (N := 26) hx hb hts (fun w h => List.mem_cons_of_mem _ (mfX100 w h)) hown hK hw hs.1 hs.2.1 rfl 0 (by decide) (hts _ (List.mem_cons_of_mem _ (mr3 _ (List.mem_of_getElem? (i := 10) rfl)))) (fun _ h => h) rfl (hs.2.2.1 0 rfl).1 dX10_isOn_34 ?_
    refine lv_iload_n hx hb dX10_isOn_37 rfl (lv_at hl 5 rfl) ?_
    refine q_iald hx hb hK hw (hs.2.2.1 0 rfl).2.1 1 (hs.2.2.1 0 rfl).2.2 rfl ⟨lx2, ux2⟩ (by omega) (by show _ < ((36525 : Nat) : Int); omega) dX10_isOn_38 (fun x_4 lx_4 ux_4 ex_4 => ?_)
    refine lv_aload_n hx hb dX10_isOn_39 rfl (lv_at hl 3 rfl) ?_
    refine q_getr (ci := 8) (C := RX10) (T := TX10) (N := 26) hx hb hts (fun w h => List.mem_cons_of_mem _ (mfX100 w h)) hown hK hw hs.1 hs.2.1 rfl 0 (by decide) (hts _ (List.mem_cons_of_mem _ (mr3 _ (List.mem_of_getElem? (i := 10) rfl)))) (fun _ h => h) rfl (hs.2.2.1 0 rfl).1 dX10_isOn_40 ?_
    refine lv_iload_n hx hb dX10_isOn_43 rfl (lv_at hl 2 rfl) ?_
    refine q_iald hx hb hK hw (hs.2.2.1 0 rfl).2.1 1 (hs.2.2.1 0 rfl).2.2 rfl ⟨lx_1, ux_1⟩ (by omega) (by show _ < ((36525 : Nat) : Int); omega) dX10_isOn_44 (fun x_5 lx_5 ux_5 ex_5 => ?_)
    first | refine q_isub hx hb dX10_isOn_45 ⟨by omega, by omega⟩ (fun x_6 lx_6 ux_6 ex_6 => ?_) | refine q_isubw hx hb dX10_isOn_45 (fun x_6 lx_6 ux_6 ex_6 => ?_)
    first | refine q_imul hx hb dX10_isOn_46 ⟨by omega, by omega⟩ (fun x_7 lx_7 ux_7 ex_7 => ?_) | refine q_imulw hx hb dX10_isOn_46 (fun x_7 lx_7 ux_7 ex_7 => ?_)
    refine lv_aload_n hx hb dX10_isOn_47 rfl (lv_at hl 3 rfl) ?_
    refine q_getr (ci := 8) (C := RX10) (T := TX10) (N := 26) hx hb hts (fun w h => List.mem_cons_of_mem _ (mfX100 w h)) hown hK hw hs.1 hs.2.1 rfl 1 (by decide) (hts _ (List.mem_cons_of_mem _ (mr3 _ (List.mem_of_getElem? (i := 11) rfl)))) (fun _ h => h) rfl (hs.2.2.1 1 rfl).1 dX10_isOn_48 ?_
    refine lv_iload_n hx hb dX10_isOn_51 rfl (lv_at hl 5 rfl) ?_
    refine q_iald hx hb hK hw (hs.2.2.1 1 rfl).2.1 1 (hs.2.2.1 1 rfl).2.2 rfl ⟨lx2, ux2⟩ (by omega) (by show _ < ((36525 : Nat) : Int); omega) dX10_isOn_52 (fun x_8 lx_8 ux_8 ex_8 => ?_)
    first | refine q_iadd hx hb dX10_isOn_53 ⟨by omega, by omega⟩ (fun x_9 lx_9 ux_9 ex_9 => ?_) | refine q_iaddw hx hb dX10_isOn_53 (fun x_9 lx_9 ux_9 ex_9 => ?_)
    refine lv_aload_n hx hb dX10_isOn_54 rfl (lv_at hl 3 rfl) ?_
    refine q_getr (ci := 8) (C := RX10) (T := TX10) (N := 26) hx hb hts (fun w h => List.mem_cons_of_mem _ (mfX100 w h)) hown hK hw hs.1 hs.2.1 rfl 1 (by decide) (hts _ (List.mem_cons_of_mem _ (mr3 _ (List.mem_of_getElem? (i := 11) rfl)))) (fun _ h => h) rfl (hs.2.2.1 1 rfl).1 dX10_isOn_55 ?_
    refine lv_iload_n hx hb dX10_isOn_58 rfl (lv_at hl 2 rfl) ?_
    refine q_iald hx hb hK hw (hs.2.2.1 1 rfl).2.1 1 (hs.2.2.1 1 rfl).2.2 rfl ⟨lx_1, ux_1⟩ (by omega) (by show _ < ((36525 : Nat) : Int); omega) dX10_isOn_59 (fun x_10 lx_10 ux_10 ex_10 => ?_)
    first | refine q_isub hx hb dX10_isOn_60 ⟨by omega, by omega⟩ (fun x_11 lx_11 ux_11 ex_11 => ?_) | refine q_isubw hx hb dX10_isOn_60 (fun x_11 lx_11 ux_11 ex_11 => ?_)
    refine lv_istore (lv' := [(6, .int (iI x_11)), (5, .int (iI x_3)), (4, .int (iI x_2)), (3, .int (iI x_1)), (0, .ref a0), (1, .int (iI x1)), (2, .int (iI x2))]) hx hb dX10_isOn_61 hl (by decide) rfl (fun ls hl => ?_)
    refine lv_aload_n hx hb dX10_isOn_63 rfl (lv_at hl 4 rfl) ?_
    refine lv_iload_n hx hb dX10_isOn_64 rfl (lv_at hl 5 rfl) ?_
    refine q_iconst hx hb dX10_isOn_65 ?_
    refine q_call_i hA hK hw (va_runV (As := [.int (iI x1), .int (iI 3)]) (rest := []) ⟨hx, hb, hml, hown, hts⟩ (c_X10_get zo l D cy L0 f0 a0 x1 lx1 ux1 3 (by decide) (by decide) ad hs (by omega) (by omega) (by omega) (by omega) _) (cwV 2 hts (gT (inV (mr25 _ (List.mem_of_getElem? (i := 0) rfl)) (mr25 _ (List.mem_of_getElem? (i := 1) rfl)) (mr25 _ (List.mem_of_getElem? (i := 2) rfl)) (mr1 _ (List.mem_of_getElem? (i := 5) rfl)) (mr25 _ (List.mem_of_getElem? (i := 3) rfl)))) rfl rfl rfl (by decide +kernel) ⟨Nat.le_of_ble_eq_true rfl, Nat.le_of_ble_eq_true rfl⟩) (Wd.preV zo hA hZ hw hK hs.1 hs.2.1 rfl) rfl rfl hl.1 rfl (lv_room (Nat.le_of_ble_eq_true rfl)) dX10_isOn_66 ⟨Nat.le_of_ble_eq_true rfl, Nat.le_of_ble_eq_true rfl⟩) (fun x_12 L1 f1 H locs lx_12 ux_12 ex_12 hw => ?_)
    obtain ⟨rfl, rfl, ex_12⟩ := ex_12
    have ek := ex_12
    have kb := ok.k
    have vb := ok.v
    have t69 : (iI x_12).toInt = x_12 := iI_toInt ⟨lx_12, ux_12⟩
    rcases (show (x_12 < 0 ∨ 6 < x_12) ∨ (x_12 = 0) ∨ (x_12 = 1) ∨ (x_12 = 2) ∨ (x_12 = 3) ∨ (x_12 = 4) ∨ (x_12 = 5) ∨ (x_12 = 6) by omega) with k69 | k69 | k69 | k69 | k69 | k69 | k69 | k69
    · refine lv_tableOut (tgt := 322) hx hb dX10_isOn_69 (by rw [t69]; omega) (by decide) ?_
      refine lv_aload_n hx hb dX10_isOn_322 rfl (lv_at hl 4 rfl) ?_
      refine q_getr (ci := 8) (C := RX10) (T := TX10) (N := 26) hx hb hts (fun w h => List.mem_cons_of_mem _ (mfX100 w h)) hown hK hw hs.1 hs.2.1 rfl 0 (by decide) (hts _ (List.mem_cons_of_mem _ (mr3 _ (List.mem_of_getElem? (i := 10) rfl)))) (fun _ h => h) rfl (hs.2.2.1 0 rfl).1 dX10_isOn_323 ?_
      refine lv_iload_n hx hb dX10_isOn_326 rfl (lv_at hl 6 rfl) ?_
      refine q_iald hx hb hK hw (hs.2.2.1 0 rfl).2.1 1 (hs.2.2.1 0 rfl).2.2 rfl ⟨lx2, ux2⟩ (by omega) (by show _ < ((36525 : Nat) : Int); omega) dX10_isOn_327 (fun x_13 lx_13 ux_13 ex_13 => ?_)
      refine lv_aload_n hx hb dX10_isOn_328 rfl (lv_at hl 4 rfl) ?_
      refine q_getr (ci := 8) (C := RX10) (T := TX10) (N := 26) hx hb hts (fun w h => List.mem_cons_of_mem _ (mfX100 w h)) hown hK hw hs.1 hs.2.1 rfl 0 (by decide) (hts _ (List.mem_cons_of_mem _ (mr3 _ (List.mem_of_getElem? (i := 10) rfl)))) (fun _ h => h) rfl (hs.2.2.1 0 rfl).1 dX10_isOn_329 ?_
      refine lv_iload_n hx hb dX10_isOn_332 rfl (lv_at hl 3 rfl) ?_
      refine q_iald hx hb hK hw (hs.2.2.1 0 rfl).2.1 1 (hs.2.2.1 0 rfl).2.2 rfl ⟨lx_1, ux_1⟩ (by omega) (by show _ < ((36525 : Nat) : Int); omega) dX10_isOn_333 (fun x_14 lx_14 ux_14 ex_14 => ?_)
      first | refine q_isub hx hb dX10_isOn_334 ⟨by omega, by omega⟩ (fun x_15 lx_15 ux_15 ex_15 => ?_) | refine q_isubw hx hb dX10_isOn_334 (fun x_15 lx_15 ux_15 ex_15 => ?_)
      refine lv_iload hx hb dX10_isOn_335 (lv_at hl 2 rfl) ?_
      first | refine q_irem hx hb dX10_isOn_337 ⟨lx_15, ux_15⟩ ⟨lx_2, ux_2⟩ (by omega) (by omega) (fun x_16 lx_16 ux_16 ex_16 => ?_) | refine q_iremw hx hb dX10_isOn_337 ⟨lx_15, ux_15⟩ ⟨lx_2, ux_2⟩ (by omega) (fun x_16 lx_16 ux_16 ex_16 => ?_)
      have q337 : x_16 = (yy - ys) % x_2 := ex_16.1.trans (by congr 1 <;> omega)
      refine q_if_ne (tgt := 375) hx hb dX10_isOn_338 (by decide) ⟨lx_16, ux_16⟩ (fun c338 => ?_) (fun c338 => ?_)
      · refine q_iconst hx hb dX10_isOn_375 ?_
        exact q_ret_z hx hb hr hlocks hK hAe hw (by omega) (Nat.le_of_ble_eq_true rfl) (Nat.le_of_ble_eq_true rfl) dX10_isOn_376 ⟨rfl, rfl, by (rw [← ek, ← en, ← es, ← ev]; exact on_of (on_7 (by omega) (by omega) sv dv (by omega)) (by omega))⟩
      · refine lv_aload_n hx hb dX10_isOn_341 rfl (lv_at hl 4 rfl) ?_
        refine q_getr (ci := 8) (C := RX10) (T := TX10) (N := 26) hx hb hts (fun w h => List.mem_cons_of_mem _ (mfX100 w h)) hown hK hw hs.1 hs.2.1 rfl 1 (by decide) (hts _ (List.mem_cons_of_mem _ (mr3 _ (List.mem_of_getElem? (i := 11) rfl)))) (fun _ h => h) rfl (hs.2.2.1 1 rfl).1 dX10_isOn_342 ?_
        refine lv_iload_n hx hb dX10_isOn_345 rfl (lv_at hl 6 rfl) ?_
        refine q_iald hx hb hK hw (hs.2.2.1 1 rfl).2.1 1 (hs.2.2.1 1 rfl).2.2 rfl ⟨lx2, ux2⟩ (by omega) (by show _ < ((36525 : Nat) : Int); omega) dX10_isOn_346 (fun x_17 lx_17 ux_17 ex_17 => ?_)
        refine lv_aload_n hx hb dX10_isOn_347 rfl (lv_at hl 4 rfl) ?_
        refine q_getr (ci := 8) (C := RX10) (T := TX10) (N := 26) hx hb hts (fun w h => List.mem_cons_of_mem _ (mfX100 w h)) hown hK hw hs.1 hs.2.1 rfl 1 (by decide) (hts _ (List.mem_cons_of_mem _ (mr3 _ (List.mem_of_getElem? (i := 11) rfl)))) (fun _ h => h) rfl (hs.2.2.1 1 rfl).1 dX10_isOn_348 ?_
        refine lv_iload_n hx hb dX10_isOn_351 rfl (lv_at hl 3 rfl) ?_
        refine q_iald hx hb hK hw (hs.2.2.1 1 rfl).2.1 1 (hs.2.2.1 1 rfl).2.2 rfl ⟨lx_1, ux_1⟩ (by omega) (by show _ < ((36525 : Nat) : Int); omega) dX10_isOn_352 (fun x_18 lx_18 ux_18 ex_18 => ?_)
        refine q_icmp_ne (tgt := 375) hx hb dX10_isOn_353 (by decide) ⟨lx_17, ux_17⟩ ⟨lx_18, ux_18⟩ (fun c353 => ?_) (fun c353 => ?_)
        · refine q_iconst hx hb dX10_isOn_375 ?_
          exact q_ret_z hx hb hr hlocks hK hAe hw (by omega) (Nat.le_of_ble_eq_true rfl) (Nat.le_of_ble_eq_true rfl) dX10_isOn_376 ⟨rfl, rfl, by (rw [← ek, ← en, ← es, ← ev]; exact on_of (on_7 (by omega) (by omega) sv dv (by omega)) (by omega))⟩
        · refine lv_aload_n hx hb dX10_isOn_356 rfl (lv_at hl 4 rfl) ?_
          refine q_getr (ci := 8) (C := RX10) (T := TX10) (N := 26) hx hb hts (fun w h => List.mem_cons_of_mem _ (mfX100 w h)) hown hK hw hs.1 hs.2.1 rfl 2 (by decide) (hts _ (List.mem_cons_of_mem _ (mr3 _ (List.mem_of_getElem? (i := 12) rfl)))) (fun _ h => h) rfl (hs.2.2.1 2 rfl).1 dX10_isOn_357 ?_
          refine lv_iload_n hx hb dX10_isOn_360 rfl (lv_at hl 6 rfl) ?_
          refine q_iald hx hb hK hw (hs.2.2.1 2 rfl).2.1 1 (hs.2.2.1 2 rfl).2.2 rfl ⟨lx2, ux2⟩ (by omega) (by show _ < ((36525 : Nat) : Int); omega) dX10_isOn_361 (fun x_19 lx_19 ux_19 ex_19 => ?_)
          refine lv_aload_n hx hb dX10_isOn_362 rfl (lv_at hl 4 rfl) ?_
          refine q_getr (ci := 8) (C := RX10) (T := TX10) (N := 26) hx hb hts (fun w h => List.mem_cons_of_mem _ (mfX100 w h)) hown hK hw hs.1 hs.2.1 rfl 2 (by decide) (hts _ (List.mem_cons_of_mem _ (mr3 _ (List.mem_of_getElem? (i := 12) rfl)))) (fun _ h => h) rfl (hs.2.2.1 2 rfl).1 dX10_isOn_363 ?_
          refine lv_iload_n hx hb dX10_isOn_366 rfl (lv_at hl 3 rfl) ?_
          refine q_iald hx hb hK hw (hs.2.2.1 2 rfl).2.1 1 (hs.2.2.1 2 rfl).2.2 rfl ⟨lx_1, ux_1⟩ (by omega) (by show _ < ((36525 : Nat) : Int); omega) dX10_isOn_367 (fun x_20 lx_20 ux_20 ex_20 => ?_)
          refine q_icmp_ne (tgt := 375) hx hb dX10_isOn_368 (by decide) ⟨lx_19, ux_19⟩ ⟨lx_20, ux_20⟩ (fun c368 => ?_) (fun c368 => ?_)
          · refine q_iconst hx hb dX10_isOn_375 ?_
            exact q_ret_z hx hb hr hlocks hK hAe hw (by omega) (Nat.le_of_ble_eq_true rfl) (Nat.le_of_ble_eq_true rfl) dX10_isOn_376 ⟨rfl, rfl, by (rw [← ek, ← en, ← es, ← ev]; exact on_of (on_7 (by omega) (by omega) sv dv (by omega)) (by omega))⟩
          · refine q_iconst hx hb dX10_isOn_371 ?_
            refine lv_goto (tgt := 376) hx hb dX10_isOn_372 (by decide) ?_
            exact q_ret_z hx hb hr hlocks hK hAe hw (by omega) (Nat.le_of_ble_eq_true rfl) (Nat.le_of_ble_eq_true rfl) dX10_isOn_376 ⟨rfl, rfl, by (rw [← ek, ← en, ← es, ← ev]; exact on_of (on_7 (by omega) (by omega) sv dv (by omega)) (by omega))⟩
    · refine lv_tableIn (tgt := 112) (off := 43) hx hb dX10_isOn_69 (by rw [t69]; omega) (by rw [t69]; omega) (by rw [t69, k69]; rfl) (by decide) ?_
      refine lv_iload_n hx hb dX10_isOn_112 rfl (lv_at hl 6 rfl) ?_
      refine lv_iload_n hx hb dX10_isOn_113 rfl (lv_at hl 3 rfl) ?_
      refine q_icmp_ne (tgt := 121) hx hb dX10_isOn_114 (by decide) ⟨lx2, ux2⟩ ⟨lx_1, ux_1⟩ (fun c114 => ?_) (fun c114 => ?_)
      · refine q_iconst hx hb dX10_isOn_121 ?_
        exact q_ret_z hx hb hr hlocks hK hAe hw (by omega) (Nat.le_of_ble_eq_true rfl) (Nat.le_of_ble_eq_true rfl) dX10_isOn_122 ⟨rfl, rfl, by (rw [← ek, ← en, ← es, ← ev]; exact on_of (on_0 (by omega)) (by omega))⟩
      · refine q_iconst hx hb dX10_isOn_117 ?_
        refine lv_goto (tgt := 122) hx hb dX10_isOn_118 (by decide) ?_
        exact q_ret_z hx hb hr hlocks hK hAe hw (by omega) (Nat.le_of_ble_eq_true rfl) (Nat.le_of_ble_eq_true rfl) dX10_isOn_122 ⟨rfl, rfl, by (rw [← ek, ← en, ← es, ← ev]; exact on_of (on_0 (by omega)) (by omega))⟩
    · refine lv_tableIn (tgt := 123) (off := 54) hx hb dX10_isOn_69 (by rw [t69]; omega) (by rw [t69]; omega) (by rw [t69, k69]; rfl) (by decide) ?_
      refine lv_iload_n hx hb dX10_isOn_123 rfl (lv_at hl 6 rfl) ?_
      refine lv_iload_n hx hb dX10_isOn_124 rfl (lv_at hl 3 rfl) ?_
      first | refine q_isub hx hb dX10_isOn_125 ⟨by omega, by omega⟩ (fun x_21 lx_21 ux_21 ex_21 => ?_) | refine q_isubw hx hb dX10_isOn_125 (fun x_21 lx_21 ux_21 ex_21 => ?_)
      refine lv_iload hx hb dX10_isOn_126 (lv_at hl 2 rfl) ?_
      first | refine q_irem hx hb dX10_isOn_128 ⟨lx_21, ux_21⟩ ⟨lx_2, ux_2⟩ (by omega) (by omega) (fun x_22 lx_22 ux_22 ex_22 => ?_) | refine q_iremw hx hb dX10_isOn_128 ⟨lx_21, ux_21⟩ ⟨lx_2, ux_2⟩ (by omega) (fun x_22 lx_22 ux_22 ex_22 => ?_)
      have q128 : x_22 = (x2 - x_1) % x_2 := ex_22.1.trans (by congr 1 <;> omega)
      refine q_if_ne (tgt := 136) hx hb dX10_isOn_129 (by decide) ⟨lx_22, ux_22⟩ (fun c129 => ?_) (fun c129 => ?_)
      · refine q_iconst hx hb dX10_isOn_136 ?_
        exact q_ret_z hx hb hr hlocks hK hAe hw (by omega) (Nat.le_of_ble_eq_true rfl) (Nat.le_of_ble_eq_true rfl) dX10_isOn_137 ⟨rfl, rfl, by (rw [← ek, ← en, ← es, ← ev]; exact on_of (on_1 (by omega) (by omega)) (by omega))⟩
      · refine q_iconst hx hb dX10_isOn_132 ?_
        refine lv_goto (tgt := 137) hx hb dX10_isOn_133 (by decide) ?_
        exact q_ret_z hx hb hr hlocks hK hAe hw (by omega) (Nat.le_of_ble_eq_true rfl) (Nat.le_of_ble_eq_true rfl) dX10_isOn_137 ⟨rfl, rfl, by (rw [← ek, ← en, ← es, ← ev]; exact on_of (on_1 (by omega) (by omega)) (by omega))⟩
    · refine lv_tableIn (tgt := 138) (off := 69) hx hb dX10_isOn_69 (by rw [t69]; omega) (by rw [t69]; omega) (by rw [t69, k69]; rfl) (by decide) ?_
      refine lv_iload hx hb dX10_isOn_138 (lv_at hl 1 rfl) ?_
      refine lv_iload_n hx hb dX10_isOn_140 rfl (lv_at hl 6 rfl) ?_
      refine q_call_i hA hK hw (va_runS (As := [.int (iI x2)]) (rest := [.int (iI x_3)]) ⟨hx, hb, hml, hown, hts⟩ (c_X10_weekdayOf zo l D cy L0 f0 x2 lx2 ux2 _) (va_cwS 1 hts (gT (inS (mr24 _ (List.mem_of_getElem? (i := 1) rfl)) (mr24 _ (List.mem_of_getElem? (i := 2) rfl)) (mr1 _ (List.mem_of_getElem? (i := 5) rfl)) (mr24 _ (List.mem_of_getElem? (i := 3) rfl)))) rfl rfl rfl (by decide +kernel) ⟨Nat.le_of_ble_eq_true rfl, Nat.le_of_ble_eq_true rfl⟩) (Wd.preS zo hA hZ hw hK) rfl rfl hl.1 rfl (lv_room (Nat.le_of_ble_eq_true rfl)) dX10_isOn_141 ⟨Nat.le_of_ble_eq_true rfl, Nat.le_of_ble_eq_true rfl⟩) (fun x_23 L1 f1 H locs lx_23 ux_23 ex_23 hw => ?_)
      obtain ⟨rfl, rfl, ex_23⟩ := ex_23
      have q141 : x_23 = wd x2 := ex_23.2.2 ⟨by omega, by omega⟩
      have w141 : 0 ≤ x_23 ∧ x_23 ≤ 6 := by have := ex_23.2.2 ⟨by omega, by omega⟩; omega
      refine lv_ishr hx hb dX10_isOn_144 ?_
      refine q_num (fun x_24 lx_24 ux_24 ex_24 => ?_)
      have b144 := ex_24
      refine q_iconst hx hb dX10_isOn_145 ?_
      refine lv_iand hx hb dX10_isOn_146 ?_
      refine q_num (fun x_25 lx_25 ux_25 ex_25 => ?_)
      have b146 := bit_at (v := x_3) (v' := x_3) rfl (by have := ok.v2 (by omega); omega) (by have := ok.v2 (by omega); omega) (by omega) (by omega) b144 ex_25
      rw [q141] at b146
      refine q_iconst hx hb dX10_isOn_147 ?_
      refine q_icmp_ne (tgt := 174) hx hb dX10_isOn_148 (by decide) ⟨lx_25, ux_25⟩ ⟨by decide, by decide⟩ (fun c148 => ?_) (fun c148 => ?_)
      · refine q_iconst hx hb dX10_isOn_174 ?_
        exact q_ret_z hx hb hr hlocks hK hAe hw (by omega) (Nat.le_of_ble_eq_true rfl) (Nat.le_of_ble_eq_true rfl) dX10_isOn_175 ⟨rfl, rfl, by (rw [← ek, ← en, ← es, ← ev]; exact on_of (on_2 (by omega) (by omega) (by omega)) (by first | exact Or.inl ⟨by omega, b146.mp (by omega), by omega⟩ | exact Or.inr ⟨by omega, fun z => absurd (b146.mpr z.1) (by omega)⟩ | exact Or.inr ⟨by omega, fun z => by have := z.2; omega⟩ | fail "none"))⟩
      · refine lv_iload_n hx hb dX10_isOn_151 rfl (lv_at hl 6 rfl) ?_
        refine q_iconst hx hb dX10_isOn_152 ?_
        first | refine q_iadd hx hb dX10_isOn_153 ⟨by omega, by omega⟩ (fun x_26 lx_26 ux_26 ex_26 => ?_) | refine q_iaddw hx hb dX10_isOn_153 (fun x_26 lx_26 ux_26 ex_26 => ?_)
        refine q_bipush hx hb dX10_isOn_154 rfl ?_
        first | refine q_idiv hx hb dX10_isOn_156 ⟨lx_26, ux_26⟩ ⟨by decide, by decide⟩ (by omega) (by omega) (fun x_27 lx_27 ux_27 ex_27 => ?_) | refine q_idivw hx hb dX10_isOn_156 ⟨lx_26, ux_26⟩ ⟨by decide, by decide⟩ (by omega) (fun x_27 lx_27 ux_27 ex_27 => ?_)
        refine lv_iload_n hx hb dX10_isOn_157 rfl (lv_at hl 3 rfl) ?_
        refine q_iconst hx hb dX10_isOn_158 ?_
        first | refine q_iadd hx hb dX10_isOn_159 ⟨by omega, by omega⟩ (fun x_28 lx_28 ux_28 ex_28 => ?_) | refine q_iaddw hx hb dX10_isOn_159 (fun x_28 lx_28 ux_28 ex_28 => ?_)
        refine q_bipush hx hb dX10_isOn_160 rfl ?_
        first | refine q_idiv hx hb dX10_isOn_162 ⟨lx_28, ux_28⟩ ⟨by decide, by decide⟩ (by omega) (by omega) (fun x_29 lx_29 ux_29 ex_29 => ?_) | refine q_idivw hx hb dX10_isOn_162 ⟨lx_28, ux_28⟩ ⟨by decide, by decide⟩ (by omega) (fun x_29 lx_29 ux_29 ex_29 => ?_)
        first | refine q_isub hx hb dX10_isOn_163 ⟨by omega, by omega⟩ (fun x_30 lx_30 ux_30 ex_30 => ?_) | refine q_isubw hx hb dX10_isOn_163 (fun x_30 lx_30 ux_30 ex_30 => ?_)
        refine lv_iload hx hb dX10_isOn_164 (lv_at hl 2 rfl) ?_
        first | refine q_irem hx hb dX10_isOn_166 ⟨lx_30, ux_30⟩ ⟨lx_2, ux_2⟩ (by omega) (by omega) (fun x_31 lx_31 ux_31 ex_31 => ?_) | refine q_iremw hx hb dX10_isOn_166 ⟨lx_30, ux_30⟩ ⟨lx_2, ux_2⟩ (by omega) (fun x_31 lx_31 ux_31 ex_31 => ?_)
        have q166 : x_31 = ((x2 + 5) / 7 - (x_1 + 5) / 7) % x_2 := ex_31.1.trans (by congr 1 <;> omega)
        refine q_if_ne (tgt := 174) hx hb dX10_isOn_167 (by decide) ⟨lx_31, ux_31⟩ (fun c167 => ?_) (fun c167 => ?_)
        · refine q_iconst hx hb dX10_isOn_174 ?_
          exact q_ret_z hx hb hr hlocks hK hAe hw (by omega) (Nat.le_of_ble_eq_true rfl) (Nat.le_of_ble_eq_true rfl) dX10_isOn_175 ⟨rfl, rfl, by (rw [← ek, ← en, ← es, ← ev]; exact on_of (on_2 (by omega) (by omega) (by omega)) (by first | exact Or.inl ⟨by omega, b146.mp (by omega), by omega⟩ | exact Or.inr ⟨by omega, fun z => absurd (b146.mpr z.1) (by omega)⟩ | exact Or.inr ⟨by omega, fun z => by have := z.2; omega⟩ | fail "none"))⟩
        · refine q_iconst hx hb dX10_isOn_170 ?_
          refine lv_goto (tgt := 175) hx hb dX10_isOn_171 (by decide) ?_
          exact q_ret_z hx hb hr hlocks hK hAe hw (by omega) (Nat.le_of_ble_eq_true rfl) (Nat.le_of_ble_eq_true rfl) dX10_isOn_175 ⟨rfl, rfl, by (rw [← ek, ← en, ← es, ← ev]; exact on_of (on_2 (by omega) (by omega) (by omega)) (by first | exact Or.inl ⟨by omega, b146.mp (by omega), by omega⟩ | exact Or.inr ⟨by omega, fun z => absurd (b146.mpr z.1) (by omega)⟩ | exact Or.inr ⟨by omega, fun z => by have := z.2; omega⟩ | fail "none"))⟩
    · refine lv_tableIn (tgt := 176) (off := 107) hx hb dX10_isOn_69 (by rw [t69]; omega) (by rw [t69]; omega) (by rw [t69, k69]; rfl) (by decide) ?_
      refine lv_iload hx hb dX10_isOn_176 (lv_at hl 0 rfl) ?_
      refine lv_iload hx hb dX10_isOn_178 (lv_at hl 2 rfl) ?_
      first | refine q_irem hx hb dX10_isOn_180 ⟨lx_11, ux_11⟩ ⟨lx_2, ux_2⟩ (by omega) (by omega) (fun x_32 lx_32 ux_32 ex_32 => ?_) | refine q_iremw hx hb dX10_isOn_180 ⟨lx_11, ux_11⟩ ⟨lx_2, ux_2⟩ (by omega) (fun x_32 lx_32 ux_32 ex_32 => ?_)
      have q180 : x_32 = (12 * (yy - ys) + mm - ms) % x_2 := ex_32.1.trans (by congr 1 <;> omega)
      refine q_if_ne (tgt := 199) hx hb dX10_isOn_181 (by decide) ⟨lx_32, ux_32⟩ (fun c181 => ?_) (fun c181 => ?_)
      · refine q_iconst hx hb dX10_isOn_199 ?_
        exact q_ret_z hx hb hr hlocks hK hAe hw (by omega) (Nat.le_of_ble_eq_true rfl) (Nat.le_of_ble_eq_true rfl) dX10_isOn_200 ⟨rfl, rfl, by (rw [← ek, ← en, ← es, ← ev]; exact on_of (on_3 (by omega) sv dv (by omega)) (by omega))⟩
      · refine lv_aload_n hx hb dX10_isOn_184 rfl (lv_at hl 4 rfl) ?_
        refine q_getr (ci := 8) (C := RX10) (T := TX10) (N := 26) hx hb hts (fun w h => List.mem_cons_of_mem _ (mfX100 w h)) hown hK hw hs.1 hs.2.1 rfl 2 (by decide) (hts _ (List.mem_cons_of_mem _ (mr3 _ (List.mem_of_getElem? (i := 12) rfl)))) (fun _ h => h) rfl (hs.2.2.1 2 rfl).1 dX10_isOn_185 ?_
        refine lv_iload_n hx hb dX10_isOn_188 rfl (lv_at hl 6 rfl) ?_
        refine q_iald hx hb hK hw (hs.2.2.1 2 rfl).2.1 1 (hs.2.2.1 2 rfl).2.2 rfl ⟨lx2, ux2⟩ (by omega) (by show _ < ((36525 : Nat) : Int); omega) dX10_isOn_189 (fun x_33 lx_33 ux_33 ex_33 => ?_)
        refine lv_iload hx hb dX10_isOn_190 (lv_at hl 1 rfl) ?_
        refine q_icmp_ne (tgt := 199) hx hb dX10_isOn_192 (by decide) ⟨lx_33, ux_33⟩ ⟨lx_3, ux_3⟩ (fun c192 => ?_) (fun c192 => ?_)
        · refine q_iconst hx hb dX10_isOn_199 ?_
          exact q_ret_z hx hb hr hlocks hK hAe hw (by omega) (Nat.le_of_ble_eq_true rfl) (Nat.le_of_ble_eq_true rfl) dX10_isOn_200 ⟨rfl, rfl, by (rw [← ek, ← en, ← es, ← ev]; exact on_of (on_3 (by omega) sv dv (by omega)) (by omega))⟩
        · refine q_iconst hx hb dX10_isOn_195 ?_
          refine lv_goto (tgt := 200) hx hb dX10_isOn_196 (by decide) ?_
          exact q_ret_z hx hb hr hlocks hK hAe hw (by omega) (Nat.le_of_ble_eq_true rfl) (Nat.le_of_ble_eq_true rfl) dX10_isOn_200 ⟨rfl, rfl, by (rw [← ek, ← en, ← es, ← ev]; exact on_of (on_3 (by omega) sv dv (by omega)) (by omega))⟩
    · refine lv_tableIn (tgt := 201) (off := 132) hx hb dX10_isOn_69 (by rw [t69]; omega) (by rw [t69]; omega) (by rw [t69, k69]; rfl) (by decide) ?_
      refine lv_iload hx hb dX10_isOn_201 (lv_at hl 0 rfl) ?_
      refine lv_iload hx hb dX10_isOn_203 (lv_at hl 2 rfl) ?_
      first | refine q_irem hx hb dX10_isOn_205 ⟨lx_11, ux_11⟩ ⟨lx_2, ux_2⟩ (by omega) (by omega) (fun x_34 lx_34 ux_34 ex_34 => ?_) | refine q_iremw hx hb dX10_isOn_205 ⟨lx_11, ux_11⟩ ⟨lx_2, ux_2⟩ (by omega) (fun x_34 lx_34 ux_34 ex_34 => ?_)
      have q205 : x_34 = (12 * (yy - ys) + mm - ms) % x_2 := ex_34.1.trans (by congr 1 <;> omega)
      refine q_if_ne (tgt := 233) hx hb dX10_isOn_206 (by decide) ⟨lx_34, ux_34⟩ (fun c206 => ?_) (fun c206 => ?_)
      · refine q_iconst hx hb dX10_isOn_233 ?_
        exact q_ret_z hx hb hr hlocks hK hAe hw (by omega) (Nat.le_of_ble_eq_true rfl) (Nat.le_of_ble_eq_true rfl) dX10_isOn_234 ⟨rfl, rfl, by (rw [← ek, ← en, ← es, ← ev]; exact on_of (on_4 (by omega) sv dv (by omega)) (by omega))⟩
      · refine lv_aload_n hx hb dX10_isOn_209 rfl (lv_at hl 4 rfl) ?_
        refine q_getr (ci := 8) (C := RX10) (T := TX10) (N := 26) hx hb hts (fun w h => List.mem_cons_of_mem _ (mfX100 w h)) hown hK hw hs.1 hs.2.1 rfl 2 (by decide) (hts _ (List.mem_cons_of_mem _ (mr3 _ (List.mem_of_getElem? (i := 12) rfl)))) (fun _ h => h) rfl (hs.2.2.1 2 rfl).1 dX10_isOn_210 ?_
        refine lv_iload_n hx hb dX10_isOn_213 rfl (lv_at hl 6 rfl) ?_
        refine q_iald hx hb hK hw (hs.2.2.1 2 rfl).2.1 1 (hs.2.2.1 2 rfl).2.2 rfl ⟨lx2, ux2⟩ (by omega) (by show _ < ((36525 : Nat) : Int); omega) dX10_isOn_214 (fun x_35 lx_35 ux_35 ex_35 => ?_)
        refine lv_aload_n hx hb dX10_isOn_215 rfl (lv_at hl 4 rfl) ?_
        refine q_getr (ci := 8) (C := RX10) (T := TX10) (N := 26) hx hb hts (fun w h => List.mem_cons_of_mem _ (mfX100 w h)) hown hK hw hs.1 hs.2.1 rfl 3 (by decide) (hts _ (List.mem_cons_of_mem _ (mr3 _ (List.mem_of_getElem? (i := 13) rfl)))) (fun _ h => h) rfl (hs.2.2.1 3 rfl).1 dX10_isOn_216 ?_
        refine lv_iload_n hx hb dX10_isOn_219 rfl (lv_at hl 6 rfl) ?_
        refine q_iald hx hb hK hw (hs.2.2.1 3 rfl).2.1 1 (hs.2.2.1 3 rfl).2.2 rfl ⟨lx2, ux2⟩ (by omega) (by show _ < ((36525 : Nat) : Int); omega) dX10_isOn_220 (fun x_36 lx_36 ux_36 ex_36 => ?_)
        refine lv_iload hx hb dX10_isOn_221 (lv_at hl 1 rfl) ?_
        first | refine q_isub hx hb dX10_isOn_223 ⟨by omega, by omega⟩ (fun x_37 lx_37 ux_37 ex_37 => ?_) | refine q_isubw hx hb dX10_isOn_223 (fun x_37 lx_37 ux_37 ex_37 => ?_)
        refine q_iconst hx hb dX10_isOn_224 ?_
        first | refine q_iadd hx hb dX10_isOn_225 ⟨by omega, by omega⟩ (fun x_38 lx_38 ux_38 ex_38 => ?_) | refine q_iaddw hx hb dX10_isOn_225 (fun x_38 lx_38 ux_38 ex_38 => ?_)
        refine q_icmp_ne (tgt := 233) hx hb dX10_isOn_226 (by decide) ⟨lx_35, ux_35⟩ ⟨lx_38, ux_38⟩ (fun c226 => ?_) (fun c226 => ?_)
        · refine q_iconst hx hb dX10_isOn_233 ?_
          exact q_ret_z hx hb hr hlocks hK hAe hw (by omega) (Nat.le_of_ble_eq_true rfl) (Nat.le_of_ble_eq_true rfl) dX10_isOn_234 ⟨rfl, rfl, by (rw [← ek, ← en, ← es, ← ev]; exact on_of (on_4 (by omega) sv dv (by omega)) (by omega))⟩
        · refine q_iconst hx hb dX10_isOn_229 ?_
          refine lv_goto (tgt := 234) hx hb dX10_isOn_230 (by decide) ?_
          exact q_ret_z hx hb hr hlocks hK hAe hw (by omega) (Nat.le_of_ble_eq_true rfl) (Nat.le_of_ble_eq_true rfl) dX10_isOn_234 ⟨rfl, rfl, by (rw [← ek, ← en, ← es, ← ev]; exact on_of (on_4 (by omega) sv dv (by omega)) (by omega))⟩
    · refine lv_tableIn (tgt := 235) (off := 166) hx hb dX10_isOn_69 (by rw [t69]; omega) (by rw [t69]; omega) (by rw [t69, k69]; rfl) (by decide) ?_
      refine lv_iload hx hb dX10_isOn_235 (lv_at hl 0 rfl) ?_
      refine lv_iload hx hb dX10_isOn_237 (lv_at hl 2 rfl) ?_
      first | refine q_irem hx hb dX10_isOn_239 ⟨lx_11, ux_11⟩ ⟨lx_2, ux_2⟩ (by omega) (by omega) (fun x_39 lx_39 ux_39 ex_39 => ?_) | refine q_iremw hx hb dX10_isOn_239 ⟨lx_11, ux_11⟩ ⟨lx_2, ux_2⟩ (by omega) (fun x_39 lx_39 ux_39 ex_39 => ?_)
      have q239 : x_39 = (12 * (yy - ys) + mm - ms) % x_2 := ex_39.1.trans (by congr 1 <;> omega)
      refine q_if_ne (tgt := 279) hx hb dX10_isOn_240 (by decide) ⟨lx_39, ux_39⟩ (fun c240 => ?_) (fun c240 => ?_)
      · refine q_iconst hx hb dX10_isOn_279 ?_
        exact q_ret_z hx hb hr hlocks hK hAe hw (by omega) (Nat.le_of_ble_eq_true rfl) (Nat.le_of_ble_eq_true rfl) dX10_isOn_280 ⟨rfl, rfl, by (rw [← ek, ← en, ← es, ← ev]; exact on_of (on_5 (by omega) sv dv (by omega) (ok.w5 (by omega)).1 (ok.w5 (by omega)).2) (by omega))⟩
      · refine lv_iload_n hx hb dX10_isOn_243 rfl (lv_at hl 6 rfl) ?_
        refine q_call_i hA hK hw (va_runS (As := [.int (iI x2)]) (rest := []) ⟨hx, hb, hml, hown, hts⟩ (c_X10_weekdayOf zo l D cy L0 f0 x2 lx2 ux2 _) (va_cwS 1 hts (gT (inS (mr24 _ (List.mem_of_getElem? (i := 1) rfl)) (mr24 _ (List.mem_of_getElem? (i := 2) rfl)) (mr1 _ (List.mem_of_getElem? (i := 5) rfl)) (mr24 _ (List.mem_of_getElem? (i := 3) rfl)))) rfl rfl rfl (by decide +kernel) ⟨Nat.le_of_ble_eq_true rfl, Nat.le_of_ble_eq_true rfl⟩) (Wd.preS zo hA hZ hw hK) rfl rfl hl.1 rfl (lv_room (Nat.le_of_ble_eq_true rfl)) dX10_isOn_244 ⟨Nat.le_of_ble_eq_true rfl, Nat.le_of_ble_eq_true rfl⟩) (fun x_40 L1 f1 H locs lx_40 ux_40 ex_40 hw => ?_)
        obtain ⟨rfl, rfl, ex_40⟩ := ex_40
        have q244 : x_40 = (x2 + 5) % 7 := ex_40.2.2 ⟨by omega, by omega⟩
        refine lv_aload_n hx hb dX10_isOn_247 rfl (lv_at hl 4 rfl) ?_
        refine lv_iload_n hx hb dX10_isOn_248 rfl (lv_at hl 5 rfl) ?_
        refine q_bipush hx hb dX10_isOn_249 rfl ?_
        refine q_call_i hA hK hw (va_runV (As := [.int (iI x1), .int (iI 7)]) (rest := [.int (iI x_40)]) ⟨hx, hb, hml, hown, hts⟩ (c_X10_get zo l D cy L0 f0 a0 x1 lx1 ux1 7 (by decide) (by decide) ad hs (by omega) (by omega) (by omega) (by omega) _) (cwV 2 hts (gT (inV (mr25 _ (List.mem_of_getElem? (i := 0) rfl)) (mr25 _ (List.mem_of_getElem? (i := 1) rfl)) (mr25 _ (List.mem_of_getElem? (i := 2) rfl)) (mr1 _ (List.mem_of_getElem? (i := 5) rfl)) (mr25 _ (List.mem_of_getElem? (i := 3) rfl)))) rfl rfl rfl (by decide +kernel) ⟨Nat.le_of_ble_eq_true rfl, Nat.le_of_ble_eq_true rfl⟩) (Wd.preV zo hA hZ hw hK hs.1 hs.2.1 rfl) rfl rfl hl.1 rfl (lv_room (Nat.le_of_ble_eq_true rfl)) dX10_isOn_251 ⟨Nat.le_of_ble_eq_true rfl, Nat.le_of_ble_eq_true rfl⟩) (fun x_41 L1 f1 H locs lx_41 ux_41 ex_41 hw => ?_)
        obtain ⟨rfl, rfl, ex_41⟩ := ex_41
        refine q_icmp_ne (tgt := 279) hx hb dX10_isOn_254 (by decide) ⟨lx_40, ux_40⟩ ⟨lx_41, ux_41⟩ (fun c254 => ?_) (fun c254 => ?_)
        · refine q_iconst hx hb dX10_isOn_279 ?_
          exact q_ret_z hx hb hr hlocks hK hAe hw (by omega) (Nat.le_of_ble_eq_true rfl) (Nat.le_of_ble_eq_true rfl) dX10_isOn_280 ⟨rfl, rfl, by (rw [← ek, ← en, ← es, ← ev]; exact on_of (on_5 (by omega) sv dv (by omega) (ok.w5 (by omega)).1 (ok.w5 (by omega)).2) (by omega))⟩
        · refine lv_aload_n hx hb dX10_isOn_257 rfl (lv_at hl 4 rfl) ?_
          refine q_getr (ci := 8) (C := RX10) (T := TX10) (N := 26) hx hb hts (fun w h => List.mem_cons_of_mem _ (mfX100 w h)) hown hK hw hs.1 hs.2.1 rfl 2 (by decide) (hts _ (List.mem_cons_of_mem _ (mr3 _ (List.mem_of_getElem? (i := 12) rfl)))) (fun _ h => h) rfl (hs.2.2.1 2 rfl).1 dX10_isOn_258 ?_
          refine lv_iload_n hx hb dX10_isOn_261 rfl (lv_at hl 6 rfl) ?_
          refine q_iald hx hb hK hw (hs.2.2.1 2 rfl).2.1 1 (hs.2.2.1 2 rfl).2.2 rfl ⟨lx2, ux2⟩ (by omega) (by show _ < ((36525 : Nat) : Int); omega) dX10_isOn_262 (fun x_42 lx_42 ux_42 ex_42 => ?_)
          refine q_iconst hx hb dX10_isOn_263 ?_
          first | refine q_isub hx hb dX10_isOn_264 ⟨by omega, by omega⟩ (fun x_43 lx_43 ux_43 ex_43 => ?_) | refine q_isubw hx hb dX10_isOn_264 (fun x_43 lx_43 ux_43 ex_43 => ?_)
          refine q_bipush hx hb dX10_isOn_265 rfl ?_
          first | refine q_idiv hx hb dX10_isOn_267 ⟨lx_43, ux_43⟩ ⟨by decide, by decide⟩ (by omega) (by omega) (fun x_44 lx_44 ux_44 ex_44 => ?_) | refine q_idivw hx hb dX10_isOn_267 ⟨lx_43, ux_43⟩ ⟨by decide, by decide⟩ (by omega) (fun x_44 lx_44 ux_44 ex_44 => ?_)
          refine q_iconst hx hb dX10_isOn_268 ?_
          first | refine q_iadd hx hb dX10_isOn_269 ⟨by omega, by omega⟩ (fun x_45 lx_45 ux_45 ex_45 => ?_) | refine q_iaddw hx hb dX10_isOn_269 (fun x_45 lx_45 ux_45 ex_45 => ?_)
          refine lv_iload hx hb dX10_isOn_270 (lv_at hl 1 rfl) ?_
          refine q_icmp_ne (tgt := 279) hx hb dX10_isOn_272 (by decide) ⟨lx_45, ux_45⟩ ⟨lx_3, ux_3⟩ (fun c272 => ?_) (fun c272 => ?_)
          · refine q_iconst hx hb dX10_isOn_279 ?_
            exact q_ret_z hx hb hr hlocks hK hAe hw (by omega) (Nat.le_of_ble_eq_true rfl) (Nat.le_of_ble_eq_true rfl) dX10_isOn_280 ⟨rfl, rfl, by (rw [← ek, ← en, ← es, ← ev]; exact on_of (on_5 (by omega) sv dv (by omega) (ok.w5 (by omega)).1 (ok.w5 (by omega)).2) (by omega))⟩
          · refine q_iconst hx hb dX10_isOn_275 ?_
            refine lv_goto (tgt := 280) hx hb dX10_isOn_276 (by decide) ?_
            exact q_ret_z hx hb hr hlocks hK hAe hw (by omega) (Nat.le_of_ble_eq_true rfl) (Nat.le_of_ble_eq_true rfl) dX10_isOn_280 ⟨rfl, rfl, by (rw [← ek, ← en, ← es, ← ev]; exact on_of (on_5 (by omega) sv dv (by omega) (ok.w5 (by omega)).1 (ok.w5 (by omega)).2) (by omega))⟩
    · refine lv_tableIn (tgt := 281) (off := 212) hx hb dX10_isOn_69 (by rw [t69]; omega) (by rw [t69]; omega) (by rw [t69, k69]; rfl) (by decide) ?_
      refine lv_iload hx hb dX10_isOn_281 (lv_at hl 0 rfl) ?_
      refine lv_iload hx hb dX10_isOn_283 (lv_at hl 2 rfl) ?_
      first | refine q_irem hx hb dX10_isOn_285 ⟨lx_11, ux_11⟩ ⟨lx_2, ux_2⟩ (by omega) (by omega) (fun x_46 lx_46 ux_46 ex_46 => ?_) | refine q_iremw hx hb dX10_isOn_285 ⟨lx_11, ux_11⟩ ⟨lx_2, ux_2⟩ (by omega) (fun x_46 lx_46 ux_46 ex_46 => ?_)
      have q285 : x_46 = (12 * (yy - ys) + mm - ms) % x_2 := ex_46.1.trans (by congr 1 <;> omega)
      refine q_if_ne (tgt := 320) hx hb dX10_isOn_286 (by decide) ⟨lx_46, ux_46⟩ (fun c286 => ?_) (fun c286 => ?_)
      · refine q_iconst hx hb dX10_isOn_320 ?_
        exact q_ret_z hx hb hr hlocks hK hAe hw (by omega) (Nat.le_of_ble_eq_true rfl) (Nat.le_of_ble_eq_true rfl) dX10_isOn_321 ⟨rfl, rfl, by (rw [← ek, ← en, ← es, ← ev]; exact on_of (on_6 (by omega) sv dv (by omega) (by have := ok.v6 (by omega); omega) (by have := ok.v6 (by omega); omega)) (by omega))⟩
      · refine lv_iload_n hx hb dX10_isOn_289 rfl (lv_at hl 6 rfl) ?_
        refine q_call_i hA hK hw (va_runS (As := [.int (iI x2)]) (rest := []) ⟨hx, hb, hml, hown, hts⟩ (c_X10_weekdayOf zo l D cy L0 f0 x2 lx2 ux2 _) (va_cwS 1 hts (gT (inS (mr24 _ (List.mem_of_getElem? (i := 1) rfl)) (mr24 _ (List.mem_of_getElem? (i := 2) rfl)) (mr1 _ (List.mem_of_getElem? (i := 5) rfl)) (mr24 _ (List.mem_of_getElem? (i := 3) rfl)))) rfl rfl rfl (by decide +kernel) ⟨Nat.le_of_ble_eq_true rfl, Nat.le_of_ble_eq_true rfl⟩) (Wd.preS zo hA hZ hw hK) rfl rfl hl.1 rfl (lv_room (Nat.le_of_ble_eq_true rfl)) dX10_isOn_290 ⟨Nat.le_of_ble_eq_true rfl, Nat.le_of_ble_eq_true rfl⟩) (fun x_47 L1 f1 H locs lx_47 ux_47 ex_47 hw => ?_)
        obtain ⟨rfl, rfl, ex_47⟩ := ex_47
        have q290 : x_47 = (x2 + 5) % 7 := ex_47.2.2 ⟨by omega, by omega⟩
        refine lv_iload hx hb dX10_isOn_293 (lv_at hl 1 rfl) ?_
        refine q_icmp_ne (tgt := 320) hx hb dX10_isOn_295 (by decide) ⟨lx_47, ux_47⟩ ⟨lx_3, ux_3⟩ (fun c295 => ?_) (fun c295 => ?_)
        · refine q_iconst hx hb dX10_isOn_320 ?_
          exact q_ret_z hx hb hr hlocks hK hAe hw (by omega) (Nat.le_of_ble_eq_true rfl) (Nat.le_of_ble_eq_true rfl) dX10_isOn_321 ⟨rfl, rfl, by (rw [← ek, ← en, ← es, ← ev]; exact on_of (on_6 (by omega) sv dv (by omega) (by have := ok.v6 (by omega); omega) (by have := ok.v6 (by omega); omega)) (by omega))⟩
        · refine lv_aload_n hx hb dX10_isOn_298 rfl (lv_at hl 4 rfl) ?_
          refine q_getr (ci := 8) (C := RX10) (T := TX10) (N := 26) hx hb hts (fun w h => List.mem_cons_of_mem _ (mfX100 w h)) hown hK hw hs.1 hs.2.1 rfl 2 (by decide) (hts _ (List.mem_cons_of_mem _ (mr3 _ (List.mem_of_getElem? (i := 12) rfl)))) (fun _ h => h) rfl (hs.2.2.1 2 rfl).1 dX10_isOn_299 ?_
          refine lv_iload_n hx hb dX10_isOn_302 rfl (lv_at hl 6 rfl) ?_
          refine q_iald hx hb hK hw (hs.2.2.1 2 rfl).2.1 1 (hs.2.2.1 2 rfl).2.2 rfl ⟨lx2, ux2⟩ (by omega) (by show _ < ((36525 : Nat) : Int); omega) dX10_isOn_303 (fun x_48 lx_48 ux_48 ex_48 => ?_)
          refine q_bipush hx hb dX10_isOn_304 rfl ?_
          first | refine q_iadd hx hb dX10_isOn_306 ⟨by omega, by omega⟩ (fun x_49 lx_49 ux_49 ex_49 => ?_) | refine q_iaddw hx hb dX10_isOn_306 (fun x_49 lx_49 ux_49 ex_49 => ?_)
          refine lv_aload_n hx hb dX10_isOn_307 rfl (lv_at hl 4 rfl) ?_
          refine q_getr (ci := 8) (C := RX10) (T := TX10) (N := 26) hx hb hts (fun w h => List.mem_cons_of_mem _ (mfX100 w h)) hown hK hw hs.1 hs.2.1 rfl 3 (by decide) (hts _ (List.mem_cons_of_mem _ (mr3 _ (List.mem_of_getElem? (i := 13) rfl)))) (fun _ h => h) rfl (hs.2.2.1 3 rfl).1 dX10_isOn_308 ?_
          refine lv_iload_n hx hb dX10_isOn_311 rfl (lv_at hl 6 rfl) ?_
          refine q_iald hx hb hK hw (hs.2.2.1 3 rfl).2.1 1 (hs.2.2.1 3 rfl).2.2 rfl ⟨lx2, ux2⟩ (by omega) (by show _ < ((36525 : Nat) : Int); omega) dX10_isOn_312 (fun x_50 lx_50 ux_50 ex_50 => ?_)
          refine q_icmp_le (tgt := 320) hx hb dX10_isOn_313 (by decide) ⟨lx_49, ux_49⟩ ⟨lx_50, ux_50⟩ (fun c313 => ?_) (fun c313 => ?_)
          · refine q_iconst hx hb dX10_isOn_320 ?_
            exact q_ret_z hx hb hr hlocks hK hAe hw (by omega) (Nat.le_of_ble_eq_true rfl) (Nat.le_of_ble_eq_true rfl) dX10_isOn_321 ⟨rfl, rfl, by (rw [← ek, ← en, ← es, ← ev]; exact on_of (on_6 (by omega) sv dv (by omega) (by have := ok.v6 (by omega); omega) (by have := ok.v6 (by omega); omega)) (by omega))⟩
          · refine q_iconst hx hb dX10_isOn_316 ?_
            refine lv_goto (tgt := 321) hx hb dX10_isOn_317 (by decide) ?_
            exact q_ret_z hx hb hr hlocks hK hAe hw (by omega) (Nat.le_of_ble_eq_true rfl) (Nat.le_of_ble_eq_true rfl) dX10_isOn_321 ⟨rfl, rfl, by (rw [← ek, ← en, ← es, ← ev]; exact on_of (on_6 (by omega) sv dv (by omega) (by have := ok.v6 (by omega); omega) (by have := ok.v6 (by omega); omega)) (by omega))⟩
  · refine q_iconst hx hb dX10_isOn_29 ?_
    exact q_ret_z hx hb hr hlocks hK hAe hw (by omega) (Nat.le_of_ble_eq_true rfl) (Nat.le_of_ble_eq_true rfl) dX10_isOn_30 ⟨rfl, rfl, by exact Or.inr ⟨by omega, fun z => absurd (onK_lo z) (by omega)⟩⟩
set_option maxHeartbeats 4000000 in
set_option maxRecDepth 100000 in
theorem c_X10_laysKeys_f {Z : Zt} (zo : Zok Z) (l : Launch) (D : va_G) (cy : Cy) (L0 : List Nat) (f0 : Nat → va_E) (a0 : Nat) (x1 : Int) (lx1 : -2147483648 ≤ x1) (ux1 : x1 ≤ 2147483647) (x2 : Int) (lx2 : -2147483648 ≤ x2) (ux2 : x2 ≤ 2147483647) (ad : Nat → Nat) (hs : MS cy L0 f0 a0 ad) (b1 : 0 ≤ x1) (b2 : x1 ≤ 11) (s34 : aI f0 (ad 4) (44 * x1 + 3) = 0 ∨ 1 ≤ aI f0 (ad 4) (44 * x1 + 4)) (s5a : 0 ≤ aI f0 (ad 4) (44 * x1 + 5)) (s5b : aI f0 (ad 4) (44 * x1 + 5) ≤ 36524) (s8a : -1 ≤ aI f0 (ad 4) (44 * x1 + 8)) (s8b : aI f0 (ad 4) (44 * x1 + 8) ≤ 36524) (saa : 0 ≤ aI f0 (ad 4) (44 * x1 + 10)) (sab : aI f0 (ad 4) (44 * x1 + 10) ≤ 36524) (w1 : 0 ≤ x2) (w2 : x2 ≤ 1) (hd : DT f0 ad 36525) (ok : okW (aI f0 (ad 4) (44 * x1 + 3)) (aI f0 (ad 4) (44 * x1 + 4)) (aI f0 (ad 4) (44 * x1 + 6)) (aI f0 (ad 4) (44 * x1 + 7))) : Ci Z l yX10_laysKeys (Cond.code yX10_laysKeys cX10_laysKeys 7 (some .int) :: TB) ({ frames := 2, cells := 0, slots := 0, locals := 48 } : Room) 0 0 D (tq cy) [.ref a0, .int (iI x1), .int (iI x2)] L0 f0 (fun (r : Int) (L1 : List Nat) (f1 : Nat → va_E) => L0 = L1 ∧ MS cy L0 f1 a0 ad ∧ Kp a0 ad [12, 13] [] f0 f1 ∧ (0 ≤ r ∧ r ≤ 36525 ∧ aI f1 (ad 13) x2 = r ∧ KL (Ky (onK (aI f0 (ad 4) (44 * x1 + 3)) (aI f0 (ad 4) (44 * x1 + 4)) (aI f0 (ad 4) (44 * x1 + 5)) (aI f0 (ad 4) (44 * x1 + 6)) (aI f0 (ad 4) (44 * x1 + 7))) (aI f0 (ad 4) (44 * x1 + 10)) (UN (aI f0 (ad 4)) (44 * x1)) (aI f0 (ad 4) (44 * x1 + 9))) (fun j => aI f1 (ad 12) (36525 * x2 + j)) r)) := by
  refine Ci.enter (cc := cX10_laysKeys) (n := 7) rfl (plainFor_of_name (by decide)) (Nat.le_of_ble_eq_true rfl) ?_
  intro p e s m below meth c ls A hx hb hr hts hown hlocks hnm hml hK hA hAe hw hZ hl
  have hown : s.vm.findClass RX10 = some m.cls := hown
  have hl : lv_has ls 7 [(0, .ref a0), (1, .int (iI x1)), (2, .int (iI x2))] := hl
  have hN : ZN s := (zo.2.2.2.2 _ _ _ hZ).2
  have hE : Kp a0 ad [12, 13] [] f0 f0 := Kp.refl _ _ _ _ _
  refine q_iconst hx hb dX10_laysKeys_0 ?_
  refine lv_istore_n (lv' := [(3, .int (iI 0)), (0, .ref a0), (1, .int (iI x1)), (2, .int (iI x2))]) hx hb dX10_laysKeys_1 rfl hl (by decide) rfl (fun ls hl => ?_)
  refine lv_aload_n hx hb dX10_laysKeys_2 rfl (lv_at hl 1 rfl) ?_
  refine lv_iload_n hx hb dX10_laysKeys_3 rfl (lv_at hl 2 rfl) ?_
  refine q_bipush hx hb dX10_laysKeys_4 rfl ?_
  refine q_call_i hA hK hw (va_runV (As := [.int (iI x1), .int (iI 9)]) (rest := []) ⟨hx, hb, hml, hown, hts⟩ (c_X10_get zo l D cy L0 f0 a0 x1 lx1 ux1 9 (by decide) (by decide) ad hs (by omega) (by omega) (by omega) (by omega) _) (cwV 2 hts (gT (inV (mr25 _ (List.mem_of_getElem? (i := 0) rfl)) (mr25 _ (List.mem_of_getElem? (i := 1) rfl)) (mr25 _ (List.mem_of_getElem? (i := 2) rfl)) (mr1 _ (List.mem_of_getElem? (i := 5) rfl)) (mr25 _ (List.mem_of_getElem? (i := 3) rfl)))) rfl rfl rfl (by decide +kernel) ⟨Nat.le_of_ble_eq_true rfl, Nat.le_of_ble_eq_true rfl⟩) (Wd.preV zo hA hZ hw hK hs.1 hs.2.1 rfl) rfl rfl hl.1 rfl (lv_room (Nat.le_of_ble_eq_true rfl)) dX10_laysKeys_6 ⟨Nat.le_of_ble_eq_true rfl, Nat.le_of_ble_eq_true rfl⟩) (fun x_1 L1 f1 H locs lx_1 ux_1 ex_1 hw => ?_)
  obtain ⟨rfl, rfl, ex_1⟩ := ex_1
  refine lv_istore (lv' := [(4, .int (iI x_1)), (3, .int (iI 0)), (0, .ref a0), (1, .int (iI x1)), (2, .int (iI x2))]) hx hb dX10_laysKeys_9 hl (by decide) rfl (fun ls hl => ?_)
  refine lv_aload_n hx hb dX10_laysKeys_11 rfl (lv_at hl 2 rfl) ?_
  refine lv_iload_n hx hb dX10_laysKeys_12 rfl (lv_at hl 3 rfl) ?_
  refine q_bipush hx hb dX10_laysKeys_13 rfl ?_
  refine q_call_i hA hK hw (va_runV (As := [.int (iI x1), .int (iI 8)]) (rest := []) ⟨hx, hb, hml, hown, hts⟩ (c_X10_get zo l D cy L0 f0 a0 x1 lx1 ux1 8 (by decide) (by decide) ad hs (by omega) (by omega) (by omega) (by omega) _) (cwV 2 hts (gT (inV (mr25 _ (List.mem_of_getElem? (i := 0) rfl)) (mr25 _ (List.mem_of_getElem? (i := 1) rfl)) (mr25 _ (List.mem_of_getElem? (i := 2) rfl)) (mr1 _ (List.mem_of_getElem? (i := 5) rfl)) (mr25 _ (List.mem_of_getElem? (i := 3) rfl)))) rfl rfl rfl (by decide +kernel) ⟨Nat.le_of_ble_eq_true rfl, Nat.le_of_ble_eq_true rfl⟩) (Wd.preV zo hA hZ hw hK hs.1 hs.2.1 rfl) rfl rfl hl.1 rfl (lv_room (Nat.le_of_ble_eq_true rfl)) dX10_laysKeys_15 ⟨Nat.le_of_ble_eq_true rfl, Nat.le_of_ble_eq_true rfl⟩) (fun x_2 L1 f1 H locs lx_2 ux_2 ex_2 hw => ?_)
  obtain ⟨rfl, rfl, ex_2⟩ := ex_2
  have J33 : ∀ (w0_33 : Int) (lw0_33 : -2147483648 ≤ w0_33) (uw0_33 : w0_33 ≤ 2147483647) (k1 : w0_33 ≤ 36524) (kU : w0_33 = UN (aI f0 (ad 4)) (44 * x1)) (H : Heap) (locs : List Loc) (ls : Array Slot) (hw : Wd D A s.heap L0 f0 H locs) (hl : lv_has ls 7 [(0, .ref a0), (1, .int (iI x1)), (2, .int (iI x2)), (3, .int (iI 0)), (4, .int (iI x_1))]), W p l e ({ frames := 2, cells := 0, slots := 0, locals := 48 } : Room) s m ([.ref a0, .int (iI x1), .int (iI x2)] : List Value).toArray below meth c H locs (0 + 0 + 0) (0 + 0 + 0) (MQ below (Qi D (tq cy) L0 f0 s.heap.size (fun (r : Int) (L1 : List Nat) (f1 : Nat → va_E) => L0 = L1 ∧ MS cy L0 f1 a0 ad ∧ Kp a0 ad [12, 13] [] f0 f1 ∧ (0 ≤ r ∧ r ≤ 36525 ∧ aI f1 (ad 13) x2 = r ∧ KL (Ky (onK (aI f0 (ad 4) (44 * x1 + 3)) (aI f0 (ad 4) (44 * x1 + 4)) (aI f0 (ad 4) (44 * x1 + 5)) (aI f0 (ad 4) (44 * x1 + 6)) (aI f0 (ad 4) (44 * x1 + 7))) (aI f0 (ad 4) (44 * x1 + 10)) (UN (aI f0 (ad 4)) (44 * x1)) (aI f0 (ad 4) (44 * x1 + 9))) (fun j => aI f1 (ad 12) (36525 * x2 + j)) r))) ([.ref a0, .int (iI x1), .int (iI x2)] : List Value).toArray s 0 0 A) (F0 m 33 ls [.int (iI w0_33)]) := by
    intro w0_33 lw0_33 uw0_33 k1 kU H locs ls hw hl
    refine lv_istore (lv' := [(5, .int (iI w0_33)), (0, .ref a0), (1, .int (iI x1)), (2, .int (iI x2)), (3, .int (iI 0)), (4, .int (iI x_1))]) hx hb dX10_laysKeys_33 hl (by decide) rfl (fun ls hl => ?_)
    refine lv_aload_n hx hb dX10_laysKeys_35 rfl (lv_at hl 1 rfl) ?_
    refine lv_iload_n hx hb dX10_laysKeys_36 rfl (lv_at hl 2 rfl) ?_
    refine q_bipush hx hb dX10_laysKeys_37 rfl ?_
    refine q_call_i hA hK hw (va_runV (As := [.int (iI x1), .int (iI 10)]) (rest := []) ⟨hx, hb, hml, hown, hts⟩ (c_X10_get zo l D cy L0 f0 a0 x1 lx1 ux1 10 (by decide) (by decide) ad hs (by omega) (by omega) (by omega) (by omega) _) (cwV 2 hts (gT (inV (mr25 _ (List.mem_of_getElem? (i := 0) rfl)) (mr25 _ (List.mem_of_getElem? (i := 1) rfl)) (mr25 _ (List.mem_of_getElem? (i := 2) rfl)) (mr1 _ (List.mem_of_getElem? (i := 5) rfl)) (mr25 _ (List.mem_of_getElem? (i := 3) rfl)))) rfl rfl rfl (by decide +kernel) ⟨Nat.le_of_ble_eq_true rfl, Nat.le_of_ble_eq_true rfl⟩) (Wd.preV zo hA hZ hw hK hs.1 hs.2.1 rfl) rfl rfl hl.1 rfl (lv_room (Nat.le_of_ble_eq_true rfl)) dX10_laysKeys_39 ⟨Nat.le_of_ble_eq_true rfl, Nat.le_of_ble_eq_true rfl⟩) (fun x_3 L1 f1 H locs lx_3 ux_3 ex_3 hw => ?_)
    obtain ⟨rfl, rfl, ex_3⟩ := ex_3
    refine lv_istore (lv' := [(6, .int (iI x_3)), (5, .int (iI w0_33)), (0, .ref a0), (1, .int (iI x1)), (2, .int (iI x2)), (3, .int (iI 0)), (4, .int (iI x_1))]) hx hb dX10_laysKeys_42 hl (by decide) rfl (fun ls hl => ?_)
    have J44 : ∀ (n44 : Nat) (y3_44 : Int) (ly3_44 : -2147483648 ≤ y3_44) (uy3_44 : y3_44 ≤ 2147483647) (y6_44 : Int) (ly6_44 : -2147483648 ≤ y6_44) (uy6_44 : y6_44 ≤ 2147483647) (L : List Nat) (fw44 : Nat → va_E) (hs : MS cy L0 fw44 a0 ad) (hE : Kp a0 ad [12, 13] [] f0 fw44) (i1 : 0 ≤ y3_44) (i2 : y3_44 ≤ y6_44 - aI f0 (ad 4) (44 * x1 + 10)) (i3 : y6_44 ≤ 36525) (i4 : aI f0 (ad 4) (44 * x1 + 10) ≤ y6_44) (kp : KP (Ky (onK (aI f0 (ad 4) (44 * x1 + 3)) (aI f0 (ad 4) (44 * x1 + 4)) (aI f0 (ad 4) (44 * x1 + 5)) (aI f0 (ad 4) (44 * x1 + 6)) (aI f0 (ad 4) (44 * x1 + 7))) (aI f0 (ad 4) (44 * x1 + 10)) (UN (aI f0 (ad 4)) (44 * x1)) (aI f0 (ad 4) (44 * x1 + 9))) (fun j => aI fw44 (ad 12) (36525 * x2 + j)) y3_44 y6_44) (kc : y3_44 = cn (onK (aI f0 (ad 4) (44 * x1 + 3)) (aI f0 (ad 4) (44 * x1 + 4)) (aI f0 (ad 4) (44 * x1 + 5)) (aI f0 (ad 4) (44 * x1 + 6)) (aI f0 (ad 4) (44 * x1 + 7))) (aI f0 (ad 4) (44 * x1 + 10)) y6_44) (hn44 : ((2147483647 : Int) - y6_44).toNat < n44) (H : Heap) (locs : List Loc) (ls : Array Slot) (hw : Wd D A s.heap L0 fw44 H locs) (hl : lv_has ls 7 [(0, .ref a0), (1, .int (iI x1)), (2, .int (iI x2)), (3, .int (iI y3_44)), (4, .int (iI x_1)), (5, .int (iI w0_33)), (6, .int (iI y6_44))]), W p l e ({ frames := 2, cells := 0, slots := 0, locals := 48 } : Room) s m ([.ref a0, .int (iI x1), .int (iI x2)] : List Value).toArray below meth c H locs (0 + 0 + 0 + 0) (0 + 0 + 0 + 0) (MQ below (Qi D (tq cy) L0 f0 s.heap.size (fun (r : Int) (L1 : List Nat) (f1 : Nat → va_E) => L0 = L1 ∧ MS cy L0 f1 a0 ad ∧ Kp a0 ad [12, 13] [] f0 f1 ∧ (0 ≤ r ∧ r ≤ 36525 ∧ aI f1 (ad 13) x2 = r ∧ KL (Ky (onK (aI f0 (ad 4) (44 * x1 + 3)) (aI f0 (ad 4) (44 * x1 + 4)) (aI f0 (ad 4) (44 * x1 + 5)) (aI f0 (ad 4) (44 * x1 + 6)) (aI f0 (ad 4) (44 * x1 + 7))) (aI f0 (ad 4) (44 * x1 + 10)) (UN (aI f0 (ad 4)) (44 * x1)) (aI f0 (ad 4) (44 * x1 + 9))) (fun j => aI f1 (ad 12) (36525 * x2 + j)) r))) ([.ref a0, .int (iI x1), .int (iI x2)] : List Value).toArray s 0 0 A) (F0 m 44 ls []) := by
      intro n44
      induction n44 with
      | zero => intro y3_44 ly3_44 uy3_44 y6_44 ly6_44 uy6_44 L fw44 hs hE i1 i2 i3 i4 kp kc hn44; exact absurd hn44 (Nat.not_lt_zero _)
      | succ n44 ih44 =>
        intro y3_44 ly3_44 uy3_44 y6_44 ly6_44 uy6_44 L fw44 hs hE i1 i2 i3 i4 kp kc hn44 H locs ls hw hl
        have Q4 : aI fw44 (ad 4) = aI f0 (ad 4) := funext fun x => hE.1 4 rfl (by decide) x
        have q0_fw44 : aI fw44 (ad 4) (44 * x1 + 3) = aI f0 (ad 4) (44 * x1 + 3) := hE.1 4 rfl (by decide) _
        have q1_fw44 : aI fw44 (ad 4) (44 * x1 + 4) = aI f0 (ad 4) (44 * x1 + 4) := hE.1 4 rfl (by decide) _
        have q2_fw44 : aI fw44 (ad 4) (44 * x1 + 5) = aI f0 (ad 4) (44 * x1 + 5) := hE.1 4 rfl (by decide) _
        have q3_fw44 : aI fw44 (ad 4) (44 * x1 + 8) = aI f0 (ad 4) (44 * x1 + 8) := hE.1 4 rfl (by decide) _
        have q4_fw44 : aI fw44 (ad 4) (44 * x1 + 9) = aI f0 (ad 4) (44 * x1 + 9) := hE.1 4 rfl (by decide) _
        have q5_fw44 : aI fw44 (ad 4) (44 * x1 + 10) = aI f0 (ad 4) (44 * x1 + 10) := hE.1 4 rfl (by decide) _
        refine lv_iload hx hb dX10_laysKeys_44 (lv_at hl 6 rfl) ?_
        refine lv_iload hx hb dX10_laysKeys_46 (lv_at hl 5 rfl) ?_
        have J97 : ∀ (kl : KL (Ky (onK (aI f0 (ad 4) (44 * x1 + 3)) (aI f0 (ad 4) (44 * x1 + 4)) (aI f0 (ad 4) (44 * x1 + 5)) (aI f0 (ad 4) (44 * x1 + 6)) (aI f0 (ad 4) (44 * x1 + 7))) (aI f0 (ad 4) (44 * x1 + 10)) (UN (aI f0 (ad 4)) (44 * x1)) (aI f0 (ad 4) (44 * x1 + 9))) (fun j => aI fw44 (ad 12) (36525 * x2 + j)) y3_44) (H : Heap) (locs : List Loc) (ls : Array Slot) (hw : Wd D A s.heap L0 fw44 H locs) (hl : lv_has ls 7 [(0, .ref a0), (2, .int (iI x2)), (3, .int (iI y3_44))]), W p l e ({ frames := 2, cells := 0, slots := 0, locals := 48 } : Room) s m ([.ref a0, .int (iI x1), .int (iI x2)] : List Value).toArray below meth c H locs (0 + 0 + 0 + 0) (0 + 0 + 0 + 0) (MQ below (Qi D (tq cy) L0 f0 s.heap.size (fun (r : Int) (L1 : List Nat) (f1 : Nat → va_E) => L0 = L1 ∧ MS cy L0 f1 a0 ad ∧ Kp a0 ad [12, 13] [] f0 f1 ∧ (0 ≤ r ∧ r ≤ 36525 ∧ aI f1 (ad 13) x2 = r ∧ KL (Ky (onK (aI f0 (ad 4) (44 * x1 + 3)) (aI f0 (ad 4) (44 * x1 + 4)) (aI f0 (ad 4) (44 * x1 + 5)) (aI f0 (ad 4) (44 * x1 + 6)) (aI f0 (ad 4) (44 * x1 + 7))) (aI f0 (ad 4) (44 * x1 + 10)) (UN (aI f0 (ad 4)) (44 * x1)) (aI f0 (ad 4) (44 * x1 + 9))) (fun j => aI f1 (ad 12) (36525 * x2 + j)) r))) ([.ref a0, .int (iI x1), .int (iI x2)] : List Value).toArray s 0 0 A) (F0 m 97 ls []) := by
          intro kl H locs ls hw hl
          have Q4 : aI fw44 (ad 4) = aI f0 (ad 4) := funext fun x => hE.1 4 rfl (by decide) x
          have q0_fw44 : aI fw44 (ad 4) (44 * x1 + 3) = aI f0 (ad 4) (44 * x1 + 3) := hE.1 4 rfl (by decide) _
          have q1_fw44 : aI fw44 (ad 4) (44 * x1 + 4) = aI f0 (ad 4) (44 * x1 + 4) := hE.1 4 rfl (by decide) _
          have q2_fw44 : aI fw44 (ad 4) (44 * x1 + 5) = aI f0 (ad 4) (44 * x1 + 5) := hE.1 4 rfl (by decide) _
          have q3_fw44 : aI fw44 (ad 4) (44 * x1 + 8) = aI f0 (ad 4) (44 * x1 + 8) := hE.1 4 rfl (by decide) _
          have q4_fw44 : aI fw44 (ad 4) (44 * x1 + 9) = aI f0 (ad 4) (44 * x1 + 9) := hE.1 4 rfl (by decide) _
          have q5_fw44 : aI fw44 (ad 4) (44 * x1 + 10) = aI f0 (ad 4) (44 * x1 + 10) := hE.1 4 rfl (by decide) _
          refine lv_aload_n hx hb dX10_laysKeys_97 rfl (lv_at hl 0 rfl) ?_
          refine q_getr (ci := 8) (C := RX10) (T := TX10) (N := 26) hx hb hts (fun w h => List.mem_cons_of_mem _ (mfX100 w h)) hown hK hw hs.1 hs.2.1 rfl 13 (by decide) (hts _ (List.mem_cons_of_mem _ (mr3 _ (List.mem_of_getElem? (i := 21) rfl)))) (fun _ h => h) rfl (hs.2.2.1 13 rfl).1 dX10_laysKeys_98 ?_
          refine lv_iload_n hx hb dX10_laysKeys_101 rfl (lv_at hl 1 rfl) ?_
          refine lv_iload_n hx hb dX10_laysKeys_102 rfl (lv_at hl 2 rfl) ?_
          refine q_iast hx hb hK hw (hs.2.2.1 13 rfl).2.1 1 (hs.2.2.1 13 rfl).2.2 rfl ⟨lx2, ux2⟩ (by omega) (by show _ < ((2 : Nat) : Int); omega) dX10_laysKeys_103 (fun H locs hw => ?_)
          obtain ⟨f_4, ef_4⟩ : ∃ g : Nat → va_E, g = aU fw44 (ad 13) x2 (iI y3_44) := ⟨_, rfl⟩
          have hE := hE.trans (show Kp a0 ad [12, 13] [] fw44 f_4 by rw [ef_4]; exact Kp_aU hs rfl (by decide))
          have hs_ := hs
          have hs : MS cy L0 f_4 a0 ad := by rw [ef_4]; exact MS_aU hs rfl
          rw [← ef_4] at hw
          have Q4 : aI f_4 (ad 4) = aI f0 (ad 4) := funext fun x => hE.1 4 rfl (by decide) x
          have q0_f_4 : aI f_4 (ad 4) (44 * x1 + 3) = aI f0 (ad 4) (44 * x1 + 3) := hE.1 4 rfl (by decide) _
          have q1_f_4 : aI f_4 (ad 4) (44 * x1 + 4) = aI f0 (ad 4) (44 * x1 + 4) := hE.1 4 rfl (by decide) _
          have q2_f_4 : aI f_4 (ad 4) (44 * x1 + 5) = aI f0 (ad 4) (44 * x1 + 5) := hE.1 4 rfl (by decide) _
          have q3_f_4 : aI f_4 (ad 4) (44 * x1 + 8) = aI f0 (ad 4) (44 * x1 + 8) := hE.1 4 rfl (by decide) _
          have q4_f_4 : aI f_4 (ad 4) (44 * x1 + 9) = aI f0 (ad 4) (44 * x1 + 9) := hE.1 4 rfl (by decide) _
          have q5_f_4 : aI f_4 (ad 4) (44 * x1 + 10) = aI f0 (ad 4) (44 * x1 + 10) := hE.1 4 rfl (by decide) _
          have r1 : aI f_4 (ad 13) x2 = y3_44 := by rw [ef_4]; exact hs_.aI_self rfl ⟨by omega, by omega⟩
          have r3 : ∀ x : Int, aI f_4 (ad 12) x = aI fw44 (ad 12) x := fun x => by rw [ef_4]; exact hs_.aI_ne rfl rfl (by decide) _
          refine lv_iload_n hx hb dX10_laysKeys_104 rfl (lv_at hl 2 rfl) ?_
          exact q_ret_i hx hb hr hlocks hK hAe hw ⟨ly3_44, uy3_44⟩ (Nat.le_of_ble_eq_true rfl) (Nat.le_of_ble_eq_true rfl) dX10_laysKeys_105 (by exact ⟨rfl, hs, hE, by omega, by omega, r1, kl.cg (fun j => r3 _)⟩)
        refine q_icmp_gt (tgt := 97) hx hb dX10_laysKeys_48 (by decide) ⟨ly6_44, uy6_44⟩ ⟨lw0_33, uw0_33⟩ (fun c48 => ?_) (fun c48 => ?_)
        · exact J97 (by exact kp.done kc (by omega)) _ _ _ hw (lv_sub hl [0, 2, 3] rfl)
        · refine lv_iload hx hb dX10_laysKeys_51 (lv_at hl 4 rfl) ?_
          have J62 : ∀ (kb : aI f0 (ad 4) (44 * x1 + 9) < 0 ∨ y3_44 < aI f0 (ad 4) (44 * x1 + 9)) (H : Heap) (locs : List Loc) (ls : Array Slot) (hw : Wd D A s.heap L0 fw44 H locs) (hl : lv_has ls 7 [(0, .ref a0), (1, .int (iI x1)), (2, .int (iI x2)), (3, .int (iI y3_44)), (4, .int (iI x_1)), (5, .int (iI w0_33)), (6, .int (iI y6_44))]), W p l e ({ frames := 2, cells := 0, slots := 0, locals := 48 } : Room) s m ([.ref a0, .int (iI x1), .int (iI x2)] : List Value).toArray below meth c H locs (0 + 0 + 0 + 0) (0 + 0 + 0 + 0) (MQ below (Qi D (tq cy) L0 f0 s.heap.size (fun (r : Int) (L1 : List Nat) (f1 : Nat → va_E) => L0 = L1 ∧ MS cy L0 f1 a0 ad ∧ Kp a0 ad [12, 13] [] f0 f1 ∧ (0 ≤ r ∧ r ≤ 36525 ∧ aI f1 (ad 13) x2 = r ∧ KL (Ky (onK (aI f0 (ad 4) (44 * x1 + 3)) (aI f0 (ad 4) (44 * x1 + 4)) (aI f0 (ad 4) (44 * x1 + 5)) (aI f0 (ad 4) (44 * x1 + 6)) (aI f0 (ad 4) (44 * x1 + 7))) (aI f0 (ad 4) (44 * x1 + 10)) (UN (aI f0 (ad 4)) (44 * x1)) (aI f0 (ad 4) (44 * x1 + 9))) (fun j => aI f1 (ad 12) (36525 * x2 + j)) r))) ([.ref a0, .int (iI x1), .int (iI x2)] : List Value).toArray s 0 0 A) (F0 m 62 ls []) := by
            intro kb H locs ls hw hl
            have Q4 : aI fw44 (ad 4) = aI f0 (ad 4) := funext fun x => hE.1 4 rfl (by decide) x
            have q0_fw44 : aI fw44 (ad 4) (44 * x1 + 3) = aI f0 (ad 4) (44 * x1 + 3) := hE.1 4 rfl (by decide) _
            have q1_fw44 : aI fw44 (ad 4) (44 * x1 + 4) = aI f0 (ad 4) (44 * x1 + 4) := hE.1 4 rfl (by decide) _
            have q2_fw44 : aI fw44 (ad 4) (44 * x1 + 5) = aI f0 (ad 4) (44 * x1 + 5) := hE.1 4 rfl (by decide) _
            have q3_fw44 : aI fw44 (ad 4) (44 * x1 + 8) = aI f0 (ad 4) (44 * x1 + 8) := hE.1 4 rfl (by decide) _
            have q4_fw44 : aI fw44 (ad 4) (44 * x1 + 9) = aI f0 (ad 4) (44 * x1 + 9) := hE.1 4 rfl (by decide) _
            have q5_fw44 : aI fw44 (ad 4) (44 * x1 + 10) = aI f0 (ad 4) (44 * x1 + 10) := hE.1 4 rfl (by decide) _
            refine lv_aload_n hx hb dX10_laysKeys_62 rfl (lv_at hl 0 rfl) ?_
            refine lv_iload_n hx hb dX10_laysKeys_63 rfl (lv_at hl 1 rfl) ?_
            refine lv_iload hx hb dX10_laysKeys_64 (lv_at hl 6 rfl) ?_
            refine q_call_i hA hK hw (va_runV (As := [.int (iI x1), .int (iI y6_44)]) (rest := []) ⟨hx, hb, hml, hown, hts⟩ (c_X10_isOn_f zo l D cy L0 fw44 a0 x1 lx1 ux1 y6_44 ly6_44 uy6_44 ad hs (by omega) (by omega) (by omega) (by omega) (by omega) (by omega) (by omega) (by first | exact hd | exact hd.kp hE (by decide) (by decide) (by decide) (by decide)) (by first | exact ok | (rw [Q4]; exact ok)) _) (cwV 2 hts (gT (inV (mr25 _ (List.mem_of_getElem? (i := 4) rfl)) (mr25 _ (List.mem_of_getElem? (i := 5) rfl)) (mr25 _ (List.mem_of_getElem? (i := 6) rfl)) (mr1 _ (List.mem_of_getElem? (i := 5) rfl)) (mr25 _ (List.mem_of_getElem? (i := 7) rfl)))) rfl rfl rfl (by decide +kernel) ⟨Nat.le_of_ble_eq_true rfl, Nat.le_of_ble_eq_true rfl⟩) (Wd.preV zo hA hZ hw hK hs.1 hs.2.1 rfl) rfl rfl hl.1 rfl (lv_room (Nat.le_of_ble_eq_true rfl)) dX10_laysKeys_66 ⟨Nat.le_of_ble_eq_true rfl, Nat.le_of_ble_eq_true rfl⟩) (fun x_5 L1 f1 H locs lx_5 ux_5 ex_5 hw => ?_)
            obtain ⟨rfl, rfl, ex_5⟩ := ex_5
            have on := ex_5
            try rw [Q4] at on
            have J91 : ∀ (z3_91 : Int) (lz3_91 : -2147483648 ≤ z3_91) (uz3_91 : z3_91 ≤ 2147483647) (L : List Nat) (fw91 : Nat → va_E) (hs : MS cy L0 fw91 a0 ad) (hE : Kp a0 ad [12, 13] [] f0 fw91) (k1 : 0 ≤ z3_91) (k2 : z3_91 ≤ y6_44 - aI f0 (ad 4) (44 * x1 + 10) + 1) (kp : KP (Ky (onK (aI f0 (ad 4) (44 * x1 + 3)) (aI f0 (ad 4) (44 * x1 + 4)) (aI f0 (ad 4) (44 * x1 + 5)) (aI f0 (ad 4) (44 * x1 + 6)) (aI f0 (ad 4) (44 * x1 + 7))) (aI f0 (ad 4) (44 * x1 + 10)) (UN (aI f0 (ad 4)) (44 * x1)) (aI f0 (ad 4) (44 * x1 + 9))) (fun j => aI fw91 (ad 12) (36525 * x2 + j)) z3_91 (y6_44 + 1)) (kc : z3_91 = cn (onK (aI f0 (ad 4) (44 * x1 + 3)) (aI f0 (ad 4) (44 * x1 + 4)) (aI f0 (ad 4) (44 * x1 + 5)) (aI f0 (ad 4) (44 * x1 + 6)) (aI f0 (ad 4) (44 * x1 + 7))) (aI f0 (ad 4) (44 * x1 + 10)) (y6_44 + 1)) (H : Heap) (locs : List Loc) (ls : Array Slot) (hw : Wd D A s.heap L0 fw91 H locs) (hl : lv_has ls 7 [(0, .ref a0), (1, .int (iI x1)), (2, .int (iI x2)), (3, .int (iI z3_91)), (4, .int (iI x_1)), (5, .int (iI w0_33)), (6, .int (iI y6_44))]), W p l e ({ frames := 2, cells := 0, slots := 0, locals := 48 } : Room) s m ([.ref a0, .int (iI x1), .int (iI x2)] : List Value).toArray below meth c H locs (0 + 0 + 0 + 0 + 0) (0 + 0 + 0 + 0 + 0) (MQ below (Qi D (tq cy) L0 f0 s.heap.size (fun (r : Int) (L1 : List Nat) (f1 : Nat → va_E) => L0 = L1 ∧ MS cy L0 f1 a0 ad ∧ Kp a0 ad [12, 13] [] f0 f1 ∧ (0 ≤ r ∧ r ≤ 36525 ∧ aI f1 (ad 13) x2 = r ∧ KL (Ky (onK (aI f0 (ad 4) (44 * x1 + 3)) (aI f0 (ad 4) (44 * x1 + 4)) (aI f0 (ad 4) (44 * x1 + 5)) (aI f0 (ad 4) (44 * x1 + 6)) (aI f0 (ad 4) (44 * x1 + 7))) (aI f0 (ad 4) (44 * x1 + 10)) (UN (aI f0 (ad 4)) (44 * x1)) (aI f0 (ad 4) (44 * x1 + 9))) (fun j => aI f1 (ad 12) (36525 * x2 + j)) r))) ([.ref a0, .int (iI x1), .int (iI x2)] : List Value).toArray s 0 0 A) (F0 m 91 ls []) := by
              intro z3_91 lz3_91 uz3_91 L fw91 hs hE k1 k2 kp kc H locs ls hw hl
              have Q4 : aI fw91 (ad 4) = aI f0 (ad 4) := funext fun x => hE.1 4 rfl (by decide) x
              have q0_fw91 : aI fw91 (ad 4) (44 * x1 + 3) = aI f0 (ad 4) (44 * x1 + 3) := hE.1 4 rfl (by decide) _
              have q1_fw91 : aI fw91 (ad 4) (44 * x1 + 4) = aI f0 (ad 4) (44 * x1 + 4) := hE.1 4 rfl (by decide) _
              have q2_fw91 : aI fw91 (ad 4) (44 * x1 + 5) = aI f0 (ad 4) (44 * x1 + 5) := hE.1 4 rfl (by decide) _
              have q3_fw91 : aI fw91 (ad 4) (44 * x1 + 8) = aI f0 (ad 4) (44 * x1 + 8) := hE.1 4 rfl (by decide) _
              have q4_fw91 : aI fw91 (ad 4) (44 * x1 + 9) = aI f0 (ad 4) (44 * x1 + 9) := hE.1 4 rfl (by decide) _
              have q5_fw91 : aI fw91 (ad 4) (44 * x1 + 10) = aI f0 (ad 4) (44 * x1 + 10) := hE.1 4 rfl (by decide) _
              obtain ⟨x_6, lx_6, ux_6, hx_6, ex_6⟩ := q_inc y6_44 (1)
              try (replace ex_6 : x_6 = y6_44 + (1) := by omega)
              refine lv_iinc (v := iI x_6) (lv' := [(6, .int (iI x_6)), (0, .ref a0), (1, .int (iI x1)), (2, .int (iI x2)), (3, .int (iI z3_91)), (4, .int (iI x_1)), (5, .int (iI w0_33))]) hx hb dX10_laysKeys_91 hl (k := 6) rfl hx_6 (by decide) rfl (fun ls hl => ?_)
              refine lv_goto (tgt := 44) hx hb dX10_laysKeys_94 (by decide) ?_
              exact ih44 z3_91 lz3_91 uz3_91 x_6 lx_6 ux_6 L0 fw91 hs hE (by omega) (by omega) (by omega) (by omega) (by first | exact KP.nil' rfl (by omega) | exact kp.arg rfl (by omega) | fail "none") (by first | exact cn_ini (by omega) | exact cn_to kc (by omega) | fail "none") (by omega) _ _ _ hw (lv_sub hl [1, 2, 3, 4, 5, 6, 0] rfl)
            refine q_if_ne (tgt := 75) hx hb dX10_laysKeys_69 (by decide) ⟨lx_5, ux_5⟩ (fun c69 => ?_) (fun c69 => ?_)
            · refine lv_aload_n hx hb dX10_laysKeys_75 rfl (lv_at hl 0 rfl) ?_
              refine q_getr (ci := 8) (C := RX10) (T := TX10) (N := 26) hx hb hts (fun w h => List.mem_cons_of_mem _ (mfX100 w h)) hown hK hw hs.1 hs.2.1 rfl 12 (by decide) (hts _ (List.mem_cons_of_mem _ (mr3 _ (List.mem_of_getElem? (i := 20) rfl)))) (fun _ h => h) rfl (hs.2.2.1 12 rfl).1 dX10_laysKeys_76 ?_
              refine q_ldc (n := 36525) hx hb hown (hts _ (List.mem_cons_of_mem _ (mr3 _ (List.mem_of_getElem? (i := 9) rfl)))) rfl dX10_laysKeys_79 ?_
              refine lv_iload_n hx hb dX10_laysKeys_81 rfl (lv_at hl 2 rfl) ?_
              first | refine q_imul hx hb dX10_laysKeys_82 ⟨by omega, by omega⟩ (fun x_7 lx_7 ux_7 ex_7 => ?_) | refine q_imulw hx hb dX10_laysKeys_82 (fun x_7 lx_7 ux_7 ex_7 => ?_)
              refine lv_iload_n hx hb dX10_laysKeys_83 rfl (lv_at hl 3 rfl) ?_
              first | refine q_iadd hx hb dX10_laysKeys_84 ⟨by omega, by omega⟩ (fun x_8 lx_8 ux_8 ex_8 => ?_) | refine q_iaddw hx hb dX10_laysKeys_84 (fun x_8 lx_8 ux_8 ex_8 => ?_)
              refine lv_iload hx hb dX10_laysKeys_85 (lv_at hl 6 rfl) ?_
              refine q_iast hx hb hK hw (hs.2.2.1 12 rfl).2.1 1 (hs.2.2.1 12 rfl).2.2 rfl ⟨lx_8, ux_8⟩ (by omega) (by show _ < ((73050 : Nat) : Int); omega) dX10_laysKeys_87 (fun H locs hw => ?_)
              obtain ⟨f_9, ef_9⟩ : ∃ g : Nat → va_E, g = aU fw44 (ad 12) x_8 (iI y6_44) := ⟨_, rfl⟩
              have hE := hE.trans (show Kp a0 ad [12, 13] [] fw44 f_9 by rw [ef_9]; exact Kp_aU hs rfl (by decide))
              have hs_ := hs
              have hs : MS cy L0 f_9 a0 ad := by rw [ef_9]; exact MS_aU hs rfl
              rw [← ef_9] at hw
              have Q4 : aI f_9 (ad 4) = aI f0 (ad 4) := funext fun x => hE.1 4 rfl (by decide) x
              have q0_f_9 : aI f_9 (ad 4) (44 * x1 + 3) = aI f0 (ad 4) (44 * x1 + 3) := hE.1 4 rfl (by decide) _
              have q1_f_9 : aI f_9 (ad 4) (44 * x1 + 4) = aI f0 (ad 4) (44 * x1 + 4) := hE.1 4 rfl (by decide) _
              have q2_f_9 : aI f_9 (ad 4) (44 * x1 + 5) = aI f0 (ad 4) (44 * x1 + 5) := hE.1 4 rfl (by decide) _
              have q3_f_9 : aI f_9 (ad 4) (44 * x1 + 8) = aI f0 (ad 4) (44 * x1 + 8) := hE.1 4 rfl (by decide) _
              have q4_f_9 : aI f_9 (ad 4) (44 * x1 + 9) = aI f0 (ad 4) (44 * x1 + 9) := hE.1 4 rfl (by decide) _
              have q5_f_9 : aI f_9 (ad 4) (44 * x1 + 10) = aI f0 (ad 4) (44 * x1 + 10) := hE.1 4 rfl (by decide) _
              have on9 := on.yes (by omega)
              have kn : ∀ j : Int, 0 ≤ j → j < y3_44 → aI f_9 (ad 12) (36525 * x2 + j) = aI fw44 (ad 12) (36525 * x2 + j) := fun j q0 q1 => by rw [ef_9]; exact hs_.aI_nj rfl (by omega) (by omega) (by omega)
              have kv : aI f_9 (ad 12) (36525 * x2 + y3_44) = y6_44 := (aI_cg (show 36525 * x2 + y3_44 = x_8 by omega)).trans (by rw [ef_9]; exact hs_.aI_self rfl ⟨by omega, by omega⟩)
              have kp' : KP (Ky (onK (aI f0 (ad 4) (44 * x1 + 3)) (aI f0 (ad 4) (44 * x1 + 4)) (aI f0 (ad 4) (44 * x1 + 5)) (aI f0 (ad 4) (44 * x1 + 6)) (aI f0 (ad 4) (44 * x1 + 7))) (aI f0 (ad 4) (44 * x1 + 10)) (UN (aI f0 (ad 4)) (44 * x1)) (aI f0 (ad 4) (44 * x1 + 9))) (fun j => aI f_9 (ad 12) (36525 * x2 + j)) (y3_44 + 1) (y6_44 + 1) := kp.push ((ky_at (by omega) (by omega) (by omega)).mpr on9) kv (fun j q0 q1 => kn j q0 q1)
              have kc' : y3_44 + 1 = cn (onK (aI f0 (ad 4) (44 * x1 + 3)) (aI f0 (ad 4) (44 * x1 + 4)) (aI f0 (ad 4) (44 * x1 + 5)) (aI f0 (ad 4) (44 * x1 + 6)) (aI f0 (ad 4) (44 * x1 + 7))) (aI f0 (ad 4) (44 * x1 + 10)) (y6_44 + 1) := by rw [cn_yes (by omega) on9]; omega
              obtain ⟨x_10, lx_10, ux_10, hx_10, ex_10⟩ := q_inc y3_44 (1)
              try (replace ex_10 : x_10 = y3_44 + (1) := by omega)
              refine lv_iinc (v := iI x_10) (lv' := [(3, .int (iI x_10)), (0, .ref a0), (1, .int (iI x1)), (2, .int (iI x2)), (4, .int (iI x_1)), (5, .int (iI w0_33)), (6, .int (iI y6_44))]) hx hb dX10_laysKeys_88 hl (k := 3) rfl hx_10 (by decide) rfl (fun ls hl => ?_)
              exact J91 x_10 lx_10 ux_10 L0 f_9 hs hE (by omega) (by omega) (by first | exact kp'.arg (by omega) rfl | exact kp.skip (fun z => on.no (by omega) z.2.2.1) | fail "none") (by first | omega | (rw [cn_no (by omega) (on.no (by omega))]; exact kc) | fail "none") _ _ _ hw (lv_sub hl [1, 2, 3, 0, 4, 5, 6] rfl)
            · refine lv_goto (tgt := 91) hx hb dX10_laysKeys_72 (by decide) ?_
              exact J91 y3_44 ly3_44 uy3_44 L0 fw44 hs hE (by omega) (by omega) (by first | exact kp'.arg (by omega) rfl | exact kp.skip (fun z => on.no (by omega) z.2.2.1) | fail "none") (by first | omega | (rw [cn_no (by omega) (on.no (by omega))]; exact kc) | fail "none") _ _ _ hw (lv_sub hl [0, 1, 2, 3, 4, 5, 6] rfl)
          refine q_if_lt (tgt := 62) hx hb dX10_laysKeys_53 (by decide) ⟨lx_1, ux_1⟩ (fun c53 => ?_) (fun c53 => ?_)
          · exact J62 (by omega) _ _ _ hw (lv_sub hl [0, 1, 2, 3, 4, 5, 6] rfl)
          · refine lv_iload_n hx hb dX10_laysKeys_56 rfl (lv_at hl 3 rfl) ?_
            refine lv_iload hx hb dX10_laysKeys_57 (lv_at hl 4 rfl) ?_
            refine q_icmp_ge (tgt := 97) hx hb dX10_laysKeys_59 (by decide) ⟨ly3_44, uy3_44⟩ ⟨lx_1, ux_1⟩ (fun c59 => ?_) (fun c59 => ?_)
            · exact J97 (by exact kp.done kc (by omega)) _ _ _ hw (lv_sub hl [0, 2, 3] rfl)
            · exact J62 (by omega) _ _ _ hw (lv_sub hl [0, 1, 2, 3, 4, 5, 6] rfl)
    exact J44 ((((2147483647 : Int) - x_3).toNat) + 1) 0 (by decide) (by decide) x_3 lx_3 ux_3 L0 f0 hs hE (by omega) (by omega) (by omega) (by omega) (by first | exact KP.nil' rfl (by omega) | exact kp.arg rfl (by omega) | fail "none") (by first | exact cn_ini (by omega) | exact cn_to kc (by omega) | fail "none") (by omega) _ _ _ hw (lv_sub hl [2, 3, 4, 5, 6, 1, 0] rfl)
  refine q_if_ge (tgt := 26) hx hb dX10_laysKeys_18 (by decide) ⟨lx_2, ux_2⟩ (fun c18 => ?_) (fun c18 => ?_)
  · refine lv_aload_n hx hb dX10_laysKeys_26 rfl (lv_at hl 2 rfl) ?_
    refine lv_iload_n hx hb dX10_laysKeys_27 rfl (lv_at hl 3 rfl) ?_
    refine q_bipush hx hb dX10_laysKeys_28 rfl ?_
    refine q_call_i hA hK hw (va_runV (As := [.int (iI x1), .int (iI 8)]) (rest := []) ⟨hx, hb, hml, hown, hts⟩ (c_X10_get zo l D cy L0 f0 a0 x1 lx1 ux1 8 (by decide) (by decide) ad hs (by omega) (by omega) (by omega) (by omega) _) (cwV 2 hts (gT (inV (mr25 _ (List.mem_of_getElem? (i := 0) rfl)) (mr25 _ (List.mem_of_getElem? (i := 1) rfl)) (mr25 _ (List.mem_of_getElem? (i := 2) rfl)) (mr1 _ (List.mem_of_getElem? (i := 5) rfl)) (mr25 _ (List.mem_of_getElem? (i := 3) rfl)))) rfl rfl rfl (by decide +kernel) ⟨Nat.le_of_ble_eq_true rfl, Nat.le_of_ble_eq_true rfl⟩) (Wd.preV zo hA hZ hw hK hs.1 hs.2.1 rfl) rfl rfl hl.1 rfl (lv_room (Nat.le_of_ble_eq_true rfl)) dX10_laysKeys_30 ⟨Nat.le_of_ble_eq_true rfl, Nat.le_of_ble_eq_true rfl⟩) (fun x_11 L1 f1 H locs lx_11 ux_11 ex_11 hw => ?_)
    obtain ⟨rfl, rfl, ex_11⟩ := ex_11
    exact J33 x_11 lx_11 ux_11 (by omega) (by first | (unfold UN; rw [if_pos (by omega)]; done) | (unfold UN; rw [if_neg (by omega)]; omega) | fail "none") _ _ _ hw (lv_sub hl [2, 3, 4, 1, 0] rfl)
  · refine q_ldc (n := 36524) hx hb hown (hts _ (List.mem_cons_of_mem _ (mr24 _ (List.mem_of_getElem? (i := 0) rfl)))) rfl dX10_laysKeys_21 ?_
    refine lv_goto (tgt := 33) hx hb dX10_laysKeys_23 (by decide) ?_
    exact J33 36524 (by decide) (by decide) (by omega) (by first | (unfold UN; rw [if_pos (by omega)]; done) | (unfold UN; rw [if_neg (by omega)]; omega) | fail "none") _ _ _ hw (lv_sub hl [2, 3, 4, 1, 0] rfl)
set_option maxHeartbeats 4000000 in
set_option maxRecDepth 100000 in
theorem c_X10_key_f {Z : Zt} (zo : Zok Z) (l : Launch) (D : va_G) (cy : Cy) (L0 : List Nat) (f0 : Nat → va_E) (a0 : Nat) (x1 : Int) (lx1 : -2147483648 ≤ x1) (ux1 : x1 ≤ 2147483647) (x2 : Int) (lx2 : -2147483648 ≤ x2) (ux2 : x2 ≤ 2147483647) (ad : Nat → Nat) (hs : MS cy L0 f0 a0 ad) (hv : MV f0 a0 ad) (hd : DT f0 ad 36525) (mo : MOk f0 a0 ad) : Ci Z l yX10_key (Cond.code yX10_key cX10_key 5 (some .int) :: TB) ({ frames := 3, cells := 0, slots := 0, locals := 74 } : Room) 0 0 D (tq cy) [.ref a0, .int (iI x1), .int (iI x2)] L0 f0 (fun (r : Int) (L1 : List Nat) (f1 : Nat → va_E) => L0 = L1 ∧ MS cy L0 f1 a0 ad ∧ Kp a0 ad [12, 13] [10] f0 f1 ∧ ((r = -1 ∧ (x1 < 0 ∨ fI f0 a0 5 ≤ x1 ∨ x2 < 0 ∨ 36524 < x2)) ∨ (0 ≤ x1 ∧ x1 < fI f0 a0 5 ∧ 0 ≤ x2 ∧ x2 ≤ 36524 ∧ Fst (Ky (onK (aI f0 (ad 4) (44 * x1 + 3)) (aI f0 (ad 4) (44 * x1 + 4)) (aI f0 (ad 4) (44 * x1 + 5)) (aI f0 (ad 4) (44 * x1 + 6)) (aI f0 (ad 4) (44 * x1 + 7))) (aI f0 (ad 4) (44 * x1 + 10)) (UN (aI f0 (ad 4)) (44 * x1)) (aI f0 (ad 4) (44 * x1 + 9))) x2 r))) := by
  refine Ci.enter (cc := cX10_key) (n := 5) rfl (plainFor_of_name (by decide)) (Nat.le_of_ble_eq_true rfl) ?_
  intro p e s m below meth c ls A hx hb hr hts hown hlocks hnm hml hK hA hAe hw hZ hl
  have hown : s.vm.findClass RX10 = some m.cls := hown
  have hl : lv_has ls 5 [(0, .ref a0), (1, .int (iI x1)), (2, .int (iI x2))] := hl
  have hN : ZN s := (zo.2.2.2.2 _ _ _ hZ).2
  have hE : Kp a0 ad [12, 13] [10] f0 f0 := Kp.refl _ _ _ _ _
  have m5 := hv.1
  have m6 := hv.2.1
  refine lv_aload_n hx hb dX10_key_0 rfl (lv_at hl 0 rfl) ?_
  refine q_iconst hx hb dX10_key_1 ?_
  refine q_puti (ci := 8) (C := RX10) (T := TX10) (N := 26) hx hb hts (fun w h => List.mem_cons_of_mem _ (mfX100 w h)) hown hK hw hs.1 hs.2.1 rfl 10 (by decide) (hts _ (List.mem_cons_of_mem _ (mr4 _ (List.mem_of_getElem? (i := 19) rfl)))) (fun _ h => h) tyX10 tyX10_ok nmX10 rfl (ty := .int) (by decide +kernel) rfl rfl dX10_key_2 (fun H locs hw => ?_)
  obtain ⟨f_1, ef_1⟩ : ∃ g : Nat → va_E, g = pU f0 a0 10 (.int (iI 0)) := ⟨_, rfl⟩
  have v10_f_1 : fI f_1 a0 10 = 0 := by rw [ef_1]; exact fI_pU_self hs.2.1 rfl ⟨by decide, by decide⟩
  have t5_f_1 : fI f_1 a0 5 = fI f0 a0 5 := by rw [ef_1]; exact fI_pU (Or.inr (by decide))
  have hE := hE.trans (show Kp a0 ad [12, 13] [10] f0 f_1 by rw [ef_1]; exact Kp_pU hs (by decide))
  have hs_ := hs
  have hs : MS cy L0 f_1 a0 ad := by rw [ef_1]; exact MS_pU hs rfl
  rw [← ef_1] at hw
  have Q4 : aI f_1 (ad 4) = aI f0 (ad 4) := funext fun x => hE.1 4 rfl (by decide) x
  have Q4a : aI f_1 (ad 4) = aI f0 (ad 4) := funext fun x => by rw [ef_1]; exact hs_.aI_pU _ x
  refine lv_aload_n hx hb dX10_key_5 rfl (lv_at hl 0 rfl) ?_
  refine lv_iload_n hx hb dX10_key_6 rfl (lv_at hl 1 rfl) ?_
  refine q_call_i hA hK hw (va_runV (As := [.int (iI x1)]) (rest := []) ⟨hx, hb, hml, hown, hts⟩ (c_X10_isBooking zo l D cy L0 f_1 a0 x1 lx1 ux1 ad hs (by omega) _) (cwV 1 hts (gT (inV (mr22 _ (List.mem_of_getElem? (i := 21) rfl)) (mr22 _ (List.mem_of_getElem? (i := 22) rfl)) (mr22 _ (List.mem_of_getElem? (i := 23) rfl)) (mr1 _ (List.mem_of_getElem? (i := 5) rfl)) (mr23 _ (List.mem_of_getElem? (i := 0) rfl)))) rfl rfl rfl (by decide +kernel) ⟨Nat.le_of_ble_eq_true rfl, Nat.le_of_ble_eq_true rfl⟩) (Wd.preV zo hA hZ hw hK hs.1 hs.2.1 rfl) rfl rfl hl.1 rfl (lv_room (Nat.le_of_ble_eq_true rfl)) dX10_key_7 ⟨Nat.le_of_ble_eq_true rfl, Nat.le_of_ble_eq_true rfl⟩) (fun x_2 L1 f1 H locs lx_2 ux_2 ex_2 hw => ?_)
  obtain ⟨rfl, rfl, ex_2⟩ := ex_2
  refine q_if_eq (tgt := 20) hx hb dX10_key_10 (by decide) ⟨lx_2, ux_2⟩ (fun c10 => ?_) (fun c10 => ?_)
  · refine q_iconst hx hb dX10_key_20 ?_
    exact q_ret_i hx hb hr hlocks hK hAe hw ⟨by decide, by decide⟩ (Nat.le_of_ble_eq_true rfl) (Nat.le_of_ble_eq_true rfl) dX10_key_21 (by exact ⟨rfl, hs, hE, Or.inl ⟨by omega, by omega⟩⟩)
  · have rv0 := hv.row x1 (by omega) (by omega)
    have rv_x1 := (show MV f_1 a0 ad by first | exact hv | exact hv.kp hE (by decide) (by decide)).row x1 (by omega) (by omega)
    refine lv_iload_n hx hb dX10_key_13 rfl (lv_at hl 2 rfl) ?_
    refine q_call_i hA hK hw (va_runS (As := [.int (iI x2)]) (rest := []) ⟨hx, hb, hml, hown, hts⟩ (c_X10_isDay zo l D cy L0 f_1 x2 lx2 ux2 _) (va_cwS 1 hts (gT (inS (mr23 _ (List.mem_of_getElem? (i := 21) rfl)) (mr23 _ (List.mem_of_getElem? (i := 22) rfl)) (mr1 _ (List.mem_of_getElem? (i := 5) rfl)) (mr23 _ (List.mem_of_getElem? (i := 23) rfl)))) rfl rfl rfl (by decide +kernel) ⟨Nat.le_of_ble_eq_true rfl, Nat.le_of_ble_eq_true rfl⟩) (Wd.preS zo hA hZ hw hK) rfl rfl hl.1 rfl (lv_room (Nat.le_of_ble_eq_true rfl)) dX10_key_14 ⟨Nat.le_of_ble_eq_true rfl, Nat.le_of_ble_eq_true rfl⟩) (fun x_3 L1 f1 H locs lx_3 ux_3 ex_3 hw => ?_)
    obtain ⟨rfl, rfl, ex_3⟩ := ex_3
    refine q_if_ne (tgt := 22) hx hb dX10_key_17 (by decide) ⟨lx_3, ux_3⟩ (fun c17 => ?_) (fun c17 => ?_)
    · refine lv_aload_n hx hb dX10_key_22 rfl (lv_at hl 0 rfl) ?_
      refine lv_iload_n hx hb dX10_key_23 rfl (lv_at hl 1 rfl) ?_
      refine q_iconst hx hb dX10_key_24 ?_
      refine q_call_i hA hK hw (va_runV (As := [.int (iI x1), .int (iI 0)]) (rest := []) ⟨hx, hb, hml, hown, hts⟩ (c_X10_laysKeys_f zo l D cy L0 f_1 a0 x1 lx1 ux1 0 (by decide) (by decide) ad hs (by omega) (by omega) (by omega) (by omega) (by omega) (by omega) (by omega) (by omega) (by omega) (by omega) (by omega) (by first | exact hd | exact hd.kp hE (by decide) (by decide) (by decide) (by decide)) (by first | exact mo x1 (by omega) (by omega) | (rw [Q4]; exact mo x1 (by omega) (by omega))) _) (cwV 2 hts (gT (inV (mr24 _ (List.mem_of_getElem? (i := 20) rfl)) (mr24 _ (List.mem_of_getElem? (i := 21) rfl)) (mr24 _ (List.mem_of_getElem? (i := 22) rfl)) (mr1 _ (List.mem_of_getElem? (i := 5) rfl)) (mr24 _ (List.mem_of_getElem? (i := 23) rfl)))) rfl rfl rfl (by decide +kernel) ⟨Nat.le_of_ble_eq_true rfl, Nat.le_of_ble_eq_true rfl⟩) (Wd.preV zo hA hZ hw hK hs.1 hs.2.1 rfl) rfl rfl hl.1 rfl (lv_room (Nat.le_of_ble_eq_true rfl)) dX10_key_25 ⟨Nat.le_of_ble_eq_true rfl, Nat.le_of_ble_eq_true rfl⟩) (fun x_4 L1 f_5 H locs lx_4 ux_4 ex_4 hw => ?_)
      obtain ⟨rfl, hs, hX, ex_4⟩ := ex_4
      have hE := hE.trans (hX.mono (rs' := [12, 13]) (fs' := [10]) (by decide) (by decide))
      have t5_f_5 : fI f_5 a0 5 = fI f_1 a0 5 := hX.2 5 (by decide)
      have Q4 : aI f_5 (ad 4) = aI f0 (ad 4) := funext fun x => hE.1 4 rfl (by decide) x
      obtain ⟨p25a, p25b, -, kl⟩ := ex_4
      try rw [Q4a] at kl
      have kl2 : KL (Ky (onK (aI f0 (ad 4) (44 * x1 + 3)) (aI f0 (ad 4) (44 * x1 + 4)) (aI f0 (ad 4) (44 * x1 + 5)) (aI f0 (ad 4) (44 * x1 + 6)) (aI f0 (ad 4) (44 * x1 + 7))) (aI f0 (ad 4) (44 * x1 + 10)) (UN (aI f0 (ad 4)) (44 * x1)) (aI f0 (ad 4) (44 * x1 + 9))) (fun j => aI f_5 (ad 12) j) x_4 := kl.cg (fun j => aI_cg (by omega))
      have un9 := UN_le (g := aI f0 (ad 4)) (p := 44 * x1) (by omega)
      have hr9 : ∀ d : Int, Ky (onK (aI f0 (ad 4) (44 * x1 + 3)) (aI f0 (ad 4) (44 * x1 + 4)) (aI f0 (ad 4) (44 * x1 + 5)) (aI f0 (ad 4) (44 * x1 + 6)) (aI f0 (ad 4) (44 * x1 + 7))) (aI f0 (ad 4) (44 * x1 + 10)) (UN (aI f0 (ad 4)) (44 * x1)) (aI f0 (ad 4) (44 * x1 + 9)) d → d ≤ 36524 := fun d z => Int.le_trans z.2.1 un9
      clear kl
      refine lv_istore_n (lv' := [(3, .int (iI x_4)), (0, .ref a0), (1, .int (iI x1)), (2, .int (iI x2))]) hx hb dX10_key_28 rfl hl (by decide) rfl (fun ls hl => ?_)
      refine q_iconst hx hb dX10_key_29 ?_
      refine lv_istore (lv' := [(4, .int (iI 0)), (3, .int (iI x_4)), (0, .ref a0), (1, .int (iI x1)), (2, .int (iI x2))]) hx hb dX10_key_30 hl (by decide) rfl (fun ls hl => ?_)
      have J32 : ∀ (n32 : Nat) (y4_32 : Int) (ly4_32 : -2147483648 ≤ y4_32) (uy4_32 : y4_32 ≤ 2147483647) (i1 : 0 ≤ y4_32) (i2 : ∀ j : Int, 0 ≤ j → j < y4_32 → aI f_5 (ad 12) j < x2) (hn32 : ((2147483647 : Int) - y4_32).toNat < n32) (H : Heap) (locs : List Loc) (ls : Array Slot) (hw : Wd D A s.heap L0 f_5 H locs) (hl : lv_has ls 5 [(0, .ref a0), (2, .int (iI x2)), (3, .int (iI x_4)), (4, .int (iI y4_32))]), W p l e ({ frames := 3, cells := 0, slots := 0, locals := 74 } : Room) s m ([.ref a0, .int (iI x1), .int (iI x2)] : List Value).toArray below meth c H locs (0 + 0 + 0 + 0) (0 + 0 + 0 + 0) (MQ below (Qi D (tq cy) L0 f0 s.heap.size (fun (r : Int) (L1 : List Nat) (f1 : Nat → va_E) => L0 = L1 ∧ MS cy L0 f1 a0 ad ∧ Kp a0 ad [12, 13] [10] f0 f1 ∧ ((r = -1 ∧ (x1 < 0 ∨ fI f0 a0 5 ≤ x1 ∨ x2 < 0 ∨ 36524 < x2)) ∨ (0 ≤ x1 ∧ x1 < fI f0 a0 5 ∧ 0 ≤ x2 ∧ x2 ≤ 36524 ∧ Fst (Ky (onK (aI f0 (ad 4) (44 * x1 + 3)) (aI f0 (ad 4) (44 * x1 + 4)) (aI f0 (ad 4) (44 * x1 + 5)) (aI f0 (ad 4) (44 * x1 + 6)) (aI f0 (ad 4) (44 * x1 + 7))) (aI f0 (ad 4) (44 * x1 + 10)) (UN (aI f0 (ad 4)) (44 * x1)) (aI f0 (ad 4) (44 * x1 + 9))) x2 r)))) ([.ref a0, .int (iI x1), .int (iI x2)] : List Value).toArray s 0 0 A) (F0 m 32 ls []) := by
        intro n32
        induction n32 with
        | zero => intro y4_32 ly4_32 uy4_32 i1 i2 hn32; exact absurd hn32 (Nat.not_lt_zero _)
        | succ n32 ih32 =>
          intro y4_32 ly4_32 uy4_32 i1 i2 hn32 H locs ls hw hl
          refine lv_iload hx hb dX10_key_32 (lv_at hl 3 rfl) ?_
          refine lv_iload_n hx hb dX10_key_34 rfl (lv_at hl 2 rfl) ?_
          refine q_icmp_ge (tgt := 63) hx hb dX10_key_35 (by decide) ⟨ly4_32, uy4_32⟩ ⟨lx_4, ux_4⟩ (fun c35 => ?_) (fun c35 => ?_)
          · refine q_iconst hx hb dX10_key_63 ?_
            exact q_ret_i hx hb hr hlocks hK hAe hw ⟨by decide, by decide⟩ (Nat.le_of_ble_eq_true rfl) (Nat.le_of_ble_eq_true rfl) dX10_key_64 (by exact ⟨rfl, hs, hE, Or.inr ⟨by omega, by omega, by omega, by omega, kl2.fromNo (fun j q0 q1 => i2 j q0 (by omega))⟩⟩)
          · refine lv_aload_n hx hb dX10_key_38 rfl (lv_at hl 0 rfl) ?_
            refine q_getr (ci := 8) (C := RX10) (T := TX10) (N := 26) hx hb hts (fun w h => List.mem_cons_of_mem _ (mfX100 w h)) hown hK hw hs.1 hs.2.1 rfl 12 (by decide) (hts _ (List.mem_cons_of_mem _ (mr3 _ (List.mem_of_getElem? (i := 20) rfl)))) (fun _ h => h) rfl (hs.2.2.1 12 rfl).1 dX10_key_39 ?_
            refine lv_iload hx hb dX10_key_42 (lv_at hl 3 rfl) ?_
            refine q_iald hx hb hK hw (hs.2.2.1 12 rfl).2.1 1 (hs.2.2.1 12 rfl).2.2 rfl ⟨ly4_32, uy4_32⟩ (by omega) (by show _ < ((73050 : Nat) : Int); omega) dX10_key_44 (fun x_6 lx_6 ux_6 ex_6 => ?_)
            have g44 := ex_6
            refine lv_iload_n hx hb dX10_key_45 rfl (lv_at hl 1 rfl) ?_
            refine q_icmp_lt (tgt := 57) hx hb dX10_key_46 (by decide) ⟨lx_6, ux_6⟩ ⟨lx2, ux2⟩ (fun c46 => ?_) (fun c46 => ?_)
            · obtain ⟨x_7, lx_7, ux_7, hx_7, ex_7⟩ := q_inc y4_32 (1)
              try (replace ex_7 : x_7 = y4_32 + (1) := by omega)
              refine lv_iinc (v := iI x_7) (lv' := [(4, .int (iI x_7)), (0, .ref a0), (2, .int (iI x2)), (3, .int (iI x_4))]) hx hb dX10_key_57 hl (k := 3) rfl hx_7 (by decide) rfl (fun ls hl => ?_)
              refine lv_goto (tgt := 32) hx hb dX10_key_60 (by decide) ?_
              exact ih32 x_7 lx_7 ux_7 (by omega) (by first | exact fun j q0 q1 => absurd q1 (by omega) | exact fun j q0 q1 => (Int.lt_or_le j y4_32).elim (fun q => i2 j q0 q) (fun q => by rw [show j = y4_32 by omega, ← g44]; exact c46) | fail "none") (by omega) _ _ _ hw (lv_sub hl [1, 2, 3, 0] rfl)
            · refine lv_aload_n hx hb dX10_key_49 rfl (lv_at hl 0 rfl) ?_
              refine q_getr (ci := 8) (C := RX10) (T := TX10) (N := 26) hx hb hts (fun w h => List.mem_cons_of_mem _ (mfX100 w h)) hown hK hw hs.1 hs.2.1 rfl 12 (by decide) (hts _ (List.mem_cons_of_mem _ (mr3 _ (List.mem_of_getElem? (i := 20) rfl)))) (fun _ h => h) rfl (hs.2.2.1 12 rfl).1 dX10_key_50 ?_
              refine lv_iload hx hb dX10_key_53 (lv_at hl 3 rfl) ?_
              refine q_iald hx hb hK hw (hs.2.2.1 12 rfl).2.1 1 (hs.2.2.1 12 rfl).2.2 rfl ⟨ly4_32, uy4_32⟩ (by omega) (by show _ < ((73050 : Nat) : Int); omega) dX10_key_55 (fun x_8 lx_8 ux_8 ex_8 => ?_)
              exact q_ret_i hx hb hr hlocks hK hAe hw ⟨lx_8, ux_8⟩ (Nat.le_of_ble_eq_true rfl) (Nat.le_of_ble_eq_true rfl) dX10_key_56 (by exact ⟨rfl, hs, hE, Or.inr ⟨by omega, by omega, by omega, by omega, by rw [ex_8]; exact kl2.from hr9 (by omega) (by omega) (show x2 ≤ aI f_5 (ad 12) y4_32 by omega) i2⟩⟩)
      exact J32 ((((2147483647 : Int) - 0).toNat) + 1) 0 (by decide) (by decide) (by omega) (by first | exact fun j q0 q1 => absurd q1 (by omega) | exact fun j q0 q1 => (Int.lt_or_le j y4_32).elim (fun q => i2 j q0 q) (fun q => by rw [show j = y4_32 by omega, ← g44]; exact c46) | fail "none") (by omega) _ _ _ hw (lv_sub hl [2, 4, 1, 0] rfl)
    · refine q_iconst hx hb dX10_key_20 ?_
      exact q_ret_i hx hb hr hlocks hK hAe hw ⟨by decide, by decide⟩ (Nat.le_of_ble_eq_true rfl) (Nat.le_of_ble_eq_true rfl) dX10_key_21 (by exact ⟨rfl, hs, hE, Or.inl ⟨by omega, by omega⟩⟩)
set_option maxHeartbeats 4000000 in
set_option maxRecDepth 100000 in
theorem c_X10_keys_f {Z : Zt} (zo : Zok Z) (l : Launch) (D : va_G) (cy : Cy) (L0 : List Nat) (f0 : Nat → va_E) (a0 : Nat) (x1 : Int) (lx1 : -2147483648 ≤ x1) (ux1 : x1 ≤ 2147483647) (x2 : Int) (lx2 : -2147483648 ≤ x2) (ux2 : x2 ≤ 2147483647) (x3 : Int) (lx3 : -2147483648 ≤ x3) (ux3 : x3 ≤ 2147483647) (ad : Nat → Nat) (hs : MS cy L0 f0 a0 ad) (hv : MV f0 a0 ad) (hd : DT f0 ad 36525) (mo : MOk f0 a0 ad) : Ci Z l yX10_keys (Cond.code yX10_keys cX10_keys 7 (some .int) :: TB) ({ frames := 3, cells := 0, slots := 0, locals := 74 } : Room) 0 0 D (tq cy) [.ref a0, .int (iI x1), .int (iI x2), .int (iI x3)] L0 f0 (fun (r : Int) (L1 : List Nat) (f1 : Nat → va_E) => L0 = L1 ∧ MS cy L0 f1 a0 ad ∧ Kp a0 ad [12, 13] [10] f0 f1 ∧ ((r = -1 ∧ (x1 < 0 ∨ fI f0 a0 5 ≤ x1 ∨ x2 < 0 ∨ 36524 < x2 ∨ x3 < 0 ∨ 36524 < x3 ∨ x3 < x2)) ∨ (0 ≤ x1 ∧ x1 < fI f0 a0 5 ∧ 0 ≤ x2 ∧ x2 ≤ x3 ∧ x3 ≤ 36524 ∧ r = cn (Ky (onK (aI f0 (ad 4) (44 * x1 + 3)) (aI f0 (ad 4) (44 * x1 + 4)) (aI f0 (ad 4) (44 * x1 + 5)) (aI f0 (ad 4) (44 * x1 + 6)) (aI f0 (ad 4) (44 * x1 + 7))) (aI f0 (ad 4) (44 * x1 + 10)) (UN (aI f0 (ad 4)) (44 * x1)) (aI f0 (ad 4) (44 * x1 + 9))) x2 (x3 + 1)))) := by
  refine Ci.enter (cc := cX10_keys) (n := 7) rfl (plainFor_of_name (by decide)) (Nat.le_of_ble_eq_true rfl) ?_
  intro p e s m below meth c ls A hx hb hr hts hown hlocks hnm hml hK hA hAe hw hZ hl
  have hown : s.vm.findClass RX10 = some m.cls := hown
  have hl : lv_has ls 7 [(0, .ref a0), (1, .int (iI x1)), (2, .int (iI x2)), (3, .int (iI x3))] := hl
  have hN : ZN s := (zo.2.2.2.2 _ _ _ hZ).2
  have hE : Kp a0 ad [12, 13] [10] f0 f0 := Kp.refl _ _ _ _ _
  have m5 := hv.1
  have m6 := hv.2.1
  refine lv_aload_n hx hb dX10_keys_0 rfl (lv_at hl 0 rfl) ?_
  refine q_iconst hx hb dX10_keys_1 ?_
  refine q_puti (ci := 8) (C := RX10) (T := TX10) (N := 26) hx hb hts (fun w h => List.mem_cons_of_mem _ (mfX100 w h)) hown hK hw hs.1 hs.2.1 rfl 10 (by decide) (hts _ (List.mem_cons_of_mem _ (mr4 _ (List.mem_of_getElem? (i := 19) rfl)))) (fun _ h => h) tyX10 tyX10_ok nmX10 rfl (ty := .int) (by decide +kernel) rfl rfl dX10_keys_2 (fun H locs hw => ?_)
  obtain ⟨f_1, ef_1⟩ : ∃ g : Nat → va_E, g = pU f0 a0 10 (.int (iI 0)) := ⟨_, rfl⟩
  have v10_f_1 : fI f_1 a0 10 = 0 := by rw [ef_1]; exact fI_pU_self hs.2.1 rfl ⟨by decide, by decide⟩
  have t5_f_1 : fI f_1 a0 5 = fI f0 a0 5 := by rw [ef_1]; exact fI_pU (Or.inr (by decide))
  have hE := hE.trans (show Kp a0 ad [12, 13] [10] f0 f_1 by rw [ef_1]; exact Kp_pU hs (by decide))
  have hs_ := hs
  have hs : MS cy L0 f_1 a0 ad := by rw [ef_1]; exact MS_pU hs rfl
  rw [← ef_1] at hw
  have Q4 : aI f_1 (ad 4) = aI f0 (ad 4) := funext fun x => hE.1 4 rfl (by decide) x
  have Q4a : aI f_1 (ad 4) = aI f0 (ad 4) := funext fun x => by rw [ef_1]; exact hs_.aI_pU _ x
  refine lv_aload_n hx hb dX10_keys_5 rfl (lv_at hl 0 rfl) ?_
  refine lv_iload_n hx hb dX10_keys_6 rfl (lv_at hl 1 rfl) ?_
  refine q_call_i hA hK hw (va_runV (As := [.int (iI x1)]) (rest := []) ⟨hx, hb, hml, hown, hts⟩ (c_X10_isBooking zo l D cy L0 f_1 a0 x1 lx1 ux1 ad hs (by omega) _) (cwV 1 hts (gT (inV (mr22 _ (List.mem_of_getElem? (i := 21) rfl)) (mr22 _ (List.mem_of_getElem? (i := 22) rfl)) (mr22 _ (List.mem_of_getElem? (i := 23) rfl)) (mr1 _ (List.mem_of_getElem? (i := 5) rfl)) (mr23 _ (List.mem_of_getElem? (i := 0) rfl)))) rfl rfl rfl (by decide +kernel) ⟨Nat.le_of_ble_eq_true rfl, Nat.le_of_ble_eq_true rfl⟩) (Wd.preV zo hA hZ hw hK hs.1 hs.2.1 rfl) rfl rfl hl.1 rfl (lv_room (Nat.le_of_ble_eq_true rfl)) dX10_keys_7 ⟨Nat.le_of_ble_eq_true rfl, Nat.le_of_ble_eq_true rfl⟩) (fun x_2 L1 f1 H locs lx_2 ux_2 ex_2 hw => ?_)
  obtain ⟨rfl, rfl, ex_2⟩ := ex_2
  refine q_if_eq (tgt := 32) hx hb dX10_keys_10 (by decide) ⟨lx_2, ux_2⟩ (fun c10 => ?_) (fun c10 => ?_)
  · refine q_iconst hx hb dX10_keys_32 ?_
    exact q_ret_i hx hb hr hlocks hK hAe hw ⟨by decide, by decide⟩ (Nat.le_of_ble_eq_true rfl) (Nat.le_of_ble_eq_true rfl) dX10_keys_33 (by exact ⟨rfl, hs, hE, Or.inl ⟨by omega, by omega⟩⟩)
  · have rv0 := hv.row x1 (by omega) (by omega)
    have rv_x1 := (show MV f_1 a0 ad by first | exact hv | exact hv.kp hE (by decide) (by decide)).row x1 (by omega) (by omega)
    refine lv_iload_n hx hb dX10_keys_13 rfl (lv_at hl 2 rfl) ?_
    refine q_call_i hA hK hw (va_runS (As := [.int (iI x2)]) (rest := []) ⟨hx, hb, hml, hown, hts⟩ (c_X10_isDay zo l D cy L0 f_1 x2 lx2 ux2 _) (va_cwS 1 hts (gT (inS (mr23 _ (List.mem_of_getElem? (i := 21) rfl)) (mr23 _ (List.mem_of_getElem? (i := 22) rfl)) (mr1 _ (List.mem_of_getElem? (i := 5) rfl)) (mr23 _ (List.mem_of_getElem? (i := 23) rfl)))) rfl rfl rfl (by decide +kernel) ⟨Nat.le_of_ble_eq_true rfl, Nat.le_of_ble_eq_true rfl⟩) (Wd.preS zo hA hZ hw hK) rfl rfl hl.1 rfl (lv_room (Nat.le_of_ble_eq_true rfl)) dX10_keys_14 ⟨Nat.le_of_ble_eq_true rfl, Nat.le_of_ble_eq_true rfl⟩) (fun x_3 L1 f1 H locs lx_3 ux_3 ex_3 hw => ?_)
    obtain ⟨rfl, rfl, ex_3⟩ := ex_3
    refine q_if_eq (tgt := 32) hx hb dX10_keys_17 (by decide) ⟨lx_3, ux_3⟩ (fun c17 => ?_) (fun c17 => ?_)
    · refine q_iconst hx hb dX10_keys_32 ?_
      exact q_ret_i hx hb hr hlocks hK hAe hw ⟨by decide, by decide⟩ (Nat.le_of_ble_eq_true rfl) (Nat.le_of_ble_eq_true rfl) dX10_keys_33 (by exact ⟨rfl, hs, hE, Or.inl ⟨by omega, by omega⟩⟩)
    · refine lv_iload_n hx hb dX10_keys_20 rfl (lv_at hl 3 rfl) ?_
      refine q_call_i hA hK hw (va_runS (As := [.int (iI x3)]) (rest := []) ⟨hx, hb, hml, hown, hts⟩ (c_X10_isDay zo l D cy L0 f_1 x3 lx3 ux3 _) (va_cwS 1 hts (gT (inS (mr23 _ (List.mem_of_getElem? (i := 21) rfl)) (mr23 _ (List.mem_of_getElem? (i := 22) rfl)) (mr1 _ (List.mem_of_getElem? (i := 5) rfl)) (mr23 _ (List.mem_of_getElem? (i := 23) rfl)))) rfl rfl rfl (by decide +kernel) ⟨Nat.le_of_ble_eq_true rfl, Nat.le_of_ble_eq_true rfl⟩) (Wd.preS zo hA hZ hw hK) rfl rfl hl.1 rfl (lv_room (Nat.le_of_ble_eq_true rfl)) dX10_keys_21 ⟨Nat.le_of_ble_eq_true rfl, Nat.le_of_ble_eq_true rfl⟩) (fun x_4 L1 f1 H locs lx_4 ux_4 ex_4 hw => ?_)
      obtain ⟨rfl, rfl, ex_4⟩ := ex_4
      refine q_if_eq (tgt := 32) hx hb dX10_keys_24 (by decide) ⟨lx_4, ux_4⟩ (fun c24 => ?_) (fun c24 => ?_)
      · refine q_iconst hx hb dX10_keys_32 ?_
        exact q_ret_i hx hb hr hlocks hK hAe hw ⟨by decide, by decide⟩ (Nat.le_of_ble_eq_true rfl) (Nat.le_of_ble_eq_true rfl) dX10_keys_33 (by exact ⟨rfl, hs, hE, Or.inl ⟨by omega, by omega⟩⟩)
      · refine lv_iload_n hx hb dX10_keys_27 rfl (lv_at hl 3 rfl) ?_
        refine lv_iload_n hx hb dX10_keys_28 rfl (lv_at hl 2 rfl) ?_
        refine q_icmp_ge (tgt := 34) hx hb dX10_keys_29 (by decide) ⟨lx3, ux3⟩ ⟨lx2, ux2⟩ (fun c29 => ?_) (fun c29 => ?_)
        · refine lv_aload_n hx hb dX10_keys_34 rfl (lv_at hl 0 rfl) ?_
          refine lv_iload_n hx hb dX10_keys_35 rfl (lv_at hl 1 rfl) ?_
          refine q_iconst hx hb dX10_keys_36 ?_
          refine q_call_i hA hK hw (va_runV (As := [.int (iI x1), .int (iI 0)]) (rest := []) ⟨hx, hb, hml, hown, hts⟩ (c_X10_laysKeys_f zo l D cy L0 f_1 a0 x1 lx1 ux1 0 (by decide) (by decide) ad hs (by omega) (by omega) (by omega) (by omega) (by omega) (by omega) (by omega) (by omega) (by omega) (by omega) (by omega) (by first | exact hd | exact hd.kp hE (by decide) (by decide) (by decide) (by decide)) (by first | exact mo x1 (by omega) (by omega) | (rw [Q4]; exact mo x1 (by omega) (by omega))) _) (cwV 2 hts (gT (inV (mr24 _ (List.mem_of_getElem? (i := 20) rfl)) (mr24 _ (List.mem_of_getElem? (i := 21) rfl)) (mr24 _ (List.mem_of_getElem? (i := 22) rfl)) (mr1 _ (List.mem_of_getElem? (i := 5) rfl)) (mr24 _ (List.mem_of_getElem? (i := 23) rfl)))) rfl rfl rfl (by decide +kernel) ⟨Nat.le_of_ble_eq_true rfl, Nat.le_of_ble_eq_true rfl⟩) (Wd.preV zo hA hZ hw hK hs.1 hs.2.1 rfl) rfl rfl hl.1 rfl (lv_room (Nat.le_of_ble_eq_true rfl)) dX10_keys_37 ⟨Nat.le_of_ble_eq_true rfl, Nat.le_of_ble_eq_true rfl⟩) (fun x_5 L1 f_6 H locs lx_5 ux_5 ex_5 hw => ?_)
          obtain ⟨rfl, hs, hX, ex_5⟩ := ex_5
          have hE := hE.trans (hX.mono (rs' := [12, 13]) (fs' := [10]) (by decide) (by decide))
          have t5_f_6 : fI f_6 a0 5 = fI f_1 a0 5 := hX.2 5 (by decide)
          have Q4 : aI f_6 (ad 4) = aI f0 (ad 4) := funext fun x => hE.1 4 rfl (by decide) x
          obtain ⟨p25a, p25b, -, kl⟩ := ex_5
          try rw [Q4a] at kl
          have kl2 : KL (Ky (onK (aI f0 (ad 4) (44 * x1 + 3)) (aI f0 (ad 4) (44 * x1 + 4)) (aI f0 (ad 4) (44 * x1 + 5)) (aI f0 (ad 4) (44 * x1 + 6)) (aI f0 (ad 4) (44 * x1 + 7))) (aI f0 (ad 4) (44 * x1 + 10)) (UN (aI f0 (ad 4)) (44 * x1)) (aI f0 (ad 4) (44 * x1 + 9))) (fun j => aI f_6 (ad 12) j) x_5 := kl.cg (fun j => aI_cg (by omega))
          have un9 := UN_le (g := aI f0 (ad 4)) (p := 44 * x1) (by omega)
          have hr9 : ∀ d : Int, Ky (onK (aI f0 (ad 4) (44 * x1 + 3)) (aI f0 (ad 4) (44 * x1 + 4)) (aI f0 (ad 4) (44 * x1 + 5)) (aI f0 (ad 4) (44 * x1 + 6)) (aI f0 (ad 4) (44 * x1 + 7))) (aI f0 (ad 4) (44 * x1 + 10)) (UN (aI f0 (ad 4)) (44 * x1)) (aI f0 (ad 4) (44 * x1 + 9)) d → d ≤ 36524 := fun d z => Int.le_trans z.2.1 un9
          clear kl
          refine lv_istore (lv' := [(4, .int (iI x_5)), (0, .ref a0), (1, .int (iI x1)), (2, .int (iI x2)), (3, .int (iI x3))]) hx hb dX10_keys_40 hl (by decide) rfl (fun ls hl => ?_)
          refine q_iconst hx hb dX10_keys_42 ?_
          refine lv_istore (lv' := [(5, .int (iI 0)), (4, .int (iI x_5)), (0, .ref a0), (1, .int (iI x1)), (2, .int (iI x2)), (3, .int (iI x3))]) hx hb dX10_keys_43 hl (by decide) rfl (fun ls hl => ?_)
          refine q_iconst hx hb dX10_keys_45 ?_
          refine lv_istore (lv' := [(6, .int (iI 0)), (5, .int (iI 0)), (4, .int (iI x_5)), (0, .ref a0), (1, .int (iI x1)), (2, .int (iI x2)), (3, .int (iI x3))]) hx hb dX10_keys_46 hl (by decide) rfl (fun ls hl => ?_)
          have J48 : ∀ (n48 : Nat) (y5_48 : Int) (ly5_48 : -2147483648 ≤ y5_48) (uy5_48 : y5_48 ≤ 2147483647) (y6_48 : Int) (ly6_48 : -2147483648 ≤ y6_48) (uy6_48 : y6_48 ≤ 2147483647) (i1 : 0 ≤ y6_48) (i5 : y5_48 = cn (Ky (onK (aI f0 (ad 4) (44 * x1 + 3)) (aI f0 (ad 4) (44 * x1 + 4)) (aI f0 (ad 4) (44 * x1 + 5)) (aI f0 (ad 4) (44 * x1 + 6)) (aI f0 (ad 4) (44 * x1 + 7))) (aI f0 (ad 4) (44 * x1 + 10)) (UN (aI f0 (ad 4)) (44 * x1)) (aI f0 (ad 4) (44 * x1 + 9))) x2 (min (kAt (fun j => aI f_6 (ad 12) j) x_5 y6_48) (x3 + 1))) (hn48 : ((2147483647 : Int) - y6_48).toNat < n48) (H : Heap) (locs : List Loc) (ls : Array Slot) (hw : Wd D A s.heap L0 f_6 H locs) (hl : lv_has ls 7 [(0, .ref a0), (2, .int (iI x2)), (3, .int (iI x3)), (4, .int (iI x_5)), (5, .int (iI y5_48)), (6, .int (iI y6_48))]), W p l e ({ frames := 3, cells := 0, slots := 0, locals := 74 } : Room) s m ([.ref a0, .int (iI x1), .int (iI x2), .int (iI x3)] : List Value).toArray below meth c H locs (0 + 0 + 0 + 0 + 0) (0 + 0 + 0 + 0 + 0) (MQ below (Qi D (tq cy) L0 f0 s.heap.size (fun (r : Int) (L1 : List Nat) (f1 : Nat → va_E) => L0 = L1 ∧ MS cy L0 f1 a0 ad ∧ Kp a0 ad [12, 13] [10] f0 f1 ∧ ((r = -1 ∧ (x1 < 0 ∨ fI f0 a0 5 ≤ x1 ∨ x2 < 0 ∨ 36524 < x2 ∨ x3 < 0 ∨ 36524 < x3 ∨ x3 < x2)) ∨ (0 ≤ x1 ∧ x1 < fI f0 a0 5 ∧ 0 ≤ x2 ∧ x2 ≤ x3 ∧ x3 ≤ 36524 ∧ r = cn (Ky (onK (aI f0 (ad 4) (44 * x1 + 3)) (aI f0 (ad 4) (44 * x1 + 4)) (aI f0 (ad 4) (44 * x1 + 5)) (aI f0 (ad 4) (44 * x1 + 6)) (aI f0 (ad 4) (44 * x1 + 7))) (aI f0 (ad 4) (44 * x1 + 10)) (UN (aI f0 (ad 4)) (44 * x1)) (aI f0 (ad 4) (44 * x1 + 9))) x2 (x3 + 1))))) ([.ref a0, .int (iI x1), .int (iI x2), .int (iI x3)] : List Value).toArray s 0 0 A) (F0 m 48 ls []) := by
            intro n48
            induction n48 with
            | zero => intro y5_48 ly5_48 uy5_48 y6_48 ly6_48 uy6_48 i1 i5 hn48; exact absurd hn48 (Nat.not_lt_zero _)
            | succ n48 ih48 =>
              intro y5_48 ly5_48 uy5_48 y6_48 ly6_48 uy6_48 i1 i5 hn48 H locs ls hw hl
              have cp := cn_pos (p := Ky (onK (aI f0 (ad 4) (44 * x1 + 3)) (aI f0 (ad 4) (44 * x1 + 4)) (aI f0 (ad 4) (44 * x1 + 5)) (aI f0 (ad 4) (44 * x1 + 6)) (aI f0 (ad 4) (44 * x1 + 7))) (aI f0 (ad 4) (44 * x1 + 10)) (UN (aI f0 (ad 4)) (44 * x1)) (aI f0 (ad 4) (44 * x1 + 9))) (a := x2) (b := min (kAt (fun j => aI f_6 (ad 12) j) x_5 y6_48) (x3 + 1))
              refine lv_iload hx hb dX10_keys_48 (lv_at hl 5 rfl) ?_
              refine lv_iload hx hb dX10_keys_50 (lv_at hl 3 rfl) ?_
              refine q_icmp_ge (tgt := 79) hx hb dX10_keys_52 (by decide) ⟨ly6_48, uy6_48⟩ ⟨lx_5, ux_5⟩ (fun c52 => ?_) (fun c52 => ?_)
              · refine lv_iload hx hb dX10_keys_79 (lv_at hl 4 rfl) ?_
                exact q_ret_i hx hb hr hlocks hK hAe hw ⟨ly5_48, uy5_48⟩ (Nat.le_of_ble_eq_true rfl) (Nat.le_of_ble_eq_true rfl) dX10_keys_81 (by exact ⟨rfl, hs, hE, Or.inr ⟨by omega, by omega, by omega, by omega, by omega, kc_fin (by omega) (by omega) i5⟩⟩)
              · refine lv_aload_n hx hb dX10_keys_55 rfl (lv_at hl 0 rfl) ?_
                refine q_getr (ci := 8) (C := RX10) (T := TX10) (N := 26) hx hb hts (fun w h => List.mem_cons_of_mem _ (mfX100 w h)) hown hK hw hs.1 hs.2.1 rfl 12 (by decide) (hts _ (List.mem_cons_of_mem _ (mr3 _ (List.mem_of_getElem? (i := 20) rfl)))) (fun _ h => h) rfl (hs.2.2.1 12 rfl).1 dX10_keys_56 ?_
                refine lv_iload hx hb dX10_keys_59 (lv_at hl 5 rfl) ?_
                refine q_iald hx hb hK hw (hs.2.2.1 12 rfl).2.1 1 (hs.2.2.1 12 rfl).2.2 rfl ⟨ly6_48, uy6_48⟩ (by omega) (by show _ < ((73050 : Nat) : Int); omega) dX10_keys_61 (fun x_7 lx_7 ux_7 ex_7 => ?_)
                have g61 := ex_7
                refine lv_iload_n hx hb dX10_keys_62 rfl (lv_at hl 1 rfl) ?_
                refine lv_iload_n hx hb dX10_keys_63 rfl (lv_at hl 2 rfl) ?_
                refine q_call_i hA hK hw (va_runS (As := [.int (iI x_7), .int (iI x2), .int (iI x3)]) (rest := []) ⟨hx, hb, hml, hown, hts⟩ (c_X10_within zo l D cy L0 f_6 x_7 lx_7 ux_7 x2 lx2 ux2 x3 lx3 ux3 _) (va_cwS 3 hts (gT (inS (mr5 _ (List.mem_of_getElem? (i := 9) rfl)) (mr5 _ (List.mem_of_getElem? (i := 10) rfl)) (mr1 _ (List.mem_of_getElem? (i := 5) rfl)) (mr5 _ (List.mem_of_getElem? (i := 11) rfl)))) rfl rfl rfl (by decide +kernel) ⟨Nat.le_of_ble_eq_true rfl, Nat.le_of_ble_eq_true rfl⟩) (Wd.preS zo hA hZ hw hK) rfl rfl hl.1 rfl (lv_room (Nat.le_of_ble_eq_true rfl)) dX10_keys_64 ⟨Nat.le_of_ble_eq_true rfl, Nat.le_of_ble_eq_true rfl⟩) (fun x_8 L1 f1 H locs lx_8 ux_8 ex_8 hw => ?_)
                obtain ⟨rfl, rfl, ex_8⟩ := ex_8
                have J73 : ∀ (z5_73 : Int) (lz5_73 : -2147483648 ≤ z5_73) (uz5_73 : z5_73 ≤ 2147483647) (k5 : z5_73 = cn (Ky (onK (aI f0 (ad 4) (44 * x1 + 3)) (aI f0 (ad 4) (44 * x1 + 4)) (aI f0 (ad 4) (44 * x1 + 5)) (aI f0 (ad 4) (44 * x1 + 6)) (aI f0 (ad 4) (44 * x1 + 7))) (aI f0 (ad 4) (44 * x1 + 10)) (UN (aI f0 (ad 4)) (44 * x1)) (aI f0 (ad 4) (44 * x1 + 9))) x2 (min (kAt (fun j => aI f_6 (ad 12) j) x_5 (y6_48 + 1)) (x3 + 1))) (H : Heap) (locs : List Loc) (ls : Array Slot) (hw : Wd D A s.heap L0 f_6 H locs) (hl : lv_has ls 7 [(0, .ref a0), (2, .int (iI x2)), (3, .int (iI x3)), (4, .int (iI x_5)), (5, .int (iI z5_73)), (6, .int (iI y6_48))]), W p l e ({ frames := 3, cells := 0, slots := 0, locals := 74 } : Room) s m ([.ref a0, .int (iI x1), .int (iI x2), .int (iI x3)] : List Value).toArray below meth c H locs (0 + 0 + 0 + 0 + 0 + 0) (0 + 0 + 0 + 0 + 0 + 0) (MQ below (Qi D (tq cy) L0 f0 s.heap.size (fun (r : Int) (L1 : List Nat) (f1 : Nat → va_E) => L0 = L1 ∧ MS cy L0 f1 a0 ad ∧ Kp a0 ad [12, 13] [10] f0 f1 ∧ ((r = -1 ∧ (x1 < 0 ∨ fI f0 a0 5 ≤ x1 ∨ x2 < 0 ∨ 36524 < x2 ∨ x3 < 0 ∨ 36524 < x3 ∨ x3 < x2)) ∨ (0 ≤ x1 ∧ x1 < fI f0 a0 5 ∧ 0 ≤ x2 ∧ x2 ≤ x3 ∧ x3 ≤ 36524 ∧ r = cn (Ky (onK (aI f0 (ad 4) (44 * x1 + 3)) (aI f0 (ad 4) (44 * x1 + 4)) (aI f0 (ad 4) (44 * x1 + 5)) (aI f0 (ad 4) (44 * x1 + 6)) (aI f0 (ad 4) (44 * x1 + 7))) (aI f0 (ad 4) (44 * x1 + 10)) (UN (aI f0 (ad 4)) (44 * x1)) (aI f0 (ad 4) (44 * x1 + 9))) x2 (x3 + 1))))) ([.ref a0, .int (iI x1), .int (iI x2), .int (iI x3)] : List Value).toArray s 0 0 A) (F0 m 73 ls []) := by
                  intro z5_73 lz5_73 uz5_73 k5 H locs ls hw hl
                  obtain ⟨x_9, lx_9, ux_9, hx_9, ex_9⟩ := q_inc y6_48 (1)
                  try (replace ex_9 : x_9 = y6_48 + (1) := by omega)
                  refine lv_iinc (v := iI x_9) (lv' := [(6, .int (iI x_9)), (0, .ref a0), (2, .int (iI x2)), (3, .int (iI x3)), (4, .int (iI x_5)), (5, .int (iI z5_73))]) hx hb dX10_keys_73 hl (k := 5) rfl hx_9 (by decide) rfl (fun ls hl => ?_)
                  refine lv_goto (tgt := 48) hx hb dX10_keys_76 (by decide) ?_
                  exact ih48 z5_73 lz5_73 uz5_73 x_9 lx_9 ux_9 (by omega) (by first | exact kl2.cnt0 | exact kat_arg k5 (by omega) | fail "none") (by omega) _ _ _ hw (lv_sub hl [1, 2, 3, 4, 5, 0] rfl)
                refine q_if_eq (tgt := 73) hx hb dX10_keys_67 (by decide) ⟨lx_8, ux_8⟩ (fun c67 => ?_) (fun c67 => ?_)
                · exact J73 y5_48 ly5_48 uy5_48 (by exact kc_step kl2 hr9 (by omega) (by omega) (by omega) i5 g61 (by omega)) _ _ _ hw (lv_sub hl [0, 1, 2, 3, 4, 5] rfl)
                · obtain ⟨x_10, lx_10, ux_10, hx_10, ex_10⟩ := q_inc y5_48 (1)
                  try (replace ex_10 : x_10 = y5_48 + (1) := by omega)
                  refine lv_iinc (v := iI x_10) (lv' := [(5, .int (iI x_10)), (0, .ref a0), (2, .int (iI x2)), (3, .int (iI x3)), (4, .int (iI x_5)), (6, .int (iI y6_48))]) hx hb dX10_keys_70 hl (k := 4) rfl hx_10 (by decide) rfl (fun ls hl => ?_)
                  exact J73 x_10 lx_10 ux_10 (by exact kc_step kl2 hr9 (by omega) (by omega) (by omega) i5 g61 (by omega)) _ _ _ hw (lv_sub hl [1, 2, 3, 4, 0, 5] rfl)
          exact J48 ((((2147483647 : Int) - 0).toNat) + 1) 0 (by decide) (by decide) 0 (by decide) (by decide) (by omega) (by first | exact kl2.cnt0 | exact kat_arg k5 (by omega) | fail "none") (by omega) _ _ _ hw (lv_sub hl [3, 5, 6, 2, 1, 0] rfl)
        · refine q_iconst hx hb dX10_keys_32 ?_
          exact q_ret_i hx hb hr hlocks hK hAe hw ⟨by decide, by decide⟩ (Nat.le_of_ble_eq_true rfl) (Nat.le_of_ble_eq_true rfl) dX10_keys_33 (by exact ⟨rfl, hs, hE, Or.inl ⟨by omega, by omega⟩⟩)
set_option maxHeartbeats 4000000 in
set_option maxRecDepth 100000 in
theorem c_X10_isKey_f {Z : Zt} (zo : Zok Z) (l : Launch) (D : va_G) (cy : Cy) (L0 : List Nat) (f0 : Nat → va_E) (a0 : Nat) (x1 : Int) (lx1 : -2147483648 ≤ x1) (ux1 : x1 ≤ 2147483647) (x2 : Int) (lx2 : -2147483648 ≤ x2) (ux2 : x2 ≤ 2147483647) (ad : Nat → Nat) (hs : MS cy L0 f0 a0 ad) (hv : MV f0 a0 ad) (hd : DT f0 ad 36525) (mo : MOk f0 a0 ad) : Ci Z l yX10_isKey (Cond.code yX10_isKey cX10_isKey 5 (some .boolean) :: TB) ({ frames := 3, cells := 0, slots := 0, locals := 74 } : Room) 0 0 D (tq cy) [.ref a0, .int (iI x1), .int (iI x2)] L0 f0 (fun (r : Int) (L1 : List Nat) (f1 : Nat → va_E) => L0 = L1 ∧ MS cy L0 f1 a0 ad ∧ Kp a0 ad [12, 13] [] f0 f1 ∧ ((r = 1 ∧ 0 ≤ x1 ∧ x1 < fI f0 a0 5 ∧ 0 ≤ x2 ∧ x2 ≤ 36524 ∧ Ky (onK (aI f0 (ad 4) (44 * x1 + 3)) (aI f0 (ad 4) (44 * x1 + 4)) (aI f0 (ad 4) (44 * x1 + 5)) (aI f0 (ad 4) (44 * x1 + 6)) (aI f0 (ad 4) (44 * x1 + 7))) (aI f0 (ad 4) (44 * x1 + 10)) (UN (aI f0 (ad 4)) (44 * x1)) (aI f0 (ad 4) (44 * x1 + 9)) x2) ∨ (r = 0 ∧ ¬ (0 ≤ x1 ∧ x1 < fI f0 a0 5 ∧ 0 ≤ x2 ∧ x2 ≤ 36524 ∧ Ky (onK (aI f0 (ad 4) (44 * x1 + 3)) (aI f0 (ad 4) (44 * x1 + 4)) (aI f0 (ad 4) (44 * x1 + 5)) (aI f0 (ad 4) (44 * x1 + 6)) (aI f0 (ad 4) (44 * x1 + 7))) (aI f0 (ad 4) (44 * x1 + 10)) (UN (aI f0 (ad 4)) (44 * x1)) (aI f0 (ad 4) (44 * x1 + 9)) x2)))) := by
  refine Ci.enter (cc := cX10_isKey) (n := 5) rfl (plainFor_of_name (by decide)) (Nat.le_of_ble_eq_true rfl) ?_
  intro p e s m below meth c ls A hx hb hr hts hown hlocks hnm hml hK hA hAe hw hZ hl
  have hown : s.vm.findClass RX10 = some m.cls := hown
  have hl : lv_has ls 5 [(0, .ref a0), (1, .int (iI x1)), (2, .int (iI x2))] := hl
  have hN : ZN s := (zo.2.2.2.2 _ _ _ hZ).2
  have hE : Kp a0 ad [12, 13] [] f0 f0 := Kp.refl _ _ _ _ _
  have m5 := hv.1
  have m6 := hv.2.1
  refine lv_aload_n hx hb dX10_isKey_0 rfl (lv_at hl 0 rfl) ?_
  refine lv_iload_n hx hb dX10_isKey_1 rfl (lv_at hl 1 rfl) ?_
  refine q_call_i hA hK hw (va_runV (As := [.int (iI x1)]) (rest := []) ⟨hx, hb, hml, hown, hts⟩ (c_X10_isBooking zo l D cy L0 f0 a0 x1 lx1 ux1 ad hs (by omega) _) (cwV 1 hts (gT (inV (mr22 _ (List.mem_of_getElem? (i := 21) rfl)) (mr22 _ (List.mem_of_getElem? (i := 22) rfl)) (mr22 _ (List.mem_of_getElem? (i := 23) rfl)) (mr1 _ (List.mem_of_getElem? (i := 5) rfl)) (mr23 _ (List.mem_of_getElem? (i := 0) rfl)))) rfl rfl rfl (by decide +kernel) ⟨Nat.le_of_ble_eq_true rfl, Nat.le_of_ble_eq_true rfl⟩) (Wd.preV zo hA hZ hw hK hs.1 hs.2.1 rfl) rfl rfl hl.1 rfl (lv_room (Nat.le_of_ble_eq_true rfl)) dX10_isKey_2 ⟨Nat.le_of_ble_eq_true rfl, Nat.le_of_ble_eq_true rfl⟩) (fun x_1 L1 f1 H locs lx_1 ux_1 ex_1 hw => ?_)
  obtain ⟨rfl, rfl, ex_1⟩ := ex_1
  refine q_if_eq (tgt := 15) hx hb dX10_isKey_5 (by decide) ⟨lx_1, ux_1⟩ (fun c5 => ?_) (fun c5 => ?_)
  · refine q_iconst hx hb dX10_isKey_15 ?_
    exact q_ret_z hx hb hr hlocks hK hAe hw (by omega) (Nat.le_of_ble_eq_true rfl) (Nat.le_of_ble_eq_true rfl) dX10_isKey_16 (by exact ⟨rfl, hs, hE, Or.inr ⟨by omega, fun z => by omega⟩⟩)
  · have rv0 := hv.row x1 (by omega) (by omega)
    refine lv_iload_n hx hb dX10_isKey_8 rfl (lv_at hl 2 rfl) ?_
    refine q_call_i hA hK hw (va_runS (As := [.int (iI x2)]) (rest := []) ⟨hx, hb, hml, hown, hts⟩ (c_X10_isDay zo l D cy L0 f0 x2 lx2 ux2 _) (va_cwS 1 hts (gT (inS (mr23 _ (List.mem_of_getElem? (i := 21) rfl)) (mr23 _ (List.mem_of_getElem? (i := 22) rfl)) (mr1 _ (List.mem_of_getElem? (i := 5) rfl)) (mr23 _ (List.mem_of_getElem? (i := 23) rfl)))) rfl rfl rfl (by decide +kernel) ⟨Nat.le_of_ble_eq_true rfl, Nat.le_of_ble_eq_true rfl⟩) (Wd.preS zo hA hZ hw hK) rfl rfl hl.1 rfl (lv_room (Nat.le_of_ble_eq_true rfl)) dX10_isKey_9 ⟨Nat.le_of_ble_eq_true rfl, Nat.le_of_ble_eq_true rfl⟩) (fun x_2 L1 f1 H locs lx_2 ux_2 ex_2 hw => ?_)
    obtain ⟨rfl, rfl, ex_2⟩ := ex_2
    refine q_if_ne (tgt := 17) hx hb dX10_isKey_12 (by decide) ⟨lx_2, ux_2⟩ (fun c12 => ?_) (fun c12 => ?_)
    · refine lv_aload_n hx hb dX10_isKey_17 rfl (lv_at hl 0 rfl) ?_
      refine lv_iload_n hx hb dX10_isKey_18 rfl (lv_at hl 1 rfl) ?_
      refine q_iconst hx hb dX10_isKey_19 ?_
      refine q_call_i hA hK hw (va_runV (As := [.int (iI x1), .int (iI 0)]) (rest := []) ⟨hx, hb, hml, hown, hts⟩ (c_X10_laysKeys_f zo l D cy L0 f0 a0 x1 lx1 ux1 0 (by decide) (by decide) ad hs (by omega) (by omega) (by omega) (by omega) (by omega) (by omega) (by omega) (by omega) (by omega) (by omega) (by omega) (by first | exact hd | exact hd.kp hE (by decide) (by decide) (by decide) (by decide)) (by first | exact mo x1 (by omega) (by omega) | (rw [Q4]; exact mo x1 (by omega) (by omega))) _) (cwV 2 hts (gT (inV (mr24 _ (List.mem_of_getElem? (i := 20) rfl)) (mr24 _ (List.mem_of_getElem? (i := 21) rfl)) (mr24 _ (List.mem_of_getElem? (i := 22) rfl)) (mr1 _ (List.mem_of_getElem? (i := 5) rfl)) (mr24 _ (List.mem_of_getElem? (i := 23) rfl)))) rfl rfl rfl (by decide +kernel) ⟨Nat.le_of_ble_eq_true rfl, Nat.le_of_ble_eq_true rfl⟩) (Wd.preV zo hA hZ hw hK hs.1 hs.2.1 rfl) rfl rfl hl.1 rfl (lv_room (Nat.le_of_ble_eq_true rfl)) dX10_isKey_20 ⟨Nat.le_of_ble_eq_true rfl, Nat.le_of_ble_eq_true rfl⟩) (fun x_3 L1 f_4 H locs lx_3 ux_3 ex_3 hw => ?_)
      obtain ⟨rfl, hs, hX, ex_3⟩ := ex_3
      have hE := hE.trans (hX.mono (rs' := [12, 13]) (fs' := []) (by decide) (by decide))
      have t5_f_4 : fI f_4 a0 5 = fI f0 a0 5 := hX.2 5 (by decide)
      have Q4 : aI f_4 (ad 4) = aI f0 (ad 4) := funext fun x => hE.1 4 rfl (by decide) x
      obtain ⟨p25a, p25b, -, kl⟩ := ex_3
      try rw [Q4a] at kl
      have kl2 : KL (Ky (onK (aI f0 (ad 4) (44 * x1 + 3)) (aI f0 (ad 4) (44 * x1 + 4)) (aI f0 (ad 4) (44 * x1 + 5)) (aI f0 (ad 4) (44 * x1 + 6)) (aI f0 (ad 4) (44 * x1 + 7))) (aI f0 (ad 4) (44 * x1 + 10)) (UN (aI f0 (ad 4)) (44 * x1)) (aI f0 (ad 4) (44 * x1 + 9))) (fun j => aI f_4 (ad 12) j) x_3 := kl.cg (fun j => aI_cg (by omega))
      have un9 := UN_le (g := aI f0 (ad 4)) (p := 44 * x1) (by omega)
      have hr9 : ∀ d : Int, Ky (onK (aI f0 (ad 4) (44 * x1 + 3)) (aI f0 (ad 4) (44 * x1 + 4)) (aI f0 (ad 4) (44 * x1 + 5)) (aI f0 (ad 4) (44 * x1 + 6)) (aI f0 (ad 4) (44 * x1 + 7))) (aI f0 (ad 4) (44 * x1 + 10)) (UN (aI f0 (ad 4)) (44 * x1)) (aI f0 (ad 4) (44 * x1 + 9)) d → d ≤ 36524 := fun d z => Int.le_trans z.2.1 un9
      clear kl
      refine lv_istore_n (lv' := [(3, .int (iI x_3)), (0, .ref a0), (1, .int (iI x1)), (2, .int (iI x2))]) hx hb dX10_isKey_23 rfl hl (by decide) rfl (fun ls hl => ?_)
      refine q_iconst hx hb dX10_isKey_24 ?_
      refine lv_istore (lv' := [(4, .int (iI 0)), (3, .int (iI x_3)), (0, .ref a0), (1, .int (iI x1)), (2, .int (iI x2))]) hx hb dX10_isKey_25 hl (by decide) rfl (fun ls hl => ?_)
      have J27 : ∀ (n27 : Nat) (y4_27 : Int) (ly4_27 : -2147483648 ≤ y4_27) (uy4_27 : y4_27 ≤ 2147483647) (i1 : 0 ≤ y4_27) (i2 : ∀ j : Int, 0 ≤ j → j < y4_27 → aI f_4 (ad 12) j ≠ x2) (hn27 : ((2147483647 : Int) - y4_27).toNat < n27) (H : Heap) (locs : List Loc) (ls : Array Slot) (hw : Wd D A s.heap L0 f_4 H locs) (hl : lv_has ls 5 [(0, .ref a0), (2, .int (iI x2)), (3, .int (iI x_3)), (4, .int (iI y4_27))]), W p l e ({ frames := 3, cells := 0, slots := 0, locals := 74 } : Room) s m ([.ref a0, .int (iI x1), .int (iI x2)] : List Value).toArray below meth c H locs (0 + 0 + 0 + 0) (0 + 0 + 0 + 0) (MQ below (Qi D (tq cy) L0 f0 s.heap.size (fun (r : Int) (L1 : List Nat) (f1 : Nat → va_E) => L0 = L1 ∧ MS cy L0 f1 a0 ad ∧ Kp a0 ad [12, 13] [] f0 f1 ∧ ((r = 1 ∧ 0 ≤ x1 ∧ x1 < fI f0 a0 5 ∧ 0 ≤ x2 ∧ x2 ≤ 36524 ∧ Ky (onK (aI f0 (ad 4) (44 * x1 + 3)) (aI f0 (ad 4) (44 * x1 + 4)) (aI f0 (ad 4) (44 * x1 + 5)) (aI f0 (ad 4) (44 * x1 + 6)) (aI f0 (ad 4) (44 * x1 + 7))) (aI f0 (ad 4) (44 * x1 + 10)) (UN (aI f0 (ad 4)) (44 * x1)) (aI f0 (ad 4) (44 * x1 + 9)) x2) ∨ (r = 0 ∧ ¬ (0 ≤ x1 ∧ x1 < fI f0 a0 5 ∧ 0 ≤ x2 ∧ x2 ≤ 36524 ∧ Ky (onK (aI f0 (ad 4) (44 * x1 + 3)) (aI f0 (ad 4) (44 * x1 + 4)) (aI f0 (ad 4) (44 * x1 + 5)) (aI f0 (ad 4) (44 * x1 + 6)) (aI f0 (ad 4) (44 * x1 + 7))) (aI f0 (ad 4) (44 * x1 + 10)) (UN (aI f0 (ad 4)) (44 * x1)) (aI f0 (ad 4) (44 * x1 + 9)) x2))))) ([.ref a0, .int (iI x1), .int (iI x2)] : List Value).toArray s 0 0 A) (F0 m 27 ls []) := by
        intro n27
        induction n27 with
        | zero => intro y4_27 ly4_27 uy4_27 i1 i2 hn27; exact absurd hn27 (Nat.not_lt_zero _)
        | succ n27 ih27 =>
          intro y4_27 ly4_27 uy4_27 i1 i2 hn27 H locs ls hw hl
          refine lv_iload hx hb dX10_isKey_27 (lv_at hl 3 rfl) ?_
          refine lv_iload_n hx hb dX10_isKey_29 rfl (lv_at hl 2 rfl) ?_
          refine q_icmp_ge (tgt := 52) hx hb dX10_isKey_30 (by decide) ⟨ly4_27, uy4_27⟩ ⟨lx_3, ux_3⟩ (fun c30 => ?_) (fun c30 => ?_)
          · refine q_iconst hx hb dX10_isKey_52 ?_
            exact q_ret_z hx hb hr hlocks hK hAe hw (by omega) (Nat.le_of_ble_eq_true rfl) (Nat.le_of_ble_eq_true rfl) dX10_isKey_53 (by exact ⟨rfl, hs, hE, Or.inr ⟨by omega, fun z => kl2.hasnt (fun j q0 q1 => i2 j q0 (by omega)) z.2.2.2.2⟩⟩)
          · refine lv_aload_n hx hb dX10_isKey_33 rfl (lv_at hl 0 rfl) ?_
            refine q_getr (ci := 8) (C := RX10) (T := TX10) (N := 26) hx hb hts (fun w h => List.mem_cons_of_mem _ (mfX100 w h)) hown hK hw hs.1 hs.2.1 rfl 12 (by decide) (hts _ (List.mem_cons_of_mem _ (mr3 _ (List.mem_of_getElem? (i := 20) rfl)))) (fun _ h => h) rfl (hs.2.2.1 12 rfl).1 dX10_isKey_34 ?_
            refine lv_iload hx hb dX10_isKey_37 (lv_at hl 3 rfl) ?_
            refine q_iald hx hb hK hw (hs.2.2.1 12 rfl).2.1 1 (hs.2.2.1 12 rfl).2.2 rfl ⟨ly4_27, uy4_27⟩ (by omega) (by show _ < ((73050 : Nat) : Int); omega) dX10_isKey_39 (fun x_5 lx_5 ux_5 ex_5 => ?_)
            have g39 := ex_5
            refine lv_iload_n hx hb dX10_isKey_40 rfl (lv_at hl 1 rfl) ?_
            refine q_icmp_ne (tgt := 46) hx hb dX10_isKey_41 (by decide) ⟨lx_5, ux_5⟩ ⟨lx2, ux2⟩ (fun c41 => ?_) (fun c41 => ?_)
            · obtain ⟨x_6, lx_6, ux_6, hx_6, ex_6⟩ := q_inc y4_27 (1)
              try (replace ex_6 : x_6 = y4_27 + (1) := by omega)
              refine lv_iinc (v := iI x_6) (lv' := [(4, .int (iI x_6)), (0, .ref a0), (2, .int (iI x2)), (3, .int (iI x_3))]) hx hb dX10_isKey_46 hl (k := 3) rfl hx_6 (by decide) rfl (fun ls hl => ?_)
              refine lv_goto (tgt := 27) hx hb dX10_isKey_49 (by decide) ?_
              exact ih27 x_6 lx_6 ux_6 (by omega) (by first | exact fun j q0 q1 => absurd q1 (by omega) | exact fun j q0 q1 => (Int.lt_or_le j y4_27).elim (fun q => i2 j q0 q) (fun q => by rw [show j = y4_27 by omega, ← g39]; exact c41) | fail "none") (by omega) _ _ _ hw (lv_sub hl [1, 2, 3, 0] rfl)
            · refine q_iconst hx hb dX10_isKey_44 ?_
              exact q_ret_z hx hb hr hlocks hK hAe hw (by omega) (Nat.le_of_ble_eq_true rfl) (Nat.le_of_ble_eq_true rfl) dX10_isKey_45 (by exact ⟨rfl, hs, hE, Or.inl ⟨by omega, by omega, by omega, by omega, by omega, kl2.has (by omega) (by omega) (g39.symm.trans c41)⟩⟩)
      exact J27 ((((2147483647 : Int) - 0).toNat) + 1) 0 (by decide) (by decide) (by omega) (by first | exact fun j q0 q1 => absurd q1 (by omega) | exact fun j q0 q1 => (Int.lt_or_le j y4_27).elim (fun q => i2 j q0 q) (fun q => by rw [show j = y4_27 by omega, ← g39]; exact c41) | fail "none") (by omega) _ _ _ hw (lv_sub hl [2, 4, 1, 0] rfl)
    · refine q_iconst hx hb dX10_isKey_15 ?_
      exact q_ret_z hx hb hr hlocks hK hAe hw (by omega) (Nat.le_of_ble_eq_true rfl) (Nat.le_of_ble_eq_true rfl) dX10_isKey_16 (by exact ⟨rfl, hs, hE, Or.inr ⟨by omega, fun z => by omega⟩⟩)
