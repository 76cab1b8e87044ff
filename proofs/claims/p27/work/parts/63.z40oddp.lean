set_option maxHeartbeats 4000000 in
set_option maxRecDepth 100000 in
theorem c_X6_detail_f {Z : Zt} (zo : Zok Z) (l : Launch) (D : va_G) (cy : Cy) (L0 : List Nat) (f0 : Nat → va_E) (a0 : Nat) : Ci Z l yX6_detail (Cond.code yX6_detail cX6_detail 1 (some .int) :: TB) ({ frames := 0, cells := 0, slots := 0, locals := 0 } : Room) 0 0 D (tq cy) [.ref a0] L0 f0 (fun (r : Int) (L1 : List Nat) (f1 : Nat → va_E) => L0 = L1 ∧ f0 = f1 ∧ (r = 0)) := by
  refine Ci.enter (cc := cX6_detail) (n := 1) rfl (plainFor_of_name (by decide)) (Nat.le_of_ble_eq_true rfl) ?_
  intro p e s m below meth c ls A hx hb hr hts hown hlocks hnm hml hK hA hAe hw hZ hl
  have hown : s.vm.findClass RX6 = some m.cls := hown
  have hl : lv_has ls 1 [(0, .ref a0)] := hl
  have hN : ZN s := (zo.2.2.2.2 _ _ _ hZ).2
  refine q_iconst hx hb dX6_detail_0 ?_
  exact q_ret_i hx hb hr hlocks hK hAe hw ⟨by decide, by decide⟩ (Nat.le_of_ble_eq_true rfl) (Nat.le_of_ble_eq_true rfl) dX6_detail_1 ⟨rfl, rfl, by omega⟩
set_option maxHeartbeats 4000000 in
set_option maxRecDepth 100000 in
theorem c_X6_nthWeekday_f {Z : Zt} (zo : Zok Z) (l : Launch) (D : va_G) (cy : Cy) (L0 : List Nat) (f0 : Nat → va_E) (a0 : Nat) : Ci Z l yX6_nthWeekday (Cond.code yX6_nthWeekday cX6_nthWeekday 1 (some .int) :: TB) ({ frames := 0, cells := 0, slots := 0, locals := 0 } : Room) 0 0 D (tq cy) [.ref a0] L0 f0 (fun (r : Int) (L1 : List Nat) (f1 : Nat → va_E) => L0 = L1 ∧ f0 = f1 ∧ (r = -1)) := by
  refine Ci.enter (cc := cX6_nthWeekday) (n := 1) rfl (plainFor_of_name (by decide)) (Nat.le_of_ble_eq_true rfl) ?_
  intro p e s m below meth c ls A hx hb hr hts hown hlocks hnm hml hK hA hAe hw hZ hl
  have hown : s.vm.findClass RX6 = some m.cls := hown
  have hl : lv_has ls 1 [(0, .ref a0)] := hl
  have hN : ZN s := (zo.2.2.2.2 _ _ _ hZ).2
  refine q_iconst hx hb dX6_nthWeekday_0 ?_
  exact q_ret_i hx hb hr hlocks hK hAe hw ⟨by decide, by decide⟩ (Nat.le_of_ble_eq_true rfl) (Nat.le_of_ble_eq_true rfl) dX6_nthWeekday_1 ⟨rfl, rfl, by omega⟩
set_option maxHeartbeats 4000000 in
set_option maxRecDepth 100000 in
theorem c_X8_detail_f {Z : Zt} (zo : Zok Z) (l : Launch) (D : va_G) (cy : Cy) (L0 : List Nat) (f0 : Nat → va_E) (a0 : Nat) (m_a0 : a0 ∈ L0) (o_a0 : Ob f0 a0 6) (hg : GI cy L0 f0) (kk : Int) (nn : Int) (ss : Int) (vv : Int) (ww : Int) (rk : RuK f0 a0 kk nn ss vv ww) : Ci Z l yX8_detail (Cond.code yX8_detail cX8_detail 1 (some .int) :: TB) ({ frames := 0, cells := 0, slots := 0, locals := 0 } : Room) 0 0 D (tq cy) [.ref a0] L0 f0 (fun (r : Int) (L1 : List Nat) (f1 : Nat → va_E) => L0 = L1 ∧ f0 = f1 ∧ (r = vv)) := by
  refine Ci.enter (cc := cX8_detail) (n := 1) rfl (plainFor_of_name (by decide)) (Nat.le_of_ble_eq_true rfl) ?_
  intro p e s m below meth c ls A hx hb hr hts hown hlocks hnm hml hK hA hAe hw hZ hl
  have hown : s.vm.findClass RX8 = some m.cls := hown
  have hl : lv_has ls 1 [(0, .ref a0)] := hl
  have hN : ZN s := (zo.2.2.2.2 _ _ _ hZ).2
  obtain ⟨e2, s1, s2, e3, n1, n2, e4, v1, v2, e5, hon⟩ := rk.weeks o_a0
  have w6 : 0 ≤ wd ss ∧ wd ss ≤ 6 := by unfold wd; omega
  refine lv_aload_n hx hb dX8_detail_0 rfl (lv_at hl 0 rfl) ?_
  refine q_geti (ci := 6) (C := RX8) (T := TX8) (N := 6) hx hb hts (fun w h => List.mem_cons_of_mem _ (mfX80 w h)) hown hK hw m_a0 o_a0 rfl 4 (by decide) (hts _ (List.mem_cons_of_mem _ (mr13 _ (List.mem_of_getElem? (i := 9) rfl)))) (fun _ h => h) rfl dX8_detail_1 (fun x_1 lx_1 ux_1 ex_1 => ?_)
  exact q_ret_i hx hb hr hlocks hK hAe hw ⟨lx_1, ux_1⟩ (Nat.le_of_ble_eq_true rfl) (Nat.le_of_ble_eq_true rfl) dX8_detail_4 ⟨rfl, rfl, by omega⟩
set_option maxHeartbeats 4000000 in
set_option maxRecDepth 100000 in
theorem c_X3_detail_f {Z : Zt} (zo : Zok Z) (l : Launch) (D : va_G) (cy : Cy) (L0 : List Nat) (f0 : Nat → va_E) (a0 : Nat) (m_a0 : a0 ∈ L0) (o_a0 : Ob f0 a0 2) (hg : GI cy L0 f0) (kk : Int) (nn : Int) (ss : Int) (vv : Int) (ww : Int) (rk : RuK f0 a0 kk nn ss vv ww) : Ci Z l yX3_detail (Cond.code yX3_detail cX3_detail 1 (some .int) :: TB) ({ frames := 0, cells := 0, slots := 0, locals := 0 } : Room) 0 0 D (tq cy) [.ref a0] L0 f0 (fun (r : Int) (L1 : List Nat) (f1 : Nat → va_E) => L0 = L1 ∧ f0 = f1 ∧ (r = vv)) := by
  refine Ci.enter (cc := cX3_detail) (n := 1) rfl (plainFor_of_name (by decide)) (Nat.le_of_ble_eq_true rfl) ?_
  intro p e s m below meth c ls A hx hb hr hts hown hlocks hnm hml hK hA hAe hw hZ hl
  have hown : s.vm.findClass RX3 = some m.cls := hown
  have hl : lv_has ls 1 [(0, .ref a0)] := hl
  have hN : ZN s := (zo.2.2.2.2 _ _ _ hZ).2
  obtain ⟨k0, kw⟩ := rk.mwords o_a0
  refine lv_aload_n hx hb dX3_detail_0 rfl (lv_at hl 0 rfl) ?_
  refine q_geti (ci := 2) (C := RX3) (T := TX3) (N := 7) hx hb hts (fun w h => List.mem_cons_of_mem _ (mfX30 w h)) hown hK hw m_a0 o_a0 rfl 0 (by decide) (hts _ (List.mem_cons_of_mem _ (mr15 _ (List.mem_of_getElem? (i := 20) rfl)))) (fun x9 h9 => u_same (hts _ (List.mem_cons_of_mem _ (mr15 _ (List.mem_of_getElem? (i := 21) rfl)))) x9 h9) rfl dX3_detail_1 (fun x_1 lx_1 ux_1 ex_1 => ?_)
  refine q_bipush hx hb dX3_detail_4 rfl ?_
  refine q_icmp_ne (tgt := 11) hx hb dX3_detail_6 (by decide) ⟨lx_1, ux_1⟩ ⟨by decide, by decide⟩ (fun c6 => ?_) (fun c6 => ?_)
  · refine lv_aload_n hx hb dX3_detail_11 rfl (lv_at hl 0 rfl) ?_
    refine q_geti (ci := 2) (C := RX3) (T := TX3) (N := 7) hx hb hts (fun w h => List.mem_cons_of_mem _ (mfX30 w h)) hown hK hw m_a0 o_a0 rfl 0 (by decide) (hts _ (List.mem_cons_of_mem _ (mr15 _ (List.mem_of_getElem? (i := 20) rfl)))) (fun x9 h9 => u_same (hts _ (List.mem_cons_of_mem _ (mr15 _ (List.mem_of_getElem? (i := 21) rfl)))) x9 h9) rfl dX3_detail_12 (fun x_2 lx_2 ux_2 ex_2 => ?_)
    refine q_bipush hx hb dX3_detail_15 rfl ?_
    refine q_icmp_ne (tgt := 27) hx hb dX3_detail_17 (by decide) ⟨lx_2, ux_2⟩ ⟨by decide, by decide⟩ (fun c17 => ?_) (fun c17 => ?_)
    · refine lv_aload_n hx hb dX3_detail_27 rfl (lv_at hl 0 rfl) ?_
      refine q_geti (ci := 2) (C := RX3) (T := TX3) (N := 7) hx hb hts (fun w h => List.mem_cons_of_mem _ (mfX30 w h)) hown hK hw m_a0 o_a0 rfl 5 (by decide) (hts _ (List.mem_cons_of_mem _ (mr13 _ (List.mem_of_getElem? (i := 20) rfl)))) (fun _ h => h) rfl dX3_detail_28 (fun x_3 lx_3 ux_3 ex_3 => ?_)
      exact q_ret_i hx hb hr hlocks hK hAe hw ⟨lx_3, ux_3⟩ (Nat.le_of_ble_eq_true rfl) (Nat.le_of_ble_eq_true rfl) dX3_detail_31 ⟨rfl, rfl, by omega⟩
    · refine lv_aload_n hx hb dX3_detail_20 rfl (lv_at hl 0 rfl) ?_
      refine q_geti (ci := 2) (C := RX3) (T := TX3) (N := 7) hx hb hts (fun w h => List.mem_cons_of_mem _ (mfX30 w h)) hown hK hw m_a0 o_a0 rfl 6 (by decide) (hts _ (List.mem_cons_of_mem _ (mr13 _ (List.mem_of_getElem? (i := 21) rfl)))) (fun _ h => h) rfl dX3_detail_21 (fun x_4 lx_4 ux_4 ex_4 => ?_)
      refine lv_goto (tgt := 31) hx hb dX3_detail_24 (by decide) ?_
      exact q_ret_i hx hb hr hlocks hK hAe hw ⟨lx_4, ux_4⟩ (Nat.le_of_ble_eq_true rfl) (Nat.le_of_ble_eq_true rfl) dX3_detail_31 ⟨rfl, rfl, by omega⟩
  · refine q_iconst hx hb dX3_detail_9 ?_
    exact q_ret_i hx hb hr hlocks hK hAe hw ⟨by decide, by decide⟩ (Nat.le_of_ble_eq_true rfl) (Nat.le_of_ble_eq_true rfl) dX3_detail_10 ⟨rfl, rfl, by omega⟩
set_option maxHeartbeats 4000000 in
set_option maxRecDepth 100000 in
theorem c_X3_nthWeekday_f {Z : Zt} (zo : Zok Z) (l : Launch) (D : va_G) (cy : Cy) (L0 : List Nat) (f0 : Nat → va_E) (a0 : Nat) (m_a0 : a0 ∈ L0) (o_a0 : Ob f0 a0 2) (hg : GI cy L0 f0) (kk : Int) (nn : Int) (ss : Int) (vv : Int) (ww : Int) (rk : RuK f0 a0 kk nn ss vv ww) : Ci Z l yX3_nthWeekday (Cond.code yX3_nthWeekday cX3_nthWeekday 1 (some .int) :: TB) ({ frames := 0, cells := 0, slots := 0, locals := 0 } : Room) 0 0 D (tq cy) [.ref a0] L0 f0 (fun (r : Int) (L1 : List Nat) (f1 : Nat → va_E) => L0 = L1 ∧ f0 = f1 ∧ (r = ww)) := by
  refine Ci.enter (cc := cX3_nthWeekday) (n := 1) rfl (plainFor_of_name (by decide)) (Nat.le_of_ble_eq_true rfl) ?_
  intro p e s m below meth c ls A hx hb hr hts hown hlocks hnm hml hK hA hAe hw hZ hl
  have hown : s.vm.findClass RX3 = some m.cls := hown
  have hl : lv_has ls 1 [(0, .ref a0)] := hl
  have hN : ZN s := (zo.2.2.2.2 _ _ _ hZ).2
  obtain ⟨k0, kw⟩ := rk.mwords o_a0
  refine lv_aload_n hx hb dX3_nthWeekday_0 rfl (lv_at hl 0 rfl) ?_
  refine q_geti (ci := 2) (C := RX3) (T := TX3) (N := 7) hx hb hts (fun w h => List.mem_cons_of_mem _ (mfX30 w h)) hown hK hw m_a0 o_a0 rfl 0 (by decide) (hts _ (List.mem_cons_of_mem _ (mr15 _ (List.mem_of_getElem? (i := 20) rfl)))) (fun x9 h9 => u_same (hts _ (List.mem_cons_of_mem _ (mr15 _ (List.mem_of_getElem? (i := 21) rfl)))) x9 h9) rfl dX3_nthWeekday_1 (fun x_1 lx_1 ux_1 ex_1 => ?_)
  refine q_iconst hx hb dX3_nthWeekday_4 ?_
  refine q_icmp_ne (tgt := 15) hx hb dX3_nthWeekday_5 (by decide) ⟨lx_1, ux_1⟩ ⟨by decide, by decide⟩ (fun c5 => ?_) (fun c5 => ?_)
  · refine q_iconst hx hb dX3_nthWeekday_15 ?_
    exact q_ret_i hx hb hr hlocks hK hAe hw ⟨by decide, by decide⟩ (Nat.le_of_ble_eq_true rfl) (Nat.le_of_ble_eq_true rfl) dX3_nthWeekday_16 ⟨rfl, rfl, by omega⟩
  · refine lv_aload_n hx hb dX3_nthWeekday_8 rfl (lv_at hl 0 rfl) ?_
    refine q_geti (ci := 2) (C := RX3) (T := TX3) (N := 7) hx hb hts (fun w h => List.mem_cons_of_mem _ (mfX30 w h)) hown hK hw m_a0 o_a0 rfl 6 (by decide) (hts _ (List.mem_cons_of_mem _ (mr13 _ (List.mem_of_getElem? (i := 21) rfl)))) (fun _ h => h) rfl dX3_nthWeekday_9 (fun x_2 lx_2 ux_2 ex_2 => ?_)
    refine lv_goto (tgt := 16) hx hb dX3_nthWeekday_12 (by decide) ?_
    exact q_ret_i hx hb hr hlocks hK hAe hw ⟨lx_2, ux_2⟩ (Nat.le_of_ble_eq_true rfl) (Nat.le_of_ble_eq_true rfl) dX3_nthWeekday_16 ⟨rfl, rfl, by omega⟩
set_option maxHeartbeats 4000000 in
set_option maxRecDepth 100000 in
theorem c_X0_droppedOnes_o {Z : Zt} (zo : Zok Z) (l : Launch) (D : va_G) (cy : Cy) (L0 : List Nat) (f0 : Nat → va_E) (a0 : Nat) (m_a0 : a0 ∈ L0) (o_a0 : Ob f0 a0 0) (hg : GI cy L0 f0) : Ci Z l yX0_droppedOnes (Cond.code yX0_droppedOnes cX0_droppedOnes 3 (some .int) :: TB) ({ frames := 0, cells := 0, slots := 0, locals := 0 } : Room) 0 0 D (tq cy) [.ref a0] L0 f0 (fun (r : Int) (L1 : List Nat) (f1 : Nat → va_E) => L0 = L1 ∧ f0 = f1 ∧ (r = cn (fun i : Int => aI f0 (TA f0 a0) i = -1) 0 (fI f0 a0 10) ∧ 0 ≤ r ∧ r ≤ 16)) := by
  refine Ci.enter (cc := cX0_droppedOnes) (n := 3) rfl (plainFor_of_name (by decide)) (Nat.le_of_ble_eq_true rfl) ?_
  intro p e s m below meth c ls A hx hb hr hts hown hlocks hnm hml hK hA hAe hw hZ hl
  have hown : s.vm.findClass RX0 = some m.cls := hown
  have hl : lv_has ls 3 [(0, .ref a0)] := hl
  have hN : ZN s := (zo.2.2.2.2 _ _ _ hZ).2
  have bb : 0 ≤ fI f0 a0 10 ∧ fI f0 a0 10 ≤ 16 := hg.1 _ m_a0 0 10 o_a0
  refine q_iconst hx hb dX0_droppedOnes_0 ?_
  refine lv_istore_n (lv' := [(1, .int (iI 0)), (0, .ref a0)]) hx hb dX0_droppedOnes_1 rfl hl (by decide) rfl (fun ls hl => ?_)
  refine q_iconst hx hb dX0_droppedOnes_2 ?_
  refine lv_istore_n (lv' := [(2, .int (iI 0)), (1, .int (iI 0)), (0, .ref a0)]) hx hb dX0_droppedOnes_3 rfl hl (by decide) rfl (fun ls hl => ?_)
  have J4 : ∀ (n4 : Nat) (y1_4 : Int) (ly1_4 : -2147483648 ≤ y1_4) (uy1_4 : y1_4 ≤ 2147483647) (y2_4 : Int) (ly2_4 : -2147483648 ≤ y2_4) (uy2_4 : y2_4 ≤ 2147483647) (i1 : 0 ≤ y2_4) (i4 : 0 ≤ y1_4) (i5 : y1_4 ≤ y2_4) (i6 : y2_4 ≤ fI f0 a0 10) (i3 : y1_4 = cn (fun i : Int => aI f0 (TA f0 a0) i = -1) 0 y2_4) (hn4 : ((2147483647 : Int) - y2_4).toNat < n4) (H : Heap) (locs : List Loc) (ls : Array Slot) (hw : Wd D A s.heap L0 f0 H locs) (hl : lv_has ls 3 [(0, .ref a0), (1, .int (iI y1_4)), (2, .int (iI y2_4))]), W p l e ({ frames := 0, cells := 0, slots := 0, locals := 0 } : Room) s m ([.ref a0] : List Value).toArray below meth c H locs (0) (0) (MQ below (Qi D (tq cy) L0 f0 s.heap.size (fun (r : Int) (L1 : List Nat) (f1 : Nat → va_E) => L0 = L1 ∧ f0 = f1 ∧ (r = cn (fun i : Int => aI f0 (TA f0 a0) i = -1) 0 (fI f0 a0 10) ∧ 0 ≤ r ∧ r ≤ 16))) ([.ref a0] : List Value).toArray s 0 0 A) (F0 m 4 ls []) := by
    intro n4
    induction n4 with
    | zero => intro y1_4 ly1_4 uy1_4 y2_4 ly2_4 uy2_4 i1 i4 i5 i6 i3 hn4; exact absurd hn4 (Nat.not_lt_zero _)
    | succ n4 ih4 =>
      intro y1_4 ly1_4 uy1_4 y2_4 ly2_4 uy2_4 i1 i4 i5 i6 i3 hn4 H locs ls hw hl
      refine lv_iload_n hx hb dX0_droppedOnes_4 rfl (lv_at hl 2 rfl) ?_
      refine lv_aload_n hx hb dX0_droppedOnes_5 rfl (lv_at hl 0 rfl) ?_
      refine q_geti (ci := 0) (C := RX0) (T := TX0) (N := 15) hx hb hts (fun w h => List.mem_cons_of_mem _ (mfX00 w h)) hown hK hw m_a0 o_a0 rfl 10 (by decide) (hts _ (List.mem_cons_of_mem _ (mr14 _ (List.mem_of_getElem? (i := 9) rfl)))) (fun _ h => h) rfl dX0_droppedOnes_6 (fun x_1 lx_1 ux_1 ex_1 => ?_)
      have bx_1 : 0 ≤ x_1 ∧ x_1 ≤ 16 := by rw [ex_1]; exact hg.1 _ m_a0 0 10 o_a0
      refine q_icmp_ge (tgt := 31) hx hb dX0_droppedOnes_9 (by decide) ⟨ly2_4, uy2_4⟩ ⟨lx_1, ux_1⟩ (fun c9 => ?_) (fun c9 => ?_)
      · refine lv_iload_n hx hb dX0_droppedOnes_31 rfl (lv_at hl 1 rfl) ?_
        exact q_ret_i hx hb hr hlocks hK hAe hw ⟨ly1_4, uy1_4⟩ (Nat.le_of_ble_eq_true rfl) (Nat.le_of_ble_eq_true rfl) dX0_droppedOnes_32 ⟨rfl, rfl, by exact ⟨cn_to i3 (by omega), by omega, by omega⟩⟩
      · refine lv_aload_n hx hb dX0_droppedOnes_12 rfl (lv_at hl 0 rfl) ?_
        obtain ⟨r_2, er_2, m_r_2, o_r_2⟩ := (show ∃ r, fR f0 a0 12 = some r ∧ r ∈ L0 ∧ ArI f0 r cy.2.1 16 from hg.2.1 _ m_a0 0 12 o_a0)
        refine q_getr (ci := 0) (C := RX0) (T := TX0) (N := 15) hx hb hts (fun w h => List.mem_cons_of_mem _ (mfX00 w h)) hown hK hw m_a0 o_a0 rfl 12 (by decide) (hts _ (List.mem_cons_of_mem _ (mr3 _ (List.mem_of_getElem? (i := 3) rfl)))) (fun _ h => h) rfl er_2 dX0_droppedOnes_13 ?_
        have k13 := TA_e er_2
        refine lv_iload_n hx hb dX0_droppedOnes_16 rfl (lv_at hl 2 rfl) ?_
        refine q_iald hx hb hK hw m_r_2 1 o_r_2 rfl ⟨ly2_4, uy2_4⟩ (by omega) (by omega) dX0_droppedOnes_17 (fun x_3 lx_3 ux_3 ex_3 => ?_)
        have h17 : x_3 = aI f0 (TA f0 a0) y2_4 := ex_3.trans (by rw [k13])
        refine q_iconst hx hb dX0_droppedOnes_18 ?_
        have J25 : ∀ (z1_25 : Int) (lz1_25 : -2147483648 ≤ z1_25) (uz1_25 : z1_25 ≤ 2147483647) (k4 : 0 ≤ z1_25) (k5 : z1_25 ≤ y2_4 + 1) (k1 : z1_25 = cn (fun i : Int => aI f0 (TA f0 a0) i = -1) 0 (y2_4 + 1)) (H : Heap) (locs : List Loc) (ls : Array Slot) (hw : Wd D A s.heap L0 f0 H locs) (hl : lv_has ls 3 [(0, .ref a0), (1, .int (iI z1_25)), (2, .int (iI y2_4))]), W p l e ({ frames := 0, cells := 0, slots := 0, locals := 0 } : Room) s m ([.ref a0] : List Value).toArray below meth c H locs (0) (0) (MQ below (Qi D (tq cy) L0 f0 s.heap.size (fun (r : Int) (L1 : List Nat) (f1 : Nat → va_E) => L0 = L1 ∧ f0 = f1 ∧ (r = cn (fun i : Int => aI f0 (TA f0 a0) i = -1) 0 (fI f0 a0 10) ∧ 0 ≤ r ∧ r ≤ 16))) ([.ref a0] : List Value).toArray s 0 0 A) (F0 m 25 ls []) := by
          intro z1_25 lz1_25 uz1_25 k4 k5 k1 H locs ls hw hl
          obtain ⟨x_4, lx_4, ux_4, hx_4, ex_4⟩ := q_inc y2_4 (1)
          try (replace ex_4 : x_4 = y2_4 + (1) := by omega)
          refine lv_iinc (v := iI x_4) (lv' := [(2, .int (iI x_4)), (0, .ref a0), (1, .int (iI z1_25))]) hx hb dX0_droppedOnes_25 hl (k := 2) rfl hx_4 (by decide) rfl (fun ls hl => ?_)
          refine lv_goto (tgt := 4) hx hb dX0_droppedOnes_28 (by decide) ?_
          exact ih4 z1_25 lz1_25 uz1_25 x_4 lx_4 ux_4 (by omega) (by omega) (by omega) (by omega) (by first | exact (cn_le (by omega)).symm | exact cn_to k1 (by omega) | fail "none") (by omega) _ _ _ hw (lv_sub hl [1, 2, 0] rfl)
        refine q_icmp_ne (tgt := 25) hx hb dX0_droppedOnes_19 (by decide) ⟨lx_3, ux_3⟩ ⟨by decide, by decide⟩ (fun c19 => ?_) (fun c19 => ?_)
        · exact J25 y1_4 ly1_4 uy1_4 (by omega) (by omega) (by first | exact ct_step i3 (by omega) rfl (Or.inl ⟨by show aI f0 (TA f0 a0) _ = -1; omega, by omega⟩) | exact ct_step i3 (by omega) rfl (Or.inr ⟨by show ¬ (aI f0 (TA f0 a0) _ = -1); omega, by omega⟩) | fail "none") _ _ _ hw (lv_sub hl [0, 1, 2] rfl)
        · obtain ⟨x_5, lx_5, ux_5, hx_5, ex_5⟩ := q_inc y1_4 (1)
          try (replace ex_5 : x_5 = y1_4 + (1) := by omega)
          refine lv_iinc (v := iI x_5) (lv' := [(1, .int (iI x_5)), (0, .ref a0), (2, .int (iI y2_4))]) hx hb dX0_droppedOnes_22 hl (k := 1) rfl hx_5 (by decide) rfl (fun ls hl => ?_)
          exact J25 x_5 lx_5 ux_5 (by omega) (by omega) (by first | exact ct_step i3 (by omega) rfl (Or.inl ⟨by show aI f0 (TA f0 a0) _ = -1; omega, by omega⟩) | exact ct_step i3 (by omega) rfl (Or.inr ⟨by show ¬ (aI f0 (TA f0 a0) _ = -1); omega, by omega⟩) | fail "none") _ _ _ hw (lv_sub hl [1, 0, 2] rfl)
  exact J4 ((((2147483647 : Int) - 0).toNat) + 1) 0 (by decide) (by decide) 0 (by decide) (by decide) (by omega) (by omega) (by omega) (by omega) (by first | exact (cn_le (by omega)).symm | exact cn_to k1 (by omega) | fail "none") (by omega) _ _ _ hw (lv_sub hl [2, 1, 0] rfl)
set_option maxHeartbeats 4000000 in
set_option maxRecDepth 100000 in
theorem c_X0_tell_o {Z : Zt} (zo : Zok Z) (l : Launch) (D : va_G) (cy : Cy) (L0 : List Nat) (f0 : Nat → va_E) (a0 : Nat) (x1 : Int) (lx1 : -2147483648 ≤ x1) (ux1 : x1 ≤ 2147483647) (m_a0 : a0 ∈ L0) (o_a0 : Ob f0 a0 0) (hg : GI cy L0 f0) (g : Int → Int) (p0 : Int) (rb : RB f0 a0 g p0) (O : Int → Int) (oc : OC f0 a0 O) (hk : OKk g p0 O) : Ci Z l yX0_tell (Cond.code yX0_tell cX0_tell 2 (some .int) :: TB) ({ frames := 1, cells := 0, slots := 0, locals := 22 } : Room) 0 0 D (tq cy) [.ref a0, .int (iI x1)] L0 f0 (fun (r : Int) (L1 : List Nat) (f1 : Nat → va_E) => L0 = L1 ∧ f0 = f1 ∧ (TELL g p0 O x1 r)) := by
  refine Ci.enter (cc := cX0_tell) (n := 2) rfl (plainFor_of_name (by decide)) (Nat.le_of_ble_eq_true rfl) ?_
  intro p e s m below meth c ls A hx hb hr hts hown hlocks hnm hml hK hA hAe hw hZ hl
  have hown : s.vm.findClass RX0 = some m.cls := hown
  have hl : lv_has ls 2 [(0, .ref a0), (1, .int (iI x1))] := hl
  have hN : ZN s := (zo.2.2.2.2 _ _ _ hZ).2
  have bb : 0 ≤ fI f0 a0 10 ∧ fI f0 a0 10 ≤ 16 := hg.1 _ m_a0 0 10 o_a0
  obtain ⟨r0, er, rk0⟩ := rb.rule
  obtain ⟨kk, ekk⟩ : ∃ z : Int, z = g (p0 + 3) := ⟨_, rfl⟩
  obtain ⟨nn, enn⟩ : ∃ z : Int, z = g (p0 + 4) := ⟨_, rfl⟩
  obtain ⟨ss, ess⟩ : ∃ z : Int, z = g (p0 + 5) := ⟨_, rfl⟩
  obtain ⟨vv, evv⟩ : ∃ z : Int, z = g (p0 + 6) := ⟨_, rfl⟩
  obtain ⟨ww, eww⟩ : ∃ z : Int, z = g (p0 + 7) := ⟨_, rfl⟩
  have rk : RuK f0 r0 kk nn ss vv ww := by rw [ekk, enn, ess, evv, eww]; exact rk0
  refine lv_iload_n hx hb dX0_tell_0 rfl (lv_at hl 1 rfl) ?_
  have t1 : (iI x1).toInt = x1 := iI_toInt ⟨lx1, ux1⟩
  rcases (show (x1 < 0 ∨ 13 < x1) ∨ (x1 = 0) ∨ (x1 = 1) ∨ (x1 = 2) ∨ (x1 = 3) ∨ (x1 = 4) ∨ (x1 = 5) ∨ (x1 = 6) ∨ (x1 = 7) ∨ (x1 = 8) ∨ (x1 = 9) ∨ (x1 = 10) ∨ (x1 = 11) ∨ (x1 = 12) ∨ (x1 = 13) by omega) with k1 | k1 | k1 | k1 | k1 | k1 | k1 | k1 | k1 | k1 | k1 | k1 | k1 | k1 | k1
  · refine lv_tableOut (tgt := 162) hx hb dX0_tell_1 (by rw [t1]; omega) (by decide) ?_
    refine q_bipush hx hb dX0_tell_162 rfl ?_
    exact q_ret_i hx hb hr hlocks hK hAe hw ⟨by decide, by decide⟩ (Nat.le_of_ble_eq_true rfl) (Nat.le_of_ble_eq_true rfl) dX0_tell_164 ⟨rfl, rfl, by exact Or.inr (Or.inr (Or.inr (Or.inr (Or.inr ⟨k1, rfl⟩))))⟩
  · refine lv_tableIn (tgt := 72) (off := 71) hx hb dX0_tell_1 (by rw [t1]; omega) (by rw [t1]; omega) (by rw [t1, k1]; rfl) (by decide) ?_
    refine lv_aload_n hx hb dX0_tell_72 rfl (lv_at hl 0 rfl) ?_
    refine q_geti (ci := 0) (C := RX0) (T := TX0) (N := 15) hx hb hts (fun w h => List.mem_cons_of_mem _ (mfX00 w h)) hown hK hw m_a0 o_a0 rfl 0 (by decide) (hts _ (List.mem_cons_of_mem _ (mr40 _ (List.mem_of_getElem? (i := 19) rfl)))) (fun _ h => h) rfl dX0_tell_73 (fun x_1 lx_1 ux_1 ex_1 => ?_)
    exact q_ret_i hx hb hr hlocks hK hAe hw ⟨lx_1, ux_1⟩ (Nat.le_of_ble_eq_true rfl) (Nat.le_of_ble_eq_true rfl) dX0_tell_76 ⟨rfl, rfl, by exact TELL.w ex_1 (by rw [Int.add_zero]; exact rb.1.1.1) k1 (by decide) (by decide)⟩
  · refine lv_tableIn (tgt := 77) (off := 76) hx hb dX0_tell_1 (by rw [t1]; omega) (by rw [t1]; omega) (by rw [t1, k1]; rfl) (by decide) ?_
    refine lv_aload_n hx hb dX0_tell_77 rfl (lv_at hl 0 rfl) ?_
    refine q_geti (ci := 0) (C := RX0) (T := TX0) (N := 15) hx hb hts (fun w h => List.mem_cons_of_mem _ (mfX00 w h)) hown hK hw m_a0 o_a0 rfl 1 (by decide) (hts _ (List.mem_cons_of_mem _ (mr29 _ (List.mem_of_getElem? (i := 18) rfl)))) (fun _ h => h) rfl dX0_tell_78 (fun x_2 lx_2 ux_2 ex_2 => ?_)
    exact q_ret_i hx hb hr hlocks hK hAe hw ⟨lx_2, ux_2⟩ (Nat.le_of_ble_eq_true rfl) (Nat.le_of_ble_eq_true rfl) dX0_tell_81 ⟨rfl, rfl, by exact TELL.w ex_2 rb.1.1.2.1 k1 (by decide) (by decide)⟩
  · refine lv_tableIn (tgt := 82) (off := 81) hx hb dX0_tell_1 (by rw [t1]; omega) (by rw [t1]; omega) (by rw [t1, k1]; rfl) (by decide) ?_
    refine lv_aload_n hx hb dX0_tell_82 rfl (lv_at hl 0 rfl) ?_
    refine q_geti (ci := 0) (C := RX0) (T := TX0) (N := 15) hx hb hts (fun w h => List.mem_cons_of_mem _ (mfX00 w h)) hown hK hw m_a0 o_a0 rfl 2 (by decide) (hts _ (List.mem_cons_of_mem _ (mr35 _ (List.mem_of_getElem? (i := 12) rfl)))) (fun _ h => h) rfl dX0_tell_83 (fun x_3 lx_3 ux_3 ex_3 => ?_)
    exact q_ret_i hx hb hr hlocks hK hAe hw ⟨lx_3, ux_3⟩ (Nat.le_of_ble_eq_true rfl) (Nat.le_of_ble_eq_true rfl) dX0_tell_86 ⟨rfl, rfl, by exact TELL.w ex_3 rb.1.1.2.2.1 k1 (by decide) (by decide)⟩
  · refine lv_tableIn (tgt := 87) (off := 86) hx hb dX0_tell_1 (by rw [t1]; omega) (by rw [t1]; omega) (by rw [t1, k1]; rfl) (by decide) ?_
    refine lv_aload_n hx hb dX0_tell_87 rfl (lv_at hl 0 rfl) ?_
    obtain ⟨r_4, er_4, m_r_4, o_r_4⟩ := (show ∃ r, fR f0 a0 3 = some r ∧ r ∈ L0 ∧ Rl f0 r from hg.2.1 _ m_a0 0 3 o_a0)
    refine q_getr (ci := 0) (C := RX0) (T := TX0) (N := 15) hx hb hts (fun w h => List.mem_cons_of_mem _ (mfX00 w h)) hown hK hw m_a0 o_a0 rfl 3 (by decide) (hts _ (List.mem_cons_of_mem _ (mr3 _ (List.mem_of_getElem? (i := 4) rfl)))) (fun _ h => h) rfl er_4 dX0_tell_88 ?_
    have z88 : r_4 = r0 := Option.some.inj (er_4.symm.trans er)
    have K91 : ∀ (x_5 : Int) (lx_5 : -2147483648 ≤ x_5) (ux_5 : x_5 ≤ 2147483647) (ex_5 : x_5 = fI f0 r_4 0) (H : Heap) (locs : List Loc) (hw : Wd D A s.heap L0 f0 H locs), W p l e ({ frames := 1, cells := 0, slots := 0, locals := 22 } : Room) s m ([.ref a0, .int (iI x1)] : List Value).toArray below meth c H locs (0) (0) (MQ below (Qi D (tq cy) L0 f0 s.heap.size (fun (r : Int) (L1 : List Nat) (f1 : Nat → va_E) => L0 = L1 ∧ f0 = f1 ∧ (TELL g p0 O x1 r))) ([.ref a0, .int (iI x1)] : List Value).toArray s 0 0 A) (F0 m 94 ls (.int (iI x_5) :: [])) := by
      intro x_5 lx_5 ux_5 ex_5 H locs hw
      exact q_ret_i hx hb hr hlocks hK hAe hw ⟨lx_5, ux_5⟩ (Nat.le_of_ble_eq_true rfl) (Nat.le_of_ble_eq_true rfl) dX0_tell_94 ⟨rfl, rfl, by exact TELL.w (ex_5.trans (by rw [z88])) (rk.1.1.trans ekk) k1 (by decide) (by decide)⟩
    rcases o_r_4 with o9 | o9 | o9 | o9
    · exact q_geti (ci := 1) (C := RX2) (T := TX2) (N := 4) hx hb hts (fun w h => List.mem_cons_of_mem _ (mfX20 w h)) hown hK hw m_r_4 o9 rfl 0 (by decide) (hts _ (List.mem_cons_of_mem _ (mr43 _ (List.mem_of_getElem? (i := 0) rfl)))) (fun _ h => h) rfl dX0_tell_91 (fun x_5 lx_5 ux_5 ex_5 => K91 x_5 lx_5 ux_5 ex_5 _ _ hw)
    · exact q_geti (ci := 2) (C := RX3) (T := TX3) (N := 7) hx hb hts (fun w h => List.mem_cons_of_mem _ (mfX30 w h)) hown hK hw m_r_4 o9 rfl 0 (by decide) (hts _ (List.mem_cons_of_mem _ (mr43 _ (List.mem_of_getElem? (i := 0) rfl)))) (fun _ h => h) rfl dX0_tell_91 (fun x_5 lx_5 ux_5 ex_5 => K91 x_5 lx_5 ux_5 ex_5 _ _ hw)
    · exact q_geti (ci := 3) (C := RX4) (T := TX4) (N := 3) hx hb hts (fun w h => List.mem_cons_of_mem _ (mfX40 w h)) hown hK hw m_r_4 o9 rfl 0 (by decide) (hts _ (List.mem_cons_of_mem _ (mr43 _ (List.mem_of_getElem? (i := 0) rfl)))) (fun _ h => h) rfl dX0_tell_91 (fun x_5 lx_5 ux_5 ex_5 => K91 x_5 lx_5 ux_5 ex_5 _ _ hw)
    · exact q_geti (ci := 6) (C := RX8) (T := TX8) (N := 6) hx hb hts (fun w h => List.mem_cons_of_mem _ (mfX80 w h)) hown hK hw m_r_4 o9 rfl 0 (by decide) (hts _ (List.mem_cons_of_mem _ (mr43 _ (List.mem_of_getElem? (i := 0) rfl)))) (fun _ h => h) rfl dX0_tell_91 (fun x_5 lx_5 ux_5 ex_5 => K91 x_5 lx_5 ux_5 ex_5 _ _ hw)
  · refine lv_tableIn (tgt := 95) (off := 94) hx hb dX0_tell_1 (by rw [t1]; omega) (by rw [t1]; omega) (by rw [t1, k1]; rfl) (by decide) ?_
    refine lv_aload_n hx hb dX0_tell_95 rfl (lv_at hl 0 rfl) ?_
    obtain ⟨r_6, er_6, m_r_6, o_r_6⟩ := (show ∃ r, fR f0 a0 3 = some r ∧ r ∈ L0 ∧ Rl f0 r from hg.2.1 _ m_a0 0 3 o_a0)
    refine q_getr (ci := 0) (C := RX0) (T := TX0) (N := 15) hx hb hts (fun w h => List.mem_cons_of_mem _ (mfX00 w h)) hown hK hw m_a0 o_a0 rfl 3 (by decide) (hts _ (List.mem_cons_of_mem _ (mr3 _ (List.mem_of_getElem? (i := 4) rfl)))) (fun _ h => h) rfl er_6 dX0_tell_96 ?_
    have z96 : r_6 = r0 := Option.some.inj (er_6.symm.trans er)
    have K99 : ∀ (x_7 : Int) (lx_7 : -2147483648 ≤ x_7) (ux_7 : x_7 ≤ 2147483647) (ex_7 : x_7 = fI f0 r_6 1) (H : Heap) (locs : List Loc) (hw : Wd D A s.heap L0 f0 H locs), W p l e ({ frames := 1, cells := 0, slots := 0, locals := 22 } : Room) s m ([.ref a0, .int (iI x1)] : List Value).toArray below meth c H locs (0) (0) (MQ below (Qi D (tq cy) L0 f0 s.heap.size (fun (r : Int) (L1 : List Nat) (f1 : Nat → va_E) => L0 = L1 ∧ f0 = f1 ∧ (TELL g p0 O x1 r))) ([.ref a0, .int (iI x1)] : List Value).toArray s 0 0 A) (F0 m 102 ls (.int (iI x_7) :: [])) := by
      intro x_7 lx_7 ux_7 ex_7 H locs hw
      exact q_ret_i hx hb hr hlocks hK hAe hw ⟨lx_7, ux_7⟩ (Nat.le_of_ble_eq_true rfl) (Nat.le_of_ble_eq_true rfl) dX0_tell_102 ⟨rfl, rfl, by exact TELL.w (ex_7.trans (by rw [z96])) (rk.1.2.1.trans enn) k1 (by decide) (by decide)⟩
    rcases o_r_6 with o9 | o9 | o9 | o9
    · exact q_geti (ci := 1) (C := RX2) (T := TX2) (N := 4) hx hb hts (fun w h => List.mem_cons_of_mem _ (mfX20 w h)) hown hK hw m_r_6 o9 rfl 1 (by decide) (hts _ (List.mem_cons_of_mem _ (mr43 _ (List.mem_of_getElem? (i := 1) rfl)))) (fun _ h => h) rfl dX0_tell_99 (fun x_7 lx_7 ux_7 ex_7 => K99 x_7 lx_7 ux_7 ex_7 _ _ hw)
    · exact q_geti (ci := 2) (C := RX3) (T := TX3) (N := 7) hx hb hts (fun w h => List.mem_cons_of_mem _ (mfX30 w h)) hown hK hw m_r_6 o9 rfl 1 (by decide) (hts _ (List.mem_cons_of_mem _ (mr43 _ (List.mem_of_getElem? (i := 1) rfl)))) (fun _ h => h) rfl dX0_tell_99 (fun x_7 lx_7 ux_7 ex_7 => K99 x_7 lx_7 ux_7 ex_7 _ _ hw)
    · exact q_geti (ci := 3) (C := RX4) (T := TX4) (N := 3) hx hb hts (fun w h => List.mem_cons_of_mem _ (mfX40 w h)) hown hK hw m_r_6 o9 rfl 1 (by decide) (hts _ (List.mem_cons_of_mem _ (mr43 _ (List.mem_of_getElem? (i := 1) rfl)))) (fun _ h => h) rfl dX0_tell_99 (fun x_7 lx_7 ux_7 ex_7 => K99 x_7 lx_7 ux_7 ex_7 _ _ hw)
    · exact q_geti (ci := 6) (C := RX8) (T := TX8) (N := 6) hx hb hts (fun w h => List.mem_cons_of_mem _ (mfX80 w h)) hown hK hw m_r_6 o9 rfl 1 (by decide) (hts _ (List.mem_cons_of_mem _ (mr43 _ (List.mem_of_getElem? (i := 1) rfl)))) (fun _ h => h) rfl dX0_tell_99 (fun x_7 lx_7 ux_7 ex_7 => K99 x_7 lx_7 ux_7 ex_7 _ _ hw)
  · refine lv_tableIn (tgt := 103) (off := 102) hx hb dX0_tell_1 (by rw [t1]; omega) (by rw [t1]; omega) (by rw [t1, k1]; rfl) (by decide) ?_
    refine lv_aload_n hx hb dX0_tell_103 rfl (lv_at hl 0 rfl) ?_
    obtain ⟨r_8, er_8, m_r_8, o_r_8⟩ := (show ∃ r, fR f0 a0 3 = some r ∧ r ∈ L0 ∧ Rl f0 r from hg.2.1 _ m_a0 0 3 o_a0)
    refine q_getr (ci := 0) (C := RX0) (T := TX0) (N := 15) hx hb hts (fun w h => List.mem_cons_of_mem _ (mfX00 w h)) hown hK hw m_a0 o_a0 rfl 3 (by decide) (hts _ (List.mem_cons_of_mem _ (mr3 _ (List.mem_of_getElem? (i := 4) rfl)))) (fun _ h => h) rfl er_8 dX0_tell_104 ?_
    have z104 : r_8 = r0 := Option.some.inj (er_8.symm.trans er)
    have K107 : ∀ (x_9 : Int) (lx_9 : -2147483648 ≤ x_9) (ux_9 : x_9 ≤ 2147483647) (ex_9 : x_9 = fI f0 r_8 2) (H : Heap) (locs : List Loc) (hw : Wd D A s.heap L0 f0 H locs), W p l e ({ frames := 1, cells := 0, slots := 0, locals := 22 } : Room) s m ([.ref a0, .int (iI x1)] : List Value).toArray below meth c H locs (0) (0) (MQ below (Qi D (tq cy) L0 f0 s.heap.size (fun (r : Int) (L1 : List Nat) (f1 : Nat → va_E) => L0 = L1 ∧ f0 = f1 ∧ (TELL g p0 O x1 r))) ([.ref a0, .int (iI x1)] : List Value).toArray s 0 0 A) (F0 m 110 ls (.int (iI x_9) :: [])) := by
      intro x_9 lx_9 ux_9 ex_9 H locs hw
      exact q_ret_i hx hb hr hlocks hK hAe hw ⟨lx_9, ux_9⟩ (Nat.le_of_ble_eq_true rfl) (Nat.le_of_ble_eq_true rfl) dX0_tell_110 ⟨rfl, rfl, by exact TELL.w (ex_9.trans (by rw [z104])) (rk.1.2.2.1.trans ess) k1 (by decide) (by decide)⟩
    rcases o_r_8 with o9 | o9 | o9 | o9
    · exact q_geti (ci := 1) (C := RX2) (T := TX2) (N := 4) hx hb hts (fun w h => List.mem_cons_of_mem _ (mfX20 w h)) hown hK hw m_r_8 o9 rfl 2 (by decide) (hts _ (List.mem_cons_of_mem _ (mr14 _ (List.mem_of_getElem? (i := 5) rfl)))) (fun _ h => h) rfl dX0_tell_107 (fun x_9 lx_9 ux_9 ex_9 => K107 x_9 lx_9 ux_9 ex_9 _ _ hw)
    · exact q_geti (ci := 2) (C := RX3) (T := TX3) (N := 7) hx hb hts (fun w h => List.mem_cons_of_mem _ (mfX30 w h)) hown hK hw m_r_8 o9 rfl 2 (by decide) (hts _ (List.mem_cons_of_mem _ (mr14 _ (List.mem_of_getElem? (i := 5) rfl)))) (fun _ h => h) rfl dX0_tell_107 (fun x_9 lx_9 ux_9 ex_9 => K107 x_9 lx_9 ux_9 ex_9 _ _ hw)
    · exact q_geti (ci := 3) (C := RX4) (T := TX4) (N := 3) hx hb hts (fun w h => List.mem_cons_of_mem _ (mfX40 w h)) hown hK hw m_r_8 o9 rfl 2 (by decide) (hts _ (List.mem_cons_of_mem _ (mr14 _ (List.mem_of_getElem? (i := 5) rfl)))) (fun _ h => h) rfl dX0_tell_107 (fun x_9 lx_9 ux_9 ex_9 => K107 x_9 lx_9 ux_9 ex_9 _ _ hw)
    · exact q_geti (ci := 6) (C := RX8) (T := TX8) (N := 6) hx hb hts (fun w h => List.mem_cons_of_mem _ (mfX80 w h)) hown hK hw m_r_8 o9 rfl 2 (by decide) (hts _ (List.mem_cons_of_mem _ (mr14 _ (List.mem_of_getElem? (i := 5) rfl)))) (fun _ h => h) rfl dX0_tell_107 (fun x_9 lx_9 ux_9 ex_9 => K107 x_9 lx_9 ux_9 ex_9 _ _ hw)
  · refine lv_tableIn (tgt := 111) (off := 110) hx hb dX0_tell_1 (by rw [t1]; omega) (by rw [t1]; omega) (by rw [t1, k1]; rfl) (by decide) ?_
    refine lv_aload_n hx hb dX0_tell_111 rfl (lv_at hl 0 rfl) ?_
    obtain ⟨r_10, er_10, m_r_10, o_r_10⟩ := (show ∃ r, fR f0 a0 3 = some r ∧ r ∈ L0 ∧ Rl f0 r from hg.2.1 _ m_a0 0 3 o_a0)
    refine q_getr (ci := 0) (C := RX0) (T := TX0) (N := 15) hx hb hts (fun w h => List.mem_cons_of_mem _ (mfX00 w h)) hown hK hw m_a0 o_a0 rfl 3 (by decide) (hts _ (List.mem_cons_of_mem _ (mr3 _ (List.mem_of_getElem? (i := 4) rfl)))) (fun _ h => h) rfl er_10 dX0_tell_112 ?_
    have z112 : r_10 = r0 := Option.some.inj (er_10.symm.trans er)
    have K115 : ∀ (x_11 : Int) (lx_11 : -2147483648 ≤ x_11) (ux_11 : x_11 ≤ 2147483647) (ex_11 : x_11 = vv) (H : Heap) (locs : List Loc) (hw : Wd D A s.heap L0 f0 H locs), W p l e ({ frames := 1, cells := 0, slots := 0, locals := 22 } : Room) s m ([.ref a0, .int (iI x1)] : List Value).toArray below meth c H locs (0) (0) (MQ below (Qi D (tq cy) L0 f0 s.heap.size (fun (r : Int) (L1 : List Nat) (f1 : Nat → va_E) => L0 = L1 ∧ f0 = f1 ∧ (TELL g p0 O x1 r))) ([.ref a0, .int (iI x1)] : List Value).toArray s 0 0 A) (F0 m 118 ls (.int (iI x_11) :: [])) := by
      intro x_11 lx_11 ux_11 ex_11 H locs hw
      exact q_ret_i hx hb hr hlocks hK hAe hw ⟨lx_11, ux_11⟩ (Nat.le_of_ble_eq_true rfl) (Nat.le_of_ble_eq_true rfl) dX0_tell_118 ⟨rfl, rfl, by exact TELL.w ex_11 evv k1 (by decide) (by decide)⟩
    rcases o_r_10 with o9 | o9 | o9 | o9
    · refine q_call_i hA hK hw (va_runU (As := []) (rest := []) ⟨hx, hb, hml, hown, hts⟩ (c_X6_detail_f zo l D cy L0 f0 r_10 _) (va_cwU 0 hts (gT (inU (mr43 _ (List.mem_of_getElem? (i := 2) rfl)) (mr43 _ (List.mem_of_getElem? (i := 3) rfl)) (mr43 _ (List.mem_of_getElem? (i := 4) rfl)) (mr43 _ (List.mem_of_getElem? (i := 5) rfl)) (mr2 _ (List.mem_of_getElem? (i := 15) rfl)) (mr43 _ (List.mem_of_getElem? (i := 6) rfl)))) rfl rfl rfl rfl (by decide +kernel) ⟨Nat.le_of_ble_eq_true rfl, Nat.le_of_ble_eq_true rfl⟩) (Wd.preV zo hA hZ hw hK m_r_10 o9 rfl) rfl rfl hl.1 rfl (lv_room (Nat.le_of_ble_eq_true rfl)) dX0_tell_115 ⟨Nat.le_of_ble_eq_true rfl, Nat.le_of_ble_eq_true rfl⟩) (fun x_11 L1 f1 H locs lx_11 ux_11 ex_11 hw => ?_)
      obtain ⟨rfl, rfl, ex_11⟩ := ex_11
      exact K115 x_11 lx_11 ux_11 (by have z9 := Option.some.inj (er_10.symm.trans er); rw [z9] at o9; rw [ex_11]; exact (RuK.detail0 rk o9 (by decide) (by decide)).symm) H locs hw
    · refine q_call_i hA hK hw (va_runU (As := []) (rest := []) ⟨hx, hb, hml, hown, hts⟩ (c_X3_detail_f zo l D cy L0 f0 r_10 m_r_10 o9 hg kk nn ss vv ww (by have z9 := Option.some.inj (er_10.symm.trans er); rw [z9]; exact rk) _) (va_cwO 0 hts (gT (inO (mr43 _ (List.mem_of_getElem? (i := 2) rfl)) (mr43 _ (List.mem_of_getElem? (i := 3) rfl)) (mr43 _ (List.mem_of_getElem? (i := 5) rfl)) (mr43 _ (List.mem_of_getElem? (i := 8) rfl)) (mr43 _ (List.mem_of_getElem? (i := 9) rfl)) (mr12 _ (List.mem_of_getElem? (i := 18) rfl)) (mr43 _ (List.mem_of_getElem? (i := 10) rfl)))) rfl rfl rfl (List.mem_cons_of_mem _ (mr43 _ (List.mem_of_getElem? (i := 6) rfl))) (by decide +kernel) ⟨Nat.le_of_ble_eq_true rfl, Nat.le_of_ble_eq_true rfl⟩) (Wd.preV zo hA hZ hw hK m_r_10 o9 rfl) rfl rfl hl.1 rfl (lv_room (Nat.le_of_ble_eq_true rfl)) dX0_tell_115 ⟨Nat.le_of_ble_eq_true rfl, Nat.le_of_ble_eq_true rfl⟩) (fun x_11 L1 f1 H locs lx_11 ux_11 ex_11 hw => ?_)
      obtain ⟨rfl, rfl, ex_11⟩ := ex_11
      exact K115 x_11 lx_11 ux_11 ex_11 H locs hw
    · refine q_call_i hA hK hw (va_runU (As := []) (rest := []) ⟨hx, hb, hml, hown, hts⟩ (c_X6_detail_f zo l D cy L0 f0 r_10 _) (va_cwU 0 hts (gT (inU (mr43 _ (List.mem_of_getElem? (i := 2) rfl)) (mr43 _ (List.mem_of_getElem? (i := 3) rfl)) (mr43 _ (List.mem_of_getElem? (i := 11) rfl)) (mr43 _ (List.mem_of_getElem? (i := 5) rfl)) (mr2 _ (List.mem_of_getElem? (i := 15) rfl)) (mr43 _ (List.mem_of_getElem? (i := 6) rfl)))) rfl rfl rfl rfl (by decide +kernel) ⟨Nat.le_of_ble_eq_true rfl, Nat.le_of_ble_eq_true rfl⟩) (Wd.preV zo hA hZ hw hK m_r_10 o9 rfl) rfl rfl hl.1 rfl (lv_room (Nat.le_of_ble_eq_true rfl)) dX0_tell_115 ⟨Nat.le_of_ble_eq_true rfl, Nat.le_of_ble_eq_true rfl⟩) (fun x_11 L1 f1 H locs lx_11 ux_11 ex_11 hw => ?_)
      obtain ⟨rfl, rfl, ex_11⟩ := ex_11
      exact K115 x_11 lx_11 ux_11 (by have z9 := Option.some.inj (er_10.symm.trans er); rw [z9] at o9; rw [ex_11]; exact (RuK.detail0 rk o9 (by decide) (by decide)).symm) H locs hw
    · refine q_call_i hA hK hw (va_runU (As := []) (rest := []) ⟨hx, hb, hml, hown, hts⟩ (c_X8_detail_f zo l D cy L0 f0 r_10 m_r_10 o9 hg kk nn ss vv ww (by have z9 := Option.some.inj (er_10.symm.trans er); rw [z9]; exact rk) _) (va_cwO 0 hts (gT (inO (mr43 _ (List.mem_of_getElem? (i := 2) rfl)) (mr43 _ (List.mem_of_getElem? (i := 3) rfl)) (mr43 _ (List.mem_of_getElem? (i := 5) rfl)) (mr43 _ (List.mem_of_getElem? (i := 12) rfl)) (mr43 _ (List.mem_of_getElem? (i := 13) rfl)) (mr12 _ (List.mem_of_getElem? (i := 15) rfl)) (mr43 _ (List.mem_of_getElem? (i := 14) rfl)))) rfl rfl rfl (List.mem_cons_of_mem _ (mr43 _ (List.mem_of_getElem? (i := 6) rfl))) (by decide +kernel) ⟨Nat.le_of_ble_eq_true rfl, Nat.le_of_ble_eq_true rfl⟩) (Wd.preV zo hA hZ hw hK m_r_10 o9 rfl) rfl rfl hl.1 rfl (lv_room (Nat.le_of_ble_eq_true rfl)) dX0_tell_115 ⟨Nat.le_of_ble_eq_true rfl, Nat.le_of_ble_eq_true rfl⟩) (fun x_11 L1 f1 H locs lx_11 ux_11 ex_11 hw => ?_)
      obtain ⟨rfl, rfl, ex_11⟩ := ex_11
      exact K115 x_11 lx_11 ux_11 ex_11 H locs hw
  · refine lv_tableIn (tgt := 119) (off := 118) hx hb dX0_tell_1 (by rw [t1]; omega) (by rw [t1]; omega) (by rw [t1, k1]; rfl) (by decide) ?_
    refine lv_aload_n hx hb dX0_tell_119 rfl (lv_at hl 0 rfl) ?_
    obtain ⟨r_12, er_12, m_r_12, o_r_12⟩ := (show ∃ r, fR f0 a0 3 = some r ∧ r ∈ L0 ∧ Rl f0 r from hg.2.1 _ m_a0 0 3 o_a0)
    refine q_getr (ci := 0) (C := RX0) (T := TX0) (N := 15) hx hb hts (fun w h => List.mem_cons_of_mem _ (mfX00 w h)) hown hK hw m_a0 o_a0 rfl 3 (by decide) (hts _ (List.mem_cons_of_mem _ (mr3 _ (List.mem_of_getElem? (i := 4) rfl)))) (fun _ h => h) rfl er_12 dX0_tell_120 ?_
    have z120 : r_12 = r0 := Option.some.inj (er_12.symm.trans er)
    have K123 : ∀ (x_13 : Int) (lx_13 : -2147483648 ≤ x_13) (ux_13 : x_13 ≤ 2147483647) (ex_13 : x_13 = ww) (H : Heap) (locs : List Loc) (hw : Wd D A s.heap L0 f0 H locs), W p l e ({ frames := 1, cells := 0, slots := 0, locals := 22 } : Room) s m ([.ref a0, .int (iI x1)] : List Value).toArray below meth c H locs (0) (0) (MQ below (Qi D (tq cy) L0 f0 s.heap.size (fun (r : Int) (L1 : List Nat) (f1 : Nat → va_E) => L0 = L1 ∧ f0 = f1 ∧ (TELL g p0 O x1 r))) ([.ref a0, .int (iI x1)] : List Value).toArray s 0 0 A) (F0 m 126 ls (.int (iI x_13) :: [])) := by
      intro x_13 lx_13 ux_13 ex_13 H locs hw
      exact q_ret_i hx hb hr hlocks hK hAe hw ⟨lx_13, ux_13⟩ (Nat.le_of_ble_eq_true rfl) (Nat.le_of_ble_eq_true rfl) dX0_tell_126 ⟨rfl, rfl, by exact TELL.w ex_13 eww k1 (by decide) (by decide)⟩
    rcases o_r_12 with o9 | o9 | o9 | o9
    · refine q_call_i hA hK hw (va_runU (As := []) (rest := []) ⟨hx, hb, hml, hown, hts⟩ (c_X6_nthWeekday_f zo l D cy L0 f0 r_12 _) (va_cwU 0 hts (gT (inU (mr43 _ (List.mem_of_getElem? (i := 15) rfl)) (mr43 _ (List.mem_of_getElem? (i := 16) rfl)) (mr43 _ (List.mem_of_getElem? (i := 17) rfl)) (mr43 _ (List.mem_of_getElem? (i := 18) rfl)) (mr2 _ (List.mem_of_getElem? (i := 15) rfl)) (mr43 _ (List.mem_of_getElem? (i := 19) rfl)))) rfl rfl rfl rfl (by decide +kernel) ⟨Nat.le_of_ble_eq_true rfl, Nat.le_of_ble_eq_true rfl⟩) (Wd.preV zo hA hZ hw hK m_r_12 o9 rfl) rfl rfl hl.1 rfl (lv_room (Nat.le_of_ble_eq_true rfl)) dX0_tell_123 ⟨Nat.le_of_ble_eq_true rfl, Nat.le_of_ble_eq_true rfl⟩) (fun x_13 L1 f1 H locs lx_13 ux_13 ex_13 hw => ?_)
      obtain ⟨rfl, rfl, ex_13⟩ := ex_13
      exact K123 x_13 lx_13 ux_13 (by have z9 := Option.some.inj (er_12.symm.trans er); rw [z9] at o9; rw [ex_13]; exact (RuK.nthWeekday0 rk o9 (by decide)).symm) H locs hw
    · refine q_call_i hA hK hw (va_runU (As := []) (rest := []) ⟨hx, hb, hml, hown, hts⟩ (c_X3_nthWeekday_f zo l D cy L0 f0 r_12 m_r_12 o9 hg kk nn ss vv ww (by have z9 := Option.some.inj (er_12.symm.trans er); rw [z9]; exact rk) _) (va_cwO 0 hts (gT (inO (mr43 _ (List.mem_of_getElem? (i := 15) rfl)) (mr43 _ (List.mem_of_getElem? (i := 16) rfl)) (mr43 _ (List.mem_of_getElem? (i := 18) rfl)) (mr43 _ (List.mem_of_getElem? (i := 21) rfl)) (mr43 _ (List.mem_of_getElem? (i := 22) rfl)) (mr12 _ (List.mem_of_getElem? (i := 18) rfl)) (mr43 _ (List.mem_of_getElem? (i := 23) rfl)))) rfl rfl rfl (List.mem_cons_of_mem _ (mr43 _ (List.mem_of_getElem? (i := 19) rfl))) (by decide +kernel) ⟨Nat.le_of_ble_eq_true rfl, Nat.le_of_ble_eq_true rfl⟩) (Wd.preV zo hA hZ hw hK m_r_12 o9 rfl) rfl rfl hl.1 rfl (lv_room (Nat.le_of_ble_eq_true rfl)) dX0_tell_123 ⟨Nat.le_of_ble_eq_true rfl, Nat.le_of_ble_eq_true rfl⟩) (fun x_13 L1 f1 H locs lx_13 ux_13 ex_13 hw => ?_)
      obtain ⟨rfl, rfl, ex_13⟩ := ex_13
      exact K123 x_13 lx_13 ux_13 ex_13 H locs hw
    · refine q_call_i hA hK hw (va_runU (As := []) (rest := []) ⟨hx, hb, hml, hown, hts⟩ (c_X6_nthWeekday_f zo l D cy L0 f0 r_12 _) (va_cwU 0 hts (gT (inU (mr43 _ (List.mem_of_getElem? (i := 15) rfl)) (mr43 _ (List.mem_of_getElem? (i := 16) rfl)) (mr44 _ (List.mem_of_getElem? (i := 0) rfl)) (mr43 _ (List.mem_of_getElem? (i := 18) rfl)) (mr2 _ (List.mem_of_getElem? (i := 15) rfl)) (mr43 _ (List.mem_of_getElem? (i := 19) rfl)))) rfl rfl rfl rfl (by decide +kernel) ⟨Nat.le_of_ble_eq_true rfl, Nat.le_of_ble_eq_true rfl⟩) (Wd.preV zo hA hZ hw hK m_r_12 o9 rfl) rfl rfl hl.1 rfl (lv_room (Nat.le_of_ble_eq_true rfl)) dX0_tell_123 ⟨Nat.le_of_ble_eq_true rfl, Nat.le_of_ble_eq_true rfl⟩) (fun x_13 L1 f1 H locs lx_13 ux_13 ex_13 hw => ?_)
      obtain ⟨rfl, rfl, ex_13⟩ := ex_13
      exact K123 x_13 lx_13 ux_13 (by have z9 := Option.some.inj (er_12.symm.trans er); rw [z9] at o9; rw [ex_13]; exact (RuK.nthWeekday0 rk o9 (by decide)).symm) H locs hw
    · refine q_call_i hA hK hw (va_runU (As := []) (rest := []) ⟨hx, hb, hml, hown, hts⟩ (c_X6_nthWeekday_f zo l D cy L0 f0 r_12 _) (va_cwU 0 hts (gT (inU (mr43 _ (List.mem_of_getElem? (i := 15) rfl)) (mr43 _ (List.mem_of_getElem? (i := 16) rfl)) (mr44 _ (List.mem_of_getElem? (i := 1) rfl)) (mr43 _ (List.mem_of_getElem? (i := 18) rfl)) (mr2 _ (List.mem_of_getElem? (i := 15) rfl)) (mr43 _ (List.mem_of_getElem? (i := 19) rfl)))) rfl rfl rfl rfl (by decide +kernel) ⟨Nat.le_of_ble_eq_true rfl, Nat.le_of_ble_eq_true rfl⟩) (Wd.preV zo hA hZ hw hK m_r_12 o9 rfl) rfl rfl hl.1 rfl (lv_room (Nat.le_of_ble_eq_true rfl)) dX0_tell_123 ⟨Nat.le_of_ble_eq_true rfl, Nat.le_of_ble_eq_true rfl⟩) (fun x_13 L1 f1 H locs lx_13 ux_13 ex_13 hw => ?_)
      obtain ⟨rfl, rfl, ex_13⟩ := ex_13
      exact K123 x_13 lx_13 ux_13 (by have z9 := Option.some.inj (er_12.symm.trans er); rw [z9] at o9; rw [ex_13]; exact (RuK.nthWeekday0 rk o9 (by decide)).symm) H locs hw
  · refine lv_tableIn (tgt := 127) (off := 126) hx hb dX0_tell_1 (by rw [t1]; omega) (by rw [t1]; omega) (by rw [t1, k1]; rfl) (by decide) ?_
    refine lv_aload_n hx hb dX0_tell_127 rfl (lv_at hl 0 rfl) ?_
    refine q_geti (ci := 0) (C := RX0) (T := TX0) (N := 15) hx hb hts (fun w h => List.mem_cons_of_mem _ (mfX00 w h)) hown hK hw m_a0 o_a0 rfl 4 (by decide) (hts _ (List.mem_cons_of_mem _ (mr14 _ (List.mem_of_getElem? (i := 7) rfl)))) (fun _ h => h) rfl dX0_tell_128 (fun x_14 lx_14 ux_14 ex_14 => ?_)
    exact q_ret_i hx hb hr hlocks hK hAe hw ⟨lx_14, ux_14⟩ (Nat.le_of_ble_eq_true rfl) (Nat.le_of_ble_eq_true rfl) dX0_tell_131 ⟨rfl, rfl, by exact TELL.w ex_14 rb.1.1.2.2.2.1 k1 (by decide) (by decide)⟩
  · refine lv_tableIn (tgt := 132) (off := 131) hx hb dX0_tell_1 (by rw [t1]; omega) (by rw [t1]; omega) (by rw [t1, k1]; rfl) (by decide) ?_
    refine lv_aload_n hx hb dX0_tell_132 rfl (lv_at hl 0 rfl) ?_
    refine q_geti (ci := 0) (C := RX0) (T := TX0) (N := 15) hx hb hts (fun w h => List.mem_cons_of_mem _ (mfX00 w h)) hown hK hw m_a0 o_a0 rfl 5 (by decide) (hts _ (List.mem_cons_of_mem _ (mr14 _ (List.mem_of_getElem? (i := 8) rfl)))) (fun _ h => h) rfl dX0_tell_133 (fun x_15 lx_15 ux_15 ex_15 => ?_)
    exact q_ret_i hx hb hr hlocks hK hAe hw ⟨lx_15, ux_15⟩ (Nat.le_of_ble_eq_true rfl) (Nat.le_of_ble_eq_true rfl) dX0_tell_136 ⟨rfl, rfl, by exact TELL.w ex_15 rb.1.1.2.2.2.2.1 k1 (by decide) (by decide)⟩
  · refine lv_tableIn (tgt := 137) (off := 136) hx hb dX0_tell_1 (by rw [t1]; omega) (by rw [t1]; omega) (by rw [t1, k1]; rfl) (by decide) ?_
    refine lv_aload_n hx hb dX0_tell_137 rfl (lv_at hl 0 rfl) ?_
    refine q_call_i hA hK hw (va_runV (As := []) (rest := []) ⟨hx, hb, hml, hown, hts⟩ (c_X0_droppedOnes_o zo l D cy L0 f0 a0 m_a0 o_a0 hg _) (cwV 0 hts (gT (inV (mr44 _ (List.mem_of_getElem? (i := 2) rfl)) (mr44 _ (List.mem_of_getElem? (i := 3) rfl)) (mr44 _ (List.mem_of_getElem? (i := 4) rfl)) (mr2 _ (List.mem_of_getElem? (i := 9) rfl)) (mr44 _ (List.mem_of_getElem? (i := 5) rfl)))) rfl rfl rfl (by decide +kernel) ⟨Nat.le_of_ble_eq_true rfl, Nat.le_of_ble_eq_true rfl⟩) (Wd.preV zo hA hZ hw hK m_a0 o_a0 rfl) rfl rfl hl.1 rfl (lv_room (Nat.le_of_ble_eq_true rfl)) dX0_tell_138 ⟨Nat.le_of_ble_eq_true rfl, Nat.le_of_ble_eq_true rfl⟩) (fun x_16 L1 f1 H locs lx_16 ux_16 ex_16 hw => ?_)
    obtain ⟨rfl, rfl, ex_16⟩ := ex_16
    exact q_ret_i hx hb hr hlocks hK hAe hw ⟨lx_16, ux_16⟩ (Nat.le_of_ble_eq_true rfl) (Nat.le_of_ble_eq_true rfl) dX0_tell_141 ⟨rfl, rfl, by exact TELL.d ex_16.1 oc hk bb.1 k1⟩
  · refine lv_tableIn (tgt := 142) (off := 141) hx hb dX0_tell_1 (by rw [t1]; omega) (by rw [t1]; omega) (by rw [t1, k1]; rfl) (by decide) ?_
    refine lv_aload_n hx hb dX0_tell_142 rfl (lv_at hl 0 rfl) ?_
    refine q_geti (ci := 0) (C := RX0) (T := TX0) (N := 15) hx hb hts (fun w h => List.mem_cons_of_mem _ (mfX00 w h)) hown hK hw m_a0 o_a0 rfl 10 (by decide) (hts _ (List.mem_cons_of_mem _ (mr14 _ (List.mem_of_getElem? (i := 9) rfl)))) (fun _ h => h) rfl dX0_tell_143 (fun x_17 lx_17 ux_17 ex_17 => ?_)
    have bx_17 : 0 ≤ x_17 ∧ x_17 ≤ 16 := by rw [ex_17]; exact hg.1 _ m_a0 0 10 o_a0
    have h143 := ex_17
    refine lv_aload_n hx hb dX0_tell_146 rfl (lv_at hl 0 rfl) ?_
    refine q_call_i hA hK hw (va_runV (As := []) (rest := [.int (iI x_17)]) ⟨hx, hb, hml, hown, hts⟩ (c_X0_droppedOnes_o zo l D cy L0 f0 a0 m_a0 o_a0 hg _) (cwV 0 hts (gT (inV (mr44 _ (List.mem_of_getElem? (i := 2) rfl)) (mr44 _ (List.mem_of_getElem? (i := 3) rfl)) (mr44 _ (List.mem_of_getElem? (i := 4) rfl)) (mr2 _ (List.mem_of_getElem? (i := 9) rfl)) (mr44 _ (List.mem_of_getElem? (i := 5) rfl)))) rfl rfl rfl (by decide +kernel) ⟨Nat.le_of_ble_eq_true rfl, Nat.le_of_ble_eq_true rfl⟩) (Wd.preV zo hA hZ hw hK m_a0 o_a0 rfl) rfl rfl hl.1 rfl (lv_room (Nat.le_of_ble_eq_true rfl)) dX0_tell_147 ⟨Nat.le_of_ble_eq_true rfl, Nat.le_of_ble_eq_true rfl⟩) (fun x_18 L1 f1 H locs lx_18 ux_18 ex_18 hw => ?_)
    obtain ⟨rfl, rfl, ex_18⟩ := ex_18
    have h147 := ex_18
    first | refine q_isub hx hb dX0_tell_150 ⟨by omega, by omega⟩ (fun x_19 lx_19 ux_19 ex_19 => ?_) | refine q_isubw hx hb dX0_tell_150 (fun x_19 lx_19 ux_19 _ => ?_)
    exact q_ret_i hx hb hr hlocks hK hAe hw ⟨lx_19, ux_19⟩ (Nat.le_of_ble_eq_true rfl) (Nat.le_of_ble_eq_true rfl) dX0_tell_151 ⟨rfl, rfl, by exact TELL.m h147.1 oc hk bb.1 (by omega) k1⟩
  · refine lv_tableIn (tgt := 152) (off := 151) hx hb dX0_tell_1 (by rw [t1]; omega) (by rw [t1]; omega) (by rw [t1, k1]; rfl) (by decide) ?_
    refine lv_aload_n hx hb dX0_tell_152 rfl (lv_at hl 0 rfl) ?_
    refine q_geti (ci := 0) (C := RX0) (T := TX0) (N := 15) hx hb hts (fun w h => List.mem_cons_of_mem _ (mfX00 w h)) hown hK hw m_a0 o_a0 rfl 7 (by decide) (hts _ (List.mem_cons_of_mem _ (mr14 _ (List.mem_of_getElem? (i := 20) rfl)))) (fun _ h => h) rfl dX0_tell_153 (fun x_20 lx_20 ux_20 ex_20 => ?_)
    exact q_ret_i hx hb hr hlocks hK hAe hw ⟨lx_20, ux_20⟩ (Nat.le_of_ble_eq_true rfl) (Nat.le_of_ble_eq_true rfl) dX0_tell_156 ⟨rfl, rfl, by exact Or.inr (Or.inr (Or.inr (Or.inl ⟨k1, fI f0 a0 8, by rw [ex_20]; exact rb.2.1⟩)))⟩
  · refine lv_tableIn (tgt := 157) (off := 156) hx hb dX0_tell_1 (by rw [t1]; omega) (by rw [t1]; omega) (by rw [t1, k1]; rfl) (by decide) ?_
    refine lv_aload_n hx hb dX0_tell_157 rfl (lv_at hl 0 rfl) ?_
    refine q_geti (ci := 0) (C := RX0) (T := TX0) (N := 15) hx hb hts (fun w h => List.mem_cons_of_mem _ (mfX00 w h)) hown hK hw m_a0 o_a0 rfl 8 (by decide) (hts _ (List.mem_cons_of_mem _ (mr14 _ (List.mem_of_getElem? (i := 21) rfl)))) (fun _ h => h) rfl dX0_tell_158 (fun x_21 lx_21 ux_21 ex_21 => ?_)
    exact q_ret_i hx hb hr hlocks hK hAe hw ⟨lx_21, ux_21⟩ (Nat.le_of_ble_eq_true rfl) (Nat.le_of_ble_eq_true rfl) dX0_tell_161 ⟨rfl, rfl, by exact Or.inr (Or.inr (Or.inr (Or.inr (Or.inl ⟨k1, fI f0 a0 7, by rw [ex_21]; exact rb.2.1⟩))))⟩
set_option maxHeartbeats 4000000 in
set_option maxRecDepth 100000 in
theorem c_X9_of_o {Z : Zt} (zo : Zok Z) (l : Launch) (D : va_G) (cy : Cy) (L0 : List Nat) (f0 : Nat → va_E) (a0 : Nat) (x1 : Int) (lx1 : -2147483648 ≤ x1) (ux1 : x1 ≤ 2147483647) (x2 : Int) (lx2 : -2147483648 ≤ x2) (ux2 : x2 ≤ 2147483647) (m_a0 : a0 ∈ L0) (o_a0 : Ob f0 a0 7) (hg : GI cy L0 f0) (rq : Int → Nat) (g : Int → Int) (mm : Int) (sx : SX f0 a0 rq g mm) (O : Int → Int) (oc : 0 ≤ x1 ∧ x1 < mm → OC f0 (rq x1) O) (hk : 0 ≤ x1 ∧ x1 < mm → OKk g (44 * x1) O) : Ci Z l yX9_of (Cond.code yX9_of cX9_of 3 (some .int) :: TB) ({ frames := 2, cells := 0, slots := 0, locals := 43 } : Room) 0 0 D (tq cy) [.ref a0, .int (iI x1), .int (iI x2)] L0 f0 (fun (r : Int) (L1 : List Nat) (f1 : Nat → va_E) => L0 = L1 ∧ f0 = f1 ∧ ((r = -2 ∧ ¬ (0 ≤ x1 ∧ x1 < mm)) ∨ ((0 ≤ x1 ∧ x1 < mm) ∧ TELL g (44 * x1) O x2 r))) := by
  refine Ci.enter (cc := cX9_of) (n := 3) rfl (plainFor_of_name (by decide)) (Nat.le_of_ble_eq_true rfl) ?_
  intro p e s m below meth c ls A hx hb hr hts hown hlocks hnm hml hK hA hAe hw hZ hl
  have hown : s.vm.findClass RX9 = some m.cls := hown
  have hl : lv_has ls 3 [(0, .ref a0), (1, .int (iI x1)), (2, .int (iI x2))] := hl
  have hN : ZN s := (zo.2.2.2.2 _ _ _ hZ).2
  refine lv_aload_n hx hb dX9_of_0 rfl (lv_at hl 0 rfl) ?_
  obtain ⟨r_1, er_1, m_r_1, o_r_1⟩ := (show ∃ r, fR f0 a0 2 = some r ∧ r ∈ L0 ∧ Ob f0 r 5 from hg.2.1 _ m_a0 7 2 o_a0)
  refine q_getr (ci := 7) (C := RX9) (T := TX9) (N := 4) hx hb hts (fun w h => List.mem_cons_of_mem _ (mfX90 w h)) hown hK hw m_a0 o_a0 rfl 2 (by decide) (hts _ (List.mem_cons_of_mem _ (mr1 _ (List.mem_of_getElem? (i := 20) rfl)))) (fun _ h => h) rfl er_1 dX9_of_1 ?_
  have s1 := sx.at er_1
  refine lv_iload_n hx hb dX9_of_4 rfl (lv_at hl 1 rfl) ?_
  refine q_call_i hA hK hw (va_runV (As := [.int (iI x1)]) (rest := []) ⟨hx, hb, hml, hown, hts⟩ (c_X7_has_f zo l D cy L0 f0 r_1 x1 lx1 ux1 m_r_1 o_r_1 hg _) (cwV 1 hts (gT (inV (mr22 _ (List.mem_of_getElem? (i := 9) rfl)) (mr22 _ (List.mem_of_getElem? (i := 10) rfl)) (mr22 _ (List.mem_of_getElem? (i := 11) rfl)) (mr1 _ (List.mem_of_getElem? (i := 19) rfl)) (mr22 _ (List.mem_of_getElem? (i := 12) rfl)))) rfl rfl rfl (by decide +kernel) ⟨Nat.le_of_ble_eq_true rfl, Nat.le_of_ble_eq_true rfl⟩) (Wd.preV zo hA hZ hw hK m_r_1 o_r_1 rfl) rfl rfl hl.1 rfl (lv_room (Nat.le_of_ble_eq_true rfl)) dX9_of_5 ⟨Nat.le_of_ble_eq_true rfl, Nat.le_of_ble_eq_true rfl⟩) (fun x_2 L1 f1 H locs lx_2 ux_2 ex_2 hw => ?_)
  obtain ⟨rfl, rfl, ex_2⟩ := ex_2
  refine q_if_ne (tgt := 14) hx hb dX9_of_8 (by decide) ⟨lx_2, ux_2⟩ (fun c8 => ?_) (fun c8 => ?_)
  · refine lv_aload_n hx hb dX9_of_14 rfl (lv_at hl 0 rfl) ?_
    refine q_getr (ci := 7) (C := RX9) (T := TX9) (N := 4) hx hb hts (fun w h => List.mem_cons_of_mem _ (mfX90 w h)) hown hK hw m_a0 o_a0 rfl 2 (by decide) (hts _ (List.mem_cons_of_mem _ (mr1 _ (List.mem_of_getElem? (i := 20) rfl)))) (fun _ h => h) rfl er_1 dX9_of_15 ?_
    have s1 := sx.at er_1
    refine lv_iload_n hx hb dX9_of_18 rfl (lv_at hl 1 rfl) ?_
    refine q_call_r hA hK hw (va_runV (As := [.int (iI x1)]) (rest := []) ⟨hx, hb, hml, hown, hts⟩ (c_X7_at_f zo l D cy L0 f0 r_1 x1 lx1 ux1 m_r_1 o_r_1 hg (by omega) (by omega) _) (cwV 1 hts (gT (inV (mr24 _ (List.mem_of_getElem? (i := 8) rfl)) (mr24 _ (List.mem_of_getElem? (i := 9) rfl)) (mr24 _ (List.mem_of_getElem? (i := 10) rfl)) (mr1 _ (List.mem_of_getElem? (i := 19) rfl)) (mr24 _ (List.mem_of_getElem? (i := 11) rfl)))) rfl rfl rfl (by decide +kernel) ⟨Nat.le_of_ble_eq_true rfl, Nat.le_of_ble_eq_true rfl⟩) (Wd.preV zo hA hZ hw hK m_r_1 o_r_1 rfl) rfl rfl hl.1 rfl (lv_room (Nat.le_of_ble_eq_true rfl)) dX9_of_19 ⟨Nat.le_of_ble_eq_true rfl, Nat.le_of_ble_eq_true rfl⟩) (fun x_3 L1 f1 H locs ex_3 hw => ?_)
    obtain ⟨rfl, rfl, ex_3⟩ := ex_3
    obtain ⟨m_x_3, o_x_3, ex_3⟩ := ex_3
    have gx := s1.1.row ex_3 (by omega) (by omega)
    have rb := s1.1.rb ex_3 (by omega) (by omega) (by omega)
    refine lv_iload_n hx hb dX9_of_22 rfl (lv_at hl 2 rfl) ?_
    refine q_call_i hA hK hw (va_runV (As := [.int (iI x2)]) (rest := []) ⟨hx, hb, hml, hown, hts⟩ (c_X0_tell_o zo l D cy L0 f0 x_3 x2 lx2 ux2 m_x_3 o_x_3 hg g (44 * x1) rb O (by rw [gx]; exact oc ⟨by omega, by omega⟩) (hk ⟨by omega, by omega⟩) _) (cwV 1 hts (gT (inV (mr42 _ (List.mem_of_getElem? (i := 20) rfl)) (mr42 _ (List.mem_of_getElem? (i := 21) rfl)) (mr42 _ (List.mem_of_getElem? (i := 22) rfl)) (mr2 _ (List.mem_of_getElem? (i := 9) rfl)) (mr42 _ (List.mem_of_getElem? (i := 23) rfl)))) rfl rfl rfl (by decide +kernel) ⟨Nat.le_of_ble_eq_true rfl, Nat.le_of_ble_eq_true rfl⟩) (Wd.preV zo hA hZ hw hK m_x_3 o_x_3 rfl) rfl rfl hl.1 rfl (lv_room (Nat.le_of_ble_eq_true rfl)) dX9_of_23 ⟨Nat.le_of_ble_eq_true rfl, Nat.le_of_ble_eq_true rfl⟩) (fun x_4 L1 f1 H locs lx_4 ux_4 ex_4 hw => ?_)
    obtain ⟨rfl, rfl, ex_4⟩ := ex_4
    exact q_ret_i hx hb hr hlocks hK hAe hw ⟨lx_4, ux_4⟩ (Nat.le_of_ble_eq_true rfl) (Nat.le_of_ble_eq_true rfl) dX9_of_26 ⟨rfl, rfl, by exact Or.inr ⟨⟨by omega, by omega⟩, ex_4⟩⟩
  · refine q_bipush hx hb dX9_of_11 rfl ?_
    exact q_ret_i hx hb hr hlocks hK hAe hw ⟨by decide, by decide⟩ (Nat.le_of_ble_eq_true rfl) (Nat.le_of_ble_eq_true rfl) dX9_of_13 ⟨rfl, rfl, by exact Or.inl ⟨rfl, by omega⟩⟩
set_option maxHeartbeats 4000000 in
set_option maxRecDepth 100000 in
theorem c_X10_oddMany_o {Z : Zt} (zo : Zok Z) (l : Launch) (D : va_G) (cy : Cy) (L0 : List Nat) (f0 : Nat → va_E) (a0 : Nat) (x1 : Int) (lx1 : -2147483648 ≤ x1) (ux1 : x1 ≤ 2147483647) (x2 : Int) (lx2 : -2147483648 ≤ x2) (ux2 : x2 ≤ 2147483647) (ad : Nat → Nat) (hs : MS cy L0 f0 a0 ad) (b1 : 0 ≤ x1) (b2 : x1 ≤ 11) (o1 : 0 ≤ aI f0 (ad 4) (44 * x1 + 11)) (o2 : aI f0 (ad 4) (44 * x1 + 11) ≤ 16) (z2 : x2 = 0 ∨ x2 = 1) : Ci Z l yX10_oddMany (Cond.code yX10_oddMany cX10_oddMany 5 (some .int) :: TB) ({ frames := 1, cells := 0, slots := 0, locals := 22 } : Room) 0 0 D (tq cy) [.ref a0, .int (iI x1), .int (iI x2)] L0 f0 (fun (r : Int) (L1 : List Nat) (f1 : Nat → va_E) => L0 = L1 ∧ f0 = f1 ∧ (r = cn (fun i : Int => (aI f0 (ad 4) (44 * x1 + 13 + 2 * i) < 0 ∧ x2 = 1) ∨ (0 ≤ aI f0 (ad 4) (44 * x1 + 13 + 2 * i) ∧ x2 = 0)) 0 (aI f0 (ad 4) (44 * x1 + 11)))) := by
  refine Ci.enter (cc := cX10_oddMany) (n := 5) rfl (plainFor_of_name (by decide)) (Nat.le_of_ble_eq_true rfl) ?_
  intro p e s m below meth c ls A hx hb hr hts hown hlocks hnm hml hK hA hAe hw hZ hl
  have hown : s.vm.findClass RX10 = some m.cls := hown
  have hl : lv_has ls 5 [(0, .ref a0), (1, .int (iI x1)), (2, .int (iI x2))] := hl
  have hN : ZN s := (zo.2.2.2.2 _ _ _ hZ).2
  refine q_iconst hx hb dX10_oddMany_0 ?_
  refine lv_istore_n (lv' := [(3, .int (iI 0)), (0, .ref a0), (1, .int (iI x1)), (2, .int (iI x2))]) hx hb dX10_oddMany_1 rfl hl (by decide) rfl (fun ls hl => ?_)
  refine q_iconst hx hb dX10_oddMany_2 ?_
  refine lv_istore (lv' := [(4, .int (iI 0)), (3, .int (iI 0)), (0, .ref a0), (1, .int (iI x1)), (2, .int (iI x2))]) hx hb dX10_oddMany_3 hl (by decide) rfl (fun ls hl => ?_)
  have J5 : ∀ (n5 : Nat) (y3_5 : Int) (ly3_5 : -2147483648 ≤ y3_5) (uy3_5 : y3_5 ≤ 2147483647) (y4_5 : Int) (ly4_5 : -2147483648 ≤ y4_5) (uy4_5 : y4_5 ≤ 2147483647) (i1 : 0 ≤ y4_5) (i4 : 0 ≤ y3_5) (i5 : y3_5 ≤ y4_5) (i6 : y4_5 ≤ aI f0 (ad 4) (44 * x1 + 11)) (i3 : y3_5 = cn (fun i : Int => (aI f0 (ad 4) (44 * x1 + 13 + 2 * i) < 0 ∧ x2 = 1) ∨ (0 ≤ aI f0 (ad 4) (44 * x1 + 13 + 2 * i) ∧ x2 = 0)) 0 y4_5) (hn5 : ((2147483647 : Int) - y4_5).toNat < n5) (H : Heap) (locs : List Loc) (ls : Array Slot) (hw : Wd D A s.heap L0 f0 H locs) (hl : lv_has ls 5 [(0, .ref a0), (1, .int (iI x1)), (2, .int (iI x2)), (3, .int (iI y3_5)), (4, .int (iI y4_5))]), W p l e ({ frames := 1, cells := 0, slots := 0, locals := 22 } : Room) s m ([.ref a0, .int (iI x1), .int (iI x2)] : List Value).toArray below meth c H locs (0) (0) (MQ below (Qi D (tq cy) L0 f0 s.heap.size (fun (r : Int) (L1 : List Nat) (f1 : Nat → va_E) => L0 = L1 ∧ f0 = f1 ∧ (r = cn (fun i : Int => (aI f0 (ad 4) (44 * x1 + 13 + 2 * i) < 0 ∧ x2 = 1) ∨ (0 ≤ aI f0 (ad 4) (44 * x1 + 13 + 2 * i) ∧ x2 = 0)) 0 (aI f0 (ad 4) (44 * x1 + 11))))) ([.ref a0, .int (iI x1), .int (iI x2)] : List Value).toArray s 0 0 A) (F0 m 5 ls []) := by
    intro n5
    induction n5 with
    | zero => intro y3_5 ly3_5 uy3_5 y4_5 ly4_5 uy4_5 i1 i4 i5 i6 i3 hn5; exact absurd hn5 (Nat.not_lt_zero _)
    | succ n5 ih5 =>
      intro y3_5 ly3_5 uy3_5 y4_5 ly4_5 uy4_5 i1 i4 i5 i6 i3 hn5 H locs ls hw hl
      refine lv_iload hx hb dX10_oddMany_5 (lv_at hl 4 rfl) ?_
      refine lv_aload_n hx hb dX10_oddMany_7 rfl (lv_at hl 0 rfl) ?_
      refine lv_iload_n hx hb dX10_oddMany_8 rfl (lv_at hl 1 rfl) ?_
      refine q_bipush hx hb dX10_oddMany_9 rfl ?_
      refine q_call_i hA hK hw (va_runV (As := [.int (iI x1), .int (iI 11)]) (rest := [.int (iI y4_5)]) ⟨hx, hb, hml, hown, hts⟩ (c_X10_get zo l D cy L0 f0 a0 x1 lx1 ux1 11 (by decide) (by decide) ad hs (by omega) (by omega) (by omega) (by omega) _) (cwV 2 hts (gT (inV (mr25 _ (List.mem_of_getElem? (i := 0) rfl)) (mr25 _ (List.mem_of_getElem? (i := 1) rfl)) (mr25 _ (List.mem_of_getElem? (i := 2) rfl)) (mr1 _ (List.mem_of_getElem? (i := 5) rfl)) (mr25 _ (List.mem_of_getElem? (i := 3) rfl)))) rfl rfl rfl (by decide +kernel) ⟨Nat.le_of_ble_eq_true rfl, Nat.le_of_ble_eq_true rfl⟩) (Wd.preV zo hA hZ hw hK hs.1 hs.2.1 rfl) rfl rfl hl.1 rfl (lv_room (Nat.le_of_ble_eq_true rfl)) dX10_oddMany_11 ⟨Nat.le_of_ble_eq_true rfl, Nat.le_of_ble_eq_true rfl⟩) (fun x_1 L1 f1 H locs lx_1 ux_1 ex_1 hw => ?_)
      obtain ⟨rfl, rfl, ex_1⟩ := ex_1
      refine q_icmp_ge (tgt := 52) hx hb dX10_oddMany_14 (by decide) ⟨ly4_5, uy4_5⟩ ⟨lx_1, ux_1⟩ (fun c14 => ?_) (fun c14 => ?_)
      · refine lv_iload_n hx hb dX10_oddMany_52 rfl (lv_at hl 3 rfl) ?_
        exact q_ret_i hx hb hr hlocks hK hAe hw ⟨ly3_5, uy3_5⟩ (Nat.le_of_ble_eq_true rfl) (Nat.le_of_ble_eq_true rfl) dX10_oddMany_53 ⟨rfl, rfl, by exact cn_to i3 (by omega)⟩
      · refine lv_aload_n hx hb dX10_oddMany_17 rfl (lv_at hl 0 rfl) ?_
        refine lv_iload_n hx hb dX10_oddMany_18 rfl (lv_at hl 1 rfl) ?_
        refine q_bipush hx hb dX10_oddMany_19 rfl ?_
        refine q_iconst hx hb dX10_oddMany_21 ?_
        refine lv_iload hx hb dX10_oddMany_22 (lv_at hl 4 rfl) ?_
        first | refine q_imul hx hb dX10_oddMany_24 ⟨by omega, by omega⟩ (fun x_2 lx_2 ux_2 ex_2 => ?_) | refine q_imulw hx hb dX10_oddMany_24 (fun x_2 lx_2 ux_2 ex_2 => ?_)
        first | refine q_iadd hx hb dX10_oddMany_25 ⟨by omega, by omega⟩ (fun x_3 lx_3 ux_3 ex_3 => ?_) | refine q_iaddw hx hb dX10_oddMany_25 (fun x_3 lx_3 ux_3 ex_3 => ?_)
        refine q_iconst hx hb dX10_oddMany_26 ?_
        first | refine q_iadd hx hb dX10_oddMany_27 ⟨by omega, by omega⟩ (fun x_4 lx_4 ux_4 ex_4 => ?_) | refine q_iaddw hx hb dX10_oddMany_27 (fun x_4 lx_4 ux_4 ex_4 => ?_)
        refine q_call_i hA hK hw (va_runV (As := [.int (iI x1), .int (iI x_4)]) (rest := []) ⟨hx, hb, hml, hown, hts⟩ (c_X10_get zo l D cy L0 f0 a0 x1 lx1 ux1 x_4 lx_4 ux_4 ad hs (by omega) (by omega) (by omega) (by omega) _) (cwV 2 hts (gT (inV (mr25 _ (List.mem_of_getElem? (i := 0) rfl)) (mr25 _ (List.mem_of_getElem? (i := 1) rfl)) (mr25 _ (List.mem_of_getElem? (i := 2) rfl)) (mr1 _ (List.mem_of_getElem? (i := 5) rfl)) (mr25 _ (List.mem_of_getElem? (i := 3) rfl)))) rfl rfl rfl (by decide +kernel) ⟨Nat.le_of_ble_eq_true rfl, Nat.le_of_ble_eq_true rfl⟩) (Wd.preV zo hA hZ hw hK hs.1 hs.2.1 rfl) rfl rfl hl.1 rfl (lv_room (Nat.le_of_ble_eq_true rfl)) dX10_oddMany_28 ⟨Nat.le_of_ble_eq_true rfl, Nat.le_of_ble_eq_true rfl⟩) (fun x_5 L1 f1 H locs lx_5 ux_5 ex_5 hw => ?_)
        obtain ⟨rfl, rfl, ex_5⟩ := ex_5
        have g28 : x_5 = aI f0 (ad 4) (44 * x1 + 13 + 2 * y4_5) := ex_5.trans (aI_cg (by omega))
        have J39 : ∀ (w0_39 : Int) (lw0_39 : -2147483648 ≤ w0_39) (uw0_39 : w0_39 ≤ 2147483647) (kz : (w0_39 = 1 ∧ aI f0 (ad 4) (44 * x1 + 13 + 2 * y4_5) < 0) ∨ (w0_39 = 0 ∧ 0 ≤ aI f0 (ad 4) (44 * x1 + 13 + 2 * y4_5))) (H : Heap) (locs : List Loc) (ls : Array Slot) (hw : Wd D A s.heap L0 f0 H locs) (hl : lv_has ls 5 [(0, .ref a0), (1, .int (iI x1)), (2, .int (iI x2)), (3, .int (iI y3_5)), (4, .int (iI y4_5))]), W p l e ({ frames := 1, cells := 0, slots := 0, locals := 22 } : Room) s m ([.ref a0, .int (iI x1), .int (iI x2)] : List Value).toArray below meth c H locs (0 + 0 + 0) (0 + 0 + 0) (MQ below (Qi D (tq cy) L0 f0 s.heap.size (fun (r : Int) (L1 : List Nat) (f1 : Nat → va_E) => L0 = L1 ∧ f0 = f1 ∧ (r = cn (fun i : Int => (aI f0 (ad 4) (44 * x1 + 13 + 2 * i) < 0 ∧ x2 = 1) ∨ (0 ≤ aI f0 (ad 4) (44 * x1 + 13 + 2 * i) ∧ x2 = 0)) 0 (aI f0 (ad 4) (44 * x1 + 11))))) ([.ref a0, .int (iI x1), .int (iI x2)] : List Value).toArray s 0 0 A) (F0 m 39 ls [.int (iI w0_39)]) := by
          intro w0_39 lw0_39 uw0_39 kz H locs ls hw hl
          refine lv_iload_n hx hb dX10_oddMany_39 rfl (lv_at hl 2 rfl) ?_
          have J46 : ∀ (z3_46 : Int) (lz3_46 : -2147483648 ≤ z3_46) (uz3_46 : z3_46 ≤ 2147483647) (k4 : 0 ≤ z3_46) (k5 : z3_46 ≤ y4_5 + 1) (k1 : z3_46 = cn (fun i : Int => (aI f0 (ad 4) (44 * x1 + 13 + 2 * i) < 0 ∧ x2 = 1) ∨ (0 ≤ aI f0 (ad 4) (44 * x1 + 13 + 2 * i) ∧ x2 = 0)) 0 (y4_5 + 1)) (H : Heap) (locs : List Loc) (ls : Array Slot) (hw : Wd D A s.heap L0 f0 H locs) (hl : lv_has ls 5 [(0, .ref a0), (1, .int (iI x1)), (2, .int (iI x2)), (3, .int (iI z3_46)), (4, .int (iI y4_5))]), W p l e ({ frames := 1, cells := 0, slots := 0, locals := 22 } : Room) s m ([.ref a0, .int (iI x1), .int (iI x2)] : List Value).toArray below meth c H locs (0 + 0 + 0) (0 + 0 + 0) (MQ below (Qi D (tq cy) L0 f0 s.heap.size (fun (r : Int) (L1 : List Nat) (f1 : Nat → va_E) => L0 = L1 ∧ f0 = f1 ∧ (r = cn (fun i : Int => (aI f0 (ad 4) (44 * x1 + 13 + 2 * i) < 0 ∧ x2 = 1) ∨ (0 ≤ aI f0 (ad 4) (44 * x1 + 13 + 2 * i) ∧ x2 = 0)) 0 (aI f0 (ad 4) (44 * x1 + 11))))) ([.ref a0, .int (iI x1), .int (iI x2)] : List Value).toArray s 0 0 A) (F0 m 46 ls []) := by
            intro z3_46 lz3_46 uz3_46 k4 k5 k1 H locs ls hw hl
            obtain ⟨x_6, lx_6, ux_6, hx_6, ex_6⟩ := q_inc y4_5 (1)
            try (replace ex_6 : x_6 = y4_5 + (1) := by omega)
            refine lv_iinc (v := iI x_6) (lv' := [(4, .int (iI x_6)), (0, .ref a0), (1, .int (iI x1)), (2, .int (iI x2)), (3, .int (iI z3_46))]) hx hb dX10_oddMany_46 hl (k := 4) rfl hx_6 (by decide) rfl (fun ls hl => ?_)
            refine lv_goto (tgt := 5) hx hb dX10_oddMany_49 (by decide) ?_
            exact ih5 z3_46 lz3_46 uz3_46 x_6 lx_6 ux_6 (by omega) (by omega) (by omega) (by omega) (by first | exact (cn_le (by omega)).symm | exact cn_to k1 (by omega) | fail "none") (by omega) _ _ _ hw (lv_sub hl [1, 2, 3, 4, 0] rfl)
          refine q_icmp_ne (tgt := 46) hx hb dX10_oddMany_40 (by decide) ⟨lw0_39, uw0_39⟩ ⟨lx2, ux2⟩ (fun c40 => ?_) (fun c40 => ?_)
          · exact J46 y3_5 ly3_5 uy3_5 (by omega) (by omega) (by first | exact ct_step i3 (by omega) rfl (Or.inl ⟨by show (_ ∧ _) ∨ (_ ∧ _); omega, by omega⟩) | exact ct_step i3 (by omega) rfl (Or.inr ⟨by show ¬ ((_ ∧ _) ∨ (_ ∧ _)); omega, by omega⟩) | fail "none") _ _ _ hw (lv_sub hl [0, 1, 2, 3, 4] rfl)
          · obtain ⟨x_7, lx_7, ux_7, hx_7, ex_7⟩ := q_inc y3_5 (1)
            try (replace ex_7 : x_7 = y3_5 + (1) := by omega)
            refine lv_iinc (v := iI x_7) (lv' := [(3, .int (iI x_7)), (0, .ref a0), (1, .int (iI x1)), (2, .int (iI x2)), (4, .int (iI y4_5))]) hx hb dX10_oddMany_43 hl (k := 3) rfl hx_7 (by decide) rfl (fun ls hl => ?_)
            exact J46 x_7 lx_7 ux_7 (by omega) (by omega) (by first | exact ct_step i3 (by omega) rfl (Or.inl ⟨by show (_ ∧ _) ∨ (_ ∧ _); omega, by omega⟩) | exact ct_step i3 (by omega) rfl (Or.inr ⟨by show ¬ ((_ ∧ _) ∨ (_ ∧ _)); omega, by omega⟩) | fail "none") _ _ _ hw (lv_sub hl [1, 2, 3, 0, 4] rfl)
        refine q_if_ge (tgt := 38) hx hb dX10_oddMany_31 (by decide) ⟨lx_5, ux_5⟩ (fun c31 => ?_) (fun c31 => ?_)
        · refine q_iconst hx hb dX10_oddMany_38 ?_
          exact J39 0 (by decide) (by decide) (by omega) _ _ _ hw (lv_sub hl [0, 1, 2, 3, 4] rfl)
        · refine q_iconst hx hb dX10_oddMany_34 ?_
          refine lv_goto (tgt := 39) hx hb dX10_oddMany_35 (by decide) ?_
          exact J39 1 (by decide) (by decide) (by omega) _ _ _ hw (lv_sub hl [0, 1, 2, 3, 4] rfl)
  exact J5 ((((2147483647 : Int) - 0).toNat) + 1) 0 (by decide) (by decide) 0 (by decide) (by decide) (by omega) (by omega) (by omega) (by omega) (by first | exact (cn_le (by omega)).symm | exact cn_to k1 (by omega) | fail "none") (by omega) _ _ _ hw (lv_sub hl [2, 3, 4, 1, 0] rfl)
set_option maxHeartbeats 4000000 in
set_option maxRecDepth 100000 in
theorem c_X10_of_o {Z : Zt} (zo : Zok Z) (l : Launch) (D : va_G) (cy : Cy) (L0 : List Nat) (f0 : Nat → va_E) (a0 : Nat) (x1 : Int) (lx1 : -2147483648 ≤ x1) (ux1 : x1 ≤ 2147483647) (x2 : Int) (lx2 : -2147483648 ≤ x2) (ux2 : x2 ≤ 2147483647) (ad : Nat → Nat) (hs : MS cy L0 f0 a0 ad) (hv : MV f0 a0 ad) (hd : DT f0 ad 36525) (mo : MOk f0 a0 ad) (O : Int → Int) (om : (0 ≤ x1 ∧ x1 < fI f0 a0 5) → OM (aI f0 (ad 4)) (44 * x1) O) (hk : (0 ≤ x1 ∧ x1 < fI f0 a0 5) → OKk (aI f0 (ad 4)) (44 * x1) O) : Ci Z l yX10_of (Cond.code yX10_of cX10_of 4 (some .int) :: TB) ({ frames := 3, cells := 0, slots := 0, locals := 74 } : Room) 0 0 D (tq cy) [.ref a0, .int (iI x1), .int (iI x2)] L0 f0 (fun (r : Int) (L1 : List Nat) (f1 : Nat → va_E) => L0 = L1 ∧ MS cy L0 f1 a0 ad ∧ Kp a0 ad [12, 13] [10] f0 f1 ∧ ((r = -2 ∧ ¬ (0 ≤ x1 ∧ x1 < fI f0 a0 5)) ∨ ((0 ≤ x1 ∧ x1 < fI f0 a0 5) ∧ TELL (aI f0 (ad 4)) (44 * x1) O x2 r))) := by
  refine Ci.enter (cc := cX10_of) (n := 4) rfl (plainFor_of_name (by decide)) (Nat.le_of_ble_eq_true rfl) ?_
  intro p e s m below meth c ls A hx hb hr hts hown hlocks hnm hml hK hA hAe hw hZ hl
  have hown : s.vm.findClass RX10 = some m.cls := hown
  have hl : lv_has ls 4 [(0, .ref a0), (1, .int (iI x1)), (2, .int (iI x2))] := hl
  have hN : ZN s := (zo.2.2.2.2 _ _ _ hZ).2
  have hE : Kp a0 ad [12, 13] [10] f0 f0 := Kp.refl _ _ _ _ _
  have m5 := hv.1
  have m6 := hv.2.1
  refine lv_aload_n hx hb dX10_of_0 rfl (lv_at hl 0 rfl) ?_
  refine q_iconst hx hb dX10_of_1 ?_
  refine q_puti (ci := 8) (C := RX10) (T := TX10) (N := 26) hx hb hts (fun w h => List.mem_cons_of_mem _ (mfX100 w h)) hown hK hw hs.1 hs.2.1 rfl 10 (by decide) (hts _ (List.mem_cons_of_mem _ (mr4 _ (List.mem_of_getElem? (i := 19) rfl)))) (fun _ h => h) tyX10 tyX10_ok nmX10 rfl (ty := .int) (by decide +kernel) rfl rfl dX10_of_2 (fun H locs hw => ?_)
  obtain ⟨f_1, ef_1⟩ : ∃ g : Nat → va_E, g = pU f0 a0 10 (.int (iI 0)) := ⟨_, rfl⟩
  have v10_f_1 : fI f_1 a0 10 = 0 := by rw [ef_1]; exact fI_pU_self hs.2.1 rfl ⟨by decide, by decide⟩
  have t5_f_1 : fI f_1 a0 5 = fI f0 a0 5 := by rw [ef_1]; exact fI_pU (Or.inr (by decide))
  have hE := hE.trans (show Kp a0 ad [12, 13] [10] f0 f_1 by rw [ef_1]; exact Kp_pU hs (by decide))
  have hs_ := hs
  have hs : MS cy L0 f_1 a0 ad := by rw [ef_1]; exact MS_pU hs rfl
  rw [← ef_1] at hw
  have Q4 : aI f_1 (ad 4) = aI f0 (ad 4) := funext fun x => hE.1 4 rfl (by decide) x
  have Q4a : aI f_1 (ad 4) = aI f0 (ad 4) := funext fun x => by rw [ef_1]; exact hs_.aI_pU _ x
  refine lv_aload_n hx hb dX10_of_5 rfl (lv_at hl 0 rfl) ?_
  refine lv_iload_n hx hb dX10_of_6 rfl (lv_at hl 1 rfl) ?_
  refine q_call_i hA hK hw (va_runV (As := [.int (iI x1)]) (rest := []) ⟨hx, hb, hml, hown, hts⟩ (c_X10_isBooking zo l D cy L0 f_1 a0 x1 lx1 ux1 ad hs (by omega) _) (cwV 1 hts (gT (inV (mr22 _ (List.mem_of_getElem? (i := 21) rfl)) (mr22 _ (List.mem_of_getElem? (i := 22) rfl)) (mr22 _ (List.mem_of_getElem? (i := 23) rfl)) (mr1 _ (List.mem_of_getElem? (i := 5) rfl)) (mr23 _ (List.mem_of_getElem? (i := 0) rfl)))) rfl rfl rfl (by decide +kernel) ⟨Nat.le_of_ble_eq_true rfl, Nat.le_of_ble_eq_true rfl⟩) (Wd.preV zo hA hZ hw hK hs.1 hs.2.1 rfl) rfl rfl hl.1 rfl (lv_room (Nat.le_of_ble_eq_true rfl)) dX10_of_7 ⟨Nat.le_of_ble_eq_true rfl, Nat.le_of_ble_eq_true rfl⟩) (fun x_2 L1 f1 H locs lx_2 ux_2 ex_2 hw => ?_)
  obtain ⟨rfl, rfl, ex_2⟩ := ex_2
  refine q_if_eq (tgt := 23) hx hb dX10_of_10 (by decide) ⟨lx_2, ux_2⟩ (fun c10 => ?_) (fun c10 => ?_)
  · refine q_bipush hx hb dX10_of_23 rfl ?_
    exact q_ret_i hx hb hr hlocks hK hAe hw ⟨by decide, by decide⟩ (Nat.le_of_ble_eq_true rfl) (Nat.le_of_ble_eq_true rfl) dX10_of_25 (by first | exact ⟨rfl, hs, hE, Or.inl ⟨rfl, by omega⟩⟩ | exact ⟨rfl, hs, hE, Or.inr ⟨⟨by omega, by omega⟩, Or.inr (Or.inr (Or.inr (Or.inr (Or.inr ⟨by omega, rfl⟩))))⟩⟩ | fail "none")
  · refine lv_iload_n hx hb dX10_of_13 rfl (lv_at hl 2 rfl) ?_
    refine q_iconst hx hb dX10_of_14 ?_
    refine q_bipush hx hb dX10_of_15 rfl ?_
    refine q_call_i hA hK hw (va_runS (As := [.int (iI x2), .int (iI 0), .int (iI 13)]) (rest := []) ⟨hx, hb, hml, hown, hts⟩ (c_X10_within zo l D cy L0 f_1 x2 lx2 ux2 0 (by decide) (by decide) 13 (by decide) (by decide) _) (va_cwS 3 hts (gT (inS (mr5 _ (List.mem_of_getElem? (i := 9) rfl)) (mr5 _ (List.mem_of_getElem? (i := 10) rfl)) (mr1 _ (List.mem_of_getElem? (i := 5) rfl)) (mr5 _ (List.mem_of_getElem? (i := 11) rfl)))) rfl rfl rfl (by decide +kernel) ⟨Nat.le_of_ble_eq_true rfl, Nat.le_of_ble_eq_true rfl⟩) (Wd.preS zo hA hZ hw hK) rfl rfl hl.1 rfl (lv_room (Nat.le_of_ble_eq_true rfl)) dX10_of_17 ⟨Nat.le_of_ble_eq_true rfl, Nat.le_of_ble_eq_true rfl⟩) (fun x_3 L1 f1 H locs lx_3 ux_3 ex_3 hw => ?_)
    obtain ⟨rfl, rfl, ex_3⟩ := ex_3
    refine q_if_ne (tgt := 26) hx hb dX10_of_20 (by decide) ⟨lx_3, ux_3⟩ (fun c20 => ?_) (fun c20 => ?_)
    · have rv0 := hv.row x1 (by omega) (by omega)
      have rv_x1 := (show MV f_1 a0 ad by first | exact hv | exact hv.kp hE (by decide) (by decide)).row x1 (by omega) (by omega)
      have om0 := om ⟨by omega, by omega⟩
      have hk0 := hk ⟨by omega, by omega⟩
      refine lv_iload_n hx hb dX10_of_26 rfl (lv_at hl 2 rfl) ?_
      refine q_bipush hx hb dX10_of_27 rfl ?_
      refine q_icmp_ge (tgt := 39) hx hb dX10_of_29 (by decide) ⟨lx2, ux2⟩ ⟨by decide, by decide⟩ (fun c29 => ?_) (fun c29 => ?_)
      · refine lv_iload_n hx hb dX10_of_39 rfl (lv_at hl 2 rfl) ?_
        refine q_bipush hx hb dX10_of_40 rfl ?_
        refine q_icmp_ge (tgt := 62) hx hb dX10_of_42 (by decide) ⟨lx2, ux2⟩ ⟨by decide, by decide⟩ (fun c42 => ?_) (fun c42 => ?_)
        · refine lv_aload_n hx hb dX10_of_62 rfl (lv_at hl 0 rfl) ?_
          refine lv_iload_n hx hb dX10_of_63 rfl (lv_at hl 1 rfl) ?_
          refine q_iconst hx hb dX10_of_64 ?_
          refine q_call_i hA hK hw (va_runV (As := [.int (iI x1), .int (iI 0)]) (rest := []) ⟨hx, hb, hml, hown, hts⟩ (c_X10_laysKeys_f zo l D cy L0 f_1 a0 x1 lx1 ux1 0 (by decide) (by decide) ad hs (by omega) (by omega) (by omega) (by omega) (by omega) (by omega) (by omega) (by omega) (by omega) (by omega) (by omega) (by first | exact hd | exact hd.kp hE (by decide) (by decide) (by decide) (by decide)) (by first | exact mo x1 (by omega) (by omega) | (rw [Q4]; exact mo x1 (by omega) (by omega))) _) (cwV 2 hts (gT (inV (mr24 _ (List.mem_of_getElem? (i := 20) rfl)) (mr24 _ (List.mem_of_getElem? (i := 21) rfl)) (mr24 _ (List.mem_of_getElem? (i := 22) rfl)) (mr1 _ (List.mem_of_getElem? (i := 5) rfl)) (mr24 _ (List.mem_of_getElem? (i := 23) rfl)))) rfl rfl rfl (by decide +kernel) ⟨Nat.le_of_ble_eq_true rfl, Nat.le_of_ble_eq_true rfl⟩) (Wd.preV zo hA hZ hw hK hs.1 hs.2.1 rfl) rfl rfl hl.1 rfl (lv_room (Nat.le_of_ble_eq_true rfl)) dX10_of_65 ⟨Nat.le_of_ble_eq_true rfl, Nat.le_of_ble_eq_true rfl⟩) (fun x_4 L1 f_5 H locs lx_4 ux_4 ex_4 hw => ?_)
          obtain ⟨rfl, hs, hX, ex_4⟩ := ex_4
          have hE := hE.trans (hX.mono (rs' := [12, 13]) (fs' := [10]) (by decide) (by decide))
          have t5_f_5 : fI f_5 a0 5 = fI f_1 a0 5 := hX.2 5 (by decide)
          have Q4 : aI f_5 (ad 4) = aI f0 (ad 4) := funext fun x => hE.1 4 rfl (by decide) x
          obtain ⟨p65a, p65b, -, kl⟩ := ex_4
          try rw [Q4a] at kl
          have kl2 : KL (Ky (onK (aI f0 (ad 4) (44 * x1 + 3)) (aI f0 (ad 4) (44 * x1 + 4)) (aI f0 (ad 4) (44 * x1 + 5)) (aI f0 (ad 4) (44 * x1 + 6)) (aI f0 (ad 4) (44 * x1 + 7))) (aI f0 (ad 4) (44 * x1 + 10)) (UN (aI f0 (ad 4)) (44 * x1)) (aI f0 (ad 4) (44 * x1 + 9))) (fun j => aI f_5 (ad 12) j) x_4 := kl.cg (fun j => aI_cg (by omega))
          rw [← kg_ref (g := aI f0 (ad 4)) (p := 44 * x1) (by omega)] at kl2
          have hr9 : ∀ d : Int, KG (aI f0 (ad 4)) (44 * x1) d → 0 ≤ d ∧ d ≤ 36524 := fun d z => by have z1 := z.at; have z2 : HI (aI f0 (ad 4) (44 * x1 + 8)) ≤ 36524 := (by unfold HI; split <;> omega); omega
          have kb := kl2.bd hr9
          clear kl
          refine lv_istore_n (lv' := [(3, .int (iI x_4)), (0, .ref a0), (1, .int (iI x1)), (2, .int (iI x2))]) hx hb dX10_of_68 rfl hl (by decide) rfl (fun ls hl => ?_)
          refine lv_iload_n hx hb dX10_of_69 rfl (lv_at hl 0 rfl) ?_
          refine q_if_ne (tgt := 77) hx hb dX10_of_70 (by decide) ⟨lx_4, ux_4⟩ (fun c70 => ?_) (fun c70 => ?_)
          · refine lv_iload_n hx hb dX10_of_77 rfl (lv_at hl 3 rfl) ?_
            refine q_bipush hx hb dX10_of_78 rfl ?_
            refine q_icmp_ne (tgt := 92) hx hb dX10_of_80 (by decide) ⟨lx2, ux2⟩ ⟨by decide, by decide⟩ (fun c80 => ?_) (fun c80 => ?_)
            · refine lv_aload_n hx hb dX10_of_92 rfl (lv_at hl 1 rfl) ?_
              refine q_getr (ci := 8) (C := RX10) (T := TX10) (N := 26) hx hb hts (fun w h => List.mem_cons_of_mem _ (mfX100 w h)) hown hK hw hs.1 hs.2.1 rfl 12 (by decide) (hts _ (List.mem_cons_of_mem _ (mr3 _ (List.mem_of_getElem? (i := 20) rfl)))) (fun _ h => h) rfl (hs.2.2.1 12 rfl).1 dX10_of_93 ?_
              refine lv_iload_n hx hb dX10_of_96 rfl (lv_at hl 0 rfl) ?_
              refine q_iconst hx hb dX10_of_97 ?_
              first | refine q_isub hx hb dX10_of_98 ⟨by omega, by omega⟩ (fun x_6 lx_6 ux_6 ex_6 => ?_) | refine q_isubw hx hb dX10_of_98 (fun x_6 lx_6 ux_6 ex_6 => ?_)
              refine q_iald hx hb hK hw (hs.2.2.1 12 rfl).2.1 1 (hs.2.2.1 12 rfl).2.2 rfl ⟨lx_6, ux_6⟩ (by omega) (by show _ < ((73050 : Nat) : Int); omega) dX10_of_99 (fun x_7 lx_7 ux_7 ex_7 => ?_)
              have g99 : x_7 = aI f_5 (ad 12) (x_4 - 1) := ex_7.trans (aI_cg (by omega))
              exact q_ret_i hx hb hr hlocks hK hAe hw ⟨lx_7, ux_7⟩ (Nat.le_of_ble_eq_true rfl) (Nat.le_of_ble_eq_true rfl) dX10_of_100 (by first | exact ⟨rfl, hs, hE, Or.inr ⟨⟨by omega, by omega⟩, (Decidable.em (x2 = 12)).elim (fun q12 => Or.inr (Or.inr (Or.inr (Or.inl ⟨q12, -1, kb.1 (by omega)⟩)))) (fun q12 => Or.inr (Or.inr (Or.inr (Or.inr (Or.inl ⟨by omega, -1, kb.1 (by omega)⟩)))))⟩⟩ | exact ⟨rfl, hs, hE, Or.inr ⟨⟨by omega, by omega⟩, Or.inr (Or.inr (Or.inr (Or.inl ⟨by omega, aI f_5 (ad 12) (x_4 - 1), by rw [g88]; exact kb.2 (by omega)⟩)))⟩⟩ | exact ⟨rfl, hs, hE, Or.inr ⟨⟨by omega, by omega⟩, Or.inr (Or.inr (Or.inr (Or.inr (Or.inl ⟨by omega, aI f_5 (ad 12) 0, by rw [g99]; exact kb.2 (by omega)⟩))))⟩⟩ | fail "none")
            · refine lv_aload_n hx hb dX10_of_83 rfl (lv_at hl 1 rfl) ?_
              refine q_getr (ci := 8) (C := RX10) (T := TX10) (N := 26) hx hb hts (fun w h => List.mem_cons_of_mem _ (mfX100 w h)) hown hK hw hs.1 hs.2.1 rfl 12 (by decide) (hts _ (List.mem_cons_of_mem _ (mr3 _ (List.mem_of_getElem? (i := 20) rfl)))) (fun _ h => h) rfl (hs.2.2.1 12 rfl).1 dX10_of_84 ?_
              refine q_iconst hx hb dX10_of_87 ?_
              refine q_iald hx hb hK hw (hs.2.2.1 12 rfl).2.1 1 (hs.2.2.1 12 rfl).2.2 rfl ⟨by decide, by decide⟩ (by omega) (by show _ < ((73050 : Nat) : Int); omega) dX10_of_88 (fun x_8 lx_8 ux_8 ex_8 => ?_)
              have g88 : x_8 = aI f_5 (ad 12) 0 := ex_8.trans (aI_cg (by omega))
              refine lv_goto (tgt := 100) hx hb dX10_of_89 (by decide) ?_
              exact q_ret_i hx hb hr hlocks hK hAe hw ⟨lx_8, ux_8⟩ (Nat.le_of_ble_eq_true rfl) (Nat.le_of_ble_eq_true rfl) dX10_of_100 (by first | exact ⟨rfl, hs, hE, Or.inr ⟨⟨by omega, by omega⟩, (Decidable.em (x2 = 12)).elim (fun q12 => Or.inr (Or.inr (Or.inr (Or.inl ⟨q12, -1, kb.1 (by omega)⟩)))) (fun q12 => Or.inr (Or.inr (Or.inr (Or.inr (Or.inl ⟨by omega, -1, kb.1 (by omega)⟩)))))⟩⟩ | exact ⟨rfl, hs, hE, Or.inr ⟨⟨by omega, by omega⟩, Or.inr (Or.inr (Or.inr (Or.inl ⟨by omega, aI f_5 (ad 12) (x_4 - 1), by rw [g88]; exact kb.2 (by omega)⟩)))⟩⟩ | exact ⟨rfl, hs, hE, Or.inr ⟨⟨by omega, by omega⟩, Or.inr (Or.inr (Or.inr (Or.inr (Or.inl ⟨by omega, aI f_5 (ad 12) 0, by rw [g99]; exact kb.2 (by omega)⟩))))⟩⟩ | fail "none")
          · refine q_iconst hx hb dX10_of_73 ?_
            refine lv_goto (tgt := 100) hx hb dX10_of_74 (by decide) ?_
            exact q_ret_i hx hb hr hlocks hK hAe hw ⟨by decide, by decide⟩ (Nat.le_of_ble_eq_true rfl) (Nat.le_of_ble_eq_true rfl) dX10_of_100 (by first | exact ⟨rfl, hs, hE, Or.inr ⟨⟨by omega, by omega⟩, (Decidable.em (x2 = 12)).elim (fun q12 => Or.inr (Or.inr (Or.inr (Or.inl ⟨q12, -1, kb.1 (by omega)⟩)))) (fun q12 => Or.inr (Or.inr (Or.inr (Or.inr (Or.inl ⟨by omega, -1, kb.1 (by omega)⟩)))))⟩⟩ | exact ⟨rfl, hs, hE, Or.inr ⟨⟨by omega, by omega⟩, Or.inr (Or.inr (Or.inr (Or.inl ⟨by omega, aI f_5 (ad 12) (x_4 - 1), by rw [g88]; exact kb.2 (by omega)⟩)))⟩⟩ | exact ⟨rfl, hs, hE, Or.inr ⟨⟨by omega, by omega⟩, Or.inr (Or.inr (Or.inr (Or.inr (Or.inl ⟨by omega, aI f_5 (ad 12) 0, by rw [g99]; exact kb.2 (by omega)⟩))))⟩⟩ | fail "none")
        · refine lv_aload_n hx hb dX10_of_45 rfl (lv_at hl 0 rfl) ?_
          refine lv_iload_n hx hb dX10_of_46 rfl (lv_at hl 1 rfl) ?_
          refine lv_iload_n hx hb dX10_of_47 rfl (lv_at hl 2 rfl) ?_
          refine q_bipush hx hb dX10_of_48 rfl ?_
          refine q_icmp_ne (tgt := 57) hx hb dX10_of_50 (by decide) ⟨lx2, ux2⟩ ⟨by decide, by decide⟩ (fun c50 => ?_) (fun c50 => ?_)
          · refine q_iconst hx hb dX10_of_57 ?_
            refine q_call_i hA hK hw (va_runV (As := [.int (iI x1), .int (iI 0)]) (rest := []) ⟨hx, hb, hml, hown, hts⟩ (c_X10_oddMany_o zo l D cy L0 f_1 a0 x1 lx1 ux1 0 (by decide) (by decide) ad hs (by omega) (by omega) (by omega) (by omega) (by omega) _) (cwV 2 hts (gT (inV (mr44 _ (List.mem_of_getElem? (i := 10) rfl)) (mr44 _ (List.mem_of_getElem? (i := 11) rfl)) (mr44 _ (List.mem_of_getElem? (i := 12) rfl)) (mr1 _ (List.mem_of_getElem? (i := 5) rfl)) (mr44 _ (List.mem_of_getElem? (i := 13) rfl)))) rfl rfl rfl (by decide +kernel) ⟨Nat.le_of_ble_eq_true rfl, Nat.le_of_ble_eq_true rfl⟩) (Wd.preV zo hA hZ hw hK hs.1 hs.2.1 rfl) rfl rfl hl.1 rfl (lv_room (Nat.le_of_ble_eq_true rfl)) dX10_of_58 ⟨Nat.le_of_ble_eq_true rfl, Nat.le_of_ble_eq_true rfl⟩) (fun x_9 L1 f1 H locs lx_9 ux_9 ex_9 hw => ?_)
            obtain ⟨rfl, rfl, ex_9⟩ := ex_9
            have g58 := ex_9
            rw [Q4a] at g58
            exact q_ret_i hx hb hr hlocks hK hAe hw ⟨lx_9, ux_9⟩ (Nat.le_of_ble_eq_true rfl) (Nat.le_of_ble_eq_true rfl) dX10_of_61 (by exact ⟨rfl, hs, hE, Or.inr ⟨⟨by omega, by omega⟩, om_cnt om0 hk0 (by omega) g58 (by omega)⟩⟩)
          · refine q_iconst hx hb dX10_of_53 ?_
            refine lv_goto (tgt := 58) hx hb dX10_of_54 (by decide) ?_
            refine q_call_i hA hK hw (va_runV (As := [.int (iI x1), .int (iI 1)]) (rest := []) ⟨hx, hb, hml, hown, hts⟩ (c_X10_oddMany_o zo l D cy L0 f_1 a0 x1 lx1 ux1 1 (by decide) (by decide) ad hs (by omega) (by omega) (by omega) (by omega) (by omega) _) (cwV 2 hts (gT (inV (mr44 _ (List.mem_of_getElem? (i := 10) rfl)) (mr44 _ (List.mem_of_getElem? (i := 11) rfl)) (mr44 _ (List.mem_of_getElem? (i := 12) rfl)) (mr1 _ (List.mem_of_getElem? (i := 5) rfl)) (mr44 _ (List.mem_of_getElem? (i := 13) rfl)))) rfl rfl rfl (by decide +kernel) ⟨Nat.le_of_ble_eq_true rfl, Nat.le_of_ble_eq_true rfl⟩) (Wd.preV zo hA hZ hw hK hs.1 hs.2.1 rfl) rfl rfl hl.1 rfl (lv_room (Nat.le_of_ble_eq_true rfl)) dX10_of_58 ⟨Nat.le_of_ble_eq_true rfl, Nat.le_of_ble_eq_true rfl⟩) (fun x_10 L1 f1 H locs lx_10 ux_10 ex_10 hw => ?_)
            obtain ⟨rfl, rfl, ex_10⟩ := ex_10
            have g58 := ex_10
            rw [Q4a] at g58
            exact q_ret_i hx hb hr hlocks hK hAe hw ⟨lx_10, ux_10⟩ (Nat.le_of_ble_eq_true rfl) (Nat.le_of_ble_eq_true rfl) dX10_of_61 (by exact ⟨rfl, hs, hE, Or.inr ⟨⟨by omega, by omega⟩, om_cnt om0 hk0 (by omega) g58 (by omega)⟩⟩)
      · refine lv_aload_n hx hb dX10_of_32 rfl (lv_at hl 0 rfl) ?_
        refine lv_iload_n hx hb dX10_of_33 rfl (lv_at hl 1 rfl) ?_
        refine lv_iload_n hx hb dX10_of_34 rfl (lv_at hl 2 rfl) ?_
        refine q_call_i hA hK hw (va_runV (As := [.int (iI x1), .int (iI x2)]) (rest := []) ⟨hx, hb, hml, hown, hts⟩ (c_X10_get zo l D cy L0 f_1 a0 x1 lx1 ux1 x2 lx2 ux2 ad hs (by omega) (by omega) (by omega) (by omega) _) (cwV 2 hts (gT (inV (mr25 _ (List.mem_of_getElem? (i := 0) rfl)) (mr25 _ (List.mem_of_getElem? (i := 1) rfl)) (mr25 _ (List.mem_of_getElem? (i := 2) rfl)) (mr1 _ (List.mem_of_getElem? (i := 5) rfl)) (mr25 _ (List.mem_of_getElem? (i := 3) rfl)))) rfl rfl rfl (by decide +kernel) ⟨Nat.le_of_ble_eq_true rfl, Nat.le_of_ble_eq_true rfl⟩) (Wd.preV zo hA hZ hw hK hs.1 hs.2.1 rfl) rfl rfl hl.1 rfl (lv_room (Nat.le_of_ble_eq_true rfl)) dX10_of_35 ⟨Nat.le_of_ble_eq_true rfl, Nat.le_of_ble_eq_true rfl⟩) (fun x_11 L1 f1 H locs lx_11 ux_11 ex_11 hw => ?_)
        obtain ⟨rfl, rfl, ex_11⟩ := ex_11
        have g35 := ex_11
        rw [Q4a] at g35
        exact q_ret_i hx hb hr hlocks hK hAe hw ⟨lx_11, ux_11⟩ (Nat.le_of_ble_eq_true rfl) (Nat.le_of_ble_eq_true rfl) dX10_of_38 (by exact ⟨rfl, hs, hE, Or.inr ⟨⟨by omega, by omega⟩, TELL.w (j := x2) g35 rfl rfl (by omega) (by omega)⟩⟩)
    · refine q_bipush hx hb dX10_of_23 rfl ?_
      exact q_ret_i hx hb hr hlocks hK hAe hw ⟨by decide, by decide⟩ (Nat.le_of_ble_eq_true rfl) (Nat.le_of_ble_eq_true rfl) dX10_of_25 (by first | exact ⟨rfl, hs, hE, Or.inl ⟨rfl, by omega⟩⟩ | exact ⟨rfl, hs, hE, Or.inr ⟨⟨by omega, by omega⟩, Or.inr (Or.inr (Or.inr (Or.inr (Or.inr ⟨by omega, rfl⟩))))⟩⟩ | fail "none")
