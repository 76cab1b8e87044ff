set_option maxHeartbeats 4000000 in
set_option maxRecDepth 100000 in
theorem c_X7_has {Z : Zt} (zo : Zok Z) (l : Launch) (D : va_G) (cy : Cy) (L0 : List Nat) (f0 : Nat → va_E) (a0 : Nat) (x1 : Int) (lx1 : -2147483648 ≤ x1) (ux1 : x1 ≤ 2147483647) (m_a0 : a0 ∈ L0) (o_a0 : Ob f0 a0 5) (hg : GI cy L0 f0) : Ci Z l yX7_has (Cond.code yX7_has cX7_has 2 (some .boolean) :: TB) ({ frames := 0, cells := 0, slots := 0, locals := 0 } : Room) 0 0 D (tq cy) [.ref a0, .int (iI x1)] L0 f0 (fun (r : Int) (L1 : List Nat) (f1 : Nat → va_E) => L0 = L1 ∧ f0 = f1 ∧ (r = 1 ∧ 0 ≤ x1 ∧ x1 < 12 ∧ x1 < fI f0 a0 1 ∨ r = 0)) := by
  refine Ci.enter (cc := cX7_has) (n := 2) rfl (plainFor_of_name (by decide)) (Nat.le_of_ble_eq_true rfl) ?_
  intro p e s m below meth c ls A hx hb hr hts hown hlocks hnm hml hK hA hAe hw hZ hl
  have hown : s.vm.findClass RX7 = some m.cls := hown
  have hl : lv_has ls 2 [(0, .ref a0), (1, .int (iI x1))] := hl
  have hN : ZN s := (zo.2.2.2.2 _ _ _ hZ).2
  refine lv_iload_n hx hb dX7_has_0 rfl (lv_at hl 1 rfl) ?_
  refine q_if_lt (tgt := 16) hx hb dX7_has_1 (by decide) ⟨lx1, ux1⟩ (fun c1 => ?_) (fun c1 => ?_)
  · refine q_iconst hx hb dX7_has_16 ?_
    exact q_ret_z hx hb hr hlocks hK hAe hw (by omega) (Nat.le_of_ble_eq_true rfl) (Nat.le_of_ble_eq_true rfl) dX7_has_17 ⟨rfl, rfl, by omega⟩
  · refine lv_iload_n hx hb dX7_has_4 rfl (lv_at hl 1 rfl) ?_
    refine lv_aload_n hx hb dX7_has_5 rfl (lv_at hl 0 rfl) ?_
    refine q_geti (ci := 5) (C := RX7) (T := TX7) (N := 2) hx hb hts (fun w h => List.mem_cons_of_mem _ (mfX70 w h)) hown hK hw m_a0 o_a0 rfl 1 (by decide) (hts _ (List.mem_cons_of_mem _ (mr2 _ (List.mem_of_getElem? (i := 4) rfl)))) (fun _ h => h) rfl dX7_has_6 (fun x_1 lx_1 ux_1 ex_1 => ?_)
    have bx_1 : 0 ≤ x_1 ∧ x_1 ≤ 12 := by rw [ex_1]; exact hg.1 _ m_a0 5 1 o_a0
    refine q_icmp_ge (tgt := 16) hx hb dX7_has_9 (by decide) ⟨lx1, ux1⟩ ⟨lx_1, ux_1⟩ (fun c9 => ?_) (fun c9 => ?_)
    · refine q_iconst hx hb dX7_has_16 ?_
      exact q_ret_z hx hb hr hlocks hK hAe hw (by omega) (Nat.le_of_ble_eq_true rfl) (Nat.le_of_ble_eq_true rfl) dX7_has_17 ⟨rfl, rfl, by omega⟩
    · refine q_iconst hx hb dX7_has_12 ?_
      refine lv_goto (tgt := 17) hx hb dX7_has_13 (by decide) ?_
      exact q_ret_z hx hb hr hlocks hK hAe hw (by omega) (Nat.le_of_ble_eq_true rfl) (Nat.le_of_ble_eq_true rfl) dX7_has_17 ⟨rfl, rfl, by omega⟩
set_option maxHeartbeats 4000000 in
set_option maxRecDepth 100000 in
theorem c_X7_at {Z : Zt} (zo : Zok Z) (l : Launch) (D : va_G) (cy : Cy) (L0 : List Nat) (f0 : Nat → va_E) (a0 : Nat) (x1 : Int) (lx1 : -2147483648 ≤ x1) (ux1 : x1 ≤ 2147483647) (m_a0 : a0 ∈ L0) (o_a0 : Ob f0 a0 5) (hg : GI cy L0 f0) (h1 : 0 ≤ x1) (h2 : x1 < 12) : Cr Z l yX7_at (Cond.code yX7_at cX7_at 2 (some (.object "BookIndex$Booking")) :: TB) ({ frames := 0, cells := 0, slots := 0, locals := 0 } : Room) 0 0 D (tq cy) [.ref a0, .int (iI x1)] L0 f0 (fun (r : Nat) (L1 : List Nat) (f1 : Nat → va_E) => L0 = L1 ∧ f0 = f1 ∧ (r ∈ L0 ∧ Ob f0 r 0)) := by
  refine Cr.enter (cc := cX7_at) (n := 2) rfl (plainFor_of_name (by decide)) (Nat.le_of_ble_eq_true rfl) ?_
  intro p e s m below meth c ls A hx hb hr hts hown hlocks hnm hml hK hA hAe hw hZ hl
  have hown : s.vm.findClass RX7 = some m.cls := hown
  have hl : lv_has ls 2 [(0, .ref a0), (1, .int (iI x1))] := hl
  have hN : ZN s := (zo.2.2.2.2 _ _ _ hZ).2
  refine lv_aload_n hx hb dX7_at_0 rfl (lv_at hl 0 rfl) ?_
  obtain ⟨r_1, er_1, m_r_1, o_r_1⟩ := (show ∃ r, fR f0 a0 0 = some r ∧ r ∈ L0 ∧ ArR f0 r cy.2.2.2.1 12 from hg.2.1 _ m_a0 5 0 o_a0)
  refine q_getr (ci := 5) (C := RX7) (T := TX7) (N := 2) hx hb hts (fun w h => List.mem_cons_of_mem _ (mfX70 w h)) hown hK hw m_a0 o_a0 rfl 0 (by decide) (hts _ (List.mem_cons_of_mem _ (mr2 _ (List.mem_of_getElem? (i := 3) rfl)))) (fun _ h => h) rfl er_1 dX7_at_1 ?_
  refine lv_iload_n hx hb dX7_at_4 rfl (lv_at hl 1 rfl) ?_
  obtain ⟨r_2, er_2, m_r_2, o_r_2⟩ := hg.2.2.1 _ m_r_1 x1 o_r_1 (by omega) (by omega)
  refine q_aald hx hb hK hw m_r_1 3 o_r_1 rfl ⟨lx1, ux1⟩ (by omega) (by omega) er_2 dX7_at_5 ?_
  show W _ _ _ _ _ _ _ _ _ _ _ _ _ _ _ (F0 m 6 ls (.ref r_2 :: []))
  exact q_ret_r hx hb hr hlocks hK hAe hw (Nat.le_of_ble_eq_true rfl) (Nat.le_of_ble_eq_true rfl) dX7_at_6 ⟨rfl, rfl, by exact ⟨m_r_2, o_r_2⟩⟩
set_option maxHeartbeats 4000000 in
set_option maxRecDepth 100000 in
theorem c_X7_isOf {Z : Zt} (zo : Zok Z) (l : Launch) (D : va_G) (cy : Cy) (L0 : List Nat) (f0 : Nat → va_E) (a0 : Nat) (x1 : Int) (lx1 : -2147483648 ≤ x1) (ux1 : x1 ≤ 2147483647) (x2 : Int) (lx2 : -2147483648 ≤ x2) (ux2 : x2 ≤ 2147483647) (m_a0 : a0 ∈ L0) (o_a0 : Ob f0 a0 5) (hg : GI cy L0 f0) (h1 : 0 ≤ x1) (h2 : x1 < 12) : Ci Z l yX7_isOf (Cond.code yX7_isOf cX7_isOf 3 (some .boolean) :: TB) ({ frames := 0, cells := 0, slots := 0, locals := 0 } : Room) 0 0 D (tq cy) [.ref a0, .int (iI x1), .int (iI x2)] L0 f0 (fun (r : Int) (L1 : List Nat) (f1 : Nat → va_E) => L0 = L1 ∧ f0 = f1 ∧ (r = 0 ∨ r = 1)) := by
  refine Ci.enter (cc := cX7_isOf) (n := 3) rfl (plainFor_of_name (by decide)) (Nat.le_of_ble_eq_true rfl) ?_
  intro p e s m below meth c ls A hx hb hr hts hown hlocks hnm hml hK hA hAe hw hZ hl
  have hown : s.vm.findClass RX7 = some m.cls := hown
  have hl : lv_has ls 3 [(0, .ref a0), (1, .int (iI x1)), (2, .int (iI x2))] := hl
  have hN : ZN s := (zo.2.2.2.2 _ _ _ hZ).2
  refine lv_iload_n hx hb dX7_isOf_0 rfl (lv_at hl 2 rfl) ?_
  refine q_iconst hx hb dX7_isOf_1 ?_
  refine q_icmp_eq (tgt := 18) hx hb dX7_isOf_2 (by decide) ⟨lx2, ux2⟩ ⟨by decide, by decide⟩ (fun c2 => ?_) (fun c2 => ?_)
  · refine q_iconst hx hb dX7_isOf_18 ?_
    refine lv_goto (tgt := 23) hx hb dX7_isOf_19 (by decide) ?_
    exact q_ret_z hx hb hr hlocks hK hAe hw (by omega) (Nat.le_of_ble_eq_true rfl) (Nat.le_of_ble_eq_true rfl) dX7_isOf_23 ⟨rfl, rfl, by omega⟩
  · refine lv_aload_n hx hb dX7_isOf_5 rfl (lv_at hl 0 rfl) ?_
    obtain ⟨r_1, er_1, m_r_1, o_r_1⟩ := (show ∃ r, fR f0 a0 0 = some r ∧ r ∈ L0 ∧ ArR f0 r cy.2.2.2.1 12 from hg.2.1 _ m_a0 5 0 o_a0)
    refine q_getr (ci := 5) (C := RX7) (T := TX7) (N := 2) hx hb hts (fun w h => List.mem_cons_of_mem _ (mfX70 w h)) hown hK hw m_a0 o_a0 rfl 0 (by decide) (hts _ (List.mem_cons_of_mem _ (mr2 _ (List.mem_of_getElem? (i := 3) rfl)))) (fun _ h => h) rfl er_1 dX7_isOf_6 ?_
    refine lv_iload_n hx hb dX7_isOf_9 rfl (lv_at hl 1 rfl) ?_
    obtain ⟨r_2, er_2, m_r_2, o_r_2⟩ := hg.2.2.1 _ m_r_1 x1 o_r_1 (by omega) (by omega)
    refine q_aald hx hb hK hw m_r_1 3 o_r_1 rfl ⟨lx1, ux1⟩ (by omega) (by omega) er_2 dX7_isOf_10 ?_
    show W _ _ _ _ _ _ _ _ _ _ _ _ _ _ _ (F0 m 11 ls (.ref r_2 :: []))
    refine q_geti (ci := 0) (C := RX0) (T := TX0) (N := 15) hx hb hts (fun w h => List.mem_cons_of_mem _ (mfX00 w h)) hown hK hw m_r_2 o_r_2 rfl 0 (by decide) (hts _ (List.mem_cons_of_mem _ (mr32 _ (List.mem_of_getElem? (i := 17) rfl)))) (fun _ h => h) rfl dX7_isOf_11 (fun x_3 lx_3 ux_3 ex_3 => ?_)
    refine lv_iload_n hx hb dX7_isOf_14 rfl (lv_at hl 2 rfl) ?_
    refine q_icmp_ne (tgt := 22) hx hb dX7_isOf_15 (by decide) ⟨lx_3, ux_3⟩ ⟨lx2, ux2⟩ (fun c15 => ?_) (fun c15 => ?_)
    · refine q_iconst hx hb dX7_isOf_22 ?_
      exact q_ret_z hx hb hr hlocks hK hAe hw (by omega) (Nat.le_of_ble_eq_true rfl) (Nat.le_of_ble_eq_true rfl) dX7_isOf_23 ⟨rfl, rfl, by omega⟩
    · refine q_iconst hx hb dX7_isOf_18 ?_
      refine lv_goto (tgt := 23) hx hb dX7_isOf_19 (by decide) ?_
      exact q_ret_z hx hb hr hlocks hK hAe hw (by omega) (Nat.le_of_ble_eq_true rfl) (Nat.le_of_ble_eq_true rfl) dX7_isOf_23 ⟨rfl, rfl, by omega⟩
set_option maxHeartbeats 4000000 in
set_option maxRecDepth 100000 in
theorem c_X7_roomBits {Z : Zt} (zo : Zok Z) (l : Launch) (D : va_G) (cy : Cy) (L0 : List Nat) (f0 : Nat → va_E) (a0 : Nat) (m_a0 : a0 ∈ L0) (o_a0 : Ob f0 a0 5) (hg : GI cy L0 f0) : Ci Z l yX7_roomBits (Cond.code yX7_roomBits cX7_roomBits 3 (some .int) :: TB) ({ frames := 0, cells := 0, slots := 0, locals := 0 } : Room) 0 0 D (tq cy) [.ref a0] L0 f0 (fun (r : Int) (L1 : List Nat) (f1 : Nat → va_E) => L0 = L1 ∧ f0 = f1 ∧ (True)) := by
  refine Ci.enter (cc := cX7_roomBits) (n := 3) rfl (plainFor_of_name (by decide)) (Nat.le_of_ble_eq_true rfl) ?_
  intro p e s m below meth c ls A hx hb hr hts hown hlocks hnm hml hK hA hAe hw hZ hl
  have hown : s.vm.findClass RX7 = some m.cls := hown
  have hl : lv_has ls 3 [(0, .ref a0)] := hl
  have hN : ZN s := (zo.2.2.2.2 _ _ _ hZ).2
  refine q_iconst hx hb dX7_roomBits_0 ?_
  refine lv_istore_n (lv' := [(1, .int (iI 0)), (0, .ref a0)]) hx hb dX7_roomBits_1 rfl hl (by decide) rfl (fun ls hl => ?_)
  refine q_iconst hx hb dX7_roomBits_2 ?_
  refine lv_istore_n (lv' := [(2, .int (iI 0)), (1, .int (iI 0)), (0, .ref a0)]) hx hb dX7_roomBits_3 rfl hl (by decide) rfl (fun ls hl => ?_)
  have J4 : ∀ (n4 : Nat) (y1_4 : Int) (ly1_4 : -2147483648 ≤ y1_4) (uy1_4 : y1_4 ≤ 2147483647) (y2_4 : Int) (ly2_4 : -2147483648 ≤ y2_4) (uy2_4 : y2_4 ≤ 2147483647) (i1 : 0 ≤ y2_4) (hn4 : ((2147483647 : Int) - y2_4).toNat < n4) (H : Heap) (locs : List Loc) (ls : Array Slot) (hw : Wd D A s.heap L0 f0 H locs) (hl : lv_has ls 3 [(0, .ref a0), (1, .int (iI y1_4)), (2, .int (iI y2_4))]), W p l e ({ frames := 0, cells := 0, slots := 0, locals := 0 } : Room) s m ([.ref a0] : List Value).toArray below meth c H locs (0) (0) (MQ below (Qi D (tq cy) L0 f0 s.heap.size (fun (r : Int) (L1 : List Nat) (f1 : Nat → va_E) => L0 = L1 ∧ f0 = f1 ∧ (True))) ([.ref a0] : List Value).toArray s 0 0 A) (F0 m 4 ls []) := by
    intro n4
    induction n4 with
    | zero => intro y1_4 ly1_4 uy1_4 y2_4 ly2_4 uy2_4 i1 hn4; exact absurd hn4 (Nat.not_lt_zero _)
    | succ n4 ih4 =>
      intro y1_4 ly1_4 uy1_4 y2_4 ly2_4 uy2_4 i1 hn4 H locs ls hw hl
      refine lv_iload_n hx hb dX7_roomBits_4 rfl (lv_at hl 2 rfl) ?_
      refine lv_aload_n hx hb dX7_roomBits_5 rfl (lv_at hl 0 rfl) ?_
      refine q_geti (ci := 5) (C := RX7) (T := TX7) (N := 2) hx hb hts (fun w h => List.mem_cons_of_mem _ (mfX70 w h)) hown hK hw m_a0 o_a0 rfl 1 (by decide) (hts _ (List.mem_cons_of_mem _ (mr2 _ (List.mem_of_getElem? (i := 4) rfl)))) (fun _ h => h) rfl dX7_roomBits_6 (fun x_1 lx_1 ux_1 ex_1 => ?_)
      have bx_1 : 0 ≤ x_1 ∧ x_1 ≤ 12 := by rw [ex_1]; exact hg.1 _ m_a0 5 1 o_a0
      refine q_icmp_ge (tgt := 32) hx hb dX7_roomBits_9 (by decide) ⟨ly2_4, uy2_4⟩ ⟨lx_1, ux_1⟩ (fun c9 => ?_) (fun c9 => ?_)
      · refine lv_iload_n hx hb dX7_roomBits_32 rfl (lv_at hl 1 rfl) ?_
        exact q_ret_i hx hb hr hlocks hK hAe hw ⟨ly1_4, uy1_4⟩ (Nat.le_of_ble_eq_true rfl) (Nat.le_of_ble_eq_true rfl) dX7_roomBits_33 ⟨rfl, rfl, by trivial⟩
      · refine lv_iload_n hx hb dX7_roomBits_12 rfl (lv_at hl 1 rfl) ?_
        refine q_iconst hx hb dX7_roomBits_13 ?_
        refine lv_aload_n hx hb dX7_roomBits_14 rfl (lv_at hl 0 rfl) ?_
        obtain ⟨r_2, er_2, m_r_2, o_r_2⟩ := (show ∃ r, fR f0 a0 0 = some r ∧ r ∈ L0 ∧ ArR f0 r cy.2.2.2.1 12 from hg.2.1 _ m_a0 5 0 o_a0)
        refine q_getr (ci := 5) (C := RX7) (T := TX7) (N := 2) hx hb hts (fun w h => List.mem_cons_of_mem _ (mfX70 w h)) hown hK hw m_a0 o_a0 rfl 0 (by decide) (hts _ (List.mem_cons_of_mem _ (mr2 _ (List.mem_of_getElem? (i := 3) rfl)))) (fun _ h => h) rfl er_2 dX7_roomBits_15 ?_
        refine lv_iload_n hx hb dX7_roomBits_18 rfl (lv_at hl 2 rfl) ?_
        obtain ⟨r_3, er_3, m_r_3, o_r_3⟩ := hg.2.2.1 _ m_r_2 y2_4 o_r_2 (by omega) (by omega)
        refine q_aald hx hb hK hw m_r_2 3 o_r_2 rfl ⟨ly2_4, uy2_4⟩ (by omega) (by omega) er_3 dX7_roomBits_19 ?_
        show W _ _ _ _ _ _ _ _ _ _ _ _ _ _ _ (F0 m 20 ls (.ref r_3 :: [.int (iI 1), .int (iI y1_4)]))
        refine q_geti (ci := 0) (C := RX0) (T := TX0) (N := 15) hx hb hts (fun w h => List.mem_cons_of_mem _ (mfX00 w h)) hown hK hw m_r_3 o_r_3 rfl 0 (by decide) (hts _ (List.mem_cons_of_mem _ (mr32 _ (List.mem_of_getElem? (i := 17) rfl)))) (fun _ h => h) rfl dX7_roomBits_20 (fun x_4 lx_4 ux_4 ex_4 => ?_)
        refine lv_ishl hx hb dX7_roomBits_23 ?_
        refine q_num (fun x_5 lx_5 ux_5 ex_5 => ?_)
        refine lv_ior hx hb dX7_roomBits_24 ?_
        refine q_num (fun x_6 lx_6 ux_6 ex_6 => ?_)
        refine lv_istore_n (lv' := [(1, .int (iI x_6)), (0, .ref a0), (2, .int (iI y2_4))]) hx hb dX7_roomBits_25 rfl hl (by decide) rfl (fun ls hl => ?_)
        obtain ⟨x_7, lx_7, ux_7, hx_7, ex_7⟩ := q_inc y2_4 (1)
        try (replace ex_7 : x_7 = y2_4 + (1) := by omega)
        refine lv_iinc (v := iI x_7) (lv' := [(2, .int (iI x_7)), (1, .int (iI x_6)), (0, .ref a0)]) hx hb dX7_roomBits_26 hl (k := 2) rfl hx_7 (by decide) rfl (fun ls hl => ?_)
        refine lv_goto (tgt := 4) hx hb dX7_roomBits_29 (by decide) ?_
        exact ih4 x_6 lx_6 ux_6 x_7 lx_7 ux_7 (by omega) (by omega) _ _ _ hw (lv_sub hl [2, 1, 0] rfl)
  exact J4 ((((2147483647 : Int) - 0).toNat) + 1) 0 (by decide) (by decide) 0 (by decide) (by decide) (by omega) (by omega) _ _ _ hw (lv_sub hl [2, 1, 0] rfl)
