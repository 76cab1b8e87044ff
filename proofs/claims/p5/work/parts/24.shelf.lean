set_option maxHeartbeats 4000000 in
set_option maxRecDepth 100000 in
theorem c_X7_has {Z : Zt} (zo : Zok Z) (l : Launch) (D : va_G) (cy : Cy) (L0 : List Nat) (f0 : Nat → va_E) (a0 : Nat) (x1 : Int) (lx1 : -2147483648 ≤ x1) (ux1 : x1 ≤ 2147483647) (m_a0 : a0 ∈ L0) (o_a0 : Ob f0 a0 5) (hg : GI cy L0 f0) : Ci Z l yX7_has (Cond.code yX7_has cX7_has 2 (some .boolean) :: TB) ({ frames := 0, cells := 0, slots := 0, locals := 0 } : Room) 0 0 D (tq cy) [.ref a0, .int (iI x1)] L0 f0 (fun (r : Int) (L1 : List Nat) (f1 : Nat → va_E) => L0 = L1 ∧ f0 = f1 ∧ (r = 1 ∧ 0 ≤ x1 ∧ x1 < 12 ∧ x1 < fI f0 a0 1 ∨ r = 0)) := by
  refine Ci.enter (cc := cX7_has) (n := 2) rfl (plainFor_of_name (by decide)) (Nat.le_of_ble_eq_true rfl) ?_
  intro p e s m below meth c ls A hx hb hr hts hown hlocks hnm hml hK hA hAe hw hZ hl
  have hown : s.vm.findClass RX7 = some m.cls := hown
  have hl : lv_has ls 2 [(0, .ref a0), (1, .int (iI x1))] := hl
  have hN : ZN s := (zo.2.2.2.2 _ _ _ hZ).2
  refine lv_iload_n hx hb dX7_has_0 rfl (lv_at hl 1 rfl) ?_
  refine q_if_lt (tgt := 16) hx hb dX7_has_1 (by decide) ⟨lx1, ux1⟩ (fun c1 => ?_) (fun c1 => ?_)
  · refine q_iconst hx hb dX7_has_16 ?_
    exact q_ret_z hx hb hr hlocks hK hAe hw (by omega) (Nat.le_of_ble_eq_true rfl) (Nat.le_of_ble_eq_true rfl) dX7_has_17 ⟨rfl, rfl, by omega⟩
  · refine lv_iload_n hx hb dX7_has_4 rfl (lv_at hl 1 rfl) ?_
    refine lv_aload_n hx hb dX7_has_5 rfl (lv_at hl 0 rfl) ?_
    refine q_geti (ci := 5) (C := RX7) (T := TX7) (N := 2) hx hb hts (fun w h => List.mem_cons_of_mem _ (mfX70 w h)) hown hK hw m_a0 o_a0 rfl 1 (by decide) (hts _ (List.mem_cons_of_mem _ (mr2 _ (List.mem_of_getElem? (i := 4) rfl)))) (fun _ h => h) rfl dX7_has_6 (fun x_1 lx_1 ux_1 ex_1 => ?_)
    have bx_1 : 0 ≤ x_1 ∧ x_1 ≤ 12 := by rw [ex_1]; exact hg.1 _ m_a0 5 1 o_a0
    refine q_icmp_ge (tgt := 16) hx hb dX7_has_9 (by decide) ⟨lx1, ux1⟩ ⟨lx_1, ux_1⟩ (fun c9 => ?_) (fun c9 => ?_)
    · refine q_iconst hx hb dX7_has_16 ?_
      exact q_ret_z hx hb hr hlocks hK hAe hw (by omega) (Nat.le_of_ble_eq_true rfl) (Nat.le_of_ble_eq_true rfl) dX7_has_17 ⟨rfl, rfl, by omega⟩
    · refine q_iconst hx hb dX7_has_12 ?_
      refine lv_goto (tgt := 17) hx hb dX7_has_13 (by decide) ?_
      exact q_ret_z hx hb hr hlocks hK hAe hw (by omega) (Nat.le_of_ble_eq_true rfl) (Nat.le_of_ble_eq_true rfl) dX7_has_17 ⟨rfl, rfl, by omega⟩
set_option maxHeartbeats 4000000 in
set_option maxRecDepth 100000 in
theorem c_X7_isFull {Z : Zt} (zo : Zok Z) (l : Launch) (D : va_G) (cy : Cy) (L0 : List Nat) (f0 : Nat → va_E) (a0 : Nat) (m_a0 : a0 ∈ L0) (o_a0 : Ob f0 a0 5) (hg : GI cy L0 f0) : Ci Z l yX7_isFull (Cond.code yX7_isFull cX7_isFull 1 (some .boolean) :: TB) ({ frames := 0, cells := 0, slots := 0, locals := 0 } : Room) 0 0 D (tq cy) [.ref a0] L0 f0 (fun (r : Int) (L1 : List Nat) (f1 : Nat → va_E) => L0 = L1 ∧ f0 = f1 ∧ (r = 0 ∨ r = 1)) := by
  refine Ci.enter (cc := cX7_isFull) (n := 1) rfl (plainFor_of_name (by decide)) (Nat.le_of_ble_eq_true rfl) ?_
  intro p e s m below meth c ls A hx hb hr hts hown hlocks hnm hml hK hA hAe hw hZ hl
  have hown : s.vm.findClass RX7 = some m.cls := hown
  have hl : lv_has ls 1 [(0, .ref a0)] := hl
  have hN : ZN s := (zo.2.2.2.2 _ _ _ hZ).2
  refine lv_aload_n hx hb dX7_isFull_0 rfl (lv_at hl 0 rfl) ?_
  refine q_geti (ci := 5) (C := RX7) (T := TX7) (N := 2) hx hb hts (fun w h => List.mem_cons_of_mem _ (mfX70 w h)) hown hK hw m_a0 o_a0 rfl 1 (by decide) (hts _ (List.mem_cons_of_mem _ (mr2 _ (List.mem_of_getElem? (i := 4) rfl)))) (fun _ h => h) rfl dX7_isFull_1 (fun x_1 lx_1 ux_1 ex_1 => ?_)
  have bx_1 : 0 ≤ x_1 ∧ x_1 ≤ 12 := by rw [ex_1]; exact hg.1 _ m_a0 5 1 o_a0
  refine lv_aload_n hx hb dX7_isFull_4 rfl (lv_at hl 0 rfl) ?_
  obtain ⟨r_2, er_2, m_r_2, o_r_2⟩ := (show ∃ r, fR f0 a0 0 = some r ∧ r ∈ L0 ∧ ArR f0 r cy.2.2.2.1 12 from hg.2.1 _ m_a0 5 0 o_a0)
  refine q_getr (ci := 5) (C := RX7) (T := TX7) (N := 2) hx hb hts (fun w h => List.mem_cons_of_mem _ (mfX70 w h)) hown hK hw m_a0 o_a0 rfl 0 (by decide) (hts _ (List.mem_cons_of_mem _ (mr2 _ (List.mem_of_getElem? (i := 3) rfl)))) (fun _ h => h) rfl er_2 dX7_isFull_5 ?_
  refine q_alenR hx hb hK hw m_r_2 3 o_r_2 rfl dX7_isFull_8 ?_
  refine q_icmp_lt (tgt := 16) hx hb dX7_isFull_9 (by decide) ⟨lx_1, ux_1⟩ ⟨by decide, by decide⟩ (fun c9 => ?_) (fun c9 => ?_)
  · refine q_iconst hx hb dX7_isFull_16 ?_
    exact q_ret_z hx hb hr hlocks hK hAe hw (by omega) (Nat.le_of_ble_eq_true rfl) (Nat.le_of_ble_eq_true rfl) dX7_isFull_17 ⟨rfl, rfl, by omega⟩
  · refine q_iconst hx hb dX7_isFull_12 ?_
    refine lv_goto (tgt := 17) hx hb dX7_isFull_13 (by decide) ?_
    exact q_ret_z hx hb hr hlocks hK hAe hw (by omega) (Nat.le_of_ble_eq_true rfl) (Nat.le_of_ble_eq_true rfl) dX7_isFull_17 ⟨rfl, rfl, by omega⟩
set_option maxHeartbeats 4000000 in
set_option maxRecDepth 100000 in
theorem c_X7_at {Z : Zt} (zo : Zok Z) (l : Launch) (D : va_G) (cy : Cy) (L0 : List Nat) (f0 : Nat → va_E) (a0 : Nat) (x1 : Int) (lx1 : -2147483648 ≤ x1) (ux1 : x1 ≤ 2147483647) (m_a0 : a0 ∈ L0) (o_a0 : Ob f0 a0 5) (hg : GI cy L0 f0) (h1 : 0 ≤ x1) (h2 : x1 < 12) : Cr Z l yX7_at (Cond.code yX7_at cX7_at 2 (some (.object "BookIndex$Booking")) :: TB) ({ frames := 0, cells := 0, slots := 0, locals := 0 } : Room) 0 0 D (tq cy) [.ref a0, .int (iI x1)] L0 f0 (fun (r : Nat) (L1 : List Nat) (f1 : Nat → va_E) => L0 = L1 ∧ f0 = f1 ∧ (r ∈ L0 ∧ Ob f0 r 0)) := by
  refine Cr.enter (cc := cX7_at) (n := 2) rfl (plainFor_of_name (by decide)) (Nat.le_of_ble_eq_true rfl) ?_
  intro p e s m below meth c ls A hx hb hr hts hown hlocks hnm hml hK hA hAe hw hZ hl
  have hown : s.vm.findClass RX7 = some m.cls := hown
  have hl : lv_has ls 2 [(0, .ref a0), (1, .int (iI x1))] := hl
  have hN : ZN s := (zo.2.2.2.2 _ _ _ hZ).2
  refine lv_aload_n hx hb dX7_at_0 rfl (lv_at hl 0 rfl) ?_
  obtain ⟨r_1, er_1, m_r_1, o_r_1⟩ := (show ∃ r, fR f0 a0 0 = some r ∧ r ∈ L0 ∧ ArR f0 r cy.2.2.2.1 12 from hg.2.1 _ m_a0 5 0 o_a0)
  refine q_getr (ci := 5) (C := RX7) (T := TX7) (N := 2) hx hb hts (fun w h => List.mem_cons_of_mem _ (mfX70 w h)) hown hK hw m_a0 o_a0 rfl 0 (by decide) (hts _ (List.mem_cons_of_mem _ (mr2 _ (List.mem_of_getElem? (i := 3) rfl)))) (fun _ h => h) rfl er_1 dX7_at_1 ?_
  refine lv_iload_n hx hb dX7_at_4 rfl (lv_at hl 1 rfl) ?_
  obtain ⟨r_2, er_2, m_r_2, o_r_2⟩ := hg.2.2.1 _ m_r_1 x1 o_r_1 (by omega) (by omega)
  refine q_aald hx hb hK hw m_r_1 3 o_r_1 rfl ⟨lx1, ux1⟩ (by omega) (by omega) er_2 dX7_at_5 ?_
  show W _ _ _ _ _ _ _ _ _ _ _ _ _ _ _ (F0 m 6 ls (.ref r_2 :: []))
  exact q_ret_r hx hb hr hlocks hK hAe hw (Nat.le_of_ble_eq_true rfl) (Nat.le_of_ble_eq_true rfl) dX7_at_6 ⟨rfl, rfl, by exact ⟨m_r_2, o_r_2⟩⟩
set_option maxHeartbeats 4000000 in
set_option maxRecDepth 100000 in
theorem c_X7_isOf {Z : Zt} (zo : Zok Z) (l : Launch) (D : va_G) (cy : Cy) (L0 : List Nat) (f0 : Nat → va_E) (a0 : Nat) (x1 : Int) (lx1 : -2147483648 ≤ x1) (ux1 : x1 ≤ 2147483647) (x2 : Int) (lx2 : -2147483648 ≤ x2) (ux2 : x2 ≤ 2147483647) (m_a0 : a0 ∈ L0) (o_a0 : Ob f0 a0 5) (hg : GI cy L0 f0) (h1 : 0 ≤ x1) (h2 : x1 < 12) : Ci Z l yX7_isOf (Cond.code yX7_isOf cX7_isOf 3 (some .boolean) :: TB) ({ frames := 0, cells := 0, slots := 0, locals := 0 } : Room) 0 0 D (tq cy) [.ref a0, .int (iI x1), .int (iI x2)] L0 f0 (fun (r : Int) (L1 : List Nat) (f1 : Nat → va_E) => L0 = L1 ∧ f0 = f1 ∧ (r = 0 ∨ r = 1)) := by
  refine Ci.enter (cc := cX7_isOf) (n := 3) rfl (plainFor_of_name (by decide)) (Nat.le_of_ble_eq_true rfl) ?_
  intro p e s m below meth c ls A hx hb hr hts hown hlocks hnm hml hK hA hAe hw hZ hl
  have hown : s.vm.findClass RX7 = some m.cls := hown
  have hl : lv_has ls 3 [(0, .ref a0), (1, .int (iI x1)), (2, .int (iI x2))] := hl
  have hN : ZN s := (zo.2.2.2.2 _ _ _ hZ).2
  refine lv_iload_n hx hb dX7_isOf_0 rfl (lv_at hl 2 rfl) ?_
  refine q_iconst hx hb dX7_isOf_1 ?_
  refine q_icmp_eq (tgt := 18) hx hb dX7_isOf_2 (by decide) ⟨lx2, ux2⟩ ⟨by decide, by decide⟩ (fun c2 => ?_) (fun c2 => ?_)
  · refine q_iconst hx hb dX7_isOf_18 ?_
    refine lv_goto (tgt := 23) hx hb dX7_isOf_19 (by decide) ?_
    exact q_ret_z hx hb hr hlocks hK hAe hw (by omega) (Nat.le_of_ble_eq_true rfl) (Nat.le_of_ble_eq_true rfl) dX7_isOf_23 ⟨rfl, rfl, by omega⟩
  · refine lv_aload_n hx hb dX7_isOf_5 rfl (lv_at hl 0 rfl) ?_
    obtain ⟨r_1, er_1, m_r_1, o_r_1⟩ := (show ∃ r, fR f0 a0 0 = some r ∧ r ∈ L0 ∧ ArR f0 r cy.2.2.2.1 12 from hg.2.1 _ m_a0 5 0 o_a0)
    refine q_getr (ci := 5) (C := RX7) (T := TX7) (N := 2) hx hb hts (fun w h => List.mem_cons_of_mem _ (mfX70 w h)) hown hK hw m_a0 o_a0 rfl 0 (by decide) (hts _ (List.mem_cons_of_mem _ (mr2 _ (List.mem_of_getElem? (i := 3) rfl)))) (fun _ h => h) rfl er_1 dX7_isOf_6 ?_
    refine lv_iload_n hx hb dX7_isOf_9 rfl (lv_at hl 1 rfl) ?_
    obtain ⟨r_2, er_2, m_r_2, o_r_2⟩ := hg.2.2.1 _ m_r_1 x1 o_r_1 (by omega) (by omega)
    refine q_aald hx hb hK hw m_r_1 3 o_r_1 rfl ⟨lx1, ux1⟩ (by omega) (by omega) er_2 dX7_isOf_10 ?_
    show W _ _ _ _ _ _ _ _ _ _ _ _ _ _ _ (F0 m 11 ls (.ref r_2 :: []))
    refine q_geti (ci := 0) (C := RX0) (T := TX0) (N := 15) hx hb hts (fun w h => List.mem_cons_of_mem _ (mfX00 w h)) hown hK hw m_r_2 o_r_2 rfl 0 (by decide) (hts _ (List.mem_cons_of_mem _ (mr32 _ (List.mem_of_getElem? (i := 17) rfl)))) (fun _ h => h) rfl dX7_isOf_11 (fun x_3 lx_3 ux_3 ex_3 => ?_)
    refine lv_iload_n hx hb dX7_isOf_14 rfl (lv_at hl 2 rfl) ?_
    refine q_icmp_ne (tgt := 22) hx hb dX7_isOf_15 (by decide) ⟨lx_3, ux_3⟩ ⟨lx2, ux2⟩ (fun c15 => ?_) (fun c15 => ?_)
    · refine q_iconst hx hb dX7_isOf_22 ?_
      exact q_ret_z hx hb hr hlocks hK hAe hw (by omega) (Nat.le_of_ble_eq_true rfl) (Nat.le_of_ble_eq_true rfl) dX7_isOf_23 ⟨rfl, rfl, by omega⟩
    · refine q_iconst hx hb dX7_isOf_18 ?_
      refine lv_goto (tgt := 23) hx hb dX7_isOf_19 (by decide) ?_
      exact q_ret_z hx hb hr hlocks hK hAe hw (by omega) (Nat.le_of_ble_eq_true rfl) (Nat.le_of_ble_eq_true rfl) dX7_isOf_23 ⟨rfl, rfl, by omega⟩
set_option maxHeartbeats 4000000 in
set_option maxRecDepth 100000 in
theorem c_X7_spare {Z : Zt} (zo : Zok Z) (l : Launch) (D : va_G) (cy : Cy) (L0 : List Nat) (f0 : Nat → va_E) (a0 : Nat) (m_a0 : a0 ∈ L0) (o_a0 : Ob f0 a0 5) (hg : GI cy L0 f0) : Cr Z l yX7_spare (Cond.code yX7_spare cX7_spare 1 (some (.object "BookIndex$Booking")) :: TB) ({ frames := 1, cells := 0, slots := 0, locals := 21 } : Room) 0 0 D (tq cy) [.ref a0] L0 f0 (fun (r : Nat) (L1 : List Nat) (f1 : Nat → va_E) => L0 = L1 ∧ f0 = f1 ∧ (r ∈ L0 ∧ Ob f0 r 0)) := by
  refine Cr.enter (cc := cX7_spare) (n := 1) rfl (plainFor_of_name (by decide)) (Nat.le_of_ble_eq_true rfl) ?_
  intro p e s m below meth c ls A hx hb hr hts hown hlocks hnm hml hK hA hAe hw hZ hl
  have hown : s.vm.findClass RX7 = some m.cls := hown
  have hl : lv_has ls 1 [(0, .ref a0)] := hl
  have hN : ZN s := (zo.2.2.2.2 _ _ _ hZ).2
  refine lv_aload_n hx hb dX7_spare_0 rfl (lv_at hl 0 rfl) ?_
  obtain ⟨r_1, er_1, m_r_1, o_r_1⟩ := (show ∃ r, fR f0 a0 0 = some r ∧ r ∈ L0 ∧ ArR f0 r cy.2.2.2.1 12 from hg.2.1 _ m_a0 5 0 o_a0)
  refine q_getr (ci := 5) (C := RX7) (T := TX7) (N := 2) hx hb hts (fun w h => List.mem_cons_of_mem _ (mfX70 w h)) hown hK hw m_a0 o_a0 rfl 0 (by decide) (hts _ (List.mem_cons_of_mem _ (mr2 _ (List.mem_of_getElem? (i := 3) rfl)))) (fun _ h => h) rfl er_1 dX7_spare_1 ?_
  refine lv_aload_n hx hb dX7_spare_4 rfl (lv_at hl 0 rfl) ?_
  refine q_geti (ci := 5) (C := RX7) (T := TX7) (N := 2) hx hb hts (fun w h => List.mem_cons_of_mem _ (mfX70 w h)) hown hK hw m_a0 o_a0 rfl 1 (by decide) (hts _ (List.mem_cons_of_mem _ (mr2 _ (List.mem_of_getElem? (i := 4) rfl)))) (fun _ h => h) rfl dX7_spare_5 (fun x_2 lx_2 ux_2 ex_2 => ?_)
  have bx_2 : 0 ≤ x_2 ∧ x_2 ≤ 12 := by rw [ex_2]; exact hg.1 _ m_a0 5 1 o_a0
  refine lv_aload_n hx hb dX7_spare_8 rfl (lv_at hl 0 rfl) ?_
  refine q_getr (ci := 5) (C := RX7) (T := TX7) (N := 2) hx hb hts (fun w h => List.mem_cons_of_mem _ (mfX70 w h)) hown hK hw m_a0 o_a0 rfl 0 (by decide) (hts _ (List.mem_cons_of_mem _ (mr2 _ (List.mem_of_getElem? (i := 3) rfl)))) (fun _ h => h) rfl er_1 dX7_spare_9 ?_
  refine q_alenR hx hb hK hw m_r_1 3 o_r_1 rfl dX7_spare_12 ?_
  refine q_iconst hx hb dX7_spare_13 ?_
  first | refine q_isub hx hb dX7_spare_14 ⟨by omega, by omega⟩ (fun x_3 lx_3 ux_3 ex_3 => ?_) | refine q_isubw hx hb dX7_spare_14 (fun x_3 lx_3 ux_3 _ => ?_)
  refine q_min hx hb (hml.trans hl.1.symm) hown (hts _ (List.mem_cons_of_mem _ (mr6 _ (List.mem_of_getElem? (i := 21) rfl)))) (hts _ (List.mem_cons_of_mem _ (mr6 _ (List.mem_of_getElem? (i := 13) rfl)))) (hts _ (List.mem_cons_of_mem _ (mr6 _ (List.mem_of_getElem? (i := 14) rfl)))) (hts _ (List.mem_cons_of_mem _ (mr6 _ (List.mem_of_getElem? (i := 15) rfl)))) (Nat.le_of_ble_eq_true rfl) (Nat.le_of_ble_eq_true rfl) (Nat.le_of_ble_eq_true rfl) (Nat.le_of_ble_eq_true rfl) ⟨lx_2, ux_2⟩ ⟨lx_3, ux_3⟩ dX7_spare_15 (fun x_4 lx_4 ux_4 ex_4 => ?_)
  obtain ⟨r_5, er_5, m_r_5, o_r_5⟩ := hg.2.2.1 _ m_r_1 x_4 o_r_1 (by omega) (by omega)
  refine q_aald hx hb hK hw m_r_1 3 o_r_1 rfl ⟨lx_4, ux_4⟩ (by omega) (by omega) er_5 dX7_spare_18 ?_
  show W _ _ _ _ _ _ _ _ _ _ _ _ _ _ _ (F0 m 19 ls (.ref r_5 :: []))
  exact q_ret_r hx hb hr hlocks hK hAe hw (Nat.le_of_ble_eq_true rfl) (Nat.le_of_ble_eq_true rfl) dX7_spare_19 ⟨rfl, rfl, by exact ⟨m_r_5, o_r_5⟩⟩
set_option maxHeartbeats 4000000 in
set_option maxRecDepth 100000 in
theorem c_X7_keepSpare {Z : Zt} (zo : Zok Z) (l : Launch) (D : va_G) (cy : Cy) (L0 : List Nat) (f0 : Nat → va_E) (a0 : Nat) (m_a0 : a0 ∈ L0) (o_a0 : Ob f0 a0 5) (hg : GI cy L0 f0) : Ci Z l yX7_keepSpare (Cond.code yX7_keepSpare cX7_keepSpare 1 (some .int) :: TB) ({ frames := 1, cells := 0, slots := 0, locals := 21 } : Room) 0 0 D (tq cy) [.ref a0] L0 f0 (fun (r : Int) (L1 : List Nat) (f1 : Nat → va_E) => L0 = L1 ∧ GI cy L0 f1 ∧ Ex cy f0 f1 ∧ (True)) := by
  refine Ci.enter (cc := cX7_keepSpare) (n := 1) rfl (plainFor_of_name (by decide)) (Nat.le_of_ble_eq_true rfl) ?_
  intro p e s m below meth c ls A hx hb hr hts hown hlocks hnm hml hK hA hAe hw hZ hl
  have hown : s.vm.findClass RX7 = some m.cls := hown
  have hl : lv_has ls 1 [(0, .ref a0)] := hl
  have hN : ZN s := (zo.2.2.2.2 _ _ _ hZ).2
  have hE : Ex cy f0 f0 := Ex.refl cy f0
  refine lv_aload_n hx hb dX7_keepSpare_0 rfl (lv_at hl 0 rfl) ?_
  refine lv_aload_n hx hb dX7_keepSpare_1 rfl (lv_at hl 0 rfl) ?_
  refine q_geti (ci := 5) (C := RX7) (T := TX7) (N := 2) hx hb hts (fun w h => List.mem_cons_of_mem _ (mfX70 w h)) hown hK hw m_a0 o_a0 rfl 1 (by decide) (hts _ (List.mem_cons_of_mem _ (mr2 _ (List.mem_of_getElem? (i := 4) rfl)))) (fun _ h => h) rfl dX7_keepSpare_2 (fun x_1 lx_1 ux_1 ex_1 => ?_)
  have bx_1 : 0 ≤ x_1 ∧ x_1 ≤ 12 := by rw [ex_1]; exact hg.1 _ m_a0 5 1 o_a0
  refine q_iconst hx hb dX7_keepSpare_5 ?_
  first | refine q_iadd hx hb dX7_keepSpare_6 ⟨by omega, by omega⟩ (fun x_2 lx_2 ux_2 ex_2 => ?_) | refine q_iaddw hx hb dX7_keepSpare_6 (fun x_2 lx_2 ux_2 _ => ?_)
  refine lv_aload_n hx hb dX7_keepSpare_7 rfl (lv_at hl 0 rfl) ?_
  obtain ⟨r_3, er_3, m_r_3, o_r_3⟩ := (show ∃ r, fR f0 a0 0 = some r ∧ r ∈ L0 ∧ ArR f0 r cy.2.2.2.1 12 from hg.2.1 _ m_a0 5 0 o_a0)
  refine q_getr (ci := 5) (C := RX7) (T := TX7) (N := 2) hx hb hts (fun w h => List.mem_cons_of_mem _ (mfX70 w h)) hown hK hw m_a0 o_a0 rfl 0 (by decide) (hts _ (List.mem_cons_of_mem _ (mr2 _ (List.mem_of_getElem? (i := 3) rfl)))) (fun _ h => h) rfl er_3 dX7_keepSpare_8 ?_
  refine q_alenR hx hb hK hw m_r_3 3 o_r_3 rfl dX7_keepSpare_11 ?_
  refine q_min hx hb (hml.trans hl.1.symm) hown (hts _ (List.mem_cons_of_mem _ (mr6 _ (List.mem_of_getElem? (i := 21) rfl)))) (hts _ (List.mem_cons_of_mem _ (mr6 _ (List.mem_of_getElem? (i := 13) rfl)))) (hts _ (List.mem_cons_of_mem _ (mr6 _ (List.mem_of_getElem? (i := 14) rfl)))) (hts _ (List.mem_cons_of_mem _ (mr6 _ (List.mem_of_getElem? (i := 15) rfl)))) (Nat.le_of_ble_eq_true rfl) (Nat.le_of_ble_eq_true rfl) (Nat.le_of_ble_eq_true rfl) (Nat.le_of_ble_eq_true rfl) ⟨lx_2, ux_2⟩ ⟨by decide, by decide⟩ dX7_keepSpare_12 (fun x_4 lx_4 ux_4 ex_4 => ?_)
  refine q_puti (ci := 5) (C := RX7) (T := TX7) (N := 2) hx hb hts (fun w h => List.mem_cons_of_mem _ (mfX70 w h)) hown hK hw m_a0 o_a0 rfl 1 (by decide) (hts _ (List.mem_cons_of_mem _ (mr2 _ (List.mem_of_getElem? (i := 4) rfl)))) (fun _ h => h) tyX7 tyX7_ok nmX7 rfl (ty := .int) (by decide +kernel) rfl rfl dX7_keepSpare_15 (fun H locs hw => ?_)
  have oo := o_a0
  obtain ⟨f_5, ef_5⟩ : ∃ g : Nat → va_E, g = pU f0 a0 1 (.int (iI x_4)) := ⟨_, rfl⟩
  have hX : Ex cy f0 f_5 := by rw [ef_5]; exact Ex_pU oo rfl rfl (by decide)
  have hg : GI cy L0 f_5 := by rw [ef_5]; exact hg.putI oo rfl ⟨lx_4, ux_4⟩ (by show 0 ≤ x_4 ∧ x_4 ≤ 12; omega)
  rw [← ef_5] at hw
  have hE := hE.trans hX
  have o_a0 := hX.1.1 _ _ o_a0
  have vf_5 : fI f_5 a0 1 = x_4 := by rw [ef_5]; exact fI_pU_self oo rfl ⟨lx_4, ux_4⟩
  refine lv_aload_n hx hb dX7_keepSpare_18 rfl (lv_at hl 0 rfl) ?_
  refine q_geti (ci := 5) (C := RX7) (T := TX7) (N := 2) hx hb hts (fun w h => List.mem_cons_of_mem _ (mfX70 w h)) hown hK hw m_a0 o_a0 rfl 1 (by decide) (hts _ (List.mem_cons_of_mem _ (mr2 _ (List.mem_of_getElem? (i := 4) rfl)))) (fun _ h => h) rfl dX7_keepSpare_19 (fun x_6 lx_6 ux_6 ex_6 => ?_)
  have bx_6 : 0 ≤ x_6 ∧ x_6 ≤ 12 := by rw [ex_6]; exact hg.1 _ m_a0 5 1 o_a0
  refine q_iconst hx hb dX7_keepSpare_22 ?_
  first | refine q_isub hx hb dX7_keepSpare_23 ⟨by omega, by omega⟩ (fun x_7 lx_7 ux_7 ex_7 => ?_) | refine q_isubw hx hb dX7_keepSpare_23 (fun x_7 lx_7 ux_7 _ => ?_)
  exact q_ret_i hx hb hr hlocks hK hAe hw ⟨lx_7, ux_7⟩ (Nat.le_of_ble_eq_true rfl) (Nat.le_of_ble_eq_true rfl) dX7_keepSpare_24 (by exact ⟨rfl, hg, hE, by first | trivial | omega⟩)
set_option maxHeartbeats 4000000 in
set_option maxRecDepth 100000 in
theorem c_X7_remove {Z : Zt} (zo : Zok Z) (l : Launch) (D : va_G) (cy : Cy) (L0 : List Nat) (f0 : Nat → va_E) (a0 : Nat) (x1 : Int) (lx1 : -2147483648 ≤ x1) (ux1 : x1 ≤ 2147483647) (m_a0 : a0 ∈ L0) (o_a0 : Ob f0 a0 5) (hg : GI cy L0 f0) (h1 : 0 ≤ x1) (h2 : x1 < fI f0 a0 1) : Cv Z l yX7_remove (Cond.code yX7_remove cX7_remove 4 none :: TB) ({ frames := 0, cells := 0, slots := 0, locals := 0 } : Room) 0 0 D (tq cy) [.ref a0, .int (iI x1)] L0 f0 (fun (L1 : List Nat) (f1 : Nat → va_E) => L0 = L1 ∧ GI cy L0 f1 ∧ Ex cy f0 f1 ∧ (True)) := by
  refine Cv.enter (cc := cX7_remove) (n := 4) rfl (plainFor_of_name (by decide)) (Nat.le_of_ble_eq_true rfl) ?_
  intro p e s m below meth c ls A hx hb hr hts hown hlocks hnm hml hK hA hAe hw hZ hl
  have hown : s.vm.findClass RX7 = some m.cls := hown
  have hl : lv_has ls 4 [(0, .ref a0), (1, .int (iI x1))] := hl
  have hN : ZN s := (zo.2.2.2.2 _ _ _ hZ).2
  have hE : Ex cy f0 f0 := Ex.refl cy f0
  have bs : 0 ≤ fI f0 a0 1 ∧ fI f0 a0 1 ≤ 12 := hg.1 _ m_a0 5 1 o_a0
  refine lv_aload_n hx hb dX7_remove_0 rfl (lv_at hl 0 rfl) ?_
  obtain ⟨r_1, er_1, m_r_1, o_r_1⟩ := (show ∃ r, fR f0 a0 0 = some r ∧ r ∈ L0 ∧ ArR f0 r cy.2.2.2.1 12 from hg.2.1 _ m_a0 5 0 o_a0)
  refine q_getr (ci := 5) (C := RX7) (T := TX7) (N := 2) hx hb hts (fun w h => List.mem_cons_of_mem _ (mfX70 w h)) hown hK hw m_a0 o_a0 rfl 0 (by decide) (hts _ (List.mem_cons_of_mem _ (mr2 _ (List.mem_of_getElem? (i := 3) rfl)))) (fun _ h => h) rfl er_1 dX7_remove_1 ?_
  refine lv_iload_n hx hb dX7_remove_4 rfl (lv_at hl 1 rfl) ?_
  obtain ⟨r_2, er_2, m_r_2, o_r_2⟩ := hg.2.2.1 _ m_r_1 x1 o_r_1 (by omega) (by omega)
  refine q_aald hx hb hK hw m_r_1 3 o_r_1 rfl ⟨lx1, ux1⟩ (by omega) (by omega) er_2 dX7_remove_5 ?_
  show W _ _ _ _ _ _ _ _ _ _ _ _ _ _ _ (F0 m 6 ls (.ref r_2 :: []))
  refine lv_astore_n (lv' := [(2, .ref r_2), (0, .ref a0), (1, .int (iI x1))]) hx hb dX7_remove_6 rfl hl (by decide) rfl (fun ls hl => ?_)
  refine lv_aload_n hx hb dX7_remove_7 rfl (lv_at hl 1 rfl) ?_
  refine lv_dup hx hb dX7_remove_8 rfl ?_
  refine q_geti (ci := 5) (C := RX7) (T := TX7) (N := 2) hx hb hts (fun w h => List.mem_cons_of_mem _ (mfX70 w h)) hown hK hw m_a0 o_a0 rfl 1 (by decide) (hts _ (List.mem_cons_of_mem _ (mr2 _ (List.mem_of_getElem? (i := 4) rfl)))) (fun _ h => h) rfl dX7_remove_9 (fun x_3 lx_3 ux_3 ex_3 => ?_)
  have bx_3 : 0 ≤ x_3 ∧ x_3 ≤ 12 := by rw [ex_3]; exact hg.1 _ m_a0 5 1 o_a0
  refine q_iconst hx hb dX7_remove_12 ?_
  first | refine q_isub hx hb dX7_remove_13 ⟨by omega, by omega⟩ (fun x_4 lx_4 ux_4 ex_4 => ?_) | refine q_isubw hx hb dX7_remove_13 (fun x_4 lx_4 ux_4 _ => ?_)
  refine q_puti (ci := 5) (C := RX7) (T := TX7) (N := 2) hx hb hts (fun w h => List.mem_cons_of_mem _ (mfX70 w h)) hown hK hw m_a0 o_a0 rfl 1 (by decide) (hts _ (List.mem_cons_of_mem _ (mr2 _ (List.mem_of_getElem? (i := 4) rfl)))) (fun _ h => h) tyX7 tyX7_ok nmX7 rfl (ty := .int) (by decide +kernel) rfl rfl dX7_remove_14 (fun H locs hw => ?_)
  have oo := o_a0
  obtain ⟨f_5, ef_5⟩ : ∃ g : Nat → va_E, g = pU f0 a0 1 (.int (iI x_4)) := ⟨_, rfl⟩
  have hX : Ex cy f0 f_5 := by rw [ef_5]; exact Ex_pU oo rfl rfl (by decide)
  have hg : GI cy L0 f_5 := by rw [ef_5]; exact hg.putI oo rfl ⟨lx_4, ux_4⟩ (by show 0 ≤ x_4 ∧ x_4 ≤ 12; omega)
  rw [← ef_5] at hw
  have hE := hE.trans hX
  have o_r_2 := hX.1.1 _ _ o_r_2
  have o_a0 := hX.1.1 _ _ o_a0
  have vf_5 : fI f_5 a0 1 = x_4 := by rw [ef_5]; exact fI_pU_self oo rfl ⟨lx_4, ux_4⟩
  refine lv_iload_n hx hb dX7_remove_17 rfl (lv_at hl 2 rfl) ?_
  refine lv_istore_n (lv' := [(3, .int (iI x1)), (2, .ref r_2), (0, .ref a0), (1, .int (iI x1))]) hx hb dX7_remove_18 rfl hl (by decide) rfl (fun ls hl => ?_)
  have J19 : ∀ (n19 : Nat) (y3_19 : Int) (ly3_19 : -2147483648 ≤ y3_19) (uy3_19 : y3_19 ≤ 2147483647) (L : List Nat) (f : Nat → va_E) (hg : GI cy L0 f) (hE : Ex cy f0 f) (o_a0 : Ob f a0 5) (o_r_2 : Ob f r_2 0) (i1 : 0 ≤ y3_19) (i2 : fI f a0 1 ≤ 11) (hn19 : ((2147483647 : Int) - y3_19).toNat < n19) (H : Heap) (locs : List Loc) (ls : Array Slot) (hw : Wd D A s.heap L0 f H locs) (hl : lv_has ls 4 [(0, .ref a0), (2, .ref r_2), (3, .int (iI y3_19))]), W p l e ({ frames := 0, cells := 0, slots := 0, locals := 0 } : Room) s m ([.ref a0, .int (iI x1)] : List Value).toArray below meth c H locs (0) (0) (MQ below (Qv D (tq cy) L0 f0 s.heap.size (fun (L1 : List Nat) (f1 : Nat → va_E) => L0 = L1 ∧ GI cy L0 f1 ∧ Ex cy f0 f1 ∧ (True))) ([.ref a0, .int (iI x1)] : List Value).toArray s 0 0 A) (F0 m 19 ls []) := by
    intro n19
    induction n19 with
    | zero => intro y3_19 ly3_19 uy3_19 L f hg hE o_a0 o_r_2 i1 i2 hn19; exact absurd hn19 (Nat.not_lt_zero _)
    | succ n19 ih19 =>
      intro y3_19 ly3_19 uy3_19 L f hg hE o_a0 o_r_2 i1 i2 hn19 H locs ls hw hl
      refine lv_iload_n hx hb dX7_remove_19 rfl (lv_at hl 2 rfl) ?_
      refine lv_aload_n hx hb dX7_remove_20 rfl (lv_at hl 0 rfl) ?_
      refine q_geti (ci := 5) (C := RX7) (T := TX7) (N := 2) hx hb hts (fun w h => List.mem_cons_of_mem _ (mfX70 w h)) hown hK hw m_a0 o_a0 rfl 1 (by decide) (hts _ (List.mem_cons_of_mem _ (mr2 _ (List.mem_of_getElem? (i := 4) rfl)))) (fun _ h => h) rfl dX7_remove_21 (fun x_6 lx_6 ux_6 ex_6 => ?_)
      have bx_6 : 0 ≤ x_6 ∧ x_6 ≤ 12 := by rw [ex_6]; exact hg.1 _ m_a0 5 1 o_a0
      refine q_icmp_ge (tgt := 47) hx hb dX7_remove_24 (by decide) ⟨ly3_19, uy3_19⟩ ⟨lx_6, ux_6⟩ (fun c24 => ?_) (fun c24 => ?_)
      · refine lv_aload_n hx hb dX7_remove_47 rfl (lv_at hl 0 rfl) ?_
        obtain ⟨r_7, er_7, m_r_7, o_r_7⟩ := (show ∃ r, fR f a0 0 = some r ∧ r ∈ L0 ∧ ArR f r cy.2.2.2.1 12 from hg.2.1 _ m_a0 5 0 o_a0)
        refine q_getr (ci := 5) (C := RX7) (T := TX7) (N := 2) hx hb hts (fun w h => List.mem_cons_of_mem _ (mfX70 w h)) hown hK hw m_a0 o_a0 rfl 0 (by decide) (hts _ (List.mem_cons_of_mem _ (mr2 _ (List.mem_of_getElem? (i := 3) rfl)))) (fun _ h => h) rfl er_7 dX7_remove_48 ?_
        refine lv_aload_n hx hb dX7_remove_51 rfl (lv_at hl 0 rfl) ?_
        refine q_geti (ci := 5) (C := RX7) (T := TX7) (N := 2) hx hb hts (fun w h => List.mem_cons_of_mem _ (mfX70 w h)) hown hK hw m_a0 o_a0 rfl 1 (by decide) (hts _ (List.mem_cons_of_mem _ (mr2 _ (List.mem_of_getElem? (i := 4) rfl)))) (fun _ h => h) rfl dX7_remove_52 (fun x_8 lx_8 ux_8 ex_8 => ?_)
        have bx_8 : 0 ≤ x_8 ∧ x_8 ≤ 12 := by rw [ex_8]; exact hg.1 _ m_a0 5 1 o_a0
        refine lv_aload_n hx hb dX7_remove_55 rfl (lv_at hl 1 rfl) ?_
        refine q_aast hx hb hK hw m_r_7 3 o_r_7 rfl m_r_2 o_r_2 rfl ⟨lx_8, ux_8⟩ (by omega) (by omega) dX7_remove_56 (fun H locs hw => ?_)
        have oo := o_r_7
        have ov := o_r_2
        obtain ⟨f_9, ef_9⟩ : ∃ g : Nat → va_E, g = rU f r_7 x_8 (some r_2) := ⟨_, rfl⟩
        have hX : Ex cy f f_9 := by rw [ef_9]; exact Ex_rU oo
        have hg : GI cy L0 f_9 := by rw [ef_9]; exact hg.putB oo (by omega) m_r_2 ov
        rw [← ef_9] at hw
        have hE := hE.trans hX
        have o_a0 := hX.1.1 _ _ o_a0
        have o_r_2 := hX.1.1 _ _ o_r_2
        have t_a0_1_f_9 : fI f_9 a0 1 = fI f a0 1 := by rw [ef_9]; exact fI_rU oo
        exact q_ret_v hx hb hr hlocks hK hAe hw (Nat.le_of_ble_eq_true rfl) (Nat.le_of_ble_eq_true rfl) dX7_remove_57 (by exact ⟨rfl, hg, hE, by first | trivial | omega⟩)
      · refine lv_aload_n hx hb dX7_remove_27 rfl (lv_at hl 0 rfl) ?_
        obtain ⟨r_10, er_10, m_r_10, o_r_10⟩ := (show ∃ r, fR f a0 0 = some r ∧ r ∈ L0 ∧ ArR f r cy.2.2.2.1 12 from hg.2.1 _ m_a0 5 0 o_a0)
        refine q_getr (ci := 5) (C := RX7) (T := TX7) (N := 2) hx hb hts (fun w h => List.mem_cons_of_mem _ (mfX70 w h)) hown hK hw m_a0 o_a0 rfl 0 (by decide) (hts _ (List.mem_cons_of_mem _ (mr2 _ (List.mem_of_getElem? (i := 3) rfl)))) (fun _ h => h) rfl er_10 dX7_remove_28 ?_
        refine lv_iload_n hx hb dX7_remove_31 rfl (lv_at hl 2 rfl) ?_
        refine lv_aload_n hx hb dX7_remove_32 rfl (lv_at hl 0 rfl) ?_
        refine q_getr (ci := 5) (C := RX7) (T := TX7) (N := 2) hx hb hts (fun w h => List.mem_cons_of_mem _ (mfX70 w h)) hown hK hw m_a0 o_a0 rfl 0 (by decide) (hts _ (List.mem_cons_of_mem _ (mr2 _ (List.mem_of_getElem? (i := 3) rfl)))) (fun _ h => h) rfl er_10 dX7_remove_33 ?_
        refine lv_iload_n hx hb dX7_remove_36 rfl (lv_at hl 2 rfl) ?_
        refine q_iconst hx hb dX7_remove_37 ?_
        first | refine q_iadd hx hb dX7_remove_38 ⟨by omega, by omega⟩ (fun x_11 lx_11 ux_11 ex_11 => ?_) | refine q_iaddw hx hb dX7_remove_38 (fun x_11 lx_11 ux_11 _ => ?_)
        obtain ⟨r_12, er_12, m_r_12, o_r_12⟩ := hg.2.2.1 _ m_r_10 x_11 o_r_10 (by omega) (by omega)
        refine q_aald hx hb hK hw m_r_10 3 o_r_10 rfl ⟨lx_11, ux_11⟩ (by omega) (by omega) er_12 dX7_remove_39 ?_
        show W _ _ _ _ _ _ _ _ _ _ _ _ _ _ _ (F0 m 40 ls (.ref r_12 :: [.int (iI y3_19), .ref r_10]))
        refine q_aast hx hb hK hw m_r_10 3 o_r_10 rfl m_r_12 o_r_12 rfl ⟨ly3_19, uy3_19⟩ (by omega) (by omega) dX7_remove_40 (fun H locs hw => ?_)
        have oo := o_r_10
        have ov := o_r_12
        obtain ⟨f_13, ef_13⟩ : ∃ g : Nat → va_E, g = rU f r_10 y3_19 (some r_12) := ⟨_, rfl⟩
        have hX : Ex cy f f_13 := by rw [ef_13]; exact Ex_rU oo
        have hg : GI cy L0 f_13 := by rw [ef_13]; exact hg.putB oo (by omega) m_r_12 ov
        rw [← ef_13] at hw
        have hE := hE.trans hX
        have o_a0 := hX.1.1 _ _ o_a0
        have o_r_2 := hX.1.1 _ _ o_r_2
        have t_a0_1_f_13 : fI f_13 a0 1 = fI f a0 1 := by rw [ef_13]; exact fI_rU oo
        obtain ⟨x_14, lx_14, ux_14, hx_14, ex_14⟩ := q_inc y3_19 (1)
        try (replace ex_14 : x_14 = y3_19 + (1) := by omega)
        refine lv_iinc (v := iI x_14) (lv' := [(3, .int (iI x_14)), (0, .ref a0), (2, .ref r_2)]) hx hb dX7_remove_41 hl (k := 2) rfl hx_14 (by decide) rfl (fun ls hl => ?_)
        refine lv_goto (tgt := 19) hx hb dX7_remove_44 (by decide) ?_
        exact ih19 x_14 lx_14 ux_14 L0 f_13 hg hE o_a0 o_r_2 (by omega) (by omega) (by omega) _ _ _ hw (lv_sub hl [1, 2, 0] rfl)
  exact J19 ((((2147483647 : Int) - x1).toNat) + 1) x1 lx1 ux1 L0 f_5 hg hE o_a0 o_r_2 (by omega) (by omega) (by omega) _ _ _ hw (lv_sub hl [2, 1, 0] rfl)
set_option maxHeartbeats 4000000 in
set_option maxRecDepth 100000 in
theorem c_X7_copyFrom {Z : Zt} (zo : Zok Z) (l : Launch) (D : va_G) (cy : Cy) (L0 : List Nat) (f0 : Nat → va_E) (a0 : Nat) (a1 : Nat) (m_a0 : a0 ∈ L0) (o_a0 : Ob f0 a0 5) (m_a1 : a1 ∈ L0) (o_a1 : Ob f0 a1 5) (hg : GI cy L0 f0) : Cv Z l yX7_copyFrom (Cond.code yX7_copyFrom cX7_copyFrom 3 none :: TB) ({ frames := 2, cells := 0, slots := 0, locals := 81 } : Room) 0 0 D (tq cy) [.ref a0, .ref a1] L0 f0 (fun (L1 : List Nat) (f1 : Nat → va_E) => L0 = L1 ∧ GI cy L0 f1 ∧ Ex cy f0 f1 ∧ (True)) := by
  refine Cv.enter (cc := cX7_copyFrom) (n := 3) rfl (plainFor_of_name (by decide)) (Nat.le_of_ble_eq_true rfl) ?_
  intro p e s m below meth c ls A hx hb hr hts hown hlocks hnm hml hK hA hAe hw hZ hl
  have hown : s.vm.findClass RX7 = some m.cls := hown
  have hl : lv_has ls 3 [(0, .ref a0), (1, .ref a1)] := hl
  have hN : ZN s := (zo.2.2.2.2 _ _ _ hZ).2
  have hE : Ex cy f0 f0 := Ex.refl cy f0
  refine lv_aload_n hx hb dX7_copyFrom_0 rfl (lv_at hl 0 rfl) ?_
  refine lv_aload_n hx hb dX7_copyFrom_1 rfl (lv_at hl 1 rfl) ?_
  refine q_geti (ci := 5) (C := RX7) (T := TX7) (N := 2) hx hb hts (fun w h => List.mem_cons_of_mem _ (mfX70 w h)) hown hK hw m_a1 o_a1 rfl 1 (by decide) (hts _ (List.mem_cons_of_mem _ (mr2 _ (List.mem_of_getElem? (i := 4) rfl)))) (fun _ h => h) rfl dX7_copyFrom_2 (fun x_1 lx_1 ux_1 ex_1 => ?_)
  have bx_1 : 0 ≤ x_1 ∧ x_1 ≤ 12 := by rw [ex_1]; exact hg.1 _ m_a1 5 1 o_a1
  refine q_puti (ci := 5) (C := RX7) (T := TX7) (N := 2) hx hb hts (fun w h => List.mem_cons_of_mem _ (mfX70 w h)) hown hK hw m_a0 o_a0 rfl 1 (by decide) (hts _ (List.mem_cons_of_mem _ (mr2 _ (List.mem_of_getElem? (i := 4) rfl)))) (fun _ h => h) tyX7 tyX7_ok nmX7 rfl (ty := .int) (by decide +kernel) rfl rfl dX7_copyFrom_5 (fun H locs hw => ?_)
  have oo := o_a0
  obtain ⟨f_2, ef_2⟩ : ∃ g : Nat → va_E, g = pU f0 a0 1 (.int (iI x_1)) := ⟨_, rfl⟩
  have hX : Ex cy f0 f_2 := by rw [ef_2]; exact Ex_pU oo rfl rfl (by decide)
  have hg : GI cy L0 f_2 := by rw [ef_2]; exact hg.putI oo rfl ⟨lx_1, ux_1⟩ (by show 0 ≤ x_1 ∧ x_1 ≤ 12; omega)
  rw [← ef_2] at hw
  have hE := hE.trans hX
  have o_a0 := hX.1.1 _ _ o_a0
  have o_a1 := hX.1.1 _ _ o_a1
  have vf_2 : fI f_2 a0 1 = x_1 := by rw [ef_2]; exact fI_pU_self oo rfl ⟨lx_1, ux_1⟩
  refine q_iconst hx hb dX7_copyFrom_8 ?_
  refine lv_istore_n (lv' := [(2, .int (iI 0)), (0, .ref a0), (1, .ref a1)]) hx hb dX7_copyFrom_9 rfl hl (by decide) rfl (fun ls hl => ?_)
  have J10 : ∀ (n10 : Nat) (y2_10 : Int) (ly2_10 : -2147483648 ≤ y2_10) (uy2_10 : y2_10 ≤ 2147483647) (L : List Nat) (f : Nat → va_E) (hg : GI cy L0 f) (hE : Ex cy f0 f) (o_a0 : Ob f a0 5) (o_a1 : Ob f a1 5) (i1 : 0 ≤ y2_10) (hn10 : ((2147483647 : Int) - y2_10).toNat < n10) (H : Heap) (locs : List Loc) (ls : Array Slot) (hw : Wd D A s.heap L0 f H locs) (hl : lv_has ls 3 [(0, .ref a0), (1, .ref a1), (2, .int (iI y2_10))]), W p l e ({ frames := 2, cells := 0, slots := 0, locals := 81 } : Room) s m ([.ref a0, .ref a1] : List Value).toArray below meth c H locs (0) (0) (MQ below (Qv D (tq cy) L0 f0 s.heap.size (fun (L1 : List Nat) (f1 : Nat → va_E) => L0 = L1 ∧ GI cy L0 f1 ∧ Ex cy f0 f1 ∧ (True))) ([.ref a0, .ref a1] : List Value).toArray s 0 0 A) (F0 m 10 ls []) := by
    intro n10
    induction n10 with
    | zero => intro y2_10 ly2_10 uy2_10 L f hg hE o_a0 o_a1 i1 hn10; exact absurd hn10 (Nat.not_lt_zero _)
    | succ n10 ih10 =>
      intro y2_10 ly2_10 uy2_10 L f hg hE o_a0 o_a1 i1 hn10 H locs ls hw hl
      refine lv_iload_n hx hb dX7_copyFrom_10 rfl (lv_at hl 2 rfl) ?_
      refine lv_aload_n hx hb dX7_copyFrom_11 rfl (lv_at hl 0 rfl) ?_
      refine q_geti (ci := 5) (C := RX7) (T := TX7) (N := 2) hx hb hts (fun w h => List.mem_cons_of_mem _ (mfX70 w h)) hown hK hw m_a0 o_a0 rfl 1 (by decide) (hts _ (List.mem_cons_of_mem _ (mr2 _ (List.mem_of_getElem? (i := 4) rfl)))) (fun _ h => h) rfl dX7_copyFrom_12 (fun x_3 lx_3 ux_3 ex_3 => ?_)
      have bx_3 : 0 ≤ x_3 ∧ x_3 ≤ 12 := by rw [ex_3]; exact hg.1 _ m_a0 5 1 o_a0
      refine q_icmp_ge (tgt := 39) hx hb dX7_copyFrom_15 (by decide) ⟨ly2_10, uy2_10⟩ ⟨lx_3, ux_3⟩ (fun c15 => ?_) (fun c15 => ?_)
      · exact q_ret_v hx hb hr hlocks hK hAe hw (Nat.le_of_ble_eq_true rfl) (Nat.le_of_ble_eq_true rfl) dX7_copyFrom_39 (by exact ⟨rfl, hg, hE, by first | trivial | omega⟩)
      · refine lv_aload_n hx hb dX7_copyFrom_18 rfl (lv_at hl 0 rfl) ?_
        obtain ⟨r_4, er_4, m_r_4, o_r_4⟩ := (show ∃ r, fR f a0 0 = some r ∧ r ∈ L0 ∧ ArR f r cy.2.2.2.1 12 from hg.2.1 _ m_a0 5 0 o_a0)
        refine q_getr (ci := 5) (C := RX7) (T := TX7) (N := 2) hx hb hts (fun w h => List.mem_cons_of_mem _ (mfX70 w h)) hown hK hw m_a0 o_a0 rfl 0 (by decide) (hts _ (List.mem_cons_of_mem _ (mr2 _ (List.mem_of_getElem? (i := 3) rfl)))) (fun _ h => h) rfl er_4 dX7_copyFrom_19 ?_
        refine lv_iload_n hx hb dX7_copyFrom_22 rfl (lv_at hl 2 rfl) ?_
        obtain ⟨r_5, er_5, m_r_5, o_r_5⟩ := hg.2.2.1 _ m_r_4 y2_10 o_r_4 (by omega) (by omega)
        refine q_aald hx hb hK hw m_r_4 3 o_r_4 rfl ⟨ly2_10, uy2_10⟩ (by omega) (by omega) er_5 dX7_copyFrom_23 ?_
        show W _ _ _ _ _ _ _ _ _ _ _ _ _ _ _ (F0 m 24 ls (.ref r_5 :: []))
        refine lv_aload_n hx hb dX7_copyFrom_24 rfl (lv_at hl 1 rfl) ?_
        obtain ⟨r_6, er_6, m_r_6, o_r_6⟩ := (show ∃ r, fR f a1 0 = some r ∧ r ∈ L0 ∧ ArR f r cy.2.2.2.1 12 from hg.2.1 _ m_a1 5 0 o_a1)
        refine q_getr (ci := 5) (C := RX7) (T := TX7) (N := 2) hx hb hts (fun w h => List.mem_cons_of_mem _ (mfX70 w h)) hown hK hw m_a1 o_a1 rfl 0 (by decide) (hts _ (List.mem_cons_of_mem _ (mr2 _ (List.mem_of_getElem? (i := 3) rfl)))) (fun _ h => h) rfl er_6 dX7_copyFrom_25 ?_
        refine lv_iload_n hx hb dX7_copyFrom_28 rfl (lv_at hl 2 rfl) ?_
        obtain ⟨r_7, er_7, m_r_7, o_r_7⟩ := hg.2.2.1 _ m_r_6 y2_10 o_r_6 (by omega) (by omega)
        refine q_aald hx hb hK hw m_r_6 3 o_r_6 rfl ⟨ly2_10, uy2_10⟩ (by omega) (by omega) er_7 dX7_copyFrom_29 ?_
        show W _ _ _ _ _ _ _ _ _ _ _ _ _ _ _ (F0 m 30 ls (.ref r_7 :: [.ref r_5]))
        refine q_call_v hA hK hw (va_runV (As := [.ref r_7]) (rest := []) ⟨hx, hb, hml, hown, hts⟩ (c_X0_copyFrom zo l D cy L0 f r_5 r_7 m_r_5 o_r_5 m_r_7 o_r_7 hg _) (cwV 1 hts (gT (inV (mr44 _ (List.mem_of_getElem? (i := 22) rfl)) (mr40 _ (List.mem_of_getElem? (i := 16) rfl)) (mr40 _ (List.mem_of_getElem? (i := 17) rfl)) (mr2 _ (List.mem_of_getElem? (i := 9) rfl)) (mr40 _ (List.mem_of_getElem? (i := 18) rfl)))) rfl rfl rfl (by decide +kernel) ⟨Nat.le_of_ble_eq_true rfl, Nat.le_of_ble_eq_true rfl⟩) (Wd.preV zo hA hZ hw hK m_r_5 o_r_5 rfl) rfl rfl hl.1 rfl (lv_room (Nat.le_of_ble_eq_true rfl)) dX7_copyFrom_30 ⟨Nat.le_of_ble_eq_true rfl, Nat.le_of_ble_eq_true rfl⟩) (fun L1 f_9 H locs ex_8 hw => ?_)
        obtain ⟨rfl, hg, hX, ex_8⟩ := ex_8
        have hE := hE.trans hX
        have o_a0 := hX.1.1 _ _ o_a0
        have o_a1 := hX.1.1 _ _ o_a1
        obtain ⟨x_10, lx_10, ux_10, hx_10, ex_10⟩ := q_inc y2_10 (1)
        try (replace ex_10 : x_10 = y2_10 + (1) := by omega)
        refine lv_iinc (v := iI x_10) (lv' := [(2, .int (iI x_10)), (0, .ref a0), (1, .ref a1)]) hx hb dX7_copyFrom_33 hl (k := 2) rfl hx_10 (by decide) rfl (fun ls hl => ?_)
        refine lv_goto (tgt := 10) hx hb dX7_copyFrom_36 (by decide) ?_
        exact ih10 x_10 lx_10 ux_10 L0 f_9 hg hE o_a0 o_a1 (by omega) (by omega) _ _ _ hw (lv_sub hl [1, 2, 0] rfl)
  exact J10 ((((2147483647 : Int) - 0).toNat) + 1) 0 (by decide) (by decide) L0 f_2 hg hE o_a0 o_a1 (by omega) (by omega) _ _ _ hw (lv_sub hl [1, 2, 0] rfl)
set_option maxHeartbeats 4000000 in
set_option maxRecDepth 100000 in
theorem c_X7_roomBits {Z : Zt} (zo : Zok Z) (l : Launch) (D : va_G) (cy : Cy) (L0 : List Nat) (f0 : Nat → va_E) (a0 : Nat) (m_a0 : a0 ∈ L0) (o_a0 : Ob f0 a0 5) (hg : GI cy L0 f0) : Ci Z l yX7_roomBits (Cond.code yX7_roomBits cX7_roomBits 3 (some .int) :: TB) ({ frames := 0, cells := 0, slots := 0, locals := 0 } : Room) 0 0 D (tq cy) [.ref a0] L0 f0 (fun (r : Int) (L1 : List Nat) (f1 : Nat → va_E) => L0 = L1 ∧ f0 = f1 ∧ (True)) := by
  refine Ci.enter (cc := cX7_roomBits) (n := 3) rfl (plainFor_of_name (by decide)) (Nat.le_of_ble_eq_true rfl) ?_
  intro p e s m below meth c ls A hx hb hr hts hown hlocks hnm hml hK hA hAe hw hZ hl
  have hown : s.vm.findClass RX7 = some m.cls := hown
  have hl : lv_has ls 3 [(0, .ref a0)] := hl
  have hN : ZN s := (zo.2.2.2.2 _ _ _ hZ).2
  refine q_iconst hx hb dX7_roomBits_0 ?_
  refine lv_istore_n (lv' := [(1, .int (iI 0)), (0, .ref a0)]) hx hb dX7_roomBits_1 rfl hl (by decide) rfl (fun ls hl => ?_)
  refine q_iconst hx hb dX7_roomBits_2 ?_
  refine lv_istore_n (lv' := [(2, .int (iI 0)), (1, .int (iI 0)), (0, .ref a0)]) hx hb dX7_roomBits_3 rfl hl (by decide) rfl (fun ls hl => ?_)
  have J4 : ∀ (n4 : Nat) (y1_4 : Int) (ly1_4 : -2147483648 ≤ y1_4) (uy1_4 : y1_4 ≤ 2147483647) (y2_4 : Int) (ly2_4 : -2147483648 ≤ y2_4) (uy2_4 : y2_4 ≤ 2147483647) (i1 : 0 ≤ y2_4) (hn4 : ((2147483647 : Int) - y2_4).toNat < n4) (H : Heap) (locs : List Loc) (ls : Array Slot) (hw : Wd D A s.heap L0 f0 H locs) (hl : lv_has ls 3 [(0, .ref a0), (1, .int (iI y1_4)), (2, .int (iI y2_4))]), W p l e ({ frames := 0, cells := 0, slots := 0, locals := 0 } : Room) s m ([.ref a0] : List Value).toArray below meth c H locs (0) (0) (MQ below (Qi D (tq cy) L0 f0 s.heap.size (fun (r : Int) (L1 : List Nat) (f1 : Nat → va_E) => L0 = L1 ∧ f0 = f1 ∧ (True))) ([.ref a0] : List Value).toArray s 0 0 A) (F0 m 4 ls []) := by
    intro n4
    induction n4 with
    | zero => intro y1_4 ly1_4 uy1_4 y2_4 ly2_4 uy2_4 i1 hn4; exact absurd hn4 (Nat.not_lt_zero _)
    | succ n4 ih4 =>
      intro y1_4 ly1_4 uy1_4 y2_4 ly2_4 uy2_4 i1 hn4 H locs ls hw hl
      refine lv_iload_n hx hb dX7_roomBits_4 rfl (lv_at hl 2 rfl) ?_
      refine lv_aload_n hx hb dX7_roomBits_5 rfl (lv_at hl 0 rfl) ?_
      refine q_geti (ci := 5) (C := RX7) (T := TX7) (N := 2) hx hb hts (fun w h => List.mem_cons_of_mem _ (mfX70 w h)) hown hK hw m_a0 o_a0 rfl 1 (by decide) (hts _ (List.mem_cons_of_mem _ (mr2 _ (List.mem_of_getElem? (i := 4) rfl)))) (fun _ h => h) rfl dX7_roomBits_6 (fun x_1 lx_1 ux_1 ex_1 => ?_)
      have bx_1 : 0 ≤ x_1 ∧ x_1 ≤ 12 := by rw [ex_1]; exact hg.1 _ m_a0 5 1 o_a0
      refine q_icmp_ge (tgt := 32) hx hb dX7_roomBits_9 (by decide) ⟨ly2_4, uy2_4⟩ ⟨lx_1, ux_1⟩ (fun c9 => ?_) (fun c9 => ?_)
      · refine lv_iload_n hx hb dX7_roomBits_32 rfl (lv_at hl 1 rfl) ?_
        exact q_ret_i hx hb hr hlocks hK hAe hw ⟨ly1_4, uy1_4⟩ (Nat.le_of_ble_eq_true rfl) (Nat.le_of_ble_eq_true rfl) dX7_roomBits_33 ⟨rfl, rfl, by trivial⟩
      · refine lv_iload_n hx hb dX7_roomBits_12 rfl (lv_at hl 1 rfl) ?_
        refine q_iconst hx hb dX7_roomBits_13 ?_
        refine lv_aload_n hx hb dX7_roomBits_14 rfl (lv_at hl 0 rfl) ?_
        obtain ⟨r_2, er_2, m_r_2, o_r_2⟩ := (show ∃ r, fR f0 a0 0 = some r ∧ r ∈ L0 ∧ ArR f0 r cy.2.2.2.1 12 from hg.2.1 _ m_a0 5 0 o_a0)
        refine q_getr (ci := 5) (C := RX7) (T := TX7) (N := 2) hx hb hts (fun w h => List.mem_cons_of_mem _ (mfX70 w h)) hown hK hw m_a0 o_a0 rfl 0 (by decide) (hts _ (List.mem_cons_of_mem _ (mr2 _ (List.mem_of_getElem? (i := 3) rfl)))) (fun _ h => h) rfl er_2 dX7_roomBits_15 ?_
        refine lv_iload_n hx hb dX7_roomBits_18 rfl (lv_at hl 2 rfl) ?_
        obtain ⟨r_3, er_3, m_r_3, o_r_3⟩ := hg.2.2.1 _ m_r_2 y2_4 o_r_2 (by omega) (by omega)
        refine q_aald hx hb hK hw m_r_2 3 o_r_2 rfl ⟨ly2_4, uy2_4⟩ (by omega) (by omega) er_3 dX7_roomBits_19 ?_
        show W _ _ _ _ _ _ _ _ _ _ _ _ _ _ _ (F0 m 20 ls (.ref r_3 :: [.int (iI 1), .int (iI y1_4)]))
        refine q_geti (ci := 0) (C := RX0) (T := TX0) (N := 15) hx hb hts (fun w h => List.mem_cons_of_mem _ (mfX00 w h)) hown hK hw m_r_3 o_r_3 rfl 0 (by decide) (hts _ (List.mem_cons_of_mem _ (mr32 _ (List.mem_of_getElem? (i := 17) rfl)))) (fun _ h => h) rfl dX7_roomBits_20 (fun x_4 lx_4 ux_4 ex_4 => ?_)
        refine lv_ishl hx hb dX7_roomBits_23 ?_
        refine q_num (fun x_5 lx_5 ux_5 ex_5 => ?_)
        refine lv_ior hx hb dX7_roomBits_24 ?_
        refine q_num (fun x_6 lx_6 ux_6 ex_6 => ?_)
        refine lv_istore_n (lv' := [(1, .int (iI x_6)), (0, .ref a0), (2, .int (iI y2_4))]) hx hb dX7_roomBits_25 rfl hl (by decide) rfl (fun ls hl => ?_)
        obtain ⟨x_7, lx_7, ux_7, hx_7, ex_7⟩ := q_inc y2_4 (1)
        try (replace ex_7 : x_7 = y2_4 + (1) := by omega)
        refine lv_iinc (v := iI x_7) (lv' := [(2, .int (iI x_7)), (1, .int (iI x_6)), (0, .ref a0)]) hx hb dX7_roomBits_26 hl (k := 2) rfl hx_7 (by decide) rfl (fun ls hl => ?_)
        refine lv_goto (tgt := 4) hx hb dX7_roomBits_29 (by decide) ?_
        exact ih4 x_6 lx_6 ux_6 x_7 lx_7 ux_7 (by omega) (by omega) _ _ _ hw (lv_sub hl [2, 1, 0] rfl)
  exact J4 ((((2147483647 : Int) - 0).toNat) + 1) 0 (by decide) (by decide) 0 (by decide) (by decide) (by omega) (by omega) _ _ _ hw (lv_sub hl [2, 1, 0] rfl)
