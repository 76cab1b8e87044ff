set_option maxHeartbeats 4000000 in
set_option maxRecDepth 100000 in
theorem c_X9_cancel_f {Z : Zt} (zo : Zok Z) (l : Launch) (D : va_G) (cy : Cy) (L0 : List Nat) (f0 : Nat → va_E) (a0 : Nat) (x1 : Int) (lx1 : -2147483648 ≤ x1) (ux1 : x1 ≤ 2147483647) (m_a0 : a0 ∈ L0) (o_a0 : Ob f0 a0 7) (hg : GI cy L0 f0) (rq : Int → Nat) (g : Int → Int) (mm : Int) (sx : SX f0 a0 rq g mm) : Ci Z l yX9_cancel (Cond.code yX9_cancel cX9_cancel 2 (some .boolean) :: TB) ({ frames := 1, cells := 0, slots := 0, locals := 23 } : Room) 0 0 D (tq cy) [.ref a0, .int (iI x1)] L0 f0 (fun (r : Int) (L1 : List Nat) (f1 : Nat → va_E) => L0 = L1 ∧ GI cy L0 f1 ∧ Ex cy f0 f1 ∧ ((r = 0 ∧ (x1 < 0 ∨ mm ≤ x1) ∧ f1 = f0) ∨ (r = 1 ∧ 0 ≤ x1 ∧ x1 < mm ∧ ∃ sh ar : Nat, fR f0 a0 2 = some sh ∧ fR f0 sh 0 = some ar ∧ RM f0 f1 sh ar ∧ RR f1 ar (rmv rq x1 (mm - 1)) ∧ fI f1 sh 1 = mm - 1))) := by
  refine Ci.enter (cc := cX9_cancel) (n := 2) rfl (plainFor_of_name (by decide)) (Nat.le_of_ble_eq_true rfl) ?_
  intro p e s m below meth c ls A hx hb hr hts hown hlocks hnm hml hK hA hAe hw hZ hl
  have hown : s.vm.findClass RX9 = some m.cls := hown
  have hl : lv_has ls 2 [(0, .ref a0), (1, .int (iI x1))] := hl
  have hN : ZN s := (zo.2.2.2.2 _ _ _ hZ).2
  have hE : Ex cy f0 f0 := Ex.refl cy f0
  refine lv_aload_n hx hb dX9_cancel_0 rfl (lv_at hl 0 rfl) ?_
  obtain ⟨r_1, er_1, m_r_1, o_r_1⟩ := (show ∃ r, fR f0 a0 2 = some r ∧ r ∈ L0 ∧ Ob f0 r 5 from hg.2.1 _ m_a0 7 2 o_a0)
  refine q_getr (ci := 7) (C := RX9) (T := TX9) (N := 4) hx hb hts (fun w h => List.mem_cons_of_mem _ (mfX90 w h)) hown hK hw m_a0 o_a0 rfl 2 (by decide) (hts _ (List.mem_cons_of_mem _ (mr1 _ (List.mem_of_getElem? (i := 20) rfl)))) (fun _ h => h) rfl er_1 dX9_cancel_1 ?_
  have s1 := sx.at er_1
  refine lv_iload_n hx hb dX9_cancel_4 rfl (lv_at hl 1 rfl) ?_
  refine q_call_i hA hK hw (va_runV (As := [.int (iI x1)]) (rest := []) ⟨hx, hb, hml, hown, hts⟩ (c_X7_has_f zo l D cy L0 f0 r_1 x1 lx1 ux1 m_r_1 o_r_1 hg _) (cwV 1 hts (gT (inV (mr22 _ (List.mem_of_getElem? (i := 9) rfl)) (mr22 _ (List.mem_of_getElem? (i := 10) rfl)) (mr22 _ (List.mem_of_getElem? (i := 11) rfl)) (mr1 _ (List.mem_of_getElem? (i := 19) rfl)) (mr22 _ (List.mem_of_getElem? (i := 12) rfl)))) rfl rfl rfl (by decide +kernel) ⟨Nat.le_of_ble_eq_true rfl, Nat.le_of_ble_eq_true rfl⟩) (Wd.preV zo hA hZ hw hK m_r_1 o_r_1 rfl) rfl rfl hl.1 rfl (lv_room (Nat.le_of_ble_eq_true rfl)) dX9_cancel_5 ⟨Nat.le_of_ble_eq_true rfl, Nat.le_of_ble_eq_true rfl⟩) (fun x_2 L1 f1 H locs lx_2 ux_2 ex_2 hw => ?_)
  obtain ⟨rfl, rfl, ex_2⟩ := ex_2
  refine q_if_ne (tgt := 13) hx hb dX9_cancel_8 (by decide) ⟨lx_2, ux_2⟩ (fun c8 => ?_) (fun c8 => ?_)
  · refine lv_aload_n hx hb dX9_cancel_13 rfl (lv_at hl 0 rfl) ?_
    refine q_getr (ci := 7) (C := RX9) (T := TX9) (N := 4) hx hb hts (fun w h => List.mem_cons_of_mem _ (mfX90 w h)) hown hK hw m_a0 o_a0 rfl 2 (by decide) (hts _ (List.mem_cons_of_mem _ (mr1 _ (List.mem_of_getElem? (i := 20) rfl)))) (fun _ h => h) rfl er_1 dX9_cancel_14 ?_
    have s1 := sx.at er_1
    have e14 := er_1
    obtain ⟨ar, ea, rr⟩ := s1.1.1.2.1
    refine lv_iload_n hx hb dX9_cancel_17 rfl (lv_at hl 1 rfl) ?_
    refine q_call_v hA hK hw (va_runV (As := [.int (iI x1)]) (rest := []) ⟨hx, hb, hml, hown, hts⟩ (c_X7_remove_f zo l D cy L0 f0 r_1 x1 lx1 ux1 m_r_1 o_r_1 hg rq ar ea rr (by omega) (by omega) _) (cwV 1 hts (gT (inV (mr22 _ (List.mem_of_getElem? (i := 13) rfl)) (mr22 _ (List.mem_of_getElem? (i := 14) rfl)) (mr22 _ (List.mem_of_getElem? (i := 15) rfl)) (mr1 _ (List.mem_of_getElem? (i := 19) rfl)) (mr22 _ (List.mem_of_getElem? (i := 16) rfl)))) rfl rfl rfl (by decide +kernel) ⟨Nat.le_of_ble_eq_true rfl, Nat.le_of_ble_eq_true rfl⟩) (Wd.preV zo hA hZ hw hK m_r_1 o_r_1 rfl) rfl rfl hl.1 rfl (lv_room (Nat.le_of_ble_eq_true rfl)) dX9_cancel_18 ⟨Nat.le_of_ble_eq_true rfl, Nat.le_of_ble_eq_true rfl⟩) (fun L1 f_4 H locs ex_3 hw => ?_)
    obtain ⟨rfl, hg, hX, ex_3⟩ := ex_3
    have hE := hE.trans hX
    have o_a0 := hX.1.1 _ _ o_a0
    have e18 := ex_3
    refine q_iconst hx hb dX9_cancel_21 ?_
    exact q_ret_z hx hb hr hlocks hK hAe hw (by omega) (Nat.le_of_ble_eq_true rfl) (Nat.le_of_ble_eq_true rfl) dX9_cancel_22 (by exact ⟨rfl, hg, hE, Or.inr ⟨by omega, by omega, by omega, _, ar, e14, ea, e18.2.1, rr_n e18.2.2 (by omega), by omega⟩⟩)
  · refine q_iconst hx hb dX9_cancel_11 ?_
    exact q_ret_z hx hb hr hlocks hK hAe hw (by omega) (Nat.le_of_ble_eq_true rfl) (Nat.le_of_ble_eq_true rfl) dX9_cancel_12 (by exact ⟨rfl, hg, hE, Or.inl ⟨by omega, by omega, rfl⟩⟩)
set_option maxHeartbeats 4000000 in
set_option maxRecDepth 100000 in
theorem c_X9_split_f {Z : Zt} (zo : Zok Z) (l : Launch) (D : va_G) (cy : Cy) (L0 : List Nat) (f0 : Nat → va_E) (a0 : Nat) (x1 : Int) (lx1 : -2147483648 ≤ x1) (ux1 : x1 ≤ 2147483647) (x2 : Int) (lx2 : -2147483648 ≤ x2) (ux2 : x2 ≤ 2147483647) (m_a0 : a0 ∈ L0) (o_a0 : Ob f0 a0 7) (hg : GI cy L0 f0) (rq : Int → Nat) (g : Int → Int) (mm : Int) (sx : SX f0 a0 rq g mm) : Ci Z l yX9_split (Cond.code yX9_split cX9_split 4 (some .int) :: TB) ({ frames := 6, cells := 0, slots := 0, locals := 136 } : Room) 0 0 D (tq cy) [.ref a0, .int (iI x1), .int (iI x2)] L0 f0 (fun (r : Int) (L1 : List Nat) (f1 : Nat → va_E) => L0 = L1 ∧ GI cy L0 f1 ∧ Ex cy f0 f1 ∧ ((r = -1 ∧ (x1 < 0 ∨ mm ≤ x1 ∨ x2 < 0 ∨ 36524 < x2 ∨ 12 ≤ mm ∨ cn (KG g (44 * x1)) 0 x2 = 0 ∨ cn (KG g (44 * x1)) x2 36525 = 0) ∧ f1 = f0) ∨ (r = mm ∧ 0 ≤ x1 ∧ x1 < mm ∧ 0 ≤ x2 ∧ x2 ≤ 36524 ∧ mm < 12 ∧ cn (KG g (44 * x1)) 0 x2 ≠ 0 ∧ cn (KG g (44 * x1)) x2 36525 ≠ 0 ∧ ∃ (sh : Nat) (f9 : Nat → va_E), fR f0 a0 2 = some sh ∧ Fo (fun y => y = rq x1 ∨ y = rq mm) cy f0 f9 ∧ Fr0 f0 f9 ∧ RB f9 (rq x1) (HWd g (44 * x1) x2) (44 * x1) ∧ RB f9 (rq mm) (TWd g (44 * x1) x2) (44 * x1) ∧ RK f9 f1 sh ∧ fI f1 sh 1 = mm + 1))) := by
  refine Ci.enter (cc := cX9_split) (n := 4) rfl (plainFor_of_name (by decide)) (Nat.le_of_ble_eq_true rfl) ?_
  intro p e s m below meth c ls A hx hb hr hts hown hlocks hnm hml hK hA hAe hw hZ hl
  have hown : s.vm.findClass RX9 = some m.cls := hown
  have hl : lv_has ls 4 [(0, .ref a0), (1, .int (iI x1)), (2, .int (iI x2))] := hl
  have hN : ZN s := (zo.2.2.2.2 _ _ _ hZ).2
  have hE : Ex cy f0 f0 := Ex.refl cy f0
  have oa7 := o_a0
  refine lv_aload_n hx hb dX9_split_0 rfl (lv_at hl 0 rfl) ?_
  obtain ⟨r_1, er_1, m_r_1, o_r_1⟩ := (show ∃ r, fR f0 a0 2 = some r ∧ r ∈ L0 ∧ Ob f0 r 5 from hg.2.1 _ m_a0 7 2 o_a0)
  refine q_getr (ci := 7) (C := RX9) (T := TX9) (N := 4) hx hb hts (fun w h => List.mem_cons_of_mem _ (mfX90 w h)) hown hK hw m_a0 o_a0 rfl 2 (by decide) (hts _ (List.mem_cons_of_mem _ (mr1 _ (List.mem_of_getElem? (i := 20) rfl)))) (fun _ h => h) rfl er_1 dX9_split_1 ?_
  have s1 := sx.at er_1
  refine lv_iload_n hx hb dX9_split_4 rfl (lv_at hl 1 rfl) ?_
  refine q_call_i hA hK hw (va_runV (As := [.int (iI x1)]) (rest := []) ⟨hx, hb, hml, hown, hts⟩ (c_X7_has_f zo l D cy L0 f0 r_1 x1 lx1 ux1 m_r_1 o_r_1 hg _) (cwV 1 hts (gT (inV (mr22 _ (List.mem_of_getElem? (i := 9) rfl)) (mr22 _ (List.mem_of_getElem? (i := 10) rfl)) (mr22 _ (List.mem_of_getElem? (i := 11) rfl)) (mr1 _ (List.mem_of_getElem? (i := 19) rfl)) (mr22 _ (List.mem_of_getElem? (i := 12) rfl)))) rfl rfl rfl (by decide +kernel) ⟨Nat.le_of_ble_eq_true rfl, Nat.le_of_ble_eq_true rfl⟩) (Wd.preV zo hA hZ hw hK m_r_1 o_r_1 rfl) rfl rfl hl.1 rfl (lv_room (Nat.le_of_ble_eq_true rfl)) dX9_split_5 ⟨Nat.le_of_ble_eq_true rfl, Nat.le_of_ble_eq_true rfl⟩) (fun x_2 L1 f1 H locs lx_2 ux_2 ex_2 hw => ?_)
  obtain ⟨rfl, rfl, ex_2⟩ := ex_2
  refine q_if_eq (tgt := 28) hx hb dX9_split_8 (by decide) ⟨lx_2, ux_2⟩ (fun c8 => ?_) (fun c8 => ?_)
  · refine q_iconst hx hb dX9_split_28 ?_
    exact q_ret_i hx hb hr hlocks hK hAe hw ⟨by decide, by decide⟩ (Nat.le_of_ble_eq_true rfl) (Nat.le_of_ble_eq_true rfl) dX9_split_29 (by exact ⟨rfl, hg, hE, Or.inl ⟨by omega, by omega, rfl⟩⟩)
  · refine lv_iload_n hx hb dX9_split_11 rfl (lv_at hl 2 rfl) ?_
    refine q_call_i hA hK hw (va_runS (As := [.int (iI x2)]) (rest := []) ⟨hx, hb, hml, hown, hts⟩ (c_X9_isDay zo l D cy L0 f0 x2 lx2 ux2 _) (va_cwS 1 hts (gT (inS (mr23 _ (List.mem_of_getElem? (i := 13) rfl)) (mr23 _ (List.mem_of_getElem? (i := 14) rfl)) (mr1 _ (List.mem_of_getElem? (i := 2) rfl)) (mr23 _ (List.mem_of_getElem? (i := 15) rfl)))) rfl rfl rfl (by decide +kernel) ⟨Nat.le_of_ble_eq_true rfl, Nat.le_of_ble_eq_true rfl⟩) (Wd.preS zo hA hZ hw hK) rfl rfl hl.1 rfl (lv_room (Nat.le_of_ble_eq_true rfl)) dX9_split_12 ⟨Nat.le_of_ble_eq_true rfl, Nat.le_of_ble_eq_true rfl⟩) (fun x_3 L1 f1 H locs lx_3 ux_3 ex_3 hw => ?_)
    obtain ⟨rfl, rfl, ex_3⟩ := ex_3
    refine q_if_eq (tgt := 28) hx hb dX9_split_15 (by decide) ⟨lx_3, ux_3⟩ (fun c15 => ?_) (fun c15 => ?_)
    · refine q_iconst hx hb dX9_split_28 ?_
      exact q_ret_i hx hb hr hlocks hK hAe hw ⟨by decide, by decide⟩ (Nat.le_of_ble_eq_true rfl) (Nat.le_of_ble_eq_true rfl) dX9_split_29 (by exact ⟨rfl, hg, hE, Or.inl ⟨by omega, by omega, rfl⟩⟩)
    · refine lv_aload_n hx hb dX9_split_18 rfl (lv_at hl 0 rfl) ?_
      refine q_getr (ci := 7) (C := RX9) (T := TX9) (N := 4) hx hb hts (fun w h => List.mem_cons_of_mem _ (mfX90 w h)) hown hK hw m_a0 o_a0 rfl 2 (by decide) (hts _ (List.mem_cons_of_mem _ (mr1 _ (List.mem_of_getElem? (i := 20) rfl)))) (fun _ h => h) rfl er_1 dX9_split_19 ?_
      have s1 := sx.at er_1
      refine q_call_i hA hK hw (va_runV (As := []) (rest := []) ⟨hx, hb, hml, hown, hts⟩ (c_X7_isFull_f zo l D cy L0 f0 r_1 m_r_1 o_r_1 hg _) (cwV 0 hts (gT (inV (mr5 _ (List.mem_of_getElem? (i := 19) rfl)) (mr5 _ (List.mem_of_getElem? (i := 20) rfl)) (mr5 _ (List.mem_of_getElem? (i := 21) rfl)) (mr1 _ (List.mem_of_getElem? (i := 19) rfl)) (mr5 _ (List.mem_of_getElem? (i := 22) rfl)))) rfl rfl rfl (by decide +kernel) ⟨Nat.le_of_ble_eq_true rfl, Nat.le_of_ble_eq_true rfl⟩) (Wd.preV zo hA hZ hw hK m_r_1 o_r_1 rfl) rfl rfl hl.1 rfl (lv_room (Nat.le_of_ble_eq_true rfl)) dX9_split_22 ⟨Nat.le_of_ble_eq_true rfl, Nat.le_of_ble_eq_true rfl⟩) (fun x_4 L1 f1 H locs lx_4 ux_4 ex_4 hw => ?_)
      obtain ⟨rfl, rfl, ex_4⟩ := ex_4
      refine q_if_eq (tgt := 30) hx hb dX9_split_25 (by decide) ⟨lx_4, ux_4⟩ (fun c25 => ?_) (fun c25 => ?_)
      · refine lv_aload_n hx hb dX9_split_30 rfl (lv_at hl 0 rfl) ?_
        refine q_getr (ci := 7) (C := RX9) (T := TX9) (N := 4) hx hb hts (fun w h => List.mem_cons_of_mem _ (mfX90 w h)) hown hK hw m_a0 o_a0 rfl 2 (by decide) (hts _ (List.mem_cons_of_mem _ (mr1 _ (List.mem_of_getElem? (i := 20) rfl)))) (fun _ h => h) rfl er_1 dX9_split_31 ?_
        have s1 := sx.at er_1
        have e31 := er_1
        refine lv_iload_n hx hb dX9_split_34 rfl (lv_at hl 1 rfl) ?_
        refine q_call_r hA hK hw (va_runV (As := [.int (iI x1)]) (rest := []) ⟨hx, hb, hml, hown, hts⟩ (c_X7_at_f zo l D cy L0 f0 r_1 x1 lx1 ux1 m_r_1 o_r_1 hg (by omega) (by omega) _) (cwV 1 hts (gT (inV (mr24 _ (List.mem_of_getElem? (i := 8) rfl)) (mr24 _ (List.mem_of_getElem? (i := 9) rfl)) (mr24 _ (List.mem_of_getElem? (i := 10) rfl)) (mr1 _ (List.mem_of_getElem? (i := 19) rfl)) (mr24 _ (List.mem_of_getElem? (i := 11) rfl)))) rfl rfl rfl (by decide +kernel) ⟨Nat.le_of_ble_eq_true rfl, Nat.le_of_ble_eq_true rfl⟩) (Wd.preV zo hA hZ hw hK m_r_1 o_r_1 rfl) rfl rfl hl.1 rfl (lv_room (Nat.le_of_ble_eq_true rfl)) dX9_split_35 ⟨Nat.le_of_ble_eq_true rfl, Nat.le_of_ble_eq_true rfl⟩) (fun x_5 L1 f1 H locs ex_5 hw => ?_)
        obtain ⟨rfl, rfl, ex_5⟩ := ex_5
        obtain ⟨m_x_5, o_x_5, ex_5⟩ := ex_5
        have rb := s1.1.rb ex_5 (by omega) (by omega) (by omega)
        have gx := s1.1.row ex_5 (by omega) (by omega)
        refine lv_astore_n (lv' := [(3, .ref x_5), (0, .ref a0), (1, .int (iI x1)), (2, .int (iI x2))]) hx hb dX9_split_38 rfl hl (by decide) rfl (fun ls hl => ?_)
        refine lv_aload_n hx hb dX9_split_39 rfl (lv_at hl 0 rfl) ?_
        refine q_iconst hx hb dX9_split_40 ?_
        refine lv_iload_n hx hb dX9_split_41 rfl (lv_at hl 3 rfl) ?_
        refine q_iconst hx hb dX9_split_42 ?_
        first | refine q_isub hx hb dX9_split_43 ⟨by omega, by omega⟩ (fun x_6 lx_6 ux_6 ex_6 => ?_) | refine q_isubw hx hb dX9_split_43 (fun x_6 lx_6 ux_6 _ => ?_)
        refine q_call_i hA hK hw (va_runV (As := [.int (iI 0), .int (iI x_6)]) (rest := []) ⟨hx, hb, hml, hown, hts⟩ (c_X0_keysIn_g zo l D cy L0 f0 x_5 0 (by decide) (by decide) x_6 lx_6 ux_6 m_x_5 o_x_5 hg g (44 * x1) rb _) (cwV 2 hts (gT (inV (mr25 _ (List.mem_of_getElem? (i := 16) rfl)) (mr25 _ (List.mem_of_getElem? (i := 17) rfl)) (mr25 _ (List.mem_of_getElem? (i := 18) rfl)) (mr2 _ (List.mem_of_getElem? (i := 9) rfl)) (mr25 _ (List.mem_of_getElem? (i := 19) rfl)))) rfl rfl rfl (by decide +kernel) ⟨Nat.le_of_ble_eq_true rfl, Nat.le_of_ble_eq_true rfl⟩) (Wd.preV zo hA hZ hw hK m_x_5 o_x_5 rfl) rfl rfl hl.1 rfl (lv_room (Nat.le_of_ble_eq_true rfl)) dX9_split_44 ⟨Nat.le_of_ble_eq_true rfl, Nat.le_of_ble_eq_true rfl⟩) (fun x_7 L1 f1 H locs lx_7 ux_7 ex_7 hw => ?_)
        obtain ⟨rfl, rfl, ex_7⟩ := ex_7
        have c44 : x_7 = cn (KG g (44 * x1)) 0 x2 := ex_7.trans (by rw [show x_6 + 1 = x2 by omega])
        clear ex_7
        refine q_if_eq (tgt := 60) hx hb dX9_split_47 (by decide) ⟨lx_7, ux_7⟩ (fun c47 => ?_) (fun c47 => ?_)
        · refine q_iconst hx hb dX9_split_60 ?_
          exact q_ret_i hx hb hr hlocks hK hAe hw ⟨by decide, by decide⟩ (Nat.le_of_ble_eq_true rfl) (Nat.le_of_ble_eq_true rfl) dX9_split_61 (by exact ⟨rfl, hg, hE, Or.inl ⟨by omega, by omega, rfl⟩⟩)
        · refine lv_aload_n hx hb dX9_split_50 rfl (lv_at hl 0 rfl) ?_
          refine lv_iload_n hx hb dX9_split_51 rfl (lv_at hl 3 rfl) ?_
          refine q_ldc (n := 36524) hx hb hown (hts _ (List.mem_cons_of_mem _ (mr23 _ (List.mem_of_getElem? (i := 16) rfl)))) rfl dX9_split_52 ?_
          refine q_call_i hA hK hw (va_runV (As := [.int (iI x2), .int (iI 36524)]) (rest := []) ⟨hx, hb, hml, hown, hts⟩ (c_X0_keysIn_g zo l D cy L0 f0 x_5 x2 lx2 ux2 36524 (by decide) (by decide) m_x_5 o_x_5 hg g (44 * x1) rb _) (cwV 2 hts (gT (inV (mr25 _ (List.mem_of_getElem? (i := 16) rfl)) (mr25 _ (List.mem_of_getElem? (i := 17) rfl)) (mr25 _ (List.mem_of_getElem? (i := 18) rfl)) (mr2 _ (List.mem_of_getElem? (i := 9) rfl)) (mr25 _ (List.mem_of_getElem? (i := 19) rfl)))) rfl rfl rfl (by decide +kernel) ⟨Nat.le_of_ble_eq_true rfl, Nat.le_of_ble_eq_true rfl⟩) (Wd.preV zo hA hZ hw hK m_x_5 o_x_5 rfl) rfl rfl hl.1 rfl (lv_room (Nat.le_of_ble_eq_true rfl)) dX9_split_54 ⟨Nat.le_of_ble_eq_true rfl, Nat.le_of_ble_eq_true rfl⟩) (fun x_8 L1 f1 H locs lx_8 ux_8 ex_8 hw => ?_)
          obtain ⟨rfl, rfl, ex_8⟩ := ex_8
          have c54 : x_8 = cn (KG g (44 * x1)) x2 36525 := ex_8
          clear ex_8
          refine q_if_ne (tgt := 62) hx hb dX9_split_57 (by decide) ⟨lx_8, ux_8⟩ (fun c57 => ?_) (fun c57 => ?_)
          · refine lv_aload_n hx hb dX9_split_62 rfl (lv_at hl 0 rfl) ?_
            refine lv_aload_n hx hb dX9_split_63 rfl (lv_at hl 1 rfl) ?_
            refine q_getr (ci := 7) (C := RX9) (T := TX9) (N := 4) hx hb hts (fun w h => List.mem_cons_of_mem _ (mfX90 w h)) hown hK hw m_a0 o_a0 rfl 2 (by decide) (hts _ (List.mem_cons_of_mem _ (mr1 _ (List.mem_of_getElem? (i := 20) rfl)))) (fun _ h => h) rfl er_1 dX9_split_64 ?_
            have s1 := sx.at er_1
            have e64 := er_1
            refine q_call_r hA hK hw (va_runV (As := []) (rest := [.ref x_5]) ⟨hx, hb, hml, hown, hts⟩ (c_X7_spare_f zo l D cy L0 f0 r_1 m_r_1 o_r_1 hg (by omega) _) (cwV 0 hts (gT (inV (mr6 _ (List.mem_of_getElem? (i := 17) rfl)) (mr6 _ (List.mem_of_getElem? (i := 18) rfl)) (mr6 _ (List.mem_of_getElem? (i := 19) rfl)) (mr1 _ (List.mem_of_getElem? (i := 19) rfl)) (mr6 _ (List.mem_of_getElem? (i := 20) rfl)))) rfl rfl rfl (by decide +kernel) ⟨Nat.le_of_ble_eq_true rfl, Nat.le_of_ble_eq_true rfl⟩) (Wd.preV zo hA hZ hw hK m_r_1 o_r_1 rfl) rfl rfl hl.1 rfl (lv_room (Nat.le_of_ble_eq_true rfl)) dX9_split_67 ⟨Nat.le_of_ble_eq_true rfl, Nat.le_of_ble_eq_true rfl⟩) (fun x_9 L1 f1 H locs ex_9 hw => ?_)
            obtain ⟨rfl, rfl, ex_9⟩ := ex_9
            obtain ⟨m_x_9, o_x_9, ex_9⟩ := ex_9
            have gy := (s1.1.row ex_9 (by omega) (by omega)).trans (by rw [s1.2.1])
            have nxy := row_ne s1.1.1.2.2.2 gx gy (by omega) (by omega) (by omega) (by omega) (by omega)
            have kx1 := cn_ex (p := KG g (44 * x1)) (a := 0) (b := x2) (by omega)
            have kx2 := cn_ex (p := KG g (44 * x1)) (a := x2) (b := 36525) (by omega)
            have osh := s1.1.1.1
            refine lv_iload_n hx hb dX9_split_70 rfl (lv_at hl 3 rfl) ?_
            refine q_call_v hA hK hw (va_runV (As := [.ref x_9, .int (iI x2)]) (rest := []) ⟨hx, hb, hml, hown, hts⟩ (c_X0_cutInto_f zo l D cy L0 f0 x_5 x_9 x2 lx2 ux2 m_x_5 o_x_5 m_x_9 o_x_9 hg nxy g (44 * x1) rb ⟨_, kx1.choose_spec.2.1, kx1.choose_spec.2.2⟩ ⟨_, kx2.choose_spec.1, kx2.choose_spec.2.2⟩ _) (cwV 2 hts (gT (inV (mr40 _ (List.mem_of_getElem? (i := 11) rfl)) (mr40 _ (List.mem_of_getElem? (i := 12) rfl)) (mr40 _ (List.mem_of_getElem? (i := 13) rfl)) (mr2 _ (List.mem_of_getElem? (i := 9) rfl)) (mr40 _ (List.mem_of_getElem? (i := 14) rfl)))) rfl rfl rfl (by decide +kernel) ⟨Nat.le_of_ble_eq_true rfl, Nat.le_of_ble_eq_true rfl⟩) (Wd.preV zo hA hZ hw hK m_x_5 o_x_5 rfl) rfl rfl hl.1 rfl (lv_room (Nat.le_of_ble_eq_true rfl)) dX9_split_71 ⟨Nat.le_of_ble_eq_true rfl, Nat.le_of_ble_eq_true rfl⟩) (fun L1 f_11 H locs ex_10 hw => ?_)
            obtain ⟨rfl, hg, hX, ex_10⟩ := ex_10
            have hE := hE.trans hX
            have o_x_5 := hX.1.1 _ _ o_x_5
            have o_a0 := hX.1.1 _ _ o_a0
            obtain ⟨cF, cR, ca, ct⟩ := ex_10
            have cF : Fo (fun y => y = rq x1 ∨ y = rq mm) cy f0 f_11 := cF.mono (fun y h => h.elim (fun h => Or.inl (h.trans gx)) (fun h => Or.inr (h.trans gy)))
            rw [gx] at ca
            rw [gy] at ct
            have e2 := fR_W (hX.2.1 a0 2 oa7)
            obtain ⟨f9, ef9⟩ : ∃ z : Nat → va_E, z = f_11 := ⟨_, rfl⟩
            have sz := fsz cF osh s1.1.1.2.2.1 (by omega) (by omega) (by omega) (by omega)
            refine lv_aload_n hx hb dX9_split_74 rfl (lv_at hl 1 rfl) ?_
            obtain ⟨r_12, er_12, m_r_12, o_r_12⟩ := (show ∃ r, fR f_11 a0 2 = some r ∧ r ∈ L0 ∧ Ob f_11 r 5 from hg.2.1 _ m_a0 7 2 o_a0)
            refine q_getr (ci := 7) (C := RX9) (T := TX9) (N := 4) hx hb hts (fun w h => List.mem_cons_of_mem _ (mfX90 w h)) hown hK hw m_a0 o_a0 rfl 2 (by decide) (hts _ (List.mem_cons_of_mem _ (mr1 _ (List.mem_of_getElem? (i := 20) rfl)))) (fun _ h => h) rfl er_12 dX9_split_75 ?_
            have e75 := er_12
            refine q_call_i hA hK hw (va_runV (As := []) (rest := []) ⟨hx, hb, hml, hown, hts⟩ (c_X7_keepSpare_f zo l D cy L0 f_11 r_12 m_r_12 o_r_12 hg (by rw [show _ = _ from Option.some.inj (e75.symm.trans (e2.trans e64)), sz]; omega) _) (cwV 0 hts (gT (inV (mr18 _ (List.mem_of_getElem? (i := 16) rfl)) (mr18 _ (List.mem_of_getElem? (i := 17) rfl)) (mr18 _ (List.mem_of_getElem? (i := 18) rfl)) (mr1 _ (List.mem_of_getElem? (i := 19) rfl)) (mr18 _ (List.mem_of_getElem? (i := 19) rfl)))) rfl rfl rfl (by decide +kernel) ⟨Nat.le_of_ble_eq_true rfl, Nat.le_of_ble_eq_true rfl⟩) (Wd.preV zo hA hZ hw hK m_r_12 o_r_12 rfl) rfl rfl hl.1 rfl (lv_room (Nat.le_of_ble_eq_true rfl)) dX9_split_78 ⟨Nat.le_of_ble_eq_true rfl, Nat.le_of_ble_eq_true rfl⟩) (fun x_13 L1 f_14 H locs lx_13 ux_13 ex_13 hw => ?_)
            obtain ⟨rfl, hg, hX, ex_13⟩ := ex_13
            have hE := hE.trans hX
            have o_x_5 := hX.1.1 _ _ o_x_5
            have o_a0 := hX.1.1 _ _ o_a0
            have e78 := ex_13
            exact q_ret_i hx hb hr hlocks hK hAe hw ⟨lx_13, ux_13⟩ (Nat.le_of_ble_eq_true rfl) (Nat.le_of_ble_eq_true rfl) dX9_split_81 (by exact ⟨rfl, hg, hE, split_end e78 (e75.symm.trans (e2.trans e64)) sz s1.2.1 (by omega) (by omega) (by omega) (by omega) (by omega) (by omega) (by omega) (by omega) e64 cF cR ca ct⟩)
          · refine q_iconst hx hb dX9_split_60 ?_
            exact q_ret_i hx hb hr hlocks hK hAe hw ⟨by decide, by decide⟩ (Nat.le_of_ble_eq_true rfl) (Nat.le_of_ble_eq_true rfl) dX9_split_61 (by exact ⟨rfl, hg, hE, Or.inl ⟨by omega, by omega, rfl⟩⟩)
      · refine q_iconst hx hb dX9_split_28 ?_
        exact q_ret_i hx hb hr hlocks hK hAe hw ⟨by decide, by decide⟩ (Nat.le_of_ble_eq_true rfl) (Nat.le_of_ble_eq_true rfl) dX9_split_29 (by exact ⟨rfl, hg, hE, Or.inl ⟨by omega, by omega, rfl⟩⟩)
set_option maxHeartbeats 4000000 in
set_option maxRecDepth 100000 in
theorem c_X7_init_r {Z : Zt} (zo : Zok Z) (l : Launch) (D : va_G) (cy : Cy) (L0 : List Nat) (f0 : Nat → va_E) (a0 : Nat) (m_a0 : a0 ∈ L0) (o_a0 : Ob f0 a0 5) (M : List Nat) (hM : ∀ x ∈ M, x ∈ L0) (hg : GI cy M f0) (hn0 : a0 ∉ M) : Cv Z l yX7_init (Cond.code yX7_init cX7_init 3 none :: TB) ({ frames := 3, cells := 38, slots := 579, locals := 64 } : Room) 38 579 D (tq cy) [.ref a0] L0 f0 (fun (L1 : List Nat) (f1 : Nat → va_E) => PA cy M L0 f0 a0 5 L1 f1 ∧ (∃ rq : Int → Nat, SF f1 a0 rq ∧ ∀ i : Int, 0 ≤ i → i < 12 → rq i ∉ L0) ∧ fI f1 a0 1 = 0) := by
  refine Cv.enter (cc := cX7_init) (n := 3) rfl (plainFor_of_name (by decide)) (Nat.le_of_ble_eq_true rfl) ?_
  intro p e s m below meth c ls A hx hb hr hts hown hlocks hnm hml hK hA hAe hw hZ hl
  have hown : s.vm.findClass RX7 = some m.cls := hown
  have hl : lv_has ls 3 [(0, .ref a0)] := hl
  have hN : ZN s := (zo.2.2.2.2 _ _ _ hZ).2
  have ha0 := m_a0
  have hML := hM
  have hM0 : ∀ x ∈ M, x ∈ M := fun _ h => h
  have hMc : ∀ x ∈ M, x ∈ M ∨ x ∉ L0 := fun _ h => Or.inl h
  have hs : ∀ x ∈ L0, x ∈ L0 := fun _ h => h
  have hc : ∀ x ∈ L0, x ∈ L0 ∨ x ∈ M ∨ x ∈ ([] : List Nat) := fun _ h => Or.inl h
  have hO : ∀ x ∈ L0, x ≠ a0 → f0 x = f0 x := fun _ _ _ => rfl
  refine lv_aload_n hx hb dX7_init_0 rfl (lv_at hl 0 rfl) ?_
  refine W.objInit hx hb hown (hts _ (List.mem_cons_of_mem _ (mr2 _ (List.mem_of_getElem? (i := 1) rfl)))) (hts _ (List.mem_cons_of_mem _ (mr1 _ (List.mem_of_getElem? (i := 12) rfl)))) (hts _ (List.mem_cons_of_mem _ (mr1 _ (List.mem_of_getElem? (i := 13) rfl)))) rfl (by rw [hml]; exact hl.1) rfl dX7_init_1 (Nat.le_of_ble_eq_true rfl) (Nat.le_of_ble_eq_true rfl) ?_
  refine W.eq (g2 := F0 m 4 ls []) rfl ?_
  refine lv_aload_n hx hb dX7_init_4 rfl (lv_at hl 0 rfl) ?_
  refine q_bipush hx hb dX7_init_5 rfl ?_
  refine q_newR (n := 12) (cA := cy.2.2.2.1) (C := RX0) hx hb hown (hts _ (List.mem_cons_of_mem _ (mr2 _ (List.mem_of_getElem? (i := 2) rfl)))) (hN _ (List.mem_of_getElem? (i := 19) rfl)) 3 rfl hK hw hA (by decide) (by decide) (by show 0 + 1 ≤ 38; omega) (by show 0 + 12 ≤ 579; omega) dX7_init_7 (fun q_1 H n_q_1 hw => ?_)
  obtain ⟨f_2, ef_2⟩ : ∃ g : Nat → va_E, g = va_up f0 q_1 (.inl (cy.2.2.2.1, 12, .inr (.inr (.inr (.inr (fun _ => none)))))) := ⟨_, rfl⟩
  rw [← ef_2] at hw
  have hq : ∀ x ∈ L0, f_2 x = f0 x := fun x h => by rw [ef_2]; exact va_up_ne _ _ (fun z => n_q_1 (z ▸ h))
  have o_a0 := Ob_of (hq _ m_a0) o_a0
  have hO : ∀ x ∈ L0, x ≠ a0 → f_2 x = f0 x := fun x m h => (hq x (hs x m)).trans (hO x m h)
  have hg := hg.off (fun x h => hq x (hML x h))
  have ne_a0 : a0 ≠ q_1 := fun z => n_q_1 (z ▸ m_a0)
  have m_a0 : a0 ∈ L0 ++ [q_1] := List.mem_append_left _ m_a0
  have m_q_1 : q_1 ∈ L0 ++ [q_1] := List.mem_append_right _ (List.mem_singleton.mpr rfl)
  have nq_q_1 : q_1 ∉ L0 := fun z => n_q_1 (hs _ z)
  have nm_q_1 : q_1 ∉ M := fun z => n_q_1 (hML _ z)
  have hs : ∀ x ∈ L0, x ∈ L0 ++ [q_1] := fun x h => List.mem_append_left _ (hs x h)
  have o_q_1 : ArR f_2 q_1 cy.2.2.2.1 12 := by rw [ef_2]; exact ⟨_, va_up_self _ _ _⟩
  have hML : ∀ x ∈ M, x ∈ L0 ++ [q_1] := fun x h => List.mem_append_left _ (hML x h)
  have hc : ∀ x ∈ L0 ++ [q_1], x ∈ L0 ∨ x ∈ M ∨ x ∈ ([q_1]) := fun x h => (List.mem_append.mp h).elim (fun h => (hc x h).elim Or.inl (fun h => h.elim (fun h => Or.inr (Or.inl h)) (fun h => Or.inr (Or.inr (List.mem_append_left [q_1] h))))) (fun h => Or.inr (Or.inr (List.mem_append_right [] h)))
  refine q_putFr (ci := 5) (C := RX7) (T := TX7) (N := 2) hx hb hts (fun w h => List.mem_cons_of_mem _ (mfX70 w h)) hown hK hw m_a0 o_a0 rfl 0 (by decide) (hts _ (List.mem_cons_of_mem _ (mr2 _ (List.mem_of_getElem? (i := 3) rfl)))) (fun _ h => h) tyX7 tyX7_ok nmX7 rfl hnm rfl (ty := tyX7 0) (by decide +kernel) rfl rfl rfl dX7_init_10 (fun H locs hw => ?_)
  obtain ⟨f_3, ef_3⟩ : ∃ g : Nat → va_E, g = pU f_2 a0 0 (.ref q_1) := ⟨_, rfl⟩
  rw [← ef_3] at hw
  have oo := o_a0
  have hq : ∀ x : Nat, x ≠ a0 → f_3 x = f_2 x := fun x h => by rw [ef_3]; exact pU_ne h
  have hX : Sh f_2 f_3 := by rw [ef_3]; exact Sh_pU oo rfl rfl
  have o_a0 := hX.1 _ _ o_a0
  have o_q_1 := hX.2.2 _ _ _ o_q_1
  have hg := hg.off (fun x h => hq x (fun z => (hMc x h).elim (fun h => hn0 (z ▸ h)) (fun h => h (z ▸ ha0))))
  have hO : ∀ x ∈ L0, x ≠ a0 → f_3 x = f0 x := fun x m h => (hq x h).trans (hO x m h)
  have w_0 : fR f_3 a0 0 = some q_1 := by rw [ef_3]; exact fR_pU_self oo rfl
  refine lv_aload_n hx hb dX7_init_13 rfl (lv_at hl 0 rfl) ?_
  refine q_iconst hx hb dX7_init_14 ?_
  refine q_puti (ci := 5) (C := RX7) (T := TX7) (N := 2) hx hb hts (fun w h => List.mem_cons_of_mem _ (mfX70 w h)) hown hK hw m_a0 o_a0 rfl 1 (by decide) (hts _ (List.mem_cons_of_mem _ (mr2 _ (List.mem_of_getElem? (i := 4) rfl)))) (fun _ h => h) tyX7 tyX7_ok nmX7 rfl (ty := .int) (by decide +kernel) rfl rfl dX7_init_15 (fun H locs hw => ?_)
  obtain ⟨f_4, ef_4⟩ : ∃ g : Nat → va_E, g = pU f_3 a0 1 (.int (iI 0)) := ⟨_, rfl⟩
  rw [← ef_4] at hw
  have oo := o_a0
  have hq : ∀ x : Nat, x ≠ a0 → f_4 x = f_3 x := fun x h => by rw [ef_4]; exact pU_ne h
  have hX : Sh f_3 f_4 := by rw [ef_4]; exact Sh_pU oo rfl rfl
  have o_a0 := hX.1 _ _ o_a0
  have o_q_1 := hX.2.2 _ _ _ o_q_1
  have hg := hg.off (fun x h => hq x (fun z => (hMc x h).elim (fun h => hn0 (z ▸ h)) (fun h => h (z ▸ ha0))))
  have hO : ∀ x ∈ L0, x ≠ a0 → f_4 x = f0 x := fun x m h => (hq x h).trans (hO x m h)
  have w_0 : fR f_4 a0 0 = some q_1 := by rw [ef_4, fR_pU (Or.inr (by decide))]; exact w_0
  have i_1 : fI f_4 a0 1 = 0 := by rw [ef_4]; exact fI_pU_self oo rfl ⟨by decide, by decide⟩
  refine q_new (ci := 3) (C := RX4) (T := TX4) (N := 3) (fs := [.int 0, .int 0, .int 0]) hx hb hts (fun w h => List.mem_cons_of_mem _ (mfX40 w h)) tyX4 tyX4_ok hown (hts _ (List.mem_cons_of_mem _ (mr2 _ (List.mem_of_getElem? (i := 5) rfl)))) (hts _ (List.mem_cons_of_mem _ (mr2 _ (List.mem_of_getElem? (i := 6) rfl)))) (hts _ (List.mem_cons_of_mem _ (mr2 _ (List.mem_of_getElem? (i := 7) rfl)))) hK hw hA rfl (by decide) (by show 0 + 1 + 1 ≤ 38; omega) (by show 0 + 12 + 3 ≤ 579; omega) dX7_init_18 (fun q_5 H n_q_5 hw => ?_)
  obtain ⟨f_6, ef_6⟩ : ∃ g : Nat → va_E, g = va_up f_4 q_5 (.inr (3, [.int 0, .int 0, .int 0])) := ⟨_, rfl⟩
  rw [← ef_6] at hw
  have hq : ∀ x ∈ (L0 ++ [q_1]), f_6 x = f_4 x := fun x h => by rw [ef_6]; exact va_up_ne _ _ (fun z => n_q_5 (z ▸ h))
  have o_a0 := Ob_of (hq _ m_a0) o_a0
  have o_q_1 := ArR_of (hq _ m_q_1) o_q_1
  have w_0 := (fR_of (k := 0) (hq _ m_a0)).trans w_0
  have i_1 := (fI_of (k := 1) (hq _ m_a0)).trans i_1
  have hO : ∀ x ∈ L0, x ≠ a0 → f_6 x = f0 x := fun x m h => (hq x (hs x m)).trans (hO x m h)
  have hg := hg.off (fun x h => hq x (hML x h))
  have ne_a0 : a0 ≠ q_5 := fun z => n_q_5 (z ▸ m_a0)
  have m_a0 : a0 ∈ (L0 ++ [q_1]) ++ [q_5] := List.mem_append_left _ m_a0
  have ne_q_1 : q_1 ≠ q_5 := fun z => n_q_5 (z ▸ m_q_1)
  have m_q_1 : q_1 ∈ (L0 ++ [q_1]) ++ [q_5] := List.mem_append_left _ m_q_1
  have m_q_5 : q_5 ∈ (L0 ++ [q_1]) ++ [q_5] := List.mem_append_right _ (List.mem_singleton.mpr rfl)
  have nq_q_5 : q_5 ∉ L0 := fun z => n_q_5 (hs _ z)
  have nm_q_5 : q_5 ∉ M := fun z => n_q_5 (hML _ z)
  have hs : ∀ x ∈ L0, x ∈ (L0 ++ [q_1]) ++ [q_5] := fun x h => List.mem_append_left _ (hs x h)
  have o_q_5 : Ob f_6 q_5 3 := by rw [ef_6]; exact ⟨_, va_up_self _ _ _, rfl⟩
  have hML : ∀ x ∈ M, x ∈ (L0 ++ [q_1]) ++ [q_5] := fun x h => List.mem_append_left _ (hML x h)
  have hc : ∀ x ∈ (L0 ++ [q_1]) ++ [q_5], x ∈ L0 ∨ x ∈ M ∨ x ∈ ([q_1, q_5]) := fun x h => (List.mem_append.mp h).elim (fun h => (hc x h).elim Or.inl (fun h => h.elim (fun h => Or.inr (Or.inl h)) (fun h => Or.inr (Or.inr (List.mem_append_left [q_5] h))))) (fun h => Or.inr (Or.inr (List.mem_append_right [q_1] h)))
  refine lv_dup hx hb dX7_init_21 rfl ?_
  refine q_iconst hx hb dX7_init_22 ?_
  refine q_call_v hA hK hw (va_runI (As := [.int (iI 0)]) (rest := [.ref q_5]) ⟨hx, hb, hml, hown, hts⟩ (c_X4_init zo l D cy ((L0 ++ [q_1]) ++ [q_5]) f_6 q_5 0 (by decide) (by decide) m_q_5 o_q_5 M hML hg _) (cwI 1 hts (gT (inC (mr2 _ (List.mem_of_getElem? (i := 12) rfl)))) rfl rfl rfl (hts _ (List.mem_cons_of_mem _ (mr2 _ (List.mem_of_getElem? (i := 7) rfl)))) (hts _ (List.mem_cons_of_mem _ (mr2 _ (List.mem_of_getElem? (i := 10) rfl)))) (hts _ (List.mem_cons_of_mem _ (mr2 _ (List.mem_of_getElem? (i := 11) rfl)))) rfl (by decide +kernel) ⟨Nat.le_of_ble_eq_true rfl, Nat.le_of_ble_eq_true rfl⟩) (Wd.preS zo hA hZ hw hK) rfl rfl hl.1 rfl (lv_room (Nat.le_of_ble_eq_true rfl)) dX7_init_23 ⟨(by show 0 + 1 + 1 + 0 ≤ 38; omega), (by show 0 + 12 + 3 + 0 ≤ 579; omega)⟩) (fun L1 f_8 H locs ex_7 hw => ?_)
  obtain ⟨rfl, hg, hX, hq, ex_7⟩ := ex_7
  have o_q_5 := hX.1.1 _ _ o_q_5
  have o_a0 := Ob_of (hq _ m_a0 ne_a0) o_a0
  have o_q_1 := ArR_of (hq _ m_q_1 ne_q_1) o_q_1
  have w_0 := (fR_of (k := 0) (hq _ m_a0 ne_a0)).trans w_0
  have i_1 := (fI_of (k := 1) (hq _ m_a0 ne_a0)).trans i_1
  have hO : ∀ x ∈ L0, x ≠ a0 → f_8 x = f0 x := fun x m h => (hq x (hs x m) (fun z => nq_q_5 (z ▸ m))).trans (hO x m h)
  have hg := hg.addOb o_q_5 fcond_3 rcond_3
  have mg_q_5 : q_5 ∈ M ++ [q_5] := List.mem_append_right _ (List.mem_singleton.mpr rfl)
  have hML : ∀ x ∈ M ++ [q_5], x ∈ ((L0 ++ [q_1]) ++ [q_5]) := fun x h => (List.mem_append.mp h).elim (fun h => hML x h) (fun h => by rw [List.mem_singleton.mp h]; exact m_q_5)
  have hM0 : ∀ x ∈ M, x ∈ M ++ [q_5] := fun x h => List.mem_append_left _ (hM0 x h)
  have hMc : ∀ x ∈ M ++ [q_5], x ∈ M ∨ x ∉ L0 := fun x h => (List.mem_append.mp h).elim (fun h => hMc x h) (fun h => by rw [List.mem_singleton.mp h]; exact Or.inr nq_q_5)
  have nm_q_1 : q_1 ∉ M ++ [q_5] := fun h => (List.mem_append.mp h).elim nm_q_1 (fun h => ne_q_1 (List.mem_singleton.mp h))
  have hc : ∀ x ∈ ((L0 ++ [q_1]) ++ [q_5]), x ∈ L0 ∨ x ∈ (M ++ [q_5]) ∨ x ∈ ([q_1]) := fun x h => by
    rcases hc x h with h | h | h
    · exact Or.inl h
    · exact Or.inr (Or.inl (List.mem_append_left _ h))
    · rcases List.mem_append.mp (show x ∈ ([q_1]) ++ [q_5] from h) with h | h
      · exact Or.inr (Or.inr h)
      · exact Or.inr (Or.inl (List.mem_append_right _ h))
  refine lv_astore_n (lv' := [(1, .ref q_5), (0, .ref a0)]) hx hb dX7_init_26 rfl hl (by decide) rfl (fun ls hl => ?_)
  refine q_iconst hx hb dX7_init_27 ?_
  refine lv_istore_n (lv' := [(2, .int (iI 0)), (1, .ref q_5), (0, .ref a0)]) hx hb dX7_init_28 rfl hl (by decide) rfl (fun ls hl => ?_)
  have J29 : ∀ (n i : Nat) (y : Int) (ly : -2147483648 ≤ y) (uy : y ≤ 2147483647) (ey : y = (i : Int)) (hi : i ≤ 12) (hn : 12 - i < n) (L M2 : List Nat) (f : Nat → va_E) (hg : GI cy M2 f) (hML : ∀ x ∈ M2, x ∈ L) (hM0 : ∀ x ∈ M, x ∈ M2) (hMc : ∀ x ∈ M2, x ∈ M ∨ x ∉ L0) (hs : ∀ x ∈ L0, x ∈ L) (hc : ∀ x ∈ L, x ∈ L0 ∨ x ∈ M2 ∨ x ∈ [q_1]) (hO : ∀ x ∈ L0, x ≠ a0 → f x = f0 x) (m_a0 : a0 ∈ L) (o_a0 : Ob f a0 5) (m_q_1 : q_1 ∈ L) (o_q_1 : ArR f q_1 cy.2.2.2.1 12) (m_q_5 : q_5 ∈ L) (o_q_5 : Ob f q_5 3) (nm_q_1 : q_1 ∉ M2) (mg_q_5 : q_5 ∈ M2) (w_0 : fR f a0 0 = some q_1) (i_1 : fI f a0 1 = 0) (hfr : ∀ (j : Int) (b : Nat), 0 ≤ j → j < y → aR f q_1 j = some b → b ∉ L0) (hdis : ∀ j k : Int, 0 ≤ j → j < k → k < y → aR f q_1 j ≠ aR f q_1 k) (hrow : ∀ j : Int, 0 ≤ j → j < y → ∃ b, aR f q_1 j = some b ∧ b ∈ M2 ∧ Ob f b 0) (H : Heap) (locs : List Loc) (ls : Array Slot) (hw : Wd D A s.heap L f H locs) (hl : lv_has ls 3 [(0, .ref a0), (1, .ref q_5), (2, .int (iI y))]), W p l e ({ frames := 3, cells := 38, slots := 579, locals := 64 } : Room) s m ([.ref a0] : List Value).toArray below meth c H locs (2 + 3 * i) (15 + 47 * i) (MQ below (Qv D (tq cy) L0 f0 s.heap.size (fun (L1 : List Nat) (f1 : Nat → va_E) => PA cy M L0 f0 a0 5 L1 f1 ∧ (∃ rq : Int → Nat, SF f1 a0 rq ∧ ∀ i : Int, 0 ≤ i → i < 12 → rq i ∉ L0) ∧ fI f1 a0 1 = 0)) ([.ref a0] : List Value).toArray s 38 579 A) (F0 m 29 ls []) := by
    intro n
    induction n with
    | zero => intro i y ly uy ey hi hn; exact absurd hn (Nat.not_lt_zero _)
    | succ n ih =>
      intro i y ly uy ey hi hn L M2 f hg hML hM0 hMc hs hc hO m_a0 o_a0 m_q_1 o_q_1 m_q_5 o_q_5 nm_q_1 mg_q_5 w_0 i_1 hfr hdis hrow H locs ls hw hl
      refine lv_iload_n hx hb dX7_init_29 rfl (lv_at hl 2 rfl) ?_
      refine lv_aload_n hx hb dX7_init_30 rfl (lv_at hl 0 rfl) ?_
      refine q_getr (ci := 5) (C := RX7) (T := TX7) (N := 2) hx hb hts (fun w h => List.mem_cons_of_mem _ (mfX70 w h)) hown hK hw m_a0 o_a0 rfl 0 (by decide) (hts _ (List.mem_cons_of_mem _ (mr2 _ (List.mem_of_getElem? (i := 3) rfl)))) (fun _ h => h) rfl w_0 dX7_init_31 ?_
      refine q_alenR hx hb hK hw m_q_1 3 o_q_1 rfl dX7_init_34 ?_
      refine q_icmp_ge (tgt := 58) hx hb dX7_init_35 (by decide) ⟨ly, uy⟩ ⟨by decide, by decide⟩ (fun c35 => ?_) (fun c35 => ?_)
      · have hg := hg.add (q := q_1) (fun _ _ o' => absurd o_q_1 o'.notR) (fun _ _ o' => absurd o_q_1 o'.notR) (fun j o' h0 h1 => by obtain ⟨b, q1, q2, q3⟩ := hrow j h0 (by omega); exact ⟨b, q1, List.mem_append_left _ q2, q3⟩) (fun j o' h0 h1 => absurd (o_q_1.uniq o').2 (by decide))
        have mg_q_5 : q_5 ∈ M2 ++ [q_1] := List.mem_append_left _ mg_q_5
        have mg_q_1 : q_1 ∈ M2 ++ [q_1] := List.mem_append_right _ (List.mem_singleton.mpr rfl)
        have hML : ∀ x ∈ M2 ++ [q_1], x ∈ L := fun x h => (List.mem_append.mp h).elim (fun h => hML x h) (fun h => by rw [List.mem_singleton.mp h]; exact m_q_1)
        have hM0 : ∀ x ∈ M, x ∈ M2 ++ [q_1] := fun x h => List.mem_append_left _ (hM0 x h)
        have hMc : ∀ x ∈ M2 ++ [q_1], x ∈ M ∨ x ∉ L0 := fun x h => (List.mem_append.mp h).elim (fun h => hMc x h) (fun h => by rw [List.mem_singleton.mp h]; exact Or.inr nq_q_1)
        have hc : ∀ x ∈ L, x ∈ L0 ∨ x ∈ (M2 ++ [q_1]) ∨ x ∈ ([] : List Nat) := fun x h => by
          rcases hc x h with h | h | h
          · exact Or.inl h
          · exact Or.inr (Or.inl (List.mem_append_left _ h))
          · rcases List.mem_append.mp (show x ∈ ([] : List Nat) ++ [q_1] from h) with h | h
            · exact Or.inr (Or.inr h)
            · exact Or.inr (Or.inl (List.mem_append_right _ h))
        have q_0 : fR f a0 0 = some q_1 ∧ q_1 ∈ (M2 ++ [q_1]) ++ [a0] ∧ _ := ⟨w_0, List.mem_append_left _ mg_q_1, o_q_1⟩
        have hg := hg.addOb o_a0 (fcond_5 (by rw [i_1]; decide)) (rcond_5 q_0)
        exact q_ret_v hx hb hr hlocks hK hAe hw (by show 2 + 3 * i ≤ 38; omega) (by show 15 + 47 * i ≤ 579; omega) dX7_init_58 ⟨⟨(M2 ++ [q_1]) ++ [a0], fun x h => List.mem_append_left _ (hM0 x h), fun x h => (List.mem_append.mp h).elim (fun h => hML x h) (fun h => by rw [List.mem_singleton.mp h]; exact m_a0), fun x h => (List.mem_append.mp h).elim (fun h => (hMc x h).elim Or.inl (fun h => Or.inr (Or.inr h))) (fun h => Or.inr (Or.inl (List.mem_singleton.mp h))), List.mem_append_right _ (List.mem_singleton.mpr rfl), hs, fun x h => (hc x h).elim Or.inl (fun h => h.elim (fun h => Or.inr (List.mem_append_left _ h)) (fun h => absurd h List.not_mem_nil)), hg, hO, o_a0⟩, SF.made o_a0 w_0 (fun j h0 h1 => by obtain ⟨b, q1, q2, q3⟩ := hrow j h0 (by omega); exact ⟨b, q1, q3⟩) (fun j k h0 h1 h2 => hdis j k h0 h1 (by omega)) (fun j b h0 h1 e => hfr j b h0 (by omega) e), i_1⟩
      · refine lv_aload_n hx hb dX7_init_38 rfl (lv_at hl 0 rfl) ?_
        refine q_getr (ci := 5) (C := RX7) (T := TX7) (N := 2) hx hb hts (fun w h => List.mem_cons_of_mem _ (mfX70 w h)) hown hK hw m_a0 o_a0 rfl 0 (by decide) (hts _ (List.mem_cons_of_mem _ (mr2 _ (List.mem_of_getElem? (i := 3) rfl)))) (fun _ h => h) rfl w_0 dX7_init_39 ?_
        refine lv_iload_n hx hb dX7_init_42 rfl (lv_at hl 2 rfl) ?_
        refine q_new (ci := 0) (C := RX0) (T := TX0) (N := 15) (fs := [.int 0, .int 0, .int 0, .null, .int 0, .int 0, .int 0, .int 0, .int 0, .int 0, .int 0, .null, .null, .int 0, .int 0]) hx hb hts (fun w h => List.mem_cons_of_mem _ (mfX00 w h)) tyX0 tyX0_ok hown (hts _ (List.mem_cons_of_mem _ (mr2 _ (List.mem_of_getElem? (i := 2) rfl)))) (hts _ (List.mem_cons_of_mem _ (mr2 _ (List.mem_of_getElem? (i := 8) rfl)))) (hts _ (List.mem_cons_of_mem _ (mr2 _ (List.mem_of_getElem? (i := 9) rfl)))) hK hw hA rfl (by decide) (by show 2 + 3 * i + 1 ≤ 38; omega) (by show 15 + 47 * i + 15 ≤ 579; omega) dX7_init_43 (fun q_9 H n_q_9 hw => ?_)
        obtain ⟨f_10, ef_10⟩ : ∃ g : Nat → va_E, g = va_up f q_9 (.inr (0, [.int 0, .int 0, .int 0, .null, .int 0, .int 0, .int 0, .int 0, .int 0, .int 0, .int 0, .null, .null, .int 0, .int 0])) := ⟨_, rfl⟩
        rw [← ef_10] at hw
        have hq : ∀ x ∈ L, f_10 x = f x := fun x h => by rw [ef_10]; exact va_up_ne _ _ (fun z => n_q_9 (z ▸ h))
        have o_a0 := Ob_of (hq _ m_a0) o_a0
        have o_q_1 := ArR_of (hq _ m_q_1) o_q_1
        have o_q_5 := Ob_of (hq _ m_q_5) o_q_5
        have w_0 := (fR_of (k := 0) (hq _ m_a0)).trans w_0
        have i_1 := (fI_of (k := 1) (hq _ m_a0)).trans i_1
        have hnew_q_9 : ∀ j : Int, 0 ≤ j → j < y → aR f_10 q_1 j ≠ some q_9 := fun j h0 h1 e => by obtain ⟨b, q1, q2, q3⟩ := hrow j h0 h1; exact n_q_9 (by rw [← Option.some.inj (q1.symm.trans ((aR_of (hq _ m_q_1)).symm.trans e))]; exact hML b q2)
        have hdis : ∀ j k : Int, 0 ≤ j → j < k → k < y → aR f_10 q_1 j ≠ aR f_10 q_1 k := fun j k h0 h1 h2 => by rw [aR_of (hq _ m_q_1), aR_of (hq _ m_q_1)]; exact hdis j k h0 h1 h2
        have hfr : ∀ (j : Int) (b : Nat), 0 ≤ j → j < y → aR f_10 q_1 j = some b → b ∉ L0 := fun j b h0 h1 e => hfr j b h0 h1 ((aR_of (hq _ m_q_1)).symm.trans e)
        have hrow : ∀ j : Int, 0 ≤ j → j < y → ∃ b, aR f_10 q_1 j = some b ∧ b ∈ M2 ∧ Ob f_10 b 0 := fun j h0 h1 => by obtain ⟨b, q1, q2, q3⟩ := hrow j h0 h1; exact ⟨b, (aR_of (hq _ m_q_1)).trans q1, q2, Ob_of (hq b (hML b q2)) q3⟩
        have hO : ∀ x ∈ L0, x ≠ a0 → f_10 x = f0 x := fun x m h => (hq x (hs x m)).trans (hO x m h)
        have hg := hg.off (fun x h => hq x (hML x h))
        have ne_a0 : a0 ≠ q_9 := fun z => n_q_9 (z ▸ m_a0)
        have m_a0 : a0 ∈ L ++ [q_9] := List.mem_append_left _ m_a0
        have ne_q_1 : q_1 ≠ q_9 := fun z => n_q_9 (z ▸ m_q_1)
        have m_q_1 : q_1 ∈ L ++ [q_9] := List.mem_append_left _ m_q_1
        have ne_q_5 : q_5 ≠ q_9 := fun z => n_q_9 (z ▸ m_q_5)
        have m_q_5 : q_5 ∈ L ++ [q_9] := List.mem_append_left _ m_q_5
        have m_q_9 : q_9 ∈ L ++ [q_9] := List.mem_append_right _ (List.mem_singleton.mpr rfl)
        have nq_q_9 : q_9 ∉ L0 := fun z => n_q_9 (hs _ z)
        have nm_q_9 : q_9 ∉ M2 := fun z => n_q_9 (hML _ z)
        have hs : ∀ x ∈ L0, x ∈ L ++ [q_9] := fun x h => List.mem_append_left _ (hs x h)
        have o_q_9 : Ob f_10 q_9 0 := by rw [ef_10]; exact ⟨_, va_up_self _ _ _, rfl⟩
        have hML : ∀ x ∈ M2, x ∈ L ++ [q_9] := fun x h => List.mem_append_left _ (hML x h)
        have hc : ∀ x ∈ L ++ [q_9], x ∈ L0 ∨ x ∈ M2 ∨ x ∈ ([q_1, q_9]) := fun x h => (List.mem_append.mp h).elim (fun h => (hc x h).elim Or.inl (fun h => h.elim (fun h => Or.inr (Or.inl h)) (fun h => Or.inr (Or.inr (List.mem_append_left [q_9] h))))) (fun h => Or.inr (Or.inr (List.mem_append_right [q_1] h)))
        refine lv_dup hx hb dX7_init_46 rfl ?_
        refine lv_aload_n hx hb dX7_init_47 rfl (lv_at hl 1 rfl) ?_
        refine q_call_v hA hK hw (va_runI (As := [.ref q_5]) (rest := [.ref q_9, .int (iI y), .ref q_1]) ⟨hx, hb, hml, hown, hts⟩ (c_X0_init zo l D cy (L ++ [q_9]) f_10 q_9 q_5 m_q_9 o_q_9 m_q_5 (Or.inr (Or.inr (Or.inl o_q_5))) M2 hML hg nm_q_9 mg_q_5 (by rw [ef_10, fI_up rfl]; decide) _) (cwI 1 hts (gT (inC (mr2 _ (List.mem_of_getElem? (i := 23) rfl)))) rfl rfl rfl (hts _ (List.mem_cons_of_mem _ (mr2 _ (List.mem_of_getElem? (i := 9) rfl)))) (hts _ (List.mem_cons_of_mem _ (mr2 _ (List.mem_of_getElem? (i := 21) rfl)))) (hts _ (List.mem_cons_of_mem _ (mr2 _ (List.mem_of_getElem? (i := 22) rfl)))) rfl (by decide +kernel) ⟨Nat.le_of_ble_eq_true rfl, Nat.le_of_ble_eq_true rfl⟩) (Wd.preS zo hA hZ hw hK) rfl rfl hl.1 rfl (lv_room (Nat.le_of_ble_eq_true rfl)) dX7_init_48 ⟨(by show 2 + 3 * i + 1 + 2 ≤ 38; omega), (by show 15 + 47 * i + 15 + 32 ≤ 579; omega)⟩) (fun L_13 f_12 H locs ex_11 hw => ?_)
        obtain ⟨M_14, p1, p2, p3, mg_q_9, p5, p6, hg, hq, o_q_9⟩ := ex_11
        have o_a0 := Ob_of (hq _ m_a0 ne_a0) o_a0
        have o_q_1 := ArR_of (hq _ m_q_1 ne_q_1) o_q_1
        have o_q_5 := Ob_of (hq _ m_q_5 ne_q_5) o_q_5
        have w_0 := (fR_of (k := 0) (hq _ m_a0 ne_a0)).trans w_0
        have i_1 := (fI_of (k := 1) (hq _ m_a0 ne_a0)).trans i_1
        have hO : ∀ x ∈ L0, x ≠ a0 → f_12 x = f0 x := fun x m h => (hq x (hs x m) (fun z => nq_q_9 (z ▸ m))).trans (hO x m h)
        have hnew_q_9 : ∀ j : Int, 0 ≤ j → j < y → aR f_12 q_1 j ≠ some q_9 := fun j h0 h1 => by rw [aR_of (hq _ m_q_1 ne_q_1)]; exact hnew_q_9 j h0 h1
        have hdis : ∀ j k : Int, 0 ≤ j → j < k → k < y → aR f_12 q_1 j ≠ aR f_12 q_1 k := fun j k h0 h1 h2 => by rw [aR_of (hq _ m_q_1 ne_q_1), aR_of (hq _ m_q_1 ne_q_1)]; exact hdis j k h0 h1 h2
        have hfr : ∀ (j : Int) (b : Nat), 0 ≤ j → j < y → aR f_12 q_1 j = some b → b ∉ L0 := fun j b h0 h1 e => hfr j b h0 h1 ((aR_of (hq _ m_q_1 ne_q_1)).symm.trans e)
        have hrow : ∀ j : Int, 0 ≤ j → j < y → ∃ b, aR f_12 q_1 j = some b ∧ b ∈ M_14 ∧ Ob f_12 b 0 := fun j h0 h1 => by obtain ⟨b, q1, q2, q3⟩ := hrow j h0 h1; exact ⟨b, (aR_of (hq _ m_q_1 ne_q_1)).trans q1, p1 _ q2, Ob_of (hq b (hML b q2) (fun z => nm_q_9 (z ▸ q2))) q3⟩
        have mg_q_5 := p1 _ mg_q_5
        have nm_q_1 : q_1 ∉ M_14 := fun h => (p3 _ h).elim nm_q_1 (fun h => h.elim ne_q_1 (fun h => h m_q_1))
        have hMc : ∀ x ∈ M_14, x ∈ M ∨ x ∉ L0 := fun x h => (p3 x h).elim (fun h => hMc x h) (fun h => h.elim (fun h => Or.inr (by rw [h]; exact nq_q_9)) (fun h => Or.inr (fun z => h (hs x z))))
        have m_a0 := p5 _ m_a0
        have m_q_1 := p5 _ m_q_1
        have m_q_5 := p5 _ m_q_5
        have m_q_9 := p5 _ m_q_9
        have hML := p2
        have hM0 : ∀ x ∈ M, x ∈ M_14 := fun x h => p1 x (hM0 x h)
        have hs : ∀ x ∈ L0, x ∈ L_13 := fun x h => p5 x (hs x h)
        have hc : ∀ x ∈ L_13, x ∈ L0 ∨ x ∈ M_14 ∨ x ∈ ([q_1]) := fun x h => by
          rcases p6 x h with h | h
          · rcases hc x h with h | h | h
            · exact Or.inl h
            · exact Or.inr (Or.inl (p1 _ h))
            · rcases List.mem_append.mp (show x ∈ ([q_1]) ++ [q_9] from h) with h | h
              · exact Or.inr (Or.inr h)
              · exact Or.inr (Or.inl (by rw [List.mem_singleton.mp h]; exact mg_q_9))
          · exact Or.inr (Or.inl h)
        refine q_aast hx hb hK hw m_q_1 3 o_q_1 rfl m_q_9 o_q_9 rfl ⟨ly, uy⟩ (by omega) (by omega) dX7_init_51 (fun H locs hw => ?_)
        obtain ⟨f_15, ef_15⟩ : ∃ g : Nat → va_E, g = rU f_12 q_1 y (some q_9) := ⟨_, rfl⟩
        rw [← ef_15] at hw
        have oo := o_q_1
        have hq : ∀ x : Nat, x ≠ q_1 → f_15 x = f_12 x := fun x h => by rw [ef_15]; exact rU_ne h
        have hX : Sh f_12 f_15 := by rw [ef_15]; exact Sh_rU oo
        have hg := hg.off (fun x h => hq x (fun z => nm_q_1 (z ▸ h)))
        have hO : ∀ x ∈ L0, x ≠ a0 → f_15 x = f0 x := fun x m h => (hq x (fun z => nq_q_1 (z ▸ m))).trans (hO x m h)
        have nz_a0 : a0 ≠ q_1 := fun z => nq_q_1 (z ▸ ha0)
        have w_0 := (fR_of (k := 0) (hq _ nz_a0)).trans w_0
        have i_1 := (fI_of (k := 1) (hq _ nz_a0)).trans i_1
        have hrow : ∀ j : Int, 0 ≤ j → j < y + 1 → ∃ b, aR f_15 q_1 j = some b ∧ b ∈ M_14 ∧ Ob f_15 b 0 := by
          intro j h0 h1
          by_cases ej : j = y
          · exact ⟨q_9, by rw [ef_15, ej]; exact aR_rU_self oo, mg_q_9, hX.1 _ _ o_q_9⟩
          · obtain ⟨b, q1, q2, q3⟩ := hrow j h0 (by omega)
            exact ⟨b, by rw [ef_15]; exact (aR_rU_nj oo (by omega) (by omega) ej).trans q1, q2, hX.1 _ _ q3⟩
        have hfr : ∀ (j : Int) (b : Nat), 0 ≤ j → j < y + 1 → aR f_15 q_1 j = some b → b ∉ L0 := by
          intro j b h0 h1 e
          by_cases ej : j = y
          · rw [ef_15, ej, aR_rU_self oo] at e; rw [← Option.some.inj e]; exact nq_q_9
          · rw [ef_15, aR_rU_nj oo (by omega) (by omega) ej] at e; exact hfr j b h0 (by omega) e
        have hdis : ∀ j k : Int, 0 ≤ j → j < k → k < y + 1 → aR f_15 q_1 j ≠ aR f_15 q_1 k := by
          intro j k h0 h1 h2
          rw [ef_15, aR_rU_nj oo (by omega) (by omega) (show j ≠ y by omega)]
          by_cases ek : k = y
          · rw [ek, aR_rU_self oo]; exact hnew_q_9 j h0 (by omega)
          · rw [aR_rU_nj oo (by omega) (by omega) ek]; exact hdis j k h0 h1 (by omega)
        have o_a0 := hX.1 _ _ o_a0
        have o_q_1 := hX.2.2 _ _ _ o_q_1
        have o_q_5 := hX.1 _ _ o_q_5
        have o_q_9 := hX.1 _ _ o_q_9
        obtain ⟨x_16, lx_16, ux_16, hx_16, ex_16⟩ := q_inc y (1)
        try (replace ex_16 : x_16 = y + (1) := by omega)
        refine lv_iinc (v := iI x_16) (lv' := [(2, .int (iI x_16)), (0, .ref a0), (1, .ref q_5)]) hx hb dX7_init_52 hl (k := 2) rfl hx_16 (by decide) rfl (fun ls hl => ?_)
        refine lv_goto (tgt := 29) hx hb dX7_init_55 (by decide) ?_
        have hW := ih (i + 1) x_16 lx_16 ux_16 (by omega) (by omega) (by omega) L_13 M_14 f_15 hg hML hM0 hMc hs hc hO m_a0 o_a0 m_q_1 o_q_1 m_q_5 o_q_5 nm_q_1 mg_q_5 w_0 i_1 (fun j b h0 h1 e => hfr j b h0 (by omega) e) (fun j k h0 h1 h2 => hdis j k h0 h1 (by omega)) (fun j h0 h1 => hrow j h0 (by omega)) _ _ _ hw (lv_sub hl [1, 2, 0] rfl)
        exact (show 2 + 3 * i + 1 + 2 = 2 + 3 * (i + 1) by omega) ▸ (show 15 + 47 * i + 15 + 32 = 15 + 47 * (i + 1) by omega) ▸ hW
  have hrow : ∀ j : Int, 0 ≤ j → j < 0 → ∃ b, aR f_8 q_1 j = some b ∧ b ∈ (M ++ [q_5]) ∧ Ob f_8 b 0 := fun j h0 h1 => by omega
  have hfr : ∀ (j : Int) (b : Nat), 0 ≤ j → j < 0 → aR f_8 q_1 j = some b → b ∉ L0 := fun j b h0 h1 e => by omega
  have hdis : ∀ j k : Int, 0 ≤ j → j < k → k < 0 → aR f_8 q_1 j ≠ aR f_8 q_1 k := fun j k h0 h1 h2 => by omega
  exact J29 13 0 0 (by decide) (by decide) rfl (by decide) (by decide) ((L0 ++ [q_1]) ++ [q_5]) (M ++ [q_5]) f_8 hg hML hM0 hMc hs hc hO m_a0 o_a0 m_q_1 o_q_1 m_q_5 o_q_5 nm_q_1 mg_q_5 w_0 i_1 hfr hdis hrow _ _ _ hw (lv_sub hl [2, 1, 0] rfl)
set_option maxHeartbeats 4000000 in
set_option maxRecDepth 100000 in
theorem c_X9_back_f {Z : Zt} (zo : Zok Z) (l : Launch) (D : va_G) (cy : Cy) (L0 : List Nat) (f0 : Nat → va_E) (a0 : Nat) (x1 : Int) (lx1 : -2147483648 ≤ x1) (ux1 : x1 ≤ 2147483647) (m_a0 : a0 ∈ L0) (o_a0 : Ob f0 a0 7) (hg : GI cy L0 f0) (rq : Int → Nat) (g : Int → Int) (mm : Int) (sx : SX f0 a0 rq g mm) (im0 : Nat) (ei : fR f0 a0 3 = some im0) (ro : Int → Nat) (gi : Int → Int) (ni : Int) (ir : 0 ≤ x1 ∧ x1 ≤ 1 → (ni = -1 ∧ aR f0 im0 x1 = none) ∨ (0 ≤ ni ∧ ni ≤ 12 ∧ ∃ s : Nat, aR f0 im0 x1 = some s ∧ SR f0 s ro gi ni ∧ ∀ i j : Int, 0 ≤ i → i < 12 → 0 ≤ j → j < 12 → rq i ≠ ro j)) : Ci Z l yX9_back (Cond.code yX9_back cX9_back 2 (some .boolean) :: TB) ({ frames := 3, cells := 0, slots := 0, locals := 103 } : Room) 0 0 D (tq cy) [.ref a0, .int (iI x1)] L0 f0 (fun (r : Int) (L1 : List Nat) (f1 : Nat → va_E) => L0 = L1 ∧ GI cy L0 f1 ∧ Ex cy f0 f1 ∧ ((r = 0 ∧ (x1 < 0 ∨ 1 < x1 ∨ ni = -1) ∧ f1 = f0) ∨ (r = 1 ∧ 0 ≤ x1 ∧ x1 ≤ 1 ∧ 0 ≤ ni ∧ ∃ sh s : Nat, fR f0 a0 2 = some sh ∧ aR f0 im0 x1 = some s ∧ SR f1 sh rq gi ni ∧ SR f1 s ro gi ni ∧ Fo (PS sh rq) cy f0 f1 ∧ Fr0 f0 f1))) := by
  refine Ci.enter (cc := cX9_back) (n := 2) rfl (plainFor_of_name (by decide)) (Nat.le_of_ble_eq_true rfl) ?_
  intro p e s m below meth c ls A hx hb hr hts hown hlocks hnm hml hK hA hAe hw hZ hl
  have hown : s.vm.findClass RX9 = some m.cls := hown
  have hl : lv_has ls 2 [(0, .ref a0), (1, .int (iI x1))] := hl
  have hN : ZN s := (zo.2.2.2.2 _ _ _ hZ).2
  have hE : Ex cy f0 f0 := Ex.refl cy f0
  refine lv_iload_n hx hb dX9_back_0 rfl (lv_at hl 1 rfl) ?_
  refine q_if_lt (tgt := 22) hx hb dX9_back_1 (by decide) ⟨lx1, ux1⟩ (fun c1 => ?_) (fun c1 => ?_)
  · refine q_iconst hx hb dX9_back_22 ?_
    exact q_ret_z hx hb hr hlocks hK hAe hw (by omega) (Nat.le_of_ble_eq_true rfl) (Nat.le_of_ble_eq_true rfl) dX9_back_23 (by first | exact ⟨rfl, hg, hE, Or.inl ⟨by omega, by omega, rfl⟩⟩ | exact ⟨rfl, hg, hE, Or.inl ⟨by omega, Or.inr (Or.inr i18.1), rfl⟩⟩ | fail "none")
  · refine lv_iload_n hx hb dX9_back_4 rfl (lv_at hl 1 rfl) ?_
    refine lv_aload_n hx hb dX9_back_5 rfl (lv_at hl 0 rfl) ?_
    obtain ⟨r_1, er_1, m_r_1, o_r_1⟩ := (show ∃ r, fR f0 a0 3 = some r ∧ r ∈ L0 ∧ ArR f0 r cy.2.2.2.2 2 from hg.2.1 _ m_a0 7 3 o_a0)
    refine q_getr (ci := 7) (C := RX9) (T := TX9) (N := 4) hx hb hts (fun w h => List.mem_cons_of_mem _ (mfX90 w h)) hown hK hw m_a0 o_a0 rfl 3 (by decide) (hts _ (List.mem_cons_of_mem _ (mr1 _ (List.mem_of_getElem? (i := 21) rfl)))) (fun _ h => h) rfl er_1 dX9_back_6 ?_
    have zi : r_1 = im0 := Option.some.inj (er_1.symm.trans ei)
    refine q_alenR hx hb hK hw m_r_1 4 o_r_1 rfl dX9_back_9 ?_
    refine q_icmp_ge (tgt := 22) hx hb dX9_back_10 (by decide) ⟨lx1, ux1⟩ ⟨by decide, by decide⟩ (fun c10 => ?_) (fun c10 => ?_)
    · refine q_iconst hx hb dX9_back_22 ?_
      exact q_ret_z hx hb hr hlocks hK hAe hw (by omega) (Nat.le_of_ble_eq_true rfl) (Nat.le_of_ble_eq_true rfl) dX9_back_23 (by first | exact ⟨rfl, hg, hE, Or.inl ⟨by omega, by omega, rfl⟩⟩ | exact ⟨rfl, hg, hE, Or.inl ⟨by omega, Or.inr (Or.inr i18.1), rfl⟩⟩ | fail "none")
    · refine lv_aload_n hx hb dX9_back_13 rfl (lv_at hl 0 rfl) ?_
      refine q_getr (ci := 7) (C := RX9) (T := TX9) (N := 4) hx hb hts (fun w h => List.mem_cons_of_mem _ (mfX90 w h)) hown hK hw m_a0 o_a0 rfl 3 (by decide) (hts _ (List.mem_cons_of_mem _ (mr1 _ (List.mem_of_getElem? (i := 21) rfl)))) (fun _ h => h) rfl er_1 dX9_back_14 ?_
      have zi : r_1 = im0 := Option.some.inj (er_1.symm.trans ei)
      refine lv_iload_n hx hb dX9_back_17 rfl (lv_at hl 1 rfl) ?_
      rcases hg.2.2.2 _ m_r_1 x1 o_r_1 (by omega) (by omega) with er_3 | ⟨r_3, er_3, m_r_3, o_r_3⟩
      · refine q_aald hx hb hK hw m_r_1 4 o_r_1 rfl ⟨lx1, ux1⟩ (by omega) (by omega) er_3 dX9_back_18 ?_
        show W _ _ _ _ _ _ _ _ _ _ _ _ _ _ _ (F0 m 19 ls (.null :: []))
        have i18 := (ir ⟨by omega, by omega⟩).resolve_right (fun q => by obtain ⟨_, _, s, q1, _⟩ := q; rw [← zi, er_3] at q1; cases q1)
        refine lv_ifnonnullN hx hb dX9_back_19 ?_
        refine q_iconst hx hb dX9_back_22 ?_
        exact q_ret_z hx hb hr hlocks hK hAe hw (by omega) (Nat.le_of_ble_eq_true rfl) (Nat.le_of_ble_eq_true rfl) dX9_back_23 (by first | exact ⟨rfl, hg, hE, Or.inl ⟨by omega, by omega, rfl⟩⟩ | exact ⟨rfl, hg, hE, Or.inl ⟨by omega, Or.inr (Or.inr i18.1), rfl⟩⟩ | fail "none")
      · refine q_aald hx hb hK hw m_r_1 4 o_r_1 rfl ⟨lx1, ux1⟩ (by omega) (by omega) er_3 dX9_back_18 ?_
        show W _ _ _ _ _ _ _ _ _ _ _ _ _ _ _ (F0 m 19 ls (.ref r_3 :: []))
        have i18 := (ir ⟨by omega, by omega⟩).resolve_left (fun q => by have q1 := q.2; rw [← zi, er_3] at q1; cases q1)
        obtain ⟨n0, n1, s9, es, sr, dj⟩ := i18
        have zs : r_3 = s9 := Option.some.inj (er_3.symm.trans (by rw [zi]; exact es))
        refine lv_ifnonnull (tgt := 24) hx hb dX9_back_19 (by decide) ?_
        refine lv_aload_n hx hb dX9_back_24 rfl (lv_at hl 0 rfl) ?_
        obtain ⟨r_4, er_4, m_r_4, o_r_4⟩ := (show ∃ r, fR f0 a0 2 = some r ∧ r ∈ L0 ∧ Ob f0 r 5 from hg.2.1 _ m_a0 7 2 o_a0)
        refine q_getr (ci := 7) (C := RX9) (T := TX9) (N := 4) hx hb hts (fun w h => List.mem_cons_of_mem _ (mfX90 w h)) hown hK hw m_a0 o_a0 rfl 2 (by decide) (hts _ (List.mem_cons_of_mem _ (mr1 _ (List.mem_of_getElem? (i := 20) rfl)))) (fun _ h => h) rfl er_4 dX9_back_25 ?_
        have s1 := sx.at er_4
        have e25 := er_4
        refine lv_aload_n hx hb dX9_back_28 rfl (lv_at hl 0 rfl) ?_
        refine q_getr (ci := 7) (C := RX9) (T := TX9) (N := 4) hx hb hts (fun w h => List.mem_cons_of_mem _ (mfX90 w h)) hown hK hw m_a0 o_a0 rfl 3 (by decide) (hts _ (List.mem_cons_of_mem _ (mr1 _ (List.mem_of_getElem? (i := 21) rfl)))) (fun _ h => h) rfl er_1 dX9_back_29 ?_
        refine lv_iload_n hx hb dX9_back_32 rfl (lv_at hl 1 rfl) ?_
        refine q_aald hx hb hK hw m_r_1 4 o_r_1 rfl ⟨lx1, ux1⟩ (by omega) (by omega) er_3 dX9_back_33 ?_
        show W _ _ _ _ _ _ _ _ _ _ _ _ _ _ _ (F0 m 34 ls (.ref r_3 :: [.ref r_4]))
        refine q_call_v hA hK hw (va_runV (As := [.ref r_3]) (rest := []) ⟨hx, hb, hml, hown, hts⟩ (c_X7_copyFrom_f zo l D cy L0 f0 r_4 r_3 m_r_4 o_r_4 m_r_3 o_r_3 hg rq ro gi ni s1.1.1 (by rw [zs]; exact sr) (by omega) (by omega) dj (sf_ne s1.1.1 (by rw [zs]; exact sr.1) dj) _) (cwV 1 hts (gT (inV (mr44 _ (List.mem_of_getElem? (i := 18) rfl)) (mr44 _ (List.mem_of_getElem? (i := 19) rfl)) (mr44 _ (List.mem_of_getElem? (i := 20) rfl)) (mr1 _ (List.mem_of_getElem? (i := 19) rfl)) (mr44 _ (List.mem_of_getElem? (i := 21) rfl)))) rfl rfl rfl (by decide +kernel) ⟨Nat.le_of_ble_eq_true rfl, Nat.le_of_ble_eq_true rfl⟩) (Wd.preV zo hA hZ hw hK m_r_4 o_r_4 rfl) rfl rfl hl.1 rfl (lv_room (Nat.le_of_ble_eq_true rfl)) dX9_back_34 ⟨Nat.le_of_ble_eq_true rfl, Nat.le_of_ble_eq_true rfl⟩) (fun L1 f_7 H locs ex_6 hw => ?_)
        obtain ⟨rfl, hg, hX, ex_6⟩ := ex_6
        have hE := hE.trans hX
        have o_a0 := hX.1.1 _ _ o_a0
        have e34 := ex_6
        refine q_iconst hx hb dX9_back_37 ?_
        exact q_ret_z hx hb hr hlocks hK hAe hw (by omega) (Nat.le_of_ble_eq_true rfl) (Nat.le_of_ble_eq_true rfl) dX9_back_38 (by exact ⟨rfl, hg, hE, Or.inr ⟨by omega, by omega, by omega, by omega, _, s9, e25, es, e34.1, by rw [← zs]; exact e34.2.1, e34.2.2.1, e34.2.2.2⟩⟩)
set_option maxHeartbeats 4000000 in
set_option maxRecDepth 100000 in
theorem c_X9_image_f {Z : Zt} (zo : Zok Z) (l : Launch) (D : va_G) (cy : Cy) (L0 : List Nat) (f0 : Nat → va_E) (a0 : Nat) (x1 : Int) (lx1 : -2147483648 ≤ x1) (ux1 : x1 ≤ 2147483647) (m_a0 : a0 ∈ L0) (o_a0 : Ob f0 a0 7) (hg : GI cy L0 f0) (rq : Int → Nat) (g : Int → Int) (mm : Int) (sx : SX f0 a0 rq g mm) (im0 : Nat) (ei : fR f0 a0 3 = some im0) (ro : Int → Nat) (gi : Int → Int) (ni : Int) (ir : 0 ≤ x1 ∧ x1 ≤ 1 → (ni = -1 ∧ aR f0 im0 x1 = none) ∨ (0 ≤ ni ∧ ni ≤ 12 ∧ ∃ s : Nat, aR f0 im0 x1 = some s ∧ SR f0 s ro gi ni ∧ ∀ i j : Int, 0 ≤ i → i < 12 → 0 ≤ j → j < 12 → rq i ≠ ro j)) : Ci Z l yX9_image (Cond.code yX9_image cX9_image 2 (some .boolean) :: TB) ({ frames := 4, cells := 39, slots := 581, locals := 103 } : Room) 39 581 D (tq cy) [.ref a0, .int (iI x1)] L0 f0 (fun (r : Int) (L1 : List Nat) (f1 : Nat → va_E) => (∀ x ∈ L0, x ∈ L1) ∧ GI cy L1 f1 ∧ (∀ a ∈ L0, ∀ ci : Nat, Ob f0 a ci → Ob f1 a ci) ∧ ((r = 0 ∧ (x1 < 0 ∨ 1 < x1) ∧ f1 = f0) ∨ (r = 1 ∧ 0 ≤ x1 ∧ x1 ≤ 1 ∧ ∃ (sh s : Nat) (rn : Int → Nat) (f9 : Nat → va_E), fR f0 a0 2 = some sh ∧ ((f9 = f0 ∧ rn = ro ∧ 0 ≤ ni ∧ aR f0 im0 x1 = some s) ∨ (ni = -1 ∧ s ∉ L0 ∧ (∀ i : Int, 0 ≤ i → i < 12 → rn i ∉ L0) ∧ (∀ x ∈ L0, x ≠ im0 → f9 x = f0 x) ∧ (∀ j : Int, 0 ≤ j → j ≠ x1 → aR f9 im0 j = aR f0 im0 j))) ∧ aR f1 im0 x1 = some s ∧ SR f1 s rn g mm ∧ SR f1 sh rq g mm ∧ Fo (PS s rn) cy f9 f1 ∧ Fr0 f9 f1))) := by
  refine Ci.enter (cc := cX9_image) (n := 2) rfl (plainFor_of_name (by decide)) (Nat.le_of_ble_eq_true rfl) ?_
  intro p e s m below meth c ls A hx hb hr hts hown hlocks hnm hml hK hA hAe hw hZ hl
  have hown : s.vm.findClass RX9 = some m.cls := hown
  have hl : lv_has ls 2 [(0, .ref a0), (1, .int (iI x1))] := hl
  have hN : ZN s := (zo.2.2.2.2 _ _ _ hZ).2
  have hs : ∀ x ∈ L0, x ∈ L0 := fun _ h => h
  have hE : (∀ a ∈ L0, ∀ ci : Nat, Ob f0 a ci → Ob f0 a ci) := fun _ _ _ o => o
  have hold : ∀ x ∈ L0, f0 x = f0 x := fun _ _ => rfl
  have hg0 := hg
  have ma0 := m_a0
  have oa7 := o_a0
  refine lv_iload_n hx hb dX9_image_0 rfl (lv_at hl 1 rfl) ?_
  refine q_if_lt (tgt := 13) hx hb dX9_image_1 (by decide) ⟨lx1, ux1⟩ (fun c1 => ?_) (fun c1 => ?_)
  · refine q_iconst hx hb dX9_image_13 ?_
    exact q_ret_z hx hb hr hlocks hK hAe hw (by omega) (Nat.le_of_ble_eq_true rfl) (Nat.le_of_ble_eq_true rfl) dX9_image_14 (by exact ⟨hs, hg, hE, Or.inl ⟨by omega, by omega, rfl⟩⟩)
  · refine lv_iload_n hx hb dX9_image_4 rfl (lv_at hl 1 rfl) ?_
    refine lv_aload_n hx hb dX9_image_5 rfl (lv_at hl 0 rfl) ?_
    obtain ⟨r_1, er_1, m_r_1, o_r_1⟩ := (show ∃ r, fR f0 a0 3 = some r ∧ r ∈ L0 ∧ ArR f0 r cy.2.2.2.2 2 from hg.2.1 _ m_a0 7 3 o_a0)
    refine q_getr (ci := 7) (C := RX9) (T := TX9) (N := 4) hx hb hts (fun w h => List.mem_cons_of_mem _ (mfX90 w h)) hown hK hw m_a0 o_a0 rfl 3 (by decide) (hts _ (List.mem_cons_of_mem _ (mr1 _ (List.mem_of_getElem? (i := 21) rfl)))) (fun _ h => h) rfl er_1 dX9_image_6 ?_
    have zi : r_1 = im0 := Option.some.inj (er_1.symm.trans ei)
    refine q_alenR hx hb hK hw m_r_1 4 o_r_1 rfl dX9_image_9 ?_
    refine q_icmp_lt (tgt := 15) hx hb dX9_image_10 (by decide) ⟨lx1, ux1⟩ ⟨by decide, by decide⟩ (fun c10 => ?_) (fun c10 => ?_)
    · refine lv_aload_n hx hb dX9_image_15 rfl (lv_at hl 0 rfl) ?_
      refine q_getr (ci := 7) (C := RX9) (T := TX9) (N := 4) hx hb hts (fun w h => List.mem_cons_of_mem _ (mfX90 w h)) hown hK hw m_a0 o_a0 rfl 3 (by decide) (hts _ (List.mem_cons_of_mem _ (mr1 _ (List.mem_of_getElem? (i := 21) rfl)))) (fun _ h => h) rfl er_1 dX9_image_16 ?_
      have zi : r_1 = im0 := Option.some.inj (er_1.symm.trans ei)
      have mim := m_r_1
      have oim := o_r_1
      refine lv_iload_n hx hb dX9_image_19 rfl (lv_at hl 1 rfl) ?_
      rcases hg.2.2.2 _ m_r_1 x1 o_r_1 (by omega) (by omega) with er_3 | ⟨r_3, er_3, m_r_3, o_r_3⟩
      · refine q_aald hx hb hK hw m_r_1 4 o_r_1 rfl ⟨lx1, ux1⟩ (by omega) (by omega) er_3 dX9_image_20 ?_
        show W _ _ _ _ _ _ _ _ _ _ _ _ _ _ _ (F0 m 21 ls (.null :: []))
        have i18 := (ir ⟨by omega, by omega⟩).resolve_right (fun q => by obtain ⟨_, _, s, q1, _⟩ := q; rw [← zi, er_3] at q1; cases q1)
        refine lv_ifnonnullN hx hb dX9_image_21 ?_
        refine lv_aload_n hx hb dX9_image_24 rfl (lv_at hl 0 rfl) ?_
        refine q_getr (ci := 7) (C := RX9) (T := TX9) (N := 4) hx hb hts (fun w h => List.mem_cons_of_mem _ (mfX90 w h)) hown hK hw m_a0 o_a0 rfl 3 (by decide) (hts _ (List.mem_cons_of_mem _ (mr1 _ (List.mem_of_getElem? (i := 21) rfl)))) (fun _ h => h) rfl er_1 dX9_image_25 ?_
        have zi2 : r_1 = im0 := by first | exact Option.some.inj (er_1.symm.trans ei)
        refine lv_iload_n hx hb dX9_image_28 rfl (lv_at hl 1 rfl) ?_
        refine q_new (ci := 5) (C := RX7) (T := TX7) (N := 2) (fs := [.null, .int 0]) hx hb hts (fun w h => List.mem_cons_of_mem _ (mfX70 w h)) tyX7 tyX7_ok hown (hts _ (List.mem_cons_of_mem _ (mr1 _ (List.mem_of_getElem? (i := 17) rfl)))) (hts _ (List.mem_cons_of_mem _ (mr1 _ (List.mem_of_getElem? (i := 18) rfl)))) (hts _ (List.mem_cons_of_mem _ (mr1 _ (List.mem_of_getElem? (i := 19) rfl)))) hK hw hA rfl (by decide) (Nat.le_of_ble_eq_true rfl) (Nat.le_of_ble_eq_true rfl) dX9_image_29 (fun q_4 H n_q_4 hw => ?_)
        obtain ⟨f_5, ef_5⟩ : ∃ g : Nat → va_E, g = va_up f0 q_4 (.inr (5, [.null, .int 0])) := ⟨_, rfl⟩
        rw [← ef_5] at hw
        have hX : Al cy L0 f0 f_5 := by rw [ef_5]; exact Al.push n_q_4
        have hg : GI cy L0 f_5 := by rw [ef_5]; exact hg.push n_q_4
        have hM : ∀ x ∈ L0, x ∈ L0 ++ [q_4] := fun x h => List.mem_append_left _ h
        have hs0 := hs
        have hold : ∀ x ∈ L0, f_5 x = f0 x := fun x h => Eq.trans (by rw [ef_5]; exact va_up_ne _ _ (fun z => n_q_4 (z ▸ hs0 x h))) (hold x h)
        have er_1 : fR f_5 a0 3 = some r_1 := (show fR f_5 a0 3 = fR f0 a0 3 by rw [ef_5]; exact fR_of (va_up_ne _ _ (fun z => n_q_4 (z ▸ m_a0)))).trans er_1
        have hE := fun a m ci o => hX.1 a (hs a m) ci (hE a m ci o)
        have o_a0 := hX.1 _ m_a0 _ o_a0
        have o_r_1 := hX.2.2.1 _ m_r_1 _ _ o_r_1
        have mg_a0 := m_a0
        have m_a0 := hM _ m_a0
        have mg_r_1 := m_r_1
        have m_r_1 := hM _ m_r_1
        have hs : ∀ x ∈ L0, x ∈ L0 ++ [q_4] := fun x h => hM x (hs x h)
        have m_q_4 : q_4 ∈ L0 ++ [q_4] := List.mem_append_right _ (List.mem_singleton.mpr rfl)
        have o_q_4 : Ob f_5 q_4 5 := by rw [ef_5]; exact ⟨_, va_up_self _ _ _, rfl⟩
        refine lv_dup hx hb dX9_image_32 rfl ?_
        refine q_call_v hA hK hw (va_runI (As := []) (rest := [.ref q_4, .int (iI x1), .ref r_1]) ⟨hx, hb, hml, hown, hts⟩ (c_X7_init_r zo l D cy (L0 ++ [q_4]) f_5 q_4 m_q_4 o_q_4 (L0) hM hg n_q_4 _) (cwI 0 hts (gT (inC (mr2 _ (List.mem_of_getElem? (i := 0) rfl)))) rfl rfl rfl (hts _ (List.mem_cons_of_mem _ (mr1 _ (List.mem_of_getElem? (i := 19) rfl)))) (hts _ (List.mem_cons_of_mem _ (mr1 _ (List.mem_of_getElem? (i := 22) rfl)))) (hts _ (List.mem_cons_of_mem _ (mr1 _ (List.mem_of_getElem? (i := 23) rfl)))) rfl (by decide +kernel) ⟨Nat.le_of_ble_eq_true rfl, Nat.le_of_ble_eq_true rfl⟩) (Wd.preS zo hA hZ hw hK) rfl rfl hl.1 rfl (lv_room (Nat.le_of_ble_eq_true rfl)) dX9_image_33 ⟨Nat.le_of_ble_eq_true rfl, Nat.le_of_ble_eq_true rfl⟩) (fun L_8 f_7 H locs ex_6 hw => ?_)
        obtain ⟨⟨M_9, p1, p2, p3, p4, p5, p6, hg, hq, o_q_4⟩, ⟨rn, sfn, fq⟩, z1⟩ := ex_6
        have hold : ∀ x ∈ L0, f_7 x = f0 x := fun x h => (hq x (hs x h) (fun z => n_q_4 (z ▸ hs0 x h))).trans (hold x h)
        have fqn : ∀ i : Int, 0 ≤ i → i < 12 → rn i ∉ L0 := fun i i0 i1 h => fq i i0 i1 (hs _ h)
        have nq0 : q_4 ∉ L0 := fun h => n_q_4 (hs0 _ h)
        have hg : GI cy L_8 f_7 := hg.same p2 (fun x h => (p6 x h).elim (fun h => (List.mem_append.mp h).elim (fun h => p1 x h) (fun h => by rw [List.mem_singleton.mp h]; exact p4)) id)
        have hE := fun a m ci o => Ob_of (hq a (hs a m) (fun z => n_q_4 (z ▸ hs0 a m))) (hE a m ci o)
        have o_a0 := Ob_of (hq _ m_a0 (fun h => n_q_4 (h ▸ mg_a0))) o_a0
        have o_r_1 := ArR_of (hq _ m_r_1 (fun h => n_q_4 (h ▸ mg_r_1))) o_r_1
        have er_1 : fR f_7 a0 3 = some r_1 := (fR_of (hq _ m_a0 (fun h => n_q_4 (h ▸ mg_a0)))).trans er_1
        have m_a0 := p5 _ m_a0
        have m_q_4 := p5 _ m_q_4
        have m_r_1 := p5 _ m_r_1
        have hs : ∀ x ∈ L0, x ∈ L_8 := fun x h => p5 x (hs x h)
        have mq9 := m_q_4
        have hgo := hg
        refine q_aast hx hb hK hw m_r_1 4 o_r_1 rfl m_q_4 o_q_4 rfl ⟨lx1, ux1⟩ (by omega) (by omega) dX9_image_36 (fun H locs hw => ?_)
        have oo := o_r_1
        have ov := o_q_4
        obtain ⟨f_10, ef_10⟩ : ∃ g : Nat → va_E, g = rU f_7 r_1 x1 (some q_4) := ⟨_, rfl⟩
        have hX : Sh f_7 f_10 := by rw [ef_10]; exact Sh_rU oo
        have hg : GI cy L_8 f_10 := by rw [ef_10]; exact hg.putS oo (by omega) m_q_4 ov
        rw [← ef_10] at hw
        have hE := fun a m ci o => hX.1 a ci (hE a m ci o)
        have o_a0 := hX.1 _ _ o_a0
        have o_r_1 := hX.2.2 _ _ _ oo
        have o_q_4 := hX.1 _ _ ov
        have eq_4 : aR f_10 r_1 x1 = some q_4 := by rw [ef_10]; exact aR_rU_self oo
        have er_1 : fR f_10 a0 3 = some r_1 := by rw [ef_10]; exact (fR_rU oo).trans er_1
        have hola : ∀ x ∈ L0, x ≠ im0 → f_10 x = f0 x := fun x h n => Eq.trans (by rw [ef_10]; exact rU_ne (fun z => n (z.trans zi))) (hold x h)
        have haj : ∀ j : Int, 0 ≤ j → j ≠ x1 → aR f_10 im0 j = aR f0 im0 j := fun j j0 n => by rw [← zi]; exact Eq.trans (by rw [ef_10]; exact aR_rU_nj oo (by omega) j0 n) (aR_of (hold _ mim))
        have sfx := sfn.rU2 hgo mq9 oo ef_10
        obtain ⟨rx, erx⟩ : ∃ z : Int → Nat, z = rn := ⟨_, rfl⟩
        rw [← erx] at sfx
        refine lv_aload_n hx hb dX9_image_37 rfl (lv_at hl 0 rfl) ?_
        refine q_getr (ci := 7) (C := RX9) (T := TX9) (N := 4) hx hb hts (fun w h => List.mem_cons_of_mem _ (mfX90 w h)) hown hK hw m_a0 o_a0 rfl 3 (by decide) (hts _ (List.mem_cons_of_mem _ (mr1 _ (List.mem_of_getElem? (i := 21) rfl)))) (fun _ h => h) rfl er_1 dX9_image_38 ?_
        refine lv_iload_n hx hb dX9_image_41 rfl (lv_at hl 1 rfl) ?_
        refine q_aald hx hb hK hw m_r_1 4 o_r_1 rfl ⟨lx1, ux1⟩ (by omega) (by omega) eq_4 dX9_image_42 ?_
        show W _ _ _ _ _ _ _ _ _ _ _ _ _ _ _ (F0 m 43 ls (.ref q_4 :: []))
        have e42 := eq_4
        refine lv_aload_n hx hb dX9_image_43 rfl (lv_at hl 0 rfl) ?_
        obtain ⟨r_12, er_12, m_r_12, o_r_12⟩ := (show ∃ r, fR f_10 a0 2 = some r ∧ r ∈ L_8 ∧ Ob f_10 r 5 from hg.2.1 _ m_a0 7 2 o_a0)
        refine q_getr (ci := 7) (C := RX9) (T := TX9) (N := 4) hx hb hts (fun w h => List.mem_cons_of_mem _ (mfX90 w h)) hown hK hw m_a0 o_a0 rfl 2 (by decide) (hts _ (List.mem_cons_of_mem _ (mr1 _ (List.mem_of_getElem? (i := 20) rfl)))) (fun _ h => h) rfl er_12 dX9_image_44 ?_
        have s44 : fR f0 a0 2 = some r_12 := by first | exact er_12 | exact (fR_of (hola a0 ma0 (fun z => by rw [z, ← zi] at oa7; exact absurd oim oa7.notR))).symm.trans er_12
        have srx : SR f_10 r_12 rq g mm := by first | exact (sx.at s44).1 | exact (sx.at s44).1.off hg0 ma0 oa7 s44 (zi ▸ oim) (sx.at s44).2.2.2 hola
        have djx : ∀ i j : Int, 0 ≤ i → i < 12 → 0 ≤ j → j < 12 → rx i ≠ rq j := by first | (rw [erx]; exact fun i j i0 i1 j0 j1 e => dj j i j0 j1 i0 i1 e.symm) | (rw [erx]; exact fun i j i0 i1 j0 j1 e => fqn i i0 i1 (by rw [e]; exact rows_in hg0 ma0 oa7 s44 (sx.at s44).1 j j0 j1))
        have nex := sf_ne sfx srx.1 djx
        have sm := (sx.at s44).2.2
        obtain ⟨f9, ef9⟩ : ∃ z : Nat → va_E, z = f_10 := ⟨_, rfl⟩
        refine q_call_v hA hK hw (va_runV (As := [.ref r_12]) (rest := []) ⟨hx, hb, hml, hown, hts⟩ (c_X7_copyFrom_f zo l D cy L_8 f_10 q_4 r_12 m_q_4 o_q_4 m_r_12 o_r_12 hg rx rq g mm sfx srx (by omega) (by omega) djx nex _) (cwV 1 hts (gT (inV (mr44 _ (List.mem_of_getElem? (i := 18) rfl)) (mr44 _ (List.mem_of_getElem? (i := 19) rfl)) (mr44 _ (List.mem_of_getElem? (i := 20) rfl)) (mr1 _ (List.mem_of_getElem? (i := 19) rfl)) (mr44 _ (List.mem_of_getElem? (i := 21) rfl)))) rfl rfl rfl (by decide +kernel) ⟨Nat.le_of_ble_eq_true rfl, Nat.le_of_ble_eq_true rfl⟩) (Wd.preV zo hA hZ hw hK m_q_4 o_q_4 rfl) rfl rfl hl.1 rfl (lv_room (Nat.le_of_ble_eq_true rfl)) dX9_image_47 ⟨Nat.le_of_ble_eq_true rfl, Nat.le_of_ble_eq_true rfl⟩) (fun L1 f_14 H locs ex_13 hw => ?_)
        obtain ⟨rfl, hg, hX, ex_13⟩ := ex_13
        have hE := fun a m ci o => hX.1.1 a ci (hE a m ci o)
        have o_a0 := hX.1.1 _ _ o_a0
        have e47 := ex_13
        rw [← ef9] at e47
        refine q_iconst hx hb dX9_image_50 ?_
        exact q_ret_z hx hb hr hlocks hK hAe hw (by omega) (Nat.le_of_ble_eq_true rfl) (Nat.le_of_ble_eq_true rfl) dX9_image_51 (by exact ⟨hs, hg, hE, Or.inr ⟨by omega, by omega, by omega, _, _, rx, f9, s44, by first | exact Or.inl ⟨ef9, erx, n0, by rw [← zi]; exact e42⟩ | exact Or.inr ⟨i18.1, nq0, by rw [erx]; exact fqn, by rw [ef9]; exact hola, by rw [ef9]; exact haj⟩, (e47.2.2.2 im0 x1).trans (by rw [ef9, ← zi]; exact e42), e47.1, e47.2.1, e47.2.2.1, e47.2.2.2⟩⟩)
      · refine q_aald hx hb hK hw m_r_1 4 o_r_1 rfl ⟨lx1, ux1⟩ (by omega) (by omega) er_3 dX9_image_20 ?_
        show W _ _ _ _ _ _ _ _ _ _ _ _ _ _ _ (F0 m 21 ls (.ref r_3 :: []))
        have i18 := (ir ⟨by omega, by omega⟩).resolve_left (fun q => by have q1 := q.2; rw [← zi, er_3] at q1; cases q1)
        obtain ⟨n0, n1, s9, es, sr, dj⟩ := i18
        have zs : r_3 = s9 := Option.some.inj (er_3.symm.trans (by rw [zi]; exact es))
        have sfx : SF f0 r_3 ro := by rw [zs]; exact sr.1
        obtain ⟨rx, erx⟩ : ∃ z : Int → Nat, z = ro := ⟨_, rfl⟩
        rw [← erx] at sfx
        refine lv_ifnonnull (tgt := 37) hx hb dX9_image_21 (by decide) ?_
        refine lv_aload_n hx hb dX9_image_37 rfl (lv_at hl 0 rfl) ?_
        refine q_getr (ci := 7) (C := RX9) (T := TX9) (N := 4) hx hb hts (fun w h => List.mem_cons_of_mem _ (mfX90 w h)) hown hK hw m_a0 o_a0 rfl 3 (by decide) (hts _ (List.mem_cons_of_mem _ (mr1 _ (List.mem_of_getElem? (i := 21) rfl)))) (fun _ h => h) rfl er_1 dX9_image_38 ?_
        refine lv_iload_n hx hb dX9_image_41 rfl (lv_at hl 1 rfl) ?_
        refine q_aald hx hb hK hw m_r_1 4 o_r_1 rfl ⟨lx1, ux1⟩ (by omega) (by omega) er_3 dX9_image_42 ?_
        show W _ _ _ _ _ _ _ _ _ _ _ _ _ _ _ (F0 m 43 ls (.ref r_3 :: []))
        have e42 := er_3
        refine lv_aload_n hx hb dX9_image_43 rfl (lv_at hl 0 rfl) ?_
        obtain ⟨r_16, er_16, m_r_16, o_r_16⟩ := (show ∃ r, fR f0 a0 2 = some r ∧ r ∈ L0 ∧ Ob f0 r 5 from hg.2.1 _ m_a0 7 2 o_a0)
        refine q_getr (ci := 7) (C := RX9) (T := TX9) (N := 4) hx hb hts (fun w h => List.mem_cons_of_mem _ (mfX90 w h)) hown hK hw m_a0 o_a0 rfl 2 (by decide) (hts _ (List.mem_cons_of_mem _ (mr1 _ (List.mem_of_getElem? (i := 20) rfl)))) (fun _ h => h) rfl er_16 dX9_image_44 ?_
        have s44 : fR f0 a0 2 = some r_16 := by first | exact er_16 | exact (fR_of (hola a0 ma0 (fun z => by rw [z, ← zi] at oa7; exact absurd oim oa7.notR))).symm.trans er_16
        have srx : SR f0 r_16 rq g mm := by first | exact (sx.at s44).1 | exact (sx.at s44).1.off hg0 ma0 oa7 s44 (zi ▸ oim) (sx.at s44).2.2.2 hola
        have djx : ∀ i j : Int, 0 ≤ i → i < 12 → 0 ≤ j → j < 12 → rx i ≠ rq j := by first | (rw [erx]; exact fun i j i0 i1 j0 j1 e => dj j i j0 j1 i0 i1 e.symm) | (rw [erx]; exact fun i j i0 i1 j0 j1 e => fqn i i0 i1 (by rw [e]; exact rows_in hg0 ma0 oa7 s44 (sx.at s44).1 j j0 j1))
        have nex := sf_ne sfx srx.1 djx
        have sm := (sx.at s44).2.2
        obtain ⟨f9, ef9⟩ : ∃ z : Nat → va_E, z = f0 := ⟨_, rfl⟩
        refine q_call_v hA hK hw (va_runV (As := [.ref r_16]) (rest := []) ⟨hx, hb, hml, hown, hts⟩ (c_X7_copyFrom_f zo l D cy L0 f0 r_3 r_16 m_r_3 o_r_3 m_r_16 o_r_16 hg rx rq g mm sfx srx (by omega) (by omega) djx nex _) (cwV 1 hts (gT (inV (mr44 _ (List.mem_of_getElem? (i := 18) rfl)) (mr44 _ (List.mem_of_getElem? (i := 19) rfl)) (mr44 _ (List.mem_of_getElem? (i := 20) rfl)) (mr1 _ (List.mem_of_getElem? (i := 19) rfl)) (mr44 _ (List.mem_of_getElem? (i := 21) rfl)))) rfl rfl rfl (by decide +kernel) ⟨Nat.le_of_ble_eq_true rfl, Nat.le_of_ble_eq_true rfl⟩) (Wd.preV zo hA hZ hw hK m_r_3 o_r_3 rfl) rfl rfl hl.1 rfl (lv_room (Nat.le_of_ble_eq_true rfl)) dX9_image_47 ⟨Nat.le_of_ble_eq_true rfl, Nat.le_of_ble_eq_true rfl⟩) (fun L1 f_18 H locs ex_17 hw => ?_)
        obtain ⟨rfl, hg, hX, ex_17⟩ := ex_17
        have hE := fun a m ci o => hX.1.1 a ci (hE a m ci o)
        have o_a0 := hX.1.1 _ _ o_a0
        have e47 := ex_17
        rw [← ef9] at e47
        refine q_iconst hx hb dX9_image_50 ?_
        exact q_ret_z hx hb hr hlocks hK hAe hw (by omega) (Nat.le_of_ble_eq_true rfl) (Nat.le_of_ble_eq_true rfl) dX9_image_51 (by exact ⟨hs, hg, hE, Or.inr ⟨by omega, by omega, by omega, _, _, rx, f9, s44, by first | exact Or.inl ⟨ef9, erx, n0, by rw [← zi]; exact e42⟩ | exact Or.inr ⟨i18.1, nq0, by rw [erx]; exact fqn, by rw [ef9]; exact hola, by rw [ef9]; exact haj⟩, (e47.2.2.2 im0 x1).trans (by rw [ef9, ← zi]; exact e42), e47.1, e47.2.1, e47.2.2.1, e47.2.2.2⟩⟩)
    · refine q_iconst hx hb dX9_image_13 ?_
      exact q_ret_z hx hb hr hlocks hK hAe hw (by omega) (Nat.le_of_ble_eq_true rfl) (Nat.le_of_ble_eq_true rfl) dX9_image_14 (by exact ⟨hs, hg, hE, Or.inl ⟨by omega, by omega, rfl⟩⟩)
