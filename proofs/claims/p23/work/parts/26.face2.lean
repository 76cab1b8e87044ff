set_option maxHeartbeats 4000000 in
set_option maxRecDepth 100000 in
theorem c_X9_lastKeyToTry {Z : Zt} (zo : Zok Z) (l : Launch) (D : va_G) (cy : Cy) (L0 : List Nat) (f0 : Nat → va_E) (a0 : Nat) (a1 : Nat) (x2 : Int) (lx2 : -2147483648 ≤ x2) (ux2 : x2 ≤ 2147483647) (m_a0 : a0 ∈ L0) (o_a0 : Ob f0 a0 0) (m_a1 : a1 ∈ L0) (o_a1 : Ob f0 a1 0) (hg : GI cy L0 f0) : Ci Z l yX9_lastKeyToTry (Cond.code yX9_lastKeyToTry cX9_lastKeyToTry 6 (some .int) :: TB) ({ frames := 3, cells := 0, slots := 0, locals := 75 } : Room) 0 0 D (tq cy) [.ref a0, .ref a1, .int (iI x2)] L0 f0 (fun (r : Int) (L1 : List Nat) (f1 : Nat → va_E) => L0 = L1 ∧ f0 = f1 ∧ (True)) := by
  refine Ci.enter (cc := cX9_lastKeyToTry) (n := 6) rfl (plainFor_of_name (by decide)) (Nat.le_of_ble_eq_true rfl) ?_
  intro p e s m below meth c ls A hx hb hr hts hown hlocks hnm hml hK hA hAe hw hZ hl
  have hown : s.vm.findClass RX9 = some m.cls := hown
  have hl : lv_has ls 6 [(0, .ref a0), (1, .ref a1), (2, .int (iI x2))] := hl
  have hN : ZN s := (zo.2.2.2.2 _ _ _ hZ).2
  refine lv_aload_n hx hb dX9_lastKeyToTry_0 rfl (lv_at hl 0 rfl) ?_
  obtain ⟨r_1, er_1, m_r_1, o_r_1⟩ := (show ∃ r, fR f0 a0 3 = some r ∧ r ∈ L0 ∧ Rl f0 r from hg.2.1 _ m_a0 0 3 o_a0)
  refine q_getr (ci := 0) (C := RX0) (T := TX0) (N := 15) hx hb hts (fun w h => List.mem_cons_of_mem _ (mfX00 w h)) hown hK hw m_a0 o_a0 rfl 3 (by decide) (hts _ (List.mem_cons_of_mem _ (mr36 _ (List.mem_of_getElem? (i := 0) rfl)))) (fun _ h => h) rfl er_1 dX9_lastKeyToTry_1 ?_
  have K4 : ∀ (x_2 : Int) (lx_2 : -9223372036854775808 ≤ x_2) (ux_2 : x_2 ≤ 9223372036854775807) (ex_2 : True) (H : Heap) (locs : List Loc) (hw : Wd D A s.heap L0 f0 H locs), W p l e ({ frames := 3, cells := 0, slots := 0, locals := 75 } : Room) s m ([.ref a0, .ref a1, .int (iI x2)] : List Value).toArray below meth c H locs (0) (0) (MQ below (Qi D (tq cy) L0 f0 s.heap.size (fun (r : Int) (L1 : List Nat) (f1 : Nat → va_E) => L0 = L1 ∧ f0 = f1 ∧ (True))) ([.ref a0, .ref a1, .int (iI x2)] : List Value).toArray s 0 0 A) (F0 m 7 ls (.long (lJ x_2) :: [])) := by
    intro x_2 lx_2 ux_2 ex_2 H locs hw
    refine lv_aload_n hx hb dX9_lastKeyToTry_7 rfl (lv_at hl 1 rfl) ?_
    obtain ⟨r_3, er_3, m_r_3, o_r_3⟩ := (show ∃ r, fR f0 a1 3 = some r ∧ r ∈ L0 ∧ Rl f0 r from hg.2.1 _ m_a1 0 3 o_a1)
    refine q_getr (ci := 0) (C := RX0) (T := TX0) (N := 15) hx hb hts (fun w h => List.mem_cons_of_mem _ (mfX00 w h)) hown hK hw m_a1 o_a1 rfl 3 (by decide) (hts _ (List.mem_cons_of_mem _ (mr36 _ (List.mem_of_getElem? (i := 0) rfl)))) (fun _ h => h) rfl er_3 dX9_lastKeyToTry_8 ?_
    have K11 : ∀ (x_4 : Int) (lx_4 : -9223372036854775808 ≤ x_4) (ux_4 : x_4 ≤ 9223372036854775807) (ex_4 : True) (H : Heap) (locs : List Loc) (hw : Wd D A s.heap L0 f0 H locs), W p l e ({ frames := 3, cells := 0, slots := 0, locals := 75 } : Room) s m ([.ref a0, .ref a1, .int (iI x2)] : List Value).toArray below meth c H locs (0) (0) (MQ below (Qi D (tq cy) L0 f0 s.heap.size (fun (r : Int) (L1 : List Nat) (f1 : Nat → va_E) => L0 = L1 ∧ f0 = f1 ∧ (True))) ([.ref a0, .ref a1, .int (iI x2)] : List Value).toArray s 0 0 A) (F0 m 14 ls (.long (lJ x_4) :: [.long (lJ x_2)])) := by
      intro x_4 lx_4 ux_4 ex_4 H locs hw
      refine q_call_l hA hK hw (va_runS (As := [.long (lJ x_2), .long (lJ x_4)]) (rest := []) ⟨hx, hb, hml, hown, hts⟩ (c_X9_commonMultiple zo l D cy L0 f0 x_2 lx_2 ux_2 x_4 lx_4 ux_4 _) (va_cwS 2 hts (gT (inS (mr37 _ (List.mem_of_getElem? (i := 3) rfl)) (mr36 _ (List.mem_of_getElem? (i := 15) rfl)) (mr1 _ (List.mem_of_getElem? (i := 2) rfl)) (mr36 _ (List.mem_of_getElem? (i := 16) rfl)))) rfl rfl rfl (by decide +kernel) ⟨Nat.le_of_ble_eq_true rfl, Nat.le_of_ble_eq_true rfl⟩) (Wd.preS zo hA hZ hw hK) rfl rfl hl.1 rfl (lv_room (Nat.le_of_ble_eq_true rfl)) dX9_lastKeyToTry_14 ⟨Nat.le_of_ble_eq_true rfl, Nat.le_of_ble_eq_true rfl⟩) (fun x_5 L1 f1 H locs lx_5 ux_5 ex_5 hw => ?_)
      obtain ⟨rfl, rfl, ex_5⟩ := ex_5
      refine lv_lstore_n (lv' := [(3, .long (lJ x_5)), (0, .ref a0), (1, .ref a1), (2, .int (iI x2))]) hx hb dX9_lastKeyToTry_17 rfl hl (by decide) rfl (fun ls hl => ?_)
      refine lv_lload_n hx hb dX9_lastKeyToTry_18 rfl (lv_at hl 0 rfl) ?_
      refine q_lconst0 hx hb dX9_lastKeyToTry_19 ?_
      refine q_lcmp hx hb dX9_lastKeyToTry_20 ⟨lx_5, ux_5⟩ ⟨by decide, by decide⟩ (fun x_6 lx_6 ux_6 ex_6 => ?_)
      refine q_if_ne (tgt := 27) hx hb dX9_lastKeyToTry_21 (by decide) ⟨lx_6, ux_6⟩ (fun c21 => ?_) (fun c21 => ?_)
      · refine lv_aload_n hx hb dX9_lastKeyToTry_27 rfl (lv_at hl 1 rfl) ?_
        refine q_geti (ci := 0) (C := RX0) (T := TX0) (N := 15) hx hb hts (fun w h => List.mem_cons_of_mem _ (mfX00 w h)) hown hK hw m_a0 o_a0 rfl 7 (by decide) (hts _ (List.mem_cons_of_mem _ (mr35 _ (List.mem_of_getElem? (i := 19) rfl)))) (fun _ h => h) rfl dX9_lastKeyToTry_28 (fun x_7 lx_7 ux_7 ex_7 => ?_)
        refine lv_aload_n hx hb dX9_lastKeyToTry_31 rfl (lv_at hl 2 rfl) ?_
        refine q_geti (ci := 0) (C := RX0) (T := TX0) (N := 15) hx hb hts (fun w h => List.mem_cons_of_mem _ (mfX00 w h)) hown hK hw m_a1 o_a1 rfl 7 (by decide) (hts _ (List.mem_cons_of_mem _ (mr35 _ (List.mem_of_getElem? (i := 19) rfl)))) (fun _ h => h) rfl dX9_lastKeyToTry_32 (fun x_8 lx_8 ux_8 ex_8 => ?_)
        refine q_max hx hb (hml.trans hl.1.symm) hown (hts _ (List.mem_cons_of_mem _ (mr35 _ (List.mem_of_getElem? (i := 20) rfl)))) (hts _ (List.mem_cons_of_mem _ (mr13 _ (List.mem_of_getElem? (i := 0) rfl)))) (hts _ (List.mem_cons_of_mem _ (mr6 _ (List.mem_of_getElem? (i := 14) rfl)))) (hts _ (List.mem_cons_of_mem _ (mr13 _ (List.mem_of_getElem? (i := 1) rfl)))) (Nat.le_of_ble_eq_true rfl) (Nat.le_of_ble_eq_true rfl) (Nat.le_of_ble_eq_true rfl) (Nat.le_of_ble_eq_true rfl) ⟨lx_7, ux_7⟩ ⟨lx_8, ux_8⟩ dX9_lastKeyToTry_35 (fun x_9 lx_9 ux_9 ex_9 => ?_)
        refine lv_iload_n hx hb dX9_lastKeyToTry_38 rfl (lv_at hl 3 rfl) ?_
        refine q_sipush hx hb dX9_lastKeyToTry_39 rfl ?_
        first | refine q_idiv hx hb dX9_lastKeyToTry_42 ⟨lx2, ux2⟩ ⟨by decide, by decide⟩ (by omega) (by omega) (fun x_10 lx_10 ux_10 ex_10 => ?_) | refine q_idivw hx hb dX9_lastKeyToTry_42 ⟨lx2, ux2⟩ ⟨by decide, by decide⟩ (by omega) (fun x_10 lx_10 ux_10 ex_10 => ?_)
        refine q_iconst hx hb dX9_lastKeyToTry_43 ?_
        first | refine q_iadd hx hb dX9_lastKeyToTry_44 ⟨by omega, by omega⟩ (fun x_11 lx_11 ux_11 ex_11 => ?_) | refine q_iaddw hx hb dX9_lastKeyToTry_44 (fun x_11 lx_11 ux_11 _ => ?_)
        refine q_max hx hb (hml.trans hl.1.symm) hown (hts _ (List.mem_cons_of_mem _ (mr35 _ (List.mem_of_getElem? (i := 20) rfl)))) (hts _ (List.mem_cons_of_mem _ (mr13 _ (List.mem_of_getElem? (i := 0) rfl)))) (hts _ (List.mem_cons_of_mem _ (mr6 _ (List.mem_of_getElem? (i := 14) rfl)))) (hts _ (List.mem_cons_of_mem _ (mr13 _ (List.mem_of_getElem? (i := 1) rfl)))) (Nat.le_of_ble_eq_true rfl) (Nat.le_of_ble_eq_true rfl) (Nat.le_of_ble_eq_true rfl) (Nat.le_of_ble_eq_true rfl) ⟨lx_9, ux_9⟩ ⟨lx_11, ux_11⟩ dX9_lastKeyToTry_45 (fun x_12 lx_12 ux_12 ex_12 => ?_)
        refine q_iconst hx hb dX9_lastKeyToTry_48 ?_
        first | refine q_iadd hx hb dX9_lastKeyToTry_49 ⟨by omega, by omega⟩ (fun x_13 lx_13 ux_13 ex_13 => ?_) | refine q_iaddw hx hb dX9_lastKeyToTry_49 (fun x_13 lx_13 ux_13 _ => ?_)
        refine lv_istore (lv' := [(5, .int (iI x_13)), (3, .long (lJ x_5)), (0, .ref a0), (1, .ref a1), (2, .int (iI x2))]) hx hb dX9_lastKeyToTry_50 hl (by decide) rfl (fun ls hl => ?_)
        refine lv_iload hx hb dX9_lastKeyToTry_52 (lv_at hl 0 rfl) ?_
        refine q_i2l hx hb dX9_lastKeyToTry_54 ⟨lx_13, ux_13⟩ ?_
        obtain ⟨j_14, lj_14, uj_14, ej_14⟩ : ∃ z : Int, -9223372036854775808 ≤ z ∧ z ≤ 9223372036854775807 ∧ x_13 = z := ⟨x_13, by omega, by omega, rfl⟩
        rw [show (lJ x_13) = lJ j_14 from by rw [ej_14]]
        refine lv_aload_n hx hb dX9_lastKeyToTry_55 rfl (lv_at hl 2 rfl) ?_
        refine q_geti (ci := 0) (C := RX0) (T := TX0) (N := 15) hx hb hts (fun w h => List.mem_cons_of_mem _ (mfX00 w h)) hown hK hw m_a0 o_a0 rfl 10 (by decide) (hts _ (List.mem_cons_of_mem _ (mr35 _ (List.mem_of_getElem? (i := 5) rfl)))) (fun _ h => h) rfl dX9_lastKeyToTry_56 (fun x_15 lx_15 ux_15 ex_15 => ?_)
        have bx_15 : 0 ≤ x_15 ∧ x_15 ≤ 16 := by rw [ex_15]; exact hg.1 _ m_a0 0 10 o_a0
        refine lv_aload_n hx hb dX9_lastKeyToTry_59 rfl (lv_at hl 3 rfl) ?_
        refine q_geti (ci := 0) (C := RX0) (T := TX0) (N := 15) hx hb hts (fun w h => List.mem_cons_of_mem _ (mfX00 w h)) hown hK hw m_a1 o_a1 rfl 10 (by decide) (hts _ (List.mem_cons_of_mem _ (mr35 _ (List.mem_of_getElem? (i := 5) rfl)))) (fun _ h => h) rfl dX9_lastKeyToTry_60 (fun x_16 lx_16 ux_16 ex_16 => ?_)
        have bx_16 : 0 ≤ x_16 ∧ x_16 ≤ 16 := by rw [ex_16]; exact hg.1 _ m_a1 0 10 o_a1
        first | refine q_iadd hx hb dX9_lastKeyToTry_63 ⟨by omega, by omega⟩ (fun x_17 lx_17 ux_17 ex_17 => ?_) | refine q_iaddw hx hb dX9_lastKeyToTry_63 (fun x_17 lx_17 ux_17 _ => ?_)
        refine q_iconst hx hb dX9_lastKeyToTry_64 ?_
        first | refine q_iadd hx hb dX9_lastKeyToTry_65 ⟨by omega, by omega⟩ (fun x_18 lx_18 ux_18 ex_18 => ?_) | refine q_iaddw hx hb dX9_lastKeyToTry_65 (fun x_18 lx_18 ux_18 _ => ?_)
        refine q_i2l hx hb dX9_lastKeyToTry_66 ⟨lx_18, ux_18⟩ ?_
        obtain ⟨j_19, lj_19, uj_19, ej_19⟩ : ∃ z : Int, -9223372036854775808 ≤ z ∧ z ≤ 9223372036854775807 ∧ x_18 = z := ⟨x_18, by omega, by omega, rfl⟩
        rw [show (lJ x_18) = lJ j_19 from by rw [ej_19]]
        refine lv_lload_n hx hb dX9_lastKeyToTry_67 rfl (lv_at hl 1 rfl) ?_
        first | refine q_lmul hx hb dX9_lastKeyToTry_68 ⟨by omega, by omega⟩ (fun j_20 lj_20 uj_20 ej_20 => ?_) | refine q_lmulw hx hb dX9_lastKeyToTry_68 (fun j_20 lj_20 uj_20 ej_20 => ?_)
        first | refine q_ladd hx hb dX9_lastKeyToTry_69 ⟨by omega, by omega⟩ (fun j_21 lj_21 uj_21 ej_21 => ?_) | refine q_laddw hx hb dX9_lastKeyToTry_69 (fun j_21 lj_21 uj_21 ej_21 => ?_)
        refine q_ldc2 (n := 36524) hx hb hown (hts _ (List.mem_cons_of_mem _ (mr36 _ (List.mem_of_getElem? (i := 1) rfl)))) rfl dX9_lastKeyToTry_70 ?_
        refine va_mmin_long hx hb (hml.trans hl.1.symm) hown (hts _ (List.mem_cons_of_mem _ (mr36 _ (List.mem_of_getElem? (i := 2) rfl)))) (hts _ (List.mem_cons_of_mem _ (mr36 _ (List.mem_of_getElem? (i := 3) rfl)))) (hts _ (List.mem_cons_of_mem _ (mr6 _ (List.mem_of_getElem? (i := 14) rfl)))) (hts _ (List.mem_cons_of_mem _ (mr36 _ (List.mem_of_getElem? (i := 4) rfl)))) (Nat.le_of_ble_eq_true rfl) (Nat.le_of_ble_eq_true rfl) (Nat.le_of_ble_eq_true rfl) (Nat.le_of_ble_eq_true rfl) dX9_lastKeyToTry_73 ?_
        refine q_numl (fun j_22 lj_22 uj_22 ej_22 => ?_)
        refine q_l2i hx hb dX9_lastKeyToTry_76 (fun x_23 lx_23 ux_23 ex_23 => ?_)
        exact q_ret_i hx hb hr hlocks hK hAe hw ⟨lx_23, ux_23⟩ (Nat.le_of_ble_eq_true rfl) (Nat.le_of_ble_eq_true rfl) dX9_lastKeyToTry_77 ⟨rfl, rfl, by trivial⟩
      · refine q_ldc (n := 36524) hx hb hown (hts _ (List.mem_cons_of_mem _ (mr23 _ (List.mem_of_getElem? (i := 16) rfl)))) rfl dX9_lastKeyToTry_24 ?_
        exact q_ret_i hx hb hr hlocks hK hAe hw ⟨by decide, by decide⟩ (Nat.le_of_ble_eq_true rfl) (Nat.le_of_ble_eq_true rfl) dX9_lastKeyToTry_26 ⟨rfl, rfl, by trivial⟩
    rcases o_r_3 with o9 | o9 | o9 | o9
    · refine q_call_l hA hK hw (va_runU (As := []) (rest := [.long (lJ x_2)]) ⟨hx, hb, hml, hown, hts⟩ (c_X2_cycle zo l D cy L0 f0 r_3 m_r_3 o9 hg _) (va_cwA 0 hts (gT (inU (mr36 _ (List.mem_of_getElem? (i := 5) rfl)) (mr36 _ (List.mem_of_getElem? (i := 6) rfl)) (mr36 _ (List.mem_of_getElem? (i := 7) rfl)) (mr36 _ (List.mem_of_getElem? (i := 8) rfl)) (mr12 _ (List.mem_of_getElem? (i := 12) rfl)) (mr36 _ (List.mem_of_getElem? (i := 9) rfl)))) rfl rfl rfl (hN _ (List.mem_of_getElem? (i := 18) rfl)) (by decide +kernel) ⟨Nat.le_of_ble_eq_true rfl, Nat.le_of_ble_eq_true rfl⟩) (Wd.preV zo hA hZ hw hK m_r_3 o9 rfl) rfl rfl hl.1 rfl (lv_room (Nat.le_of_ble_eq_true rfl)) dX9_lastKeyToTry_11 ⟨Nat.le_of_ble_eq_true rfl, Nat.le_of_ble_eq_true rfl⟩) (fun x_4 L1 f1 H locs lx_4 ux_4 ex_4 hw => ?_)
      obtain ⟨rfl, rfl, ex_4⟩ := ex_4
      exact K11 x_4 lx_4 ux_4 trivial H locs hw
    · refine q_call_l hA hK hw (va_runU (As := []) (rest := [.long (lJ x_2)]) ⟨hx, hb, hml, hown, hts⟩ (c_X3_cycle zo l D cy L0 f0 r_3 m_r_3 o9 hg _) (va_cwA 0 hts (gT (inU (mr36 _ (List.mem_of_getElem? (i := 5) rfl)) (mr36 _ (List.mem_of_getElem? (i := 6) rfl)) (mr36 _ (List.mem_of_getElem? (i := 10) rfl)) (mr36 _ (List.mem_of_getElem? (i := 11) rfl)) (mr12 _ (List.mem_of_getElem? (i := 18) rfl)) (mr36 _ (List.mem_of_getElem? (i := 12) rfl)))) rfl rfl rfl (hN _ (List.mem_of_getElem? (i := 18) rfl)) (by decide +kernel) ⟨Nat.le_of_ble_eq_true rfl, Nat.le_of_ble_eq_true rfl⟩) (Wd.preV zo hA hZ hw hK m_r_3 o9 rfl) rfl rfl hl.1 rfl (lv_room (Nat.le_of_ble_eq_true rfl)) dX9_lastKeyToTry_11 ⟨Nat.le_of_ble_eq_true rfl, Nat.le_of_ble_eq_true rfl⟩) (fun x_4 L1 f1 H locs lx_4 ux_4 ex_4 hw => ?_)
      obtain ⟨rfl, rfl, ex_4⟩ := ex_4
      exact K11 x_4 lx_4 ux_4 trivial H locs hw
    · refine q_call_l hA hK hw (va_runU (As := []) (rest := [.long (lJ x_2)]) ⟨hx, hb, hml, hown, hts⟩ (c_X4_cycle zo l D cy L0 f0 r_3 m_r_3 o9 hg _) (va_cwA 0 hts (gT (inU (mr36 _ (List.mem_of_getElem? (i := 5) rfl)) (mr36 _ (List.mem_of_getElem? (i := 6) rfl)) (mr36 _ (List.mem_of_getElem? (i := 20) rfl)) (mr36 _ (List.mem_of_getElem? (i := 21) rfl)) (mr2 _ (List.mem_of_getElem? (i := 7) rfl)) (mr36 _ (List.mem_of_getElem? (i := 22) rfl)))) rfl rfl rfl (hN _ (List.mem_of_getElem? (i := 18) rfl)) (by decide +kernel) ⟨Nat.le_of_ble_eq_true rfl, Nat.le_of_ble_eq_true rfl⟩) (Wd.preV zo hA hZ hw hK m_r_3 o9 rfl) rfl rfl hl.1 rfl (lv_room (Nat.le_of_ble_eq_true rfl)) dX9_lastKeyToTry_11 ⟨Nat.le_of_ble_eq_true rfl, Nat.le_of_ble_eq_true rfl⟩) (fun x_4 L1 f1 H locs lx_4 ux_4 ex_4 hw => ?_)
      obtain ⟨rfl, rfl, ex_4⟩ := ex_4
      exact K11 x_4 lx_4 ux_4 trivial H locs hw
    · refine q_call_l hA hK hw (va_runU (As := []) (rest := [.long (lJ x_2)]) ⟨hx, hb, hml, hown, hts⟩ (c_X8_cycle zo l D cy L0 f0 r_3 m_r_3 o9 hg _) (va_cwA 0 hts (gT (inU (mr36 _ (List.mem_of_getElem? (i := 5) rfl)) (mr36 _ (List.mem_of_getElem? (i := 6) rfl)) (mr36 _ (List.mem_of_getElem? (i := 23) rfl)) (mr37 _ (List.mem_of_getElem? (i := 0) rfl)) (mr12 _ (List.mem_of_getElem? (i := 15) rfl)) (mr37 _ (List.mem_of_getElem? (i := 1) rfl)))) rfl rfl rfl (hN _ (List.mem_of_getElem? (i := 18) rfl)) (by decide +kernel) ⟨Nat.le_of_ble_eq_true rfl, Nat.le_of_ble_eq_true rfl⟩) (Wd.preV zo hA hZ hw hK m_r_3 o9 rfl) rfl rfl hl.1 rfl (lv_room (Nat.le_of_ble_eq_true rfl)) dX9_lastKeyToTry_11 ⟨Nat.le_of_ble_eq_true rfl, Nat.le_of_ble_eq_true rfl⟩) (fun x_4 L1 f1 H locs lx_4 ux_4 ex_4 hw => ?_)
      obtain ⟨rfl, rfl, ex_4⟩ := ex_4
      exact K11 x_4 lx_4 ux_4 trivial H locs hw
  rcases o_r_1 with o9 | o9 | o9 | o9
  · refine q_call_l hA hK hw (va_runU (As := []) (rest := []) ⟨hx, hb, hml, hown, hts⟩ (c_X2_cycle zo l D cy L0 f0 r_1 m_r_1 o9 hg _) (va_cwA 0 hts (gT (inU (mr36 _ (List.mem_of_getElem? (i := 5) rfl)) (mr36 _ (List.mem_of_getElem? (i := 6) rfl)) (mr36 _ (List.mem_of_getElem? (i := 7) rfl)) (mr36 _ (List.mem_of_getElem? (i := 8) rfl)) (mr12 _ (List.mem_of_getElem? (i := 12) rfl)) (mr36 _ (List.mem_of_getElem? (i := 9) rfl)))) rfl rfl rfl (hN _ (List.mem_of_getElem? (i := 18) rfl)) (by decide +kernel) ⟨Nat.le_of_ble_eq_true rfl, Nat.le_of_ble_eq_true rfl⟩) (Wd.preV zo hA hZ hw hK m_r_1 o9 rfl) rfl rfl hl.1 rfl (lv_room (Nat.le_of_ble_eq_true rfl)) dX9_lastKeyToTry_4 ⟨Nat.le_of_ble_eq_true rfl, Nat.le_of_ble_eq_true rfl⟩) (fun x_2 L1 f1 H locs lx_2 ux_2 ex_2 hw => ?_)
    obtain ⟨rfl, rfl, ex_2⟩ := ex_2
    exact K4 x_2 lx_2 ux_2 trivial H locs hw
  · refine q_call_l hA hK hw (va_runU (As := []) (rest := []) ⟨hx, hb, hml, hown, hts⟩ (c_X3_cycle zo l D cy L0 f0 r_1 m_r_1 o9 hg _) (va_cwA 0 hts (gT (inU (mr36 _ (List.mem_of_getElem? (i := 5) rfl)) (mr36 _ (List.mem_of_getElem? (i := 6) rfl)) (mr36 _ (List.mem_of_getElem? (i := 10) rfl)) (mr36 _ (List.mem_of_getElem? (i := 11) rfl)) (mr12 _ (List.mem_of_getElem? (i := 18) rfl)) (mr36 _ (List.mem_of_getElem? (i := 12) rfl)))) rfl rfl rfl (hN _ (List.mem_of_getElem? (i := 18) rfl)) (by decide +kernel) ⟨Nat.le_of_ble_eq_true rfl, Nat.le_of_ble_eq_true rfl⟩) (Wd.preV zo hA hZ hw hK m_r_1 o9 rfl) rfl rfl hl.1 rfl (lv_room (Nat.le_of_ble_eq_true rfl)) dX9_lastKeyToTry_4 ⟨Nat.le_of_ble_eq_true rfl, Nat.le_of_ble_eq_true rfl⟩) (fun x_2 L1 f1 H locs lx_2 ux_2 ex_2 hw => ?_)
    obtain ⟨rfl, rfl, ex_2⟩ := ex_2
    exact K4 x_2 lx_2 ux_2 trivial H locs hw
  · refine q_call_l hA hK hw (va_runU (As := []) (rest := []) ⟨hx, hb, hml, hown, hts⟩ (c_X4_cycle zo l D cy L0 f0 r_1 m_r_1 o9 hg _) (va_cwA 0 hts (gT (inU (mr36 _ (List.mem_of_getElem? (i := 5) rfl)) (mr36 _ (List.mem_of_getElem? (i := 6) rfl)) (mr36 _ (List.mem_of_getElem? (i := 20) rfl)) (mr36 _ (List.mem_of_getElem? (i := 21) rfl)) (mr2 _ (List.mem_of_getElem? (i := 7) rfl)) (mr36 _ (List.mem_of_getElem? (i := 22) rfl)))) rfl rfl rfl (hN _ (List.mem_of_getElem? (i := 18) rfl)) (by decide +kernel) ⟨Nat.le_of_ble_eq_true rfl, Nat.le_of_ble_eq_true rfl⟩) (Wd.preV zo hA hZ hw hK m_r_1 o9 rfl) rfl rfl hl.1 rfl (lv_room (Nat.le_of_ble_eq_true rfl)) dX9_lastKeyToTry_4 ⟨Nat.le_of_ble_eq_true rfl, Nat.le_of_ble_eq_true rfl⟩) (fun x_2 L1 f1 H locs lx_2 ux_2 ex_2 hw => ?_)
    obtain ⟨rfl, rfl, ex_2⟩ := ex_2
    exact K4 x_2 lx_2 ux_2 trivial H locs hw
  · refine q_call_l hA hK hw (va_runU (As := []) (rest := []) ⟨hx, hb, hml, hown, hts⟩ (c_X8_cycle zo l D cy L0 f0 r_1 m_r_1 o9 hg _) (va_cwA 0 hts (gT (inU (mr36 _ (List.mem_of_getElem? (i := 5) rfl)) (mr36 _ (List.mem_of_getElem? (i := 6) rfl)) (mr36 _ (List.mem_of_getElem? (i := 23) rfl)) (mr37 _ (List.mem_of_getElem? (i := 0) rfl)) (mr12 _ (List.mem_of_getElem? (i := 15) rfl)) (mr37 _ (List.mem_of_getElem? (i := 1) rfl)))) rfl rfl rfl (hN _ (List.mem_of_getElem? (i := 18) rfl)) (by decide +kernel) ⟨Nat.le_of_ble_eq_true rfl, Nat.le_of_ble_eq_true rfl⟩) (Wd.preV zo hA hZ hw hK m_r_1 o9 rfl) rfl rfl hl.1 rfl (lv_room (Nat.le_of_ble_eq_true rfl)) dX9_lastKeyToTry_4 ⟨Nat.le_of_ble_eq_true rfl, Nat.le_of_ble_eq_true rfl⟩) (fun x_2 L1 f1 H locs lx_2 ux_2 ex_2 hw => ?_)
    obtain ⟨rfl, rfl, ex_2⟩ := ex_2
    exact K4 x_2 lx_2 ux_2 trivial H locs hw
set_option maxHeartbeats 4000000 in
set_option maxRecDepth 100000 in
theorem c_X9_period {Z : Zt} (zo : Zok Z) (l : Launch) (D : va_G) (cy : Cy) (L0 : List Nat) (f0 : Nat → va_E) (a0 : Nat) (x1 : Int) (lx1 : -2147483648 ≤ x1) (ux1 : x1 ≤ 2147483647) (m_a0 : a0 ∈ L0) (o_a0 : Ob f0 a0 7) (hg : GI cy L0 f0) : Ci Z l yX9_period (Cond.code yX9_period cX9_period 2 (some .int) :: TB) ({ frames := 3, cells := 0, slots := 0, locals := 75 } : Room) 0 0 D (tq cy) [.ref a0, .int (iI x1)] L0 f0 (fun (r : Int) (L1 : List Nat) (f1 : Nat → va_E) => L0 = L1 ∧ f0 = f1 ∧ (True)) := by
  refine Ci.enter (cc := cX9_period) (n := 2) rfl (plainFor_of_name (by decide)) (Nat.le_of_ble_eq_true rfl) ?_
  intro p e s m below meth c ls A hx hb hr hts hown hlocks hnm hml hK hA hAe hw hZ hl
  have hown : s.vm.findClass RX9 = some m.cls := hown
  have hl : lv_has ls 2 [(0, .ref a0), (1, .int (iI x1))] := hl
  have hN : ZN s := (zo.2.2.2.2 _ _ _ hZ).2
  refine lv_aload_n hx hb dX9_period_0 rfl (lv_at hl 0 rfl) ?_
  obtain ⟨r_1, er_1, m_r_1, o_r_1⟩ := (show ∃ r, fR f0 a0 2 = some r ∧ r ∈ L0 ∧ Ob f0 r 5 from hg.2.1 _ m_a0 7 2 o_a0)
  refine q_getr (ci := 7) (C := RX9) (T := TX9) (N := 4) hx hb hts (fun w h => List.mem_cons_of_mem _ (mfX90 w h)) hown hK hw m_a0 o_a0 rfl 2 (by decide) (hts _ (List.mem_cons_of_mem _ (mr1 _ (List.mem_of_getElem? (i := 20) rfl)))) (fun _ h => h) rfl er_1 dX9_period_1 ?_
  refine lv_iload_n hx hb dX9_period_4 rfl (lv_at hl 1 rfl) ?_
  refine q_call_i hA hK hw (va_runV (As := [.int (iI x1)]) (rest := []) ⟨hx, hb, hml, hown, hts⟩ (c_X7_has zo l D cy L0 f0 r_1 x1 lx1 ux1 m_r_1 o_r_1 hg _) (cwV 1 hts (gT (inV (mr22 _ (List.mem_of_getElem? (i := 9) rfl)) (mr22 _ (List.mem_of_getElem? (i := 10) rfl)) (mr22 _ (List.mem_of_getElem? (i := 11) rfl)) (mr1 _ (List.mem_of_getElem? (i := 19) rfl)) (mr22 _ (List.mem_of_getElem? (i := 12) rfl)))) rfl rfl rfl (by decide +kernel) ⟨Nat.le_of_ble_eq_true rfl, Nat.le_of_ble_eq_true rfl⟩) (Wd.preV zo hA hZ hw hK m_r_1 o_r_1 rfl) rfl rfl hl.1 rfl (lv_room (Nat.le_of_ble_eq_true rfl)) dX9_period_5 ⟨Nat.le_of_ble_eq_true rfl, Nat.le_of_ble_eq_true rfl⟩) (fun x_2 L1 f1 H locs lx_2 ux_2 ex_2 hw => ?_)
  obtain ⟨rfl, rfl, ex_2⟩ := ex_2
  refine q_if_ne (tgt := 13) hx hb dX9_period_8 (by decide) ⟨lx_2, ux_2⟩ (fun c8 => ?_) (fun c8 => ?_)
  · refine lv_aload_n hx hb dX9_period_13 rfl (lv_at hl 0 rfl) ?_
    refine q_getr (ci := 7) (C := RX9) (T := TX9) (N := 4) hx hb hts (fun w h => List.mem_cons_of_mem _ (mfX90 w h)) hown hK hw m_a0 o_a0 rfl 2 (by decide) (hts _ (List.mem_cons_of_mem _ (mr1 _ (List.mem_of_getElem? (i := 20) rfl)))) (fun _ h => h) rfl er_1 dX9_period_14 ?_
    refine lv_iload_n hx hb dX9_period_17 rfl (lv_at hl 1 rfl) ?_
    refine q_call_r hA hK hw (va_runV (As := [.int (iI x1)]) (rest := []) ⟨hx, hb, hml, hown, hts⟩ (c_X7_at zo l D cy L0 f0 r_1 x1 lx1 ux1 m_r_1 o_r_1 hg (by omega) (by omega) _) (cwV 1 hts (gT (inV (mr24 _ (List.mem_of_getElem? (i := 8) rfl)) (mr24 _ (List.mem_of_getElem? (i := 9) rfl)) (mr24 _ (List.mem_of_getElem? (i := 10) rfl)) (mr1 _ (List.mem_of_getElem? (i := 19) rfl)) (mr24 _ (List.mem_of_getElem? (i := 11) rfl)))) rfl rfl rfl (by decide +kernel) ⟨Nat.le_of_ble_eq_true rfl, Nat.le_of_ble_eq_true rfl⟩) (Wd.preV zo hA hZ hw hK m_r_1 o_r_1 rfl) rfl rfl hl.1 rfl (lv_room (Nat.le_of_ble_eq_true rfl)) dX9_period_18 ⟨Nat.le_of_ble_eq_true rfl, Nat.le_of_ble_eq_true rfl⟩) (fun x_3 L1 f1 H locs ex_3 hw => ?_)
    obtain ⟨rfl, rfl, ex_3⟩ := ex_3
    obtain ⟨m_x_3, o_x_3⟩ := ex_3
    obtain ⟨r_4, er_4, m_r_4, o_r_4⟩ := (show ∃ r, fR f0 x_3 3 = some r ∧ r ∈ L0 ∧ Rl f0 r from hg.2.1 _ m_x_3 0 3 o_x_3)
    refine q_getr (ci := 0) (C := RX0) (T := TX0) (N := 15) hx hb hts (fun w h => List.mem_cons_of_mem _ (mfX00 w h)) hown hK hw m_x_3 o_x_3 rfl 3 (by decide) (hts _ (List.mem_cons_of_mem _ (mr36 _ (List.mem_of_getElem? (i := 0) rfl)))) (fun _ h => h) rfl er_4 dX9_period_21 ?_
    have K24 : ∀ (x_5 : Int) (lx_5 : -9223372036854775808 ≤ x_5) (ux_5 : x_5 ≤ 9223372036854775807) (ex_5 : True) (H : Heap) (locs : List Loc) (hw : Wd D A s.heap L0 f0 H locs), W p l e ({ frames := 3, cells := 0, slots := 0, locals := 75 } : Room) s m ([.ref a0, .int (iI x1)] : List Value).toArray below meth c H locs (0 + 0 + 0) (0 + 0 + 0) (MQ below (Qi D (tq cy) L0 f0 s.heap.size (fun (r : Int) (L1 : List Nat) (f1 : Nat → va_E) => L0 = L1 ∧ f0 = f1 ∧ (True))) ([.ref a0, .int (iI x1)] : List Value).toArray s 0 0 A) (F0 m 27 ls (.long (lJ x_5) :: [])) := by
      intro x_5 lx_5 ux_5 ex_5 H locs hw
      refine q_call_i hA hK hw (va_runS (As := [.long (lJ x_5)]) (rest := []) ⟨hx, hb, hml, hown, hts⟩ (c_X9_asInt zo l D cy L0 f0 x_5 lx_5 ux_5 _) (va_cwS 1 hts (gT (inS (mr41 _ (List.mem_of_getElem? (i := 9) rfl)) (mr41 _ (List.mem_of_getElem? (i := 10) rfl)) (mr1 _ (List.mem_of_getElem? (i := 2) rfl)) (mr41 _ (List.mem_of_getElem? (i := 11) rfl)))) rfl rfl rfl (by decide +kernel) ⟨Nat.le_of_ble_eq_true rfl, Nat.le_of_ble_eq_true rfl⟩) (Wd.preS zo hA hZ hw hK) rfl rfl hl.1 rfl (lv_room (Nat.le_of_ble_eq_true rfl)) dX9_period_27 ⟨Nat.le_of_ble_eq_true rfl, Nat.le_of_ble_eq_true rfl⟩) (fun x_6 L1 f1 H locs lx_6 ux_6 ex_6 hw => ?_)
      obtain ⟨rfl, rfl, ex_6⟩ := ex_6
      exact q_ret_i hx hb hr hlocks hK hAe hw ⟨lx_6, ux_6⟩ (Nat.le_of_ble_eq_true rfl) (Nat.le_of_ble_eq_true rfl) dX9_period_30 ⟨rfl, rfl, by trivial⟩
    rcases o_r_4 with o9 | o9 | o9 | o9
    · refine q_call_l hA hK hw (va_runU (As := []) (rest := []) ⟨hx, hb, hml, hown, hts⟩ (c_X2_cycle zo l D cy L0 f0 r_4 m_r_4 o9 hg _) (va_cwA 0 hts (gT (inU (mr36 _ (List.mem_of_getElem? (i := 5) rfl)) (mr36 _ (List.mem_of_getElem? (i := 6) rfl)) (mr36 _ (List.mem_of_getElem? (i := 7) rfl)) (mr36 _ (List.mem_of_getElem? (i := 8) rfl)) (mr12 _ (List.mem_of_getElem? (i := 12) rfl)) (mr36 _ (List.mem_of_getElem? (i := 9) rfl)))) rfl rfl rfl (hN _ (List.mem_of_getElem? (i := 18) rfl)) (by decide +kernel) ⟨Nat.le_of_ble_eq_true rfl, Nat.le_of_ble_eq_true rfl⟩) (Wd.preV zo hA hZ hw hK m_r_4 o9 rfl) rfl rfl hl.1 rfl (lv_room (Nat.le_of_ble_eq_true rfl)) dX9_period_24 ⟨Nat.le_of_ble_eq_true rfl, Nat.le_of_ble_eq_true rfl⟩) (fun x_5 L1 f1 H locs lx_5 ux_5 ex_5 hw => ?_)
      obtain ⟨rfl, rfl, ex_5⟩ := ex_5
      exact K24 x_5 lx_5 ux_5 trivial H locs hw
    · refine q_call_l hA hK hw (va_runU (As := []) (rest := []) ⟨hx, hb, hml, hown, hts⟩ (c_X3_cycle zo l D cy L0 f0 r_4 m_r_4 o9 hg _) (va_cwA 0 hts (gT (inU (mr36 _ (List.mem_of_getElem? (i := 5) rfl)) (mr36 _ (List.mem_of_getElem? (i := 6) rfl)) (mr36 _ (List.mem_of_getElem? (i := 10) rfl)) (mr36 _ (List.mem_of_getElem? (i := 11) rfl)) (mr12 _ (List.mem_of_getElem? (i := 18) rfl)) (mr36 _ (List.mem_of_getElem? (i := 12) rfl)))) rfl rfl rfl (hN _ (List.mem_of_getElem? (i := 18) rfl)) (by decide +kernel) ⟨Nat.le_of_ble_eq_true rfl, Nat.le_of_ble_eq_true rfl⟩) (Wd.preV zo hA hZ hw hK m_r_4 o9 rfl) rfl rfl hl.1 rfl (lv_room (Nat.le_of_ble_eq_true rfl)) dX9_period_24 ⟨Nat.le_of_ble_eq_true rfl, Nat.le_of_ble_eq_true rfl⟩) (fun x_5 L1 f1 H locs lx_5 ux_5 ex_5 hw => ?_)
      obtain ⟨rfl, rfl, ex_5⟩ := ex_5
      exact K24 x_5 lx_5 ux_5 trivial H locs hw
    · refine q_call_l hA hK hw (va_runU (As := []) (rest := []) ⟨hx, hb, hml, hown, hts⟩ (c_X4_cycle zo l D cy L0 f0 r_4 m_r_4 o9 hg _) (va_cwA 0 hts (gT (inU (mr36 _ (List.mem_of_getElem? (i := 5) rfl)) (mr36 _ (List.mem_of_getElem? (i := 6) rfl)) (mr36 _ (List.mem_of_getElem? (i := 20) rfl)) (mr36 _ (List.mem_of_getElem? (i := 21) rfl)) (mr2 _ (List.mem_of_getElem? (i := 7) rfl)) (mr36 _ (List.mem_of_getElem? (i := 22) rfl)))) rfl rfl rfl (hN _ (List.mem_of_getElem? (i := 18) rfl)) (by decide +kernel) ⟨Nat.le_of_ble_eq_true rfl, Nat.le_of_ble_eq_true rfl⟩) (Wd.preV zo hA hZ hw hK m_r_4 o9 rfl) rfl rfl hl.1 rfl (lv_room (Nat.le_of_ble_eq_true rfl)) dX9_period_24 ⟨Nat.le_of_ble_eq_true rfl, Nat.le_of_ble_eq_true rfl⟩) (fun x_5 L1 f1 H locs lx_5 ux_5 ex_5 hw => ?_)
      obtain ⟨rfl, rfl, ex_5⟩ := ex_5
      exact K24 x_5 lx_5 ux_5 trivial H locs hw
    · refine q_call_l hA hK hw (va_runU (As := []) (rest := []) ⟨hx, hb, hml, hown, hts⟩ (c_X8_cycle zo l D cy L0 f0 r_4 m_r_4 o9 hg _) (va_cwA 0 hts (gT (inU (mr36 _ (List.mem_of_getElem? (i := 5) rfl)) (mr36 _ (List.mem_of_getElem? (i := 6) rfl)) (mr36 _ (List.mem_of_getElem? (i := 23) rfl)) (mr37 _ (List.mem_of_getElem? (i := 0) rfl)) (mr12 _ (List.mem_of_getElem? (i := 15) rfl)) (mr37 _ (List.mem_of_getElem? (i := 1) rfl)))) rfl rfl rfl (hN _ (List.mem_of_getElem? (i := 18) rfl)) (by decide +kernel) ⟨Nat.le_of_ble_eq_true rfl, Nat.le_of_ble_eq_true rfl⟩) (Wd.preV zo hA hZ hw hK m_r_4 o9 rfl) rfl rfl hl.1 rfl (lv_room (Nat.le_of_ble_eq_true rfl)) dX9_period_24 ⟨Nat.le_of_ble_eq_true rfl, Nat.le_of_ble_eq_true rfl⟩) (fun x_5 L1 f1 H locs lx_5 ux_5 ex_5 hw => ?_)
      obtain ⟨rfl, rfl, ex_5⟩ := ex_5
      exact K24 x_5 lx_5 ux_5 trivial H locs hw
  · refine q_iconst hx hb dX9_period_11 ?_
    exact q_ret_i hx hb hr hlocks hK hAe hw ⟨by decide, by decide⟩ (Nat.le_of_ble_eq_true rfl) (Nat.le_of_ble_eq_true rfl) dX9_period_12 ⟨rfl, rfl, by trivial⟩
set_option maxHeartbeats 4000000 in
set_option maxRecDepth 100000 in
theorem c_X9_periodOf {Z : Zt} (zo : Zok Z) (l : Launch) (D : va_G) (cy : Cy) (L0 : List Nat) (f0 : Nat → va_E) (a0 : Nat) (x1 : Int) (lx1 : -2147483648 ≤ x1) (ux1 : x1 ≤ 2147483647) (x2 : Int) (lx2 : -2147483648 ≤ x2) (ux2 : x2 ≤ 2147483647) (m_a0 : a0 ∈ L0) (o_a0 : Ob f0 a0 7) (hg : GI cy L0 f0) : Ci Z l yX9_periodOf (Cond.code yX9_periodOf cX9_periodOf 3 (some .int) :: TB) ({ frames := 3, cells := 0, slots := 0, locals := 75 } : Room) 0 0 D (tq cy) [.ref a0, .int (iI x1), .int (iI x2)] L0 f0 (fun (r : Int) (L1 : List Nat) (f1 : Nat → va_E) => L0 = L1 ∧ f0 = f1 ∧ (True)) := by
  refine Ci.enter (cc := cX9_periodOf) (n := 3) rfl (plainFor_of_name (by decide)) (Nat.le_of_ble_eq_true rfl) ?_
  intro p e s m below meth c ls A hx hb hr hts hown hlocks hnm hml hK hA hAe hw hZ hl
  have hown : s.vm.findClass RX9 = some m.cls := hown
  have hl : lv_has ls 3 [(0, .ref a0), (1, .int (iI x1)), (2, .int (iI x2))] := hl
  have hN : ZN s := (zo.2.2.2.2 _ _ _ hZ).2
  refine lv_aload_n hx hb dX9_periodOf_0 rfl (lv_at hl 0 rfl) ?_
  obtain ⟨r_1, er_1, m_r_1, o_r_1⟩ := (show ∃ r, fR f0 a0 2 = some r ∧ r ∈ L0 ∧ Ob f0 r 5 from hg.2.1 _ m_a0 7 2 o_a0)
  refine q_getr (ci := 7) (C := RX9) (T := TX9) (N := 4) hx hb hts (fun w h => List.mem_cons_of_mem _ (mfX90 w h)) hown hK hw m_a0 o_a0 rfl 2 (by decide) (hts _ (List.mem_cons_of_mem _ (mr1 _ (List.mem_of_getElem? (i := 20) rfl)))) (fun _ h => h) rfl er_1 dX9_periodOf_1 ?_
  refine lv_iload_n hx hb dX9_periodOf_4 rfl (lv_at hl 1 rfl) ?_
  refine q_call_i hA hK hw (va_runV (As := [.int (iI x1)]) (rest := []) ⟨hx, hb, hml, hown, hts⟩ (c_X7_has zo l D cy L0 f0 r_1 x1 lx1 ux1 m_r_1 o_r_1 hg _) (cwV 1 hts (gT (inV (mr22 _ (List.mem_of_getElem? (i := 9) rfl)) (mr22 _ (List.mem_of_getElem? (i := 10) rfl)) (mr22 _ (List.mem_of_getElem? (i := 11) rfl)) (mr1 _ (List.mem_of_getElem? (i := 19) rfl)) (mr22 _ (List.mem_of_getElem? (i := 12) rfl)))) rfl rfl rfl (by decide +kernel) ⟨Nat.le_of_ble_eq_true rfl, Nat.le_of_ble_eq_true rfl⟩) (Wd.preV zo hA hZ hw hK m_r_1 o_r_1 rfl) rfl rfl hl.1 rfl (lv_room (Nat.le_of_ble_eq_true rfl)) dX9_periodOf_5 ⟨Nat.le_of_ble_eq_true rfl, Nat.le_of_ble_eq_true rfl⟩) (fun x_2 L1 f1 H locs lx_2 ux_2 ex_2 hw => ?_)
  obtain ⟨rfl, rfl, ex_2⟩ := ex_2
  refine q_if_eq (tgt := 22) hx hb dX9_periodOf_8 (by decide) ⟨lx_2, ux_2⟩ (fun c8 => ?_) (fun c8 => ?_)
  · refine q_iconst hx hb dX9_periodOf_22 ?_
    exact q_ret_i hx hb hr hlocks hK hAe hw ⟨by decide, by decide⟩ (Nat.le_of_ble_eq_true rfl) (Nat.le_of_ble_eq_true rfl) dX9_periodOf_23 ⟨rfl, rfl, by trivial⟩
  · refine lv_aload_n hx hb dX9_periodOf_11 rfl (lv_at hl 0 rfl) ?_
    refine q_getr (ci := 7) (C := RX9) (T := TX9) (N := 4) hx hb hts (fun w h => List.mem_cons_of_mem _ (mfX90 w h)) hown hK hw m_a0 o_a0 rfl 2 (by decide) (hts _ (List.mem_cons_of_mem _ (mr1 _ (List.mem_of_getElem? (i := 20) rfl)))) (fun _ h => h) rfl er_1 dX9_periodOf_12 ?_
    refine lv_iload_n hx hb dX9_periodOf_15 rfl (lv_at hl 2 rfl) ?_
    refine q_call_i hA hK hw (va_runV (As := [.int (iI x2)]) (rest := []) ⟨hx, hb, hml, hown, hts⟩ (c_X7_has zo l D cy L0 f0 r_1 x2 lx2 ux2 m_r_1 o_r_1 hg _) (cwV 1 hts (gT (inV (mr22 _ (List.mem_of_getElem? (i := 9) rfl)) (mr22 _ (List.mem_of_getElem? (i := 10) rfl)) (mr22 _ (List.mem_of_getElem? (i := 11) rfl)) (mr1 _ (List.mem_of_getElem? (i := 19) rfl)) (mr22 _ (List.mem_of_getElem? (i := 12) rfl)))) rfl rfl rfl (by decide +kernel) ⟨Nat.le_of_ble_eq_true rfl, Nat.le_of_ble_eq_true rfl⟩) (Wd.preV zo hA hZ hw hK m_r_1 o_r_1 rfl) rfl rfl hl.1 rfl (lv_room (Nat.le_of_ble_eq_true rfl)) dX9_periodOf_16 ⟨Nat.le_of_ble_eq_true rfl, Nat.le_of_ble_eq_true rfl⟩) (fun x_3 L1 f1 H locs lx_3 ux_3 ex_3 hw => ?_)
    obtain ⟨rfl, rfl, ex_3⟩ := ex_3
    refine q_if_ne (tgt := 24) hx hb dX9_periodOf_19 (by decide) ⟨lx_3, ux_3⟩ (fun c19 => ?_) (fun c19 => ?_)
    · refine lv_aload_n hx hb dX9_periodOf_24 rfl (lv_at hl 0 rfl) ?_
      refine q_getr (ci := 7) (C := RX9) (T := TX9) (N := 4) hx hb hts (fun w h => List.mem_cons_of_mem _ (mfX90 w h)) hown hK hw m_a0 o_a0 rfl 2 (by decide) (hts _ (List.mem_cons_of_mem _ (mr1 _ (List.mem_of_getElem? (i := 20) rfl)))) (fun _ h => h) rfl er_1 dX9_periodOf_25 ?_
      refine lv_iload_n hx hb dX9_periodOf_28 rfl (lv_at hl 1 rfl) ?_
      refine q_call_r hA hK hw (va_runV (As := [.int (iI x1)]) (rest := []) ⟨hx, hb, hml, hown, hts⟩ (c_X7_at zo l D cy L0 f0 r_1 x1 lx1 ux1 m_r_1 o_r_1 hg (by omega) (by omega) _) (cwV 1 hts (gT (inV (mr24 _ (List.mem_of_getElem? (i := 8) rfl)) (mr24 _ (List.mem_of_getElem? (i := 9) rfl)) (mr24 _ (List.mem_of_getElem? (i := 10) rfl)) (mr1 _ (List.mem_of_getElem? (i := 19) rfl)) (mr24 _ (List.mem_of_getElem? (i := 11) rfl)))) rfl rfl rfl (by decide +kernel) ⟨Nat.le_of_ble_eq_true rfl, Nat.le_of_ble_eq_true rfl⟩) (Wd.preV zo hA hZ hw hK m_r_1 o_r_1 rfl) rfl rfl hl.1 rfl (lv_room (Nat.le_of_ble_eq_true rfl)) dX9_periodOf_29 ⟨Nat.le_of_ble_eq_true rfl, Nat.le_of_ble_eq_true rfl⟩) (fun x_4 L1 f1 H locs ex_4 hw => ?_)
      obtain ⟨rfl, rfl, ex_4⟩ := ex_4
      obtain ⟨m_x_4, o_x_4⟩ := ex_4
      obtain ⟨r_5, er_5, m_r_5, o_r_5⟩ := (show ∃ r, fR f0 x_4 3 = some r ∧ r ∈ L0 ∧ Rl f0 r from hg.2.1 _ m_x_4 0 3 o_x_4)
      refine q_getr (ci := 0) (C := RX0) (T := TX0) (N := 15) hx hb hts (fun w h => List.mem_cons_of_mem _ (mfX00 w h)) hown hK hw m_x_4 o_x_4 rfl 3 (by decide) (hts _ (List.mem_cons_of_mem _ (mr36 _ (List.mem_of_getElem? (i := 0) rfl)))) (fun _ h => h) rfl er_5 dX9_periodOf_32 ?_
      have K35 : ∀ (x_6 : Int) (lx_6 : -9223372036854775808 ≤ x_6) (ux_6 : x_6 ≤ 9223372036854775807) (ex_6 : True) (H : Heap) (locs : List Loc) (hw : Wd D A s.heap L0 f0 H locs), W p l e ({ frames := 3, cells := 0, slots := 0, locals := 75 } : Room) s m ([.ref a0, .int (iI x1), .int (iI x2)] : List Value).toArray below meth c H locs (0 + 0 + 0 + 0) (0 + 0 + 0 + 0) (MQ below (Qi D (tq cy) L0 f0 s.heap.size (fun (r : Int) (L1 : List Nat) (f1 : Nat → va_E) => L0 = L1 ∧ f0 = f1 ∧ (True))) ([.ref a0, .int (iI x1), .int (iI x2)] : List Value).toArray s 0 0 A) (F0 m 38 ls (.long (lJ x_6) :: [])) := by
        intro x_6 lx_6 ux_6 ex_6 H locs hw
        refine lv_aload_n hx hb dX9_periodOf_38 rfl (lv_at hl 0 rfl) ?_
        refine q_getr (ci := 7) (C := RX9) (T := TX9) (N := 4) hx hb hts (fun w h => List.mem_cons_of_mem _ (mfX90 w h)) hown hK hw m_a0 o_a0 rfl 2 (by decide) (hts _ (List.mem_cons_of_mem _ (mr1 _ (List.mem_of_getElem? (i := 20) rfl)))) (fun _ h => h) rfl er_1 dX9_periodOf_39 ?_
        refine lv_iload_n hx hb dX9_periodOf_42 rfl (lv_at hl 2 rfl) ?_
        refine q_call_r hA hK hw (va_runV (As := [.int (iI x2)]) (rest := [.long (lJ x_6)]) ⟨hx, hb, hml, hown, hts⟩ (c_X7_at zo l D cy L0 f0 r_1 x2 lx2 ux2 m_r_1 o_r_1 hg (by omega) (by omega) _) (cwV 1 hts (gT (inV (mr24 _ (List.mem_of_getElem? (i := 8) rfl)) (mr24 _ (List.mem_of_getElem? (i := 9) rfl)) (mr24 _ (List.mem_of_getElem? (i := 10) rfl)) (mr1 _ (List.mem_of_getElem? (i := 19) rfl)) (mr24 _ (List.mem_of_getElem? (i := 11) rfl)))) rfl rfl rfl (by decide +kernel) ⟨Nat.le_of_ble_eq_true rfl, Nat.le_of_ble_eq_true rfl⟩) (Wd.preV zo hA hZ hw hK m_r_1 o_r_1 rfl) rfl rfl hl.1 rfl (lv_room (Nat.le_of_ble_eq_true rfl)) dX9_periodOf_43 ⟨Nat.le_of_ble_eq_true rfl, Nat.le_of_ble_eq_true rfl⟩) (fun x_7 L1 f1 H locs ex_7 hw => ?_)
        obtain ⟨rfl, rfl, ex_7⟩ := ex_7
        obtain ⟨m_x_7, o_x_7⟩ := ex_7
        obtain ⟨r_8, er_8, m_r_8, o_r_8⟩ := (show ∃ r, fR f0 x_7 3 = some r ∧ r ∈ L0 ∧ Rl f0 r from hg.2.1 _ m_x_7 0 3 o_x_7)
        refine q_getr (ci := 0) (C := RX0) (T := TX0) (N := 15) hx hb hts (fun w h => List.mem_cons_of_mem _ (mfX00 w h)) hown hK hw m_x_7 o_x_7 rfl 3 (by decide) (hts _ (List.mem_cons_of_mem _ (mr36 _ (List.mem_of_getElem? (i := 0) rfl)))) (fun _ h => h) rfl er_8 dX9_periodOf_46 ?_
        have K49 : ∀ (x_9 : Int) (lx_9 : -9223372036854775808 ≤ x_9) (ux_9 : x_9 ≤ 9223372036854775807) (ex_9 : True) (H : Heap) (locs : List Loc) (hw : Wd D A s.heap L0 f0 H locs), W p l e ({ frames := 3, cells := 0, slots := 0, locals := 75 } : Room) s m ([.ref a0, .int (iI x1), .int (iI x2)] : List Value).toArray below meth c H locs (0 + 0 + 0 + 0 + 0) (0 + 0 + 0 + 0 + 0) (MQ below (Qi D (tq cy) L0 f0 s.heap.size (fun (r : Int) (L1 : List Nat) (f1 : Nat → va_E) => L0 = L1 ∧ f0 = f1 ∧ (True))) ([.ref a0, .int (iI x1), .int (iI x2)] : List Value).toArray s 0 0 A) (F0 m 52 ls (.long (lJ x_9) :: [.long (lJ x_6)])) := by
          intro x_9 lx_9 ux_9 ex_9 H locs hw
          refine q_call_l hA hK hw (va_runS (As := [.long (lJ x_6), .long (lJ x_9)]) (rest := []) ⟨hx, hb, hml, hown, hts⟩ (c_X9_commonMultiple zo l D cy L0 f0 x_6 lx_6 ux_6 x_9 lx_9 ux_9 _) (va_cwS 2 hts (gT (inS (mr37 _ (List.mem_of_getElem? (i := 3) rfl)) (mr36 _ (List.mem_of_getElem? (i := 15) rfl)) (mr1 _ (List.mem_of_getElem? (i := 2) rfl)) (mr36 _ (List.mem_of_getElem? (i := 16) rfl)))) rfl rfl rfl (by decide +kernel) ⟨Nat.le_of_ble_eq_true rfl, Nat.le_of_ble_eq_true rfl⟩) (Wd.preS zo hA hZ hw hK) rfl rfl hl.1 rfl (lv_room (Nat.le_of_ble_eq_true rfl)) dX9_periodOf_52 ⟨Nat.le_of_ble_eq_true rfl, Nat.le_of_ble_eq_true rfl⟩) (fun x_10 L1 f1 H locs lx_10 ux_10 ex_10 hw => ?_)
          obtain ⟨rfl, rfl, ex_10⟩ := ex_10
          refine q_call_i hA hK hw (va_runS (As := [.long (lJ x_10)]) (rest := []) ⟨hx, hb, hml, hown, hts⟩ (c_X9_asInt zo l D cy L0 f0 x_10 lx_10 ux_10 _) (va_cwS 1 hts (gT (inS (mr41 _ (List.mem_of_getElem? (i := 9) rfl)) (mr41 _ (List.mem_of_getElem? (i := 10) rfl)) (mr1 _ (List.mem_of_getElem? (i := 2) rfl)) (mr41 _ (List.mem_of_getElem? (i := 11) rfl)))) rfl rfl rfl (by decide +kernel) ⟨Nat.le_of_ble_eq_true rfl, Nat.le_of_ble_eq_true rfl⟩) (Wd.preS zo hA hZ hw hK) rfl rfl hl.1 rfl (lv_room (Nat.le_of_ble_eq_true rfl)) dX9_periodOf_55 ⟨Nat.le_of_ble_eq_true rfl, Nat.le_of_ble_eq_true rfl⟩) (fun x_11 L1 f1 H locs lx_11 ux_11 ex_11 hw => ?_)
          obtain ⟨rfl, rfl, ex_11⟩ := ex_11
          exact q_ret_i hx hb hr hlocks hK hAe hw ⟨lx_11, ux_11⟩ (Nat.le_of_ble_eq_true rfl) (Nat.le_of_ble_eq_true rfl) dX9_periodOf_58 ⟨rfl, rfl, by trivial⟩
        rcases o_r_8 with o9 | o9 | o9 | o9
        · refine q_call_l hA hK hw (va_runU (As := []) (rest := [.long (lJ x_6)]) ⟨hx, hb, hml, hown, hts⟩ (c_X2_cycle zo l D cy L0 f0 r_8 m_r_8 o9 hg _) (va_cwA 0 hts (gT (inU (mr36 _ (List.mem_of_getElem? (i := 5) rfl)) (mr36 _ (List.mem_of_getElem? (i := 6) rfl)) (mr36 _ (List.mem_of_getElem? (i := 7) rfl)) (mr36 _ (List.mem_of_getElem? (i := 8) rfl)) (mr12 _ (List.mem_of_getElem? (i := 12) rfl)) (mr36 _ (List.mem_of_getElem? (i := 9) rfl)))) rfl rfl rfl (hN _ (List.mem_of_getElem? (i := 18) rfl)) (by decide +kernel) ⟨Nat.le_of_ble_eq_true rfl, Nat.le_of_ble_eq_true rfl⟩) (Wd.preV zo hA hZ hw hK m_r_8 o9 rfl) rfl rfl hl.1 rfl (lv_room (Nat.le_of_ble_eq_true rfl)) dX9_periodOf_49 ⟨Nat.le_of_ble_eq_true rfl, Nat.le_of_ble_eq_true rfl⟩) (fun x_9 L1 f1 H locs lx_9 ux_9 ex_9 hw => ?_)
          obtain ⟨rfl, rfl, ex_9⟩ := ex_9
          exact K49 x_9 lx_9 ux_9 trivial H locs hw
        · refine q_call_l hA hK hw (va_runU (As := []) (rest := [.long (lJ x_6)]) ⟨hx, hb, hml, hown, hts⟩ (c_X3_cycle zo l D cy L0 f0 r_8 m_r_8 o9 hg _) (va_cwA 0 hts (gT (inU (mr36 _ (List.mem_of_getElem? (i := 5) rfl)) (mr36 _ (List.mem_of_getElem? (i := 6) rfl)) (mr36 _ (List.mem_of_getElem? (i := 10) rfl)) (mr36 _ (List.mem_of_getElem? (i := 11) rfl)) (mr12 _ (List.mem_of_getElem? (i := 18) rfl)) (mr36 _ (List.mem_of_getElem? (i := 12) rfl)))) rfl rfl rfl (hN _ (List.mem_of_getElem? (i := 18) rfl)) (by decide +kernel) ⟨Nat.le_of_ble_eq_true rfl, Nat.le_of_ble_eq_true rfl⟩) (Wd.preV zo hA hZ hw hK m_r_8 o9 rfl) rfl rfl hl.1 rfl (lv_room (Nat.le_of_ble_eq_true rfl)) dX9_periodOf_49 ⟨Nat.le_of_ble_eq_true rfl, Nat.le_of_ble_eq_true rfl⟩) (fun x_9 L1 f1 H locs lx_9 ux_9 ex_9 hw => ?_)
          obtain ⟨rfl, rfl, ex_9⟩ := ex_9
          exact K49 x_9 lx_9 ux_9 trivial H locs hw
        · refine q_call_l hA hK hw (va_runU (As := []) (rest := [.long (lJ x_6)]) ⟨hx, hb, hml, hown, hts⟩ (c_X4_cycle zo l D cy L0 f0 r_8 m_r_8 o9 hg _) (va_cwA 0 hts (gT (inU (mr36 _ (List.mem_of_getElem? (i := 5) rfl)) (mr36 _ (List.mem_of_getElem? (i := 6) rfl)) (mr36 _ (List.mem_of_getElem? (i := 20) rfl)) (mr36 _ (List.mem_of_getElem? (i := 21) rfl)) (mr2 _ (List.mem_of_getElem? (i := 7) rfl)) (mr36 _ (List.mem_of_getElem? (i := 22) rfl)))) rfl rfl rfl (hN _ (List.mem_of_getElem? (i := 18) rfl)) (by decide +kernel) ⟨Nat.le_of_ble_eq_true rfl, Nat.le_of_ble_eq_true rfl⟩) (Wd.preV zo hA hZ hw hK m_r_8 o9 rfl) rfl rfl hl.1 rfl (lv_room (Nat.le_of_ble_eq_true rfl)) dX9_periodOf_49 ⟨Nat.le_of_ble_eq_true rfl, Nat.le_of_ble_eq_true rfl⟩) (fun x_9 L1 f1 H locs lx_9 ux_9 ex_9 hw => ?_)
          obtain ⟨rfl, rfl, ex_9⟩ := ex_9
          exact K49 x_9 lx_9 ux_9 trivial H locs hw
        · refine q_call_l hA hK hw (va_runU (As := []) (rest := [.long (lJ x_6)]) ⟨hx, hb, hml, hown, hts⟩ (c_X8_cycle zo l D cy L0 f0 r_8 m_r_8 o9 hg _) (va_cwA 0 hts (gT (inU (mr36 _ (List.mem_of_getElem? (i := 5) rfl)) (mr36 _ (List.mem_of_getElem? (i := 6) rfl)) (mr36 _ (List.mem_of_getElem? (i := 23) rfl)) (mr37 _ (List.mem_of_getElem? (i := 0) rfl)) (mr12 _ (List.mem_of_getElem? (i := 15) rfl)) (mr37 _ (List.mem_of_getElem? (i := 1) rfl)))) rfl rfl rfl (hN _ (List.mem_of_getElem? (i := 18) rfl)) (by decide +kernel) ⟨Nat.le_of_ble_eq_true rfl, Nat.le_of_ble_eq_true rfl⟩) (Wd.preV zo hA hZ hw hK m_r_8 o9 rfl) rfl rfl hl.1 rfl (lv_room (Nat.le_of_ble_eq_true rfl)) dX9_periodOf_49 ⟨Nat.le_of_ble_eq_true rfl, Nat.le_of_ble_eq_true rfl⟩) (fun x_9 L1 f1 H locs lx_9 ux_9 ex_9 hw => ?_)
          obtain ⟨rfl, rfl, ex_9⟩ := ex_9
          exact K49 x_9 lx_9 ux_9 trivial H locs hw
      rcases o_r_5 with o9 | o9 | o9 | o9
      · refine q_call_l hA hK hw (va_runU (As := []) (rest := []) ⟨hx, hb, hml, hown, hts⟩ (c_X2_cycle zo l D cy L0 f0 r_5 m_r_5 o9 hg _) (va_cwA 0 hts (gT (inU (mr36 _ (List.mem_of_getElem? (i := 5) rfl)) (mr36 _ (List.mem_of_getElem? (i := 6) rfl)) (mr36 _ (List.mem_of_getElem? (i := 7) rfl)) (mr36 _ (List.mem_of_getElem? (i := 8) rfl)) (mr12 _ (List.mem_of_getElem? (i := 12) rfl)) (mr36 _ (List.mem_of_getElem? (i := 9) rfl)))) rfl rfl rfl (hN _ (List.mem_of_getElem? (i := 18) rfl)) (by decide +kernel) ⟨Nat.le_of_ble_eq_true rfl, Nat.le_of_ble_eq_true rfl⟩) (Wd.preV zo hA hZ hw hK m_r_5 o9 rfl) rfl rfl hl.1 rfl (lv_room (Nat.le_of_ble_eq_true rfl)) dX9_periodOf_35 ⟨Nat.le_of_ble_eq_true rfl, Nat.le_of_ble_eq_true rfl⟩) (fun x_6 L1 f1 H locs lx_6 ux_6 ex_6 hw => ?_)
        obtain ⟨rfl, rfl, ex_6⟩ := ex_6
        exact K35 x_6 lx_6 ux_6 trivial H locs hw
      · refine q_call_l hA hK hw (va_runU (As := []) (rest := []) ⟨hx, hb, hml, hown, hts⟩ (c_X3_cycle zo l D cy L0 f0 r_5 m_r_5 o9 hg _) (va_cwA 0 hts (gT (inU (mr36 _ (List.mem_of_getElem? (i := 5) rfl)) (mr36 _ (List.mem_of_getElem? (i := 6) rfl)) (mr36 _ (List.mem_of_getElem? (i := 10) rfl)) (mr36 _ (List.mem_of_getElem? (i := 11) rfl)) (mr12 _ (List.mem_of_getElem? (i := 18) rfl)) (mr36 _ (List.mem_of_getElem? (i := 12) rfl)))) rfl rfl rfl (hN _ (List.mem_of_getElem? (i := 18) rfl)) (by decide +kernel) ⟨Nat.le_of_ble_eq_true rfl, Nat.le_of_ble_eq_true rfl⟩) (Wd.preV zo hA hZ hw hK m_r_5 o9 rfl) rfl rfl hl.1 rfl (lv_room (Nat.le_of_ble_eq_true rfl)) dX9_periodOf_35 ⟨Nat.le_of_ble_eq_true rfl, Nat.le_of_ble_eq_true rfl⟩) (fun x_6 L1 f1 H locs lx_6 ux_6 ex_6 hw => ?_)
        obtain ⟨rfl, rfl, ex_6⟩ := ex_6
        exact K35 x_6 lx_6 ux_6 trivial H locs hw
      · refine q_call_l hA hK hw (va_runU (As := []) (rest := []) ⟨hx, hb, hml, hown, hts⟩ (c_X4_cycle zo l D cy L0 f0 r_5 m_r_5 o9 hg _) (va_cwA 0 hts (gT (inU (mr36 _ (List.mem_of_getElem? (i := 5) rfl)) (mr36 _ (List.mem_of_getElem? (i := 6) rfl)) (mr36 _ (List.mem_of_getElem? (i := 20) rfl)) (mr36 _ (List.mem_of_getElem? (i := 21) rfl)) (mr2 _ (List.mem_of_getElem? (i := 7) rfl)) (mr36 _ (List.mem_of_getElem? (i := 22) rfl)))) rfl rfl rfl (hN _ (List.mem_of_getElem? (i := 18) rfl)) (by decide +kernel) ⟨Nat.le_of_ble_eq_true rfl, Nat.le_of_ble_eq_true rfl⟩) (Wd.preV zo hA hZ hw hK m_r_5 o9 rfl) rfl rfl hl.1 rfl (lv_room (Nat.le_of_ble_eq_true rfl)) dX9_periodOf_35 ⟨Nat.le_of_ble_eq_true rfl, Nat.le_of_ble_eq_true rfl⟩) (fun x_6 L1 f1 H locs lx_6 ux_6 ex_6 hw => ?_)
        obtain ⟨rfl, rfl, ex_6⟩ := ex_6
        exact K35 x_6 lx_6 ux_6 trivial H locs hw
      · refine q_call_l hA hK hw (va_runU (As := []) (rest := []) ⟨hx, hb, hml, hown, hts⟩ (c_X8_cycle zo l D cy L0 f0 r_5 m_r_5 o9 hg _) (va_cwA 0 hts (gT (inU (mr36 _ (List.mem_of_getElem? (i := 5) rfl)) (mr36 _ (List.mem_of_getElem? (i := 6) rfl)) (mr36 _ (List.mem_of_getElem? (i := 23) rfl)) (mr37 _ (List.mem_of_getElem? (i := 0) rfl)) (mr12 _ (List.mem_of_getElem? (i := 15) rfl)) (mr37 _ (List.mem_of_getElem? (i := 1) rfl)))) rfl rfl rfl (hN _ (List.mem_of_getElem? (i := 18) rfl)) (by decide +kernel) ⟨Nat.le_of_ble_eq_true rfl, Nat.le_of_ble_eq_true rfl⟩) (Wd.preV zo hA hZ hw hK m_r_5 o9 rfl) rfl rfl hl.1 rfl (lv_room (Nat.le_of_ble_eq_true rfl)) dX9_periodOf_35 ⟨Nat.le_of_ble_eq_true rfl, Nat.le_of_ble_eq_true rfl⟩) (fun x_6 L1 f1 H locs lx_6 ux_6 ex_6 hw => ?_)
        obtain ⟨rfl, rfl, ex_6⟩ := ex_6
        exact K35 x_6 lx_6 ux_6 trivial H locs hw
    · refine q_iconst hx hb dX9_periodOf_22 ?_
      exact q_ret_i hx hb hr hlocks hK hAe hw ⟨by decide, by decide⟩ (Nat.le_of_ble_eq_true rfl) (Nat.le_of_ble_eq_true rfl) dX9_periodOf_23 ⟨rfl, rfl, by trivial⟩
set_option maxHeartbeats 4000000 in
set_option maxRecDepth 100000 in
theorem c_X9_of {Z : Zt} (zo : Zok Z) (l : Launch) (D : va_G) (cy : Cy) (L0 : List Nat) (f0 : Nat → va_E) (a0 : Nat) (x1 : Int) (lx1 : -2147483648 ≤ x1) (ux1 : x1 ≤ 2147483647) (x2 : Int) (lx2 : -2147483648 ≤ x2) (ux2 : x2 ≤ 2147483647) (m_a0 : a0 ∈ L0) (o_a0 : Ob f0 a0 7) (hg : GI cy L0 f0) : Ci Z l yX9_of (Cond.code yX9_of cX9_of 3 (some .int) :: TB) ({ frames := 2, cells := 0, slots := 0, locals := 43 } : Room) 0 0 D (tq cy) [.ref a0, .int (iI x1), .int (iI x2)] L0 f0 (fun (r : Int) (L1 : List Nat) (f1 : Nat → va_E) => L0 = L1 ∧ f0 = f1 ∧ (True)) := by
  refine Ci.enter (cc := cX9_of) (n := 3) rfl (plainFor_of_name (by decide)) (Nat.le_of_ble_eq_true rfl) ?_
  intro p e s m below meth c ls A hx hb hr hts hown hlocks hnm hml hK hA hAe hw hZ hl
  have hown : s.vm.findClass RX9 = some m.cls := hown
  have hl : lv_has ls 3 [(0, .ref a0), (1, .int (iI x1)), (2, .int (iI x2))] := hl
  have hN : ZN s := (zo.2.2.2.2 _ _ _ hZ).2
  refine lv_aload_n hx hb dX9_of_0 rfl (lv_at hl 0 rfl) ?_
  obtain ⟨r_1, er_1, m_r_1, o_r_1⟩ := (show ∃ r, fR f0 a0 2 = some r ∧ r ∈ L0 ∧ Ob f0 r 5 from hg.2.1 _ m_a0 7 2 o_a0)
  refine q_getr (ci := 7) (C := RX9) (T := TX9) (N := 4) hx hb hts (fun w h => List.mem_cons_of_mem _ (mfX90 w h)) hown hK hw m_a0 o_a0 rfl 2 (by decide) (hts _ (List.mem_cons_of_mem _ (mr1 _ (List.mem_of_getElem? (i := 20) rfl)))) (fun _ h => h) rfl er_1 dX9_of_1 ?_
  refine lv_iload_n hx hb dX9_of_4 rfl (lv_at hl 1 rfl) ?_
  refine q_call_i hA hK hw (va_runV (As := [.int (iI x1)]) (rest := []) ⟨hx, hb, hml, hown, hts⟩ (c_X7_has zo l D cy L0 f0 r_1 x1 lx1 ux1 m_r_1 o_r_1 hg _) (cwV 1 hts (gT (inV (mr22 _ (List.mem_of_getElem? (i := 9) rfl)) (mr22 _ (List.mem_of_getElem? (i := 10) rfl)) (mr22 _ (List.mem_of_getElem? (i := 11) rfl)) (mr1 _ (List.mem_of_getElem? (i := 19) rfl)) (mr22 _ (List.mem_of_getElem? (i := 12) rfl)))) rfl rfl rfl (by decide +kernel) ⟨Nat.le_of_ble_eq_true rfl, Nat.le_of_ble_eq_true rfl⟩) (Wd.preV zo hA hZ hw hK m_r_1 o_r_1 rfl) rfl rfl hl.1 rfl (lv_room (Nat.le_of_ble_eq_true rfl)) dX9_of_5 ⟨Nat.le_of_ble_eq_true rfl, Nat.le_of_ble_eq_true rfl⟩) (fun x_2 L1 f1 H locs lx_2 ux_2 ex_2 hw => ?_)
  obtain ⟨rfl, rfl, ex_2⟩ := ex_2
  refine q_if_ne (tgt := 14) hx hb dX9_of_8 (by decide) ⟨lx_2, ux_2⟩ (fun c8 => ?_) (fun c8 => ?_)
  · refine lv_aload_n hx hb dX9_of_14 rfl (lv_at hl 0 rfl) ?_
    refine q_getr (ci := 7) (C := RX9) (T := TX9) (N := 4) hx hb hts (fun w h => List.mem_cons_of_mem _ (mfX90 w h)) hown hK hw m_a0 o_a0 rfl 2 (by decide) (hts _ (List.mem_cons_of_mem _ (mr1 _ (List.mem_of_getElem? (i := 20) rfl)))) (fun _ h => h) rfl er_1 dX9_of_15 ?_
    refine lv_iload_n hx hb dX9_of_18 rfl (lv_at hl 1 rfl) ?_
    refine q_call_r hA hK hw (va_runV (As := [.int (iI x1)]) (rest := []) ⟨hx, hb, hml, hown, hts⟩ (c_X7_at zo l D cy L0 f0 r_1 x1 lx1 ux1 m_r_1 o_r_1 hg (by omega) (by omega) _) (cwV 1 hts (gT (inV (mr24 _ (List.mem_of_getElem? (i := 8) rfl)) (mr24 _ (List.mem_of_getElem? (i := 9) rfl)) (mr24 _ (List.mem_of_getElem? (i := 10) rfl)) (mr1 _ (List.mem_of_getElem? (i := 19) rfl)) (mr24 _ (List.mem_of_getElem? (i := 11) rfl)))) rfl rfl rfl (by decide +kernel) ⟨Nat.le_of_ble_eq_true rfl, Nat.le_of_ble_eq_true rfl⟩) (Wd.preV zo hA hZ hw hK m_r_1 o_r_1 rfl) rfl rfl hl.1 rfl (lv_room (Nat.le_of_ble_eq_true rfl)) dX9_of_19 ⟨Nat.le_of_ble_eq_true rfl, Nat.le_of_ble_eq_true rfl⟩) (fun x_3 L1 f1 H locs ex_3 hw => ?_)
    obtain ⟨rfl, rfl, ex_3⟩ := ex_3
    obtain ⟨m_x_3, o_x_3⟩ := ex_3
    refine lv_iload_n hx hb dX9_of_22 rfl (lv_at hl 2 rfl) ?_
    refine q_call_i hA hK hw (va_runV (As := [.int (iI x2)]) (rest := []) ⟨hx, hb, hml, hown, hts⟩ (c_X0_tell zo l D cy L0 f0 x_3 x2 lx2 ux2 m_x_3 o_x_3 hg _) (cwV 1 hts (gT (inV (mr42 _ (List.mem_of_getElem? (i := 20) rfl)) (mr42 _ (List.mem_of_getElem? (i := 21) rfl)) (mr42 _ (List.mem_of_getElem? (i := 22) rfl)) (mr2 _ (List.mem_of_getElem? (i := 9) rfl)) (mr42 _ (List.mem_of_getElem? (i := 23) rfl)))) rfl rfl rfl (by decide +kernel) ⟨Nat.le_of_ble_eq_true rfl, Nat.le_of_ble_eq_true rfl⟩) (Wd.preV zo hA hZ hw hK m_x_3 o_x_3 rfl) rfl rfl hl.1 rfl (lv_room (Nat.le_of_ble_eq_true rfl)) dX9_of_23 ⟨Nat.le_of_ble_eq_true rfl, Nat.le_of_ble_eq_true rfl⟩) (fun x_4 L1 f1 H locs lx_4 ux_4 ex_4 hw => ?_)
    obtain ⟨rfl, rfl, ex_4⟩ := ex_4
    exact q_ret_i hx hb hr hlocks hK hAe hw ⟨lx_4, ux_4⟩ (Nat.le_of_ble_eq_true rfl) (Nat.le_of_ble_eq_true rfl) dX9_of_26 ⟨rfl, rfl, by trivial⟩
  · refine q_bipush hx hb dX9_of_11 rfl ?_
    exact q_ret_i hx hb hr hlocks hK hAe hw ⟨by decide, by decide⟩ (Nat.le_of_ble_eq_true rfl) (Nat.le_of_ble_eq_true rfl) dX9_of_13 ⟨rfl, rfl, by trivial⟩
set_option maxHeartbeats 4000000 in
set_option maxRecDepth 100000 in
theorem c_X9_imageBits {Z : Zt} (zo : Zok Z) (l : Launch) (D : va_G) (cy : Cy) (L0 : List Nat) (f0 : Nat → va_E) (a0 : Nat) (m_a0 : a0 ∈ L0) (o_a0 : Ob f0 a0 7) (hg : GI cy L0 f0) : Ci Z l yX9_imageBits (Cond.code yX9_imageBits cX9_imageBits 3 (some .int) :: TB) ({ frames := 0, cells := 0, slots := 0, locals := 0 } : Room) 0 0 D (tq cy) [.ref a0] L0 f0 (fun (r : Int) (L1 : List Nat) (f1 : Nat → va_E) => L0 = L1 ∧ f0 = f1 ∧ (True)) := by
  refine Ci.enter (cc := cX9_imageBits) (n := 3) rfl (plainFor_of_name (by decide)) (Nat.le_of_ble_eq_true rfl) ?_
  intro p e s m below meth c ls A hx hb hr hts hown hlocks hnm hml hK hA hAe hw hZ hl
  have hown : s.vm.findClass RX9 = some m.cls := hown
  have hl : lv_has ls 3 [(0, .ref a0)] := hl
  have hN : ZN s := (zo.2.2.2.2 _ _ _ hZ).2
  refine q_iconst hx hb dX9_imageBits_0 ?_
  refine lv_istore_n (lv' := [(1, .int (iI 0)), (0, .ref a0)]) hx hb dX9_imageBits_1 rfl hl (by decide) rfl (fun ls hl => ?_)
  refine q_iconst hx hb dX9_imageBits_2 ?_
  refine lv_istore_n (lv' := [(2, .int (iI 0)), (1, .int (iI 0)), (0, .ref a0)]) hx hb dX9_imageBits_3 rfl hl (by decide) rfl (fun ls hl => ?_)
  have J4 : ∀ (n4 : Nat) (y1_4 : Int) (ly1_4 : -2147483648 ≤ y1_4) (uy1_4 : y1_4 ≤ 2147483647) (y2_4 : Int) (ly2_4 : -2147483648 ≤ y2_4) (uy2_4 : y2_4 ≤ 2147483647) (i1 : 0 ≤ y2_4) (hn4 : ((2147483647 : Int) - y2_4).toNat < n4) (H : Heap) (locs : List Loc) (ls : Array Slot) (hw : Wd D A s.heap L0 f0 H locs) (hl : lv_has ls 3 [(0, .ref a0), (1, .int (iI y1_4)), (2, .int (iI y2_4))]), W p l e ({ frames := 0, cells := 0, slots := 0, locals := 0 } : Room) s m ([.ref a0] : List Value).toArray below meth c H locs (0) (0) (MQ below (Qi D (tq cy) L0 f0 s.heap.size (fun (r : Int) (L1 : List Nat) (f1 : Nat → va_E) => L0 = L1 ∧ f0 = f1 ∧ (True))) ([.ref a0] : List Value).toArray s 0 0 A) (F0 m 4 ls []) := by
    intro n4
    induction n4 with
    | zero => intro y1_4 ly1_4 uy1_4 y2_4 ly2_4 uy2_4 i1 hn4; exact absurd hn4 (Nat.not_lt_zero _)
    | succ n4 ih4 =>
      intro y1_4 ly1_4 uy1_4 y2_4 ly2_4 uy2_4 i1 hn4 H locs ls hw hl
      refine lv_iload_n hx hb dX9_imageBits_4 rfl (lv_at hl 2 rfl) ?_
      refine lv_aload_n hx hb dX9_imageBits_5 rfl (lv_at hl 0 rfl) ?_
      obtain ⟨r_1, er_1, m_r_1, o_r_1⟩ := (show ∃ r, fR f0 a0 3 = some r ∧ r ∈ L0 ∧ ArR f0 r cy.2.2.2.2 2 from hg.2.1 _ m_a0 7 3 o_a0)
      refine q_getr (ci := 7) (C := RX9) (T := TX9) (N := 4) hx hb hts (fun w h => List.mem_cons_of_mem _ (mfX90 w h)) hown hK hw m_a0 o_a0 rfl 3 (by decide) (hts _ (List.mem_cons_of_mem _ (mr1 _ (List.mem_of_getElem? (i := 21) rfl)))) (fun _ h => h) rfl er_1 dX9_imageBits_6 ?_
      refine q_alenR hx hb hK hw m_r_1 4 o_r_1 rfl dX9_imageBits_9 ?_
      refine q_icmp_ge (tgt := 34) hx hb dX9_imageBits_10 (by decide) ⟨ly2_4, uy2_4⟩ ⟨by decide, by decide⟩ (fun c10 => ?_) (fun c10 => ?_)
      · refine lv_iload_n hx hb dX9_imageBits_34 rfl (lv_at hl 1 rfl) ?_
        exact q_ret_i hx hb hr hlocks hK hAe hw ⟨ly1_4, uy1_4⟩ (Nat.le_of_ble_eq_true rfl) (Nat.le_of_ble_eq_true rfl) dX9_imageBits_35 ⟨rfl, rfl, by trivial⟩
      · refine lv_aload_n hx hb dX9_imageBits_13 rfl (lv_at hl 0 rfl) ?_
        refine q_getr (ci := 7) (C := RX9) (T := TX9) (N := 4) hx hb hts (fun w h => List.mem_cons_of_mem _ (mfX90 w h)) hown hK hw m_a0 o_a0 rfl 3 (by decide) (hts _ (List.mem_cons_of_mem _ (mr1 _ (List.mem_of_getElem? (i := 21) rfl)))) (fun _ h => h) rfl er_1 dX9_imageBits_14 ?_
        refine lv_iload_n hx hb dX9_imageBits_17 rfl (lv_at hl 2 rfl) ?_
        rcases hg.2.2.2 _ m_r_1 y2_4 o_r_1 (by omega) (by omega) with er_3 | ⟨r_3, er_3, m_r_3, o_r_3⟩
        · refine q_aald hx hb hK hw m_r_1 4 o_r_1 rfl ⟨ly2_4, uy2_4⟩ (by omega) (by omega) er_3 dX9_imageBits_18 ?_
          show W _ _ _ _ _ _ _ _ _ _ _ _ _ _ _ (F0 m 19 ls (.null :: []))
          have J28 : ∀ (z1_28 : Int) (lz1_28 : -2147483648 ≤ z1_28) (uz1_28 : z1_28 ≤ 2147483647) (H : Heap) (locs : List Loc) (ls : Array Slot) (hw : Wd D A s.heap L0 f0 H locs) (hl : lv_has ls 3 [(0, .ref a0), (1, .int (iI z1_28)), (2, .int (iI y2_4))]), W p l e ({ frames := 0, cells := 0, slots := 0, locals := 0 } : Room) s m ([.ref a0] : List Value).toArray below meth c H locs (0) (0) (MQ below (Qi D (tq cy) L0 f0 s.heap.size (fun (r : Int) (L1 : List Nat) (f1 : Nat → va_E) => L0 = L1 ∧ f0 = f1 ∧ (True))) ([.ref a0] : List Value).toArray s 0 0 A) (F0 m 28 ls []) := by
            intro z1_28 lz1_28 uz1_28 H locs ls hw hl
            obtain ⟨x_4, lx_4, ux_4, hx_4, ex_4⟩ := q_inc y2_4 (1)
            try (replace ex_4 : x_4 = y2_4 + (1) := by omega)
            refine lv_iinc (v := iI x_4) (lv' := [(2, .int (iI x_4)), (0, .ref a0), (1, .int (iI z1_28))]) hx hb dX9_imageBits_28 hl (k := 2) rfl hx_4 (by decide) rfl (fun ls hl => ?_)
            refine lv_goto (tgt := 4) hx hb dX9_imageBits_31 (by decide) ?_
            exact ih4 z1_28 lz1_28 uz1_28 x_4 lx_4 ux_4 (by omega) (by omega) _ _ _ hw (lv_sub hl [1, 2, 0] rfl)
          refine lv_ifnullN (tgt := 28) hx hb dX9_imageBits_19 (by decide) ?_
          exact J28 y1_4 ly1_4 uy1_4 _ _ _ hw (lv_sub hl [0, 1, 2] rfl)
        · refine q_aald hx hb hK hw m_r_1 4 o_r_1 rfl ⟨ly2_4, uy2_4⟩ (by omega) (by omega) er_3 dX9_imageBits_18 ?_
          show W _ _ _ _ _ _ _ _ _ _ _ _ _ _ _ (F0 m 19 ls (.ref r_3 :: []))
          have J28 : ∀ (z1_28 : Int) (lz1_28 : -2147483648 ≤ z1_28) (uz1_28 : z1_28 ≤ 2147483647) (H : Heap) (locs : List Loc) (ls : Array Slot) (hw : Wd D A s.heap L0 f0 H locs) (hl : lv_has ls 3 [(0, .ref a0), (1, .int (iI z1_28)), (2, .int (iI y2_4))]), W p l e ({ frames := 0, cells := 0, slots := 0, locals := 0 } : Room) s m ([.ref a0] : List Value).toArray below meth c H locs (0) (0) (MQ below (Qi D (tq cy) L0 f0 s.heap.size (fun (r : Int) (L1 : List Nat) (f1 : Nat → va_E) => L0 = L1 ∧ f0 = f1 ∧ (True))) ([.ref a0] : List Value).toArray s 0 0 A) (F0 m 28 ls []) := by
            intro z1_28 lz1_28 uz1_28 H locs ls hw hl
            obtain ⟨x_5, lx_5, ux_5, hx_5, ex_5⟩ := q_inc y2_4 (1)
            try (replace ex_5 : x_5 = y2_4 + (1) := by omega)
            refine lv_iinc (v := iI x_5) (lv' := [(2, .int (iI x_5)), (0, .ref a0), (1, .int (iI z1_28))]) hx hb dX9_imageBits_28 hl (k := 2) rfl hx_5 (by decide) rfl (fun ls hl => ?_)
            refine lv_goto (tgt := 4) hx hb dX9_imageBits_31 (by decide) ?_
            exact ih4 z1_28 lz1_28 uz1_28 x_5 lx_5 ux_5 (by omega) (by omega) _ _ _ hw (lv_sub hl [1, 2, 0] rfl)
          refine lv_ifnull hx hb dX9_imageBits_19 ?_
          refine lv_iload_n hx hb dX9_imageBits_22 rfl (lv_at hl 1 rfl) ?_
          refine q_iconst hx hb dX9_imageBits_23 ?_
          refine lv_iload_n hx hb dX9_imageBits_24 rfl (lv_at hl 2 rfl) ?_
          refine lv_ishl hx hb dX9_imageBits_25 ?_
          refine q_num (fun x_6 lx_6 ux_6 ex_6 => ?_)
          refine lv_ior hx hb dX9_imageBits_26 ?_
          refine q_num (fun x_7 lx_7 ux_7 ex_7 => ?_)
          refine lv_istore_n (lv' := [(1, .int (iI x_7)), (0, .ref a0), (2, .int (iI y2_4))]) hx hb dX9_imageBits_27 rfl hl (by decide) rfl (fun ls hl => ?_)
          exact J28 x_7 lx_7 ux_7 _ _ _ hw (lv_sub hl [1, 0, 2] rfl)
  exact J4 ((((2147483647 : Int) - 0).toNat) + 1) 0 (by decide) (by decide) 0 (by decide) (by decide) (by omega) (by omega) _ _ _ hw (lv_sub hl [2, 1, 0] rfl)
set_option maxHeartbeats 4000000 in
set_option maxRecDepth 100000 in
theorem c_X9_told {Z : Zt} (zo : Zok Z) (l : Launch) (D : va_G) (cy : Cy) (L0 : List Nat) (f0 : Nat → va_E) (a0 : Nat) (x1 : Int) (lx1 : -2147483648 ≤ x1) (ux1 : x1 ≤ 2147483647) (m_a0 : a0 ∈ L0) (o_a0 : Ob f0 a0 7) (hg : GI cy L0 f0) : Ci Z l yX9_told (Cond.code yX9_told cX9_told 2 (some .int) :: TB) ({ frames := 1, cells := 0, slots := 0, locals := 22 } : Room) 0 0 D (tq cy) [.ref a0, .int (iI x1)] L0 f0 (fun (r : Int) (L1 : List Nat) (f1 : Nat → va_E) => L0 = L1 ∧ f0 = f1 ∧ (True)) := by
  refine Ci.enter (cc := cX9_told) (n := 2) rfl (plainFor_of_name (by decide)) (Nat.le_of_ble_eq_true rfl) ?_
  intro p e s m below meth c ls A hx hb hr hts hown hlocks hnm hml hK hA hAe hw hZ hl
  have hown : s.vm.findClass RX9 = some m.cls := hown
  have hl : lv_has ls 2 [(0, .ref a0), (1, .int (iI x1))] := hl
  have hN : ZN s := (zo.2.2.2.2 _ _ _ hZ).2
  refine lv_iload_n hx hb dX9_told_0 rfl (lv_at hl 1 rfl) ?_
  have t1 : (iI x1).toInt = x1 := iI_toInt ⟨lx1, ux1⟩
  rcases (show (x1 < 0 ∨ 3 < x1) ∨ (x1 = 0) ∨ (x1 = 1) ∨ (x1 = 2) ∨ (x1 = 3) by omega) with k1 | k1 | k1 | k1 | k1
  · refine lv_tableOut (tgt := 58) hx hb dX9_told_1 (by rw [t1]; omega) (by decide) ?_
    refine q_iconst hx hb dX9_told_58 ?_
    exact q_ret_i hx hb hr hlocks hK hAe hw ⟨by decide, by decide⟩ (Nat.le_of_ble_eq_true rfl) (Nat.le_of_ble_eq_true rfl) dX9_told_59 ⟨rfl, rfl, by trivial⟩
  · refine lv_tableIn (tgt := 32) (off := 31) hx hb dX9_told_1 (by rw [t1]; omega) (by rw [t1]; omega) (by rw [t1, k1]; rfl) (by decide) ?_
    refine lv_aload_n hx hb dX9_told_32 rfl (lv_at hl 0 rfl) ?_
    obtain ⟨r_1, er_1, m_r_1, o_r_1⟩ := (show ∃ r, fR f0 a0 2 = some r ∧ r ∈ L0 ∧ Ob f0 r 5 from hg.2.1 _ m_a0 7 2 o_a0)
    refine q_getr (ci := 7) (C := RX9) (T := TX9) (N := 4) hx hb hts (fun w h => List.mem_cons_of_mem _ (mfX90 w h)) hown hK hw m_a0 o_a0 rfl 2 (by decide) (hts _ (List.mem_cons_of_mem _ (mr1 _ (List.mem_of_getElem? (i := 20) rfl)))) (fun _ h => h) rfl er_1 dX9_told_33 ?_
    refine q_getiN (ci := 5) (C := RX7) (T := TX7) (N := 2) hx hb hts (fun w h => List.mem_cons_of_mem _ (mfX70 w h)) hown hK hw m_r_1 o_r_1 rfl 1 (by decide) (va_Nw.use rfl (hN _ (List.mem_of_getElem? (i := 0) rfl))) (fun _ h => h) rfl dX9_told_36 (fun x_2 lx_2 ux_2 ex_2 => ?_)
    have bx_2 : 0 ≤ x_2 ∧ x_2 ≤ 12 := by rw [ex_2]; exact hg.1 _ m_r_1 5 1 o_r_1
    exact q_ret_i hx hb hr hlocks hK hAe hw ⟨lx_2, ux_2⟩ (Nat.le_of_ble_eq_true rfl) (Nat.le_of_ble_eq_true rfl) dX9_told_39 ⟨rfl, rfl, by trivial⟩
  · refine lv_tableIn (tgt := 40) (off := 39) hx hb dX9_told_1 (by rw [t1]; omega) (by rw [t1]; omega) (by rw [t1, k1]; rfl) (by decide) ?_
    refine lv_aload_n hx hb dX9_told_40 rfl (lv_at hl 0 rfl) ?_
    refine q_geti (ci := 7) (C := RX9) (T := TX9) (N := 4) hx hb hts (fun w h => List.mem_cons_of_mem _ (mfX90 w h)) hown hK hw m_a0 o_a0 rfl 1 (by decide) (hts _ (List.mem_cons_of_mem _ (mr1 _ (List.mem_of_getElem? (i := 16) rfl)))) (fun _ h => h) rfl dX9_told_41 (fun x_3 lx_3 ux_3 ex_3 => ?_)
    have bx_3 : 0 ≤ x_3 ∧ x_3 ≤ 168 := by rw [ex_3]; exact hg.1 _ m_a0 7 1 o_a0
    exact q_ret_i hx hb hr hlocks hK hAe hw ⟨lx_3, ux_3⟩ (Nat.le_of_ble_eq_true rfl) (Nat.le_of_ble_eq_true rfl) dX9_told_44 ⟨rfl, rfl, by trivial⟩
  · refine lv_tableIn (tgt := 45) (off := 44) hx hb dX9_told_1 (by rw [t1]; omega) (by rw [t1]; omega) (by rw [t1, k1]; rfl) (by decide) ?_
    refine lv_aload_n hx hb dX9_told_45 rfl (lv_at hl 0 rfl) ?_
    obtain ⟨r_4, er_4, m_r_4, o_r_4⟩ := (show ∃ r, fR f0 a0 2 = some r ∧ r ∈ L0 ∧ Ob f0 r 5 from hg.2.1 _ m_a0 7 2 o_a0)
    refine q_getr (ci := 7) (C := RX9) (T := TX9) (N := 4) hx hb hts (fun w h => List.mem_cons_of_mem _ (mfX90 w h)) hown hK hw m_a0 o_a0 rfl 2 (by decide) (hts _ (List.mem_cons_of_mem _ (mr1 _ (List.mem_of_getElem? (i := 20) rfl)))) (fun _ h => h) rfl er_4 dX9_told_46 ?_
    refine q_call_i hA hK hw (va_runV (As := []) (rest := []) ⟨hx, hb, hml, hown, hts⟩ (c_X7_roomBits zo l D cy L0 f0 r_4 m_r_4 o_r_4 hg _) (cwV 0 hts (gT (inV (mr45 _ (List.mem_of_getElem? (i := 15) rfl)) (mr45 _ (List.mem_of_getElem? (i := 16) rfl)) (mr45 _ (List.mem_of_getElem? (i := 17) rfl)) (mr1 _ (List.mem_of_getElem? (i := 19) rfl)) (mr45 _ (List.mem_of_getElem? (i := 18) rfl)))) rfl rfl rfl (by decide +kernel) ⟨Nat.le_of_ble_eq_true rfl, Nat.le_of_ble_eq_true rfl⟩) (Wd.preV zo hA hZ hw hK m_r_4 o_r_4 rfl) rfl rfl hl.1 rfl (lv_room (Nat.le_of_ble_eq_true rfl)) dX9_told_49 ⟨Nat.le_of_ble_eq_true rfl, Nat.le_of_ble_eq_true rfl⟩) (fun x_5 L1 f1 H locs lx_5 ux_5 ex_5 hw => ?_)
    obtain ⟨rfl, rfl, ex_5⟩ := ex_5
    exact q_ret_i hx hb hr hlocks hK hAe hw ⟨lx_5, ux_5⟩ (Nat.le_of_ble_eq_true rfl) (Nat.le_of_ble_eq_true rfl) dX9_told_52 ⟨rfl, rfl, by trivial⟩
  · refine lv_tableIn (tgt := 53) (off := 52) hx hb dX9_told_1 (by rw [t1]; omega) (by rw [t1]; omega) (by rw [t1, k1]; rfl) (by decide) ?_
    refine lv_aload_n hx hb dX9_told_53 rfl (lv_at hl 0 rfl) ?_
    refine q_call_i hA hK hw (va_runV (As := []) (rest := []) ⟨hx, hb, hml, hown, hts⟩ (c_X9_imageBits zo l D cy L0 f0 a0 m_a0 o_a0 hg _) (cwV 0 hts (gT (inV (mr45 _ (List.mem_of_getElem? (i := 19) rfl)) (mr45 _ (List.mem_of_getElem? (i := 20) rfl)) (mr45 _ (List.mem_of_getElem? (i := 21) rfl)) (mr1 _ (List.mem_of_getElem? (i := 2) rfl)) (mr45 _ (List.mem_of_getElem? (i := 22) rfl)))) rfl rfl rfl (by decide +kernel) ⟨Nat.le_of_ble_eq_true rfl, Nat.le_of_ble_eq_true rfl⟩) (Wd.preV zo hA hZ hw hK m_a0 o_a0 rfl) rfl rfl hl.1 rfl (lv_room (Nat.le_of_ble_eq_true rfl)) dX9_told_54 ⟨Nat.le_of_ble_eq_true rfl, Nat.le_of_ble_eq_true rfl⟩) (fun x_6 L1 f1 H locs lx_6 ux_6 ex_6 hw => ?_)
    obtain ⟨rfl, rfl, ex_6⟩ := ex_6
    exact q_ret_i hx hb hr hlocks hK hAe hw ⟨lx_6, ux_6⟩ (Nat.le_of_ble_eq_true rfl) (Nat.le_of_ble_eq_true rfl) dX9_told_57 ⟨rfl, rfl, by trivial⟩
