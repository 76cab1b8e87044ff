set_option maxHeartbeats 4000000 in
set_option maxRecDepth 100000 in
theorem c_X9_onAt {Z : Zt} (zo : Zok Z) (l : Launch) (D : va_G) (cy : Cy) (L0 : List Nat) (f0 : Nat → va_E) (a0 : Nat) (x1 : Int) (lx1 : -2147483648 ≤ x1) (ux1 : x1 ≤ 2147483647) (x2 : Int) (lx2 : -2147483648 ≤ x2) (ux2 : x2 ≤ 2147483647) (x3 : Int) (lx3 : -2147483648 ≤ x3) (ux3 : x3 ≤ 2147483647) (x4 : Int) (lx4 : -2147483648 ≤ x4) (ux4 : x4 ≤ 2147483647) (x5 : Int) (lx5 : -2147483648 ≤ x5) (ux5 : x5 ≤ 2147483647) (m_a0 : a0 ∈ L0) (o_a0 : Ob f0 a0 7) (hg : GI cy L0 f0) (hlt : l.stackTraces = false) (zc : ∀ (A : Nat → Prop) (U : State) (H : Heap), Z A U H → ZE U) : Cx Z l yX9_onAt (Cond.code yX9_onAt cX9_onAt 8 (some .int) :: TB) ({ frames := 6, cells := 1, slots := 6, locals := 148 } : Room) 1 6 D (tq cy) [.ref a0, .int (iI x1), .int (iI x2), .int (iI x3), .int (iI x4), .int (iI x5)] L0 f0 (fun (r : Int) (L1 : List Nat) (f1 : Nat → va_E) => L0 = L1 ∧ GI cy L0 f1 ∧ Ex cy f0 f1 ∧ (True)) (fun (L1 : List Nat) (f1 : Nat → va_E) => L0 = L1 ∧ GI cy L0 f1 ∧ Ex cy f0 f1) := by
  refine Cx.enter (cc := cX9_onAt) (n := 8) rfl (by decide) (Nat.le_of_ble_eq_true rfl) ?_
  intro p e s m below meth c ls A hx hb hr hts hown hlocks hnm hml hext hK hA hAe hw hZ hl
  have hown : s.vm.findClass RX9 = some m.cls := hown
  have hl : lv_has ls 8 [(0, .ref a0), (1, .int (iI x1)), (2, .int (iI x2)), (3, .int (iI x3)), (4, .int (iI x4)), (5, .int (iI x5))] := hl
  have hN : ZN s := (zo.2.2.2.2 _ _ _ hZ).2
  have hE : Ex cy f0 f0 := Ex.refl cy f0
  refine lv_iload hx hb dX9_onAt_0 (lv_at hl 4 rfl) ?_
  refine q_if_lt (tgt := 28) hx hb dX9_onAt_2 (by decide) ⟨lx4, ux4⟩ (fun c2 => ?_) (fun c2 => ?_)
  · exact q_throw zo hx hb hlt (zc _ _ _ hZ) hown (hts _ (List.mem_cons_of_mem _ (mr34 _ (List.mem_of_getElem? (i := 1) rfl)))) (hts _ (List.mem_cons_of_mem _ (mr34 _ (List.mem_of_getElem? (i := 2) rfl)))) hext hlocks hK hAe hw hZ (hl.1.trans hml.symm) dX9_onAt_28 dX9_onAt_31 dX9_onAt_32 dX9_onAt_34 dX9_onAt_37 (Nat.le_of_ble_eq_true rfl) (Nat.le_of_ble_eq_true rfl) (Nat.le_of_ble_eq_true rfl) (Nat.le_of_ble_eq_true rfl) (Nat.le_of_ble_eq_true rfl) (Nat.le_of_ble_eq_true rfl) ⟨rfl, hg, hE⟩
  · refine lv_iload hx hb dX9_onAt_5 (lv_at hl 4 rfl) ?_
    refine lv_aload_n hx hb dX9_onAt_7 rfl (lv_at hl 0 rfl) ?_
    refine lv_iload_n hx hb dX9_onAt_8 rfl (lv_at hl 1 rfl) ?_
    refine lv_iload_n hx hb dX9_onAt_9 rfl (lv_at hl 2 rfl) ?_
    refine lv_iload_n hx hb dX9_onAt_10 rfl (lv_at hl 3 rfl) ?_
    refine q_call_i hA hK hw (va_runV (As := [.int (iI x1), .int (iI x2), .int (iI x3)]) (rest := [.int (iI x4)]) ⟨hx, hb, hml, hown, hts⟩ (c_X9_countOn zo l D cy L0 f0 a0 x1 lx1 ux1 x2 lx2 ux2 x3 lx3 ux3 m_a0 o_a0 hg _) (cwV 3 hts (gT (inV (mr32 _ (List.mem_of_getElem? (i := 4) rfl)) (mr32 _ (List.mem_of_getElem? (i := 5) rfl)) (mr32 _ (List.mem_of_getElem? (i := 6) rfl)) (mr1 _ (List.mem_of_getElem? (i := 2) rfl)) (mr32 _ (List.mem_of_getElem? (i := 7) rfl)))) rfl rfl rfl (by decide +kernel) ⟨Nat.le_of_ble_eq_true rfl, Nat.le_of_ble_eq_true rfl⟩) (Wd.preV zo hA hZ hw hK m_a0 o_a0 rfl) rfl rfl hl.1 rfl (lv_room (Nat.le_of_ble_eq_true rfl)) dX9_onAt_11 ⟨Nat.le_of_ble_eq_true rfl, Nat.le_of_ble_eq_true rfl⟩) (fun x_1 L1 f1 H locs lx_1 ux_1 ex_1 hw => ?_)
    obtain ⟨rfl, rfl, ex_1⟩ := ex_1
    refine q_icmp_ge (tgt := 28) hx hb dX9_onAt_14 (by decide) ⟨lx4, ux4⟩ ⟨lx_1, ux_1⟩ (fun c14 => ?_) (fun c14 => ?_)
    · exact q_throw zo hx hb hlt (zc _ _ _ hZ) hown (hts _ (List.mem_cons_of_mem _ (mr34 _ (List.mem_of_getElem? (i := 1) rfl)))) (hts _ (List.mem_cons_of_mem _ (mr34 _ (List.mem_of_getElem? (i := 2) rfl)))) hext hlocks hK hAe hw hZ (hl.1.trans hml.symm) dX9_onAt_28 dX9_onAt_31 dX9_onAt_32 dX9_onAt_34 dX9_onAt_37 (Nat.le_of_ble_eq_true rfl) (Nat.le_of_ble_eq_true rfl) (Nat.le_of_ble_eq_true rfl) (Nat.le_of_ble_eq_true rfl) (Nat.le_of_ble_eq_true rfl) (Nat.le_of_ble_eq_true rfl) ⟨rfl, hg, hE⟩
    · refine lv_iload hx hb dX9_onAt_17 (lv_at hl 5 rfl) ?_
      refine q_if_lt (tgt := 28) hx hb dX9_onAt_19 (by decide) ⟨lx5, ux5⟩ (fun c19 => ?_) (fun c19 => ?_)
      · exact q_throw zo hx hb hlt (zc _ _ _ hZ) hown (hts _ (List.mem_cons_of_mem _ (mr34 _ (List.mem_of_getElem? (i := 1) rfl)))) (hts _ (List.mem_cons_of_mem _ (mr34 _ (List.mem_of_getElem? (i := 2) rfl)))) hext hlocks hK hAe hw hZ (hl.1.trans hml.symm) dX9_onAt_28 dX9_onAt_31 dX9_onAt_32 dX9_onAt_34 dX9_onAt_37 (Nat.le_of_ble_eq_true rfl) (Nat.le_of_ble_eq_true rfl) (Nat.le_of_ble_eq_true rfl) (Nat.le_of_ble_eq_true rfl) (Nat.le_of_ble_eq_true rfl) (Nat.le_of_ble_eq_true rfl) ⟨rfl, hg, hE⟩
      · refine lv_iload hx hb dX9_onAt_22 (lv_at hl 5 rfl) ?_
        refine q_iconst hx hb dX9_onAt_24 ?_
        refine q_icmp_le (tgt := 38) hx hb dX9_onAt_25 (by decide) ⟨lx5, ux5⟩ ⟨by decide, by decide⟩ (fun c25 => ?_) (fun c25 => ?_)
        · refine lv_aload_n hx hb dX9_onAt_38 rfl (lv_at hl 0 rfl) ?_
          refine lv_iload_n hx hb dX9_onAt_39 rfl (lv_at hl 1 rfl) ?_
          refine lv_iload_n hx hb dX9_onAt_40 rfl (lv_at hl 2 rfl) ?_
          refine lv_iload hx hb dX9_onAt_41 (lv_at hl 4 rfl) ?_
          refine q_call_i hA hK hw (va_runV (As := [.int (iI x1), .int (iI x2), .int (iI x4)]) (rest := []) ⟨hx, hb, hml, hown, hts⟩ (c_X9_walkOn zo l D cy L0 f0 a0 x1 lx1 ux1 x2 lx2 ux2 x4 lx4 ux4 m_a0 o_a0 hg _) (cwV 3 hts (gT (inV (mr34 _ (List.mem_of_getElem? (i := 5) rfl)) (mr34 _ (List.mem_of_getElem? (i := 6) rfl)) (mr34 _ (List.mem_of_getElem? (i := 7) rfl)) (mr1 _ (List.mem_of_getElem? (i := 2) rfl)) (mr34 _ (List.mem_of_getElem? (i := 8) rfl)))) rfl rfl rfl (by decide +kernel) ⟨Nat.le_of_ble_eq_true rfl, Nat.le_of_ble_eq_true rfl⟩) (Wd.preV zo hA hZ hw hK m_a0 o_a0 rfl) rfl rfl hl.1 rfl (lv_room (Nat.le_of_ble_eq_true rfl)) dX9_onAt_43 ⟨Nat.le_of_ble_eq_true rfl, Nat.le_of_ble_eq_true rfl⟩) (fun x_2 L1 f_3 H locs lx_2 ux_2 ex_2 hw => ?_)
          obtain ⟨rfl, hg, hX, ex_2⟩ := ex_2
          have hE := hE.trans hX
          have o_a0 := hX.1.1 _ _ o_a0
          refine lv_istore (lv' := [(6, .int (iI x_2)), (0, .ref a0), (1, .int (iI x1)), (2, .int (iI x2)), (3, .int (iI x3)), (4, .int (iI x4)), (5, .int (iI x5))]) hx hb dX9_onAt_46 hl (by decide) rfl (fun ls hl => ?_)
          refine lv_aload_n hx hb dX9_onAt_48 rfl (lv_at hl 1 rfl) ?_
          obtain ⟨r_4, er_4, m_r_4, o_r_4⟩ := (show ∃ r, fR f_3 a0 2 = some r ∧ r ∈ L0 ∧ Ob f_3 r 5 from hg.2.1 _ m_a0 7 2 o_a0)
          refine q_getr (ci := 7) (C := RX9) (T := TX9) (N := 4) hx hb hts (fun w h => List.mem_cons_of_mem _ (mfX90 w h)) hown hK hw m_a0 o_a0 rfl 2 (by decide) (hts _ (List.mem_cons_of_mem _ (mr1 _ (List.mem_of_getElem? (i := 20) rfl)))) (fun _ h => h) rfl er_4 dX9_onAt_49 ?_
          refine lv_iload hx hb dX9_onAt_52 (lv_at hl 0 rfl) ?_
          refine q_call_i hA hK hw (va_runV (As := [.int (iI x_2)]) (rest := []) ⟨hx, hb, hml, hown, hts⟩ (c_X7_has zo l D cy L0 f_3 r_4 x_2 lx_2 ux_2 m_r_4 o_r_4 hg _) (cwV 1 hts (gT (inV (mr22 _ (List.mem_of_getElem? (i := 9) rfl)) (mr22 _ (List.mem_of_getElem? (i := 10) rfl)) (mr22 _ (List.mem_of_getElem? (i := 11) rfl)) (mr1 _ (List.mem_of_getElem? (i := 19) rfl)) (mr22 _ (List.mem_of_getElem? (i := 12) rfl)))) rfl rfl rfl (by decide +kernel) ⟨Nat.le_of_ble_eq_true rfl, Nat.le_of_ble_eq_true rfl⟩) (Wd.preV zo hA hZ hw hK m_r_4 o_r_4 rfl) rfl rfl hl.1 rfl (lv_room (Nat.le_of_ble_eq_true rfl)) dX9_onAt_54 ⟨Nat.le_of_ble_eq_true rfl, Nat.le_of_ble_eq_true rfl⟩) (fun x_5 L1 f1 H locs lx_5 ux_5 ex_5 hw => ?_)
          obtain ⟨rfl, rfl, ex_5⟩ := ex_5
          refine q_if_ne (tgt := 70) hx hb dX9_onAt_57 (by decide) ⟨lx_5, ux_5⟩ (fun c57 => ?_) (fun c57 => ?_)
          · refine lv_iload hx hb dX9_onAt_70 (lv_at hl 6 rfl) ?_
            refine q_if_ne (tgt := 78) hx hb dX9_onAt_72 (by decide) ⟨lx5, ux5⟩ (fun c72 => ?_) (fun c72 => ?_)
            · refine lv_aload_n hx hb dX9_onAt_78 rfl (lv_at hl 1 rfl) ?_
              refine q_getr (ci := 7) (C := RX9) (T := TX9) (N := 4) hx hb hts (fun w h => List.mem_cons_of_mem _ (mfX90 w h)) hown hK hw m_a0 o_a0 rfl 2 (by decide) (hts _ (List.mem_cons_of_mem _ (mr1 _ (List.mem_of_getElem? (i := 20) rfl)))) (fun _ h => h) rfl er_4 dX9_onAt_79 ?_
              refine lv_iload hx hb dX9_onAt_82 (lv_at hl 0 rfl) ?_
              refine q_call_r hA hK hw (va_runV (As := [.int (iI x_2)]) (rest := []) ⟨hx, hb, hml, hown, hts⟩ (c_X7_at zo l D cy L0 f_3 r_4 x_2 lx_2 ux_2 m_r_4 o_r_4 hg (by omega) (by omega) _) (cwV 1 hts (gT (inV (mr24 _ (List.mem_of_getElem? (i := 8) rfl)) (mr24 _ (List.mem_of_getElem? (i := 9) rfl)) (mr24 _ (List.mem_of_getElem? (i := 10) rfl)) (mr1 _ (List.mem_of_getElem? (i := 19) rfl)) (mr24 _ (List.mem_of_getElem? (i := 11) rfl)))) rfl rfl rfl (by decide +kernel) ⟨Nat.le_of_ble_eq_true rfl, Nat.le_of_ble_eq_true rfl⟩) (Wd.preV zo hA hZ hw hK m_r_4 o_r_4 rfl) rfl rfl hl.1 rfl (lv_room (Nat.le_of_ble_eq_true rfl)) dX9_onAt_84 ⟨Nat.le_of_ble_eq_true rfl, Nat.le_of_ble_eq_true rfl⟩) (fun x_6 L1 f1 H locs ex_6 hw => ?_)
              obtain ⟨rfl, rfl, ex_6⟩ := ex_6
              obtain ⟨m_x_6, o_x_6⟩ := ex_6
              refine lv_astore (lv' := [(7, .ref x_6), (6, .int (iI x_2)), (0, .ref a0), (1, .int (iI x1)), (2, .int (iI x2)), (3, .int (iI x3)), (4, .int (iI x4)), (5, .int (iI x5))]) hx hb dX9_onAt_87 hl (by decide) rfl (fun ls hl => ?_)
              refine lv_iload hx hb dX9_onAt_89 (lv_at hl 7 rfl) ?_
              refine q_iconst hx hb dX9_onAt_91 ?_
              refine q_icmp_ne (tgt := 103) hx hb dX9_onAt_92 (by decide) ⟨lx5, ux5⟩ ⟨by decide, by decide⟩ (fun c92 => ?_) (fun c92 => ?_)
              · refine lv_aload hx hb dX9_onAt_103 (lv_at hl 0 rfl) ?_
                refine q_geti (ci := 0) (C := RX0) (T := TX0) (N := 15) hx hb hts (fun w h => List.mem_cons_of_mem _ (mfX00 w h)) hown hK hw m_x_6 o_x_6 rfl 13 (by decide) (hts _ (List.mem_cons_of_mem _ (mr34 _ (List.mem_of_getElem? (i := 4) rfl)))) (fun _ h => h) rfl dX9_onAt_105 (fun x_7 lx_7 ux_7 ex_7 => ?_)
                refine vx_ret ?_
                exact q_ret_i hx hb hr hlocks hK hAe hw ⟨lx_7, ux_7⟩ (Nat.le_of_ble_eq_true rfl) (Nat.le_of_ble_eq_true rfl) dX9_onAt_108 (by exact ⟨rfl, hg, hE, by first | trivial | omega⟩)
              · refine lv_aload hx hb dX9_onAt_95 (lv_at hl 0 rfl) ?_
                refine q_geti (ci := 0) (C := RX0) (T := TX0) (N := 15) hx hb hts (fun w h => List.mem_cons_of_mem _ (mfX00 w h)) hown hK hw m_x_6 o_x_6 rfl 14 (by decide) (hts _ (List.mem_cons_of_mem _ (mr34 _ (List.mem_of_getElem? (i := 3) rfl)))) (fun _ h => h) rfl dX9_onAt_97 (fun x_8 lx_8 ux_8 ex_8 => ?_)
                refine lv_goto (tgt := 108) hx hb dX9_onAt_100 (by decide) ?_
                refine vx_ret ?_
                exact q_ret_i hx hb hr hlocks hK hAe hw ⟨lx_8, ux_8⟩ (Nat.le_of_ble_eq_true rfl) (Nat.le_of_ble_eq_true rfl) dX9_onAt_108 (by exact ⟨rfl, hg, hE, by first | trivial | omega⟩)
            · refine lv_iload hx hb dX9_onAt_75 (lv_at hl 0 rfl) ?_
              refine vx_ret ?_
              exact q_ret_i hx hb hr hlocks hK hAe hw ⟨lx_2, ux_2⟩ (Nat.le_of_ble_eq_true rfl) (Nat.le_of_ble_eq_true rfl) dX9_onAt_77 (by exact ⟨rfl, hg, hE, by first | trivial | omega⟩)
          · exact q_throw zo hx hb hlt (zc _ _ _ hZ) hown (hts _ (List.mem_cons_of_mem _ (mr34 _ (List.mem_of_getElem? (i := 1) rfl)))) (hts _ (List.mem_cons_of_mem _ (mr34 _ (List.mem_of_getElem? (i := 2) rfl)))) hext hlocks hK hAe hw hZ (hl.1.trans hml.symm) dX9_onAt_60 dX9_onAt_63 dX9_onAt_64 dX9_onAt_66 dX9_onAt_69 (Nat.le_of_ble_eq_true rfl) (Nat.le_of_ble_eq_true rfl) (Nat.le_of_ble_eq_true rfl) (Nat.le_of_ble_eq_true rfl) (Nat.le_of_ble_eq_true rfl) (Nat.le_of_ble_eq_true rfl) ⟨rfl, hg, hE⟩
        · exact q_throw zo hx hb hlt (zc _ _ _ hZ) hown (hts _ (List.mem_cons_of_mem _ (mr34 _ (List.mem_of_getElem? (i := 1) rfl)))) (hts _ (List.mem_cons_of_mem _ (mr34 _ (List.mem_of_getElem? (i := 2) rfl)))) hext hlocks hK hAe hw hZ (hl.1.trans hml.symm) dX9_onAt_28 dX9_onAt_31 dX9_onAt_32 dX9_onAt_34 dX9_onAt_37 (Nat.le_of_ble_eq_true rfl) (Nat.le_of_ble_eq_true rfl) (Nat.le_of_ble_eq_true rfl) (Nat.le_of_ble_eq_true rfl) (Nat.le_of_ble_eq_true rfl) (Nat.le_of_ble_eq_true rfl) ⟨rfl, hg, hE⟩
