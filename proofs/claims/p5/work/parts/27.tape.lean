set_option maxHeartbeats 4000000 in
set_option maxRecDepth 100000 in
theorem c_X9_putBytes {Z : Zt} (zo : Zok Z) (l : Launch) (D : va_G) (cy : Cy) (L0 : List Nat) (f0 : Nat → va_E) (a0 : Nat) (j1 : Int) (lj1 : -9223372036854775808 ≤ j1) (uj1 : j1 ≤ 9223372036854775807) (m_a0 : a0 ∈ L0) (o_a0 : Ob f0 a0 7) (hg : GI cy L0 f0) : Cv Z l yX9_putBytes (Cond.code yX9_putBytes cX9_putBytes 4 none :: TB) ({ frames := 0, cells := 0, slots := 0, locals := 0 } : Room) 0 0 D (tq cy) [.ref a0, .long (lJ j1)] L0 f0 (fun (L1 : List Nat) (f1 : Nat → va_E) => L0 = L1 ∧ GI cy L0 f1 ∧ Ey cy f0 f1 ∧ (160 < fI f0 a0 1 ∨ fI f1 a0 1 = fI f0 a0 1 + 8)) := by
  refine Cv.enter (cc := cX9_putBytes) (n := 4) rfl (plainFor_of_name (by decide)) (Nat.le_of_ble_eq_true rfl) ?_
  intro p e s m below meth c ls A hx hb hr hts hown hlocks hnm hml hK hA hAe hw hZ hl
  have hown : s.vm.findClass RX9 = some m.cls := hown
  have hl : lv_has ls 4 [(0, .ref a0), (1, .long (lJ j1))] := hl
  have hN : ZN s := (zo.2.2.2.2 _ _ _ hZ).2
  have hE : Ey cy f0 f0 := Ey.refl cy f0
  refine q_bipush hx hb dX9_putBytes_0 rfl ?_
  refine lv_istore_n (lv' := [(3, .int (iI 56)), (0, .ref a0), (1, .long (lJ j1))]) hx hb dX9_putBytes_2 rfl hl (by decide) rfl (fun ls hl => ?_)
  have J3 : ∀ (n3 : Nat) (y3_3 : Int) (ly3_3 : -2147483648 ≤ y3_3) (uy3_3 : y3_3 ≤ 2147483647) (L : List Nat) (fw3 : Nat → va_E) (hg : GI cy L0 fw3) (hE : Ey cy f0 fw3) (o_a0 : Ob fw3 a0 7) (i1 : -8 ≤ y3_3) (i2 : 160 < fI f0 a0 1 ∨ 8 * (fI fw3 a0 1 - fI f0 a0 1) + y3_3 = 56) (hn3 : (y3_3 + (2147483648 : Int)).toNat < n3) (H : Heap) (locs : List Loc) (ls : Array Slot) (hw : Wd D A s.heap L0 fw3 H locs) (hl : lv_has ls 4 [(0, .ref a0), (1, .long (lJ j1)), (3, .int (iI y3_3))]), W p l e ({ frames := 0, cells := 0, slots := 0, locals := 0 } : Room) s m ([.ref a0, .long (lJ j1)] : List Value).toArray below meth c H locs (0) (0) (MQ below (Qv D (tq cy) L0 f0 s.heap.size (fun (L1 : List Nat) (f1 : Nat → va_E) => L0 = L1 ∧ GI cy L0 f1 ∧ Ey cy f0 f1 ∧ (160 < fI f0 a0 1 ∨ fI f1 a0 1 = fI f0 a0 1 + 8))) ([.ref a0, .long (lJ j1)] : List Value).toArray s 0 0 A) (F0 m 3 ls []) := by
    intro n3
    induction n3 with
    | zero => intro y3_3 ly3_3 uy3_3 L fw3 hg hE o_a0 i1 i2 hn3; exact absurd hn3 (Nat.not_lt_zero _)
    | succ n3 ih3 =>
      intro y3_3 ly3_3 uy3_3 L fw3 hg hE o_a0 i1 i2 hn3 H locs ls hw hl
      refine lv_iload_n hx hb dX9_putBytes_3 rfl (lv_at hl 2 rfl) ?_
      refine q_if_lt (tgt := 51) hx hb dX9_putBytes_4 (by decide) ⟨ly3_3, uy3_3⟩ (fun c4 => ?_) (fun c4 => ?_)
      · exact q_ret_v hx hb hr hlocks hK hAe hw (Nat.le_of_ble_eq_true rfl) (Nat.le_of_ble_eq_true rfl) dX9_putBytes_51 (by exact ⟨rfl, hg, hE, by first | trivial | omega⟩)
      · refine lv_aload_n hx hb dX9_putBytes_7 rfl (lv_at hl 0 rfl) ?_
        refine q_geti (ci := 7) (C := RX9) (T := TX9) (N := 4) hx hb hts (fun w h => List.mem_cons_of_mem _ (mfX90 w h)) hown hK hw m_a0 o_a0 rfl 1 (by decide) (hts _ (List.mem_cons_of_mem _ (mr1 _ (List.mem_of_getElem? (i := 16) rfl)))) (fun _ h => h) rfl dX9_putBytes_8 (fun x_1 lx_1 ux_1 ex_1 => ?_)
        have bx_1 : 0 ≤ x_1 ∧ x_1 ≤ 168 := by rw [ex_1]; exact hg.1 _ m_a0 7 1 o_a0
        refine q_sipush hx hb dX9_putBytes_11 rfl ?_
        refine q_icmp_ge (tgt := 51) hx hb dX9_putBytes_14 (by decide) ⟨lx_1, ux_1⟩ ⟨by decide, by decide⟩ (fun c14 => ?_) (fun c14 => ?_)
        · exact q_ret_v hx hb hr hlocks hK hAe hw (Nat.le_of_ble_eq_true rfl) (Nat.le_of_ble_eq_true rfl) dX9_putBytes_51 (by exact ⟨rfl, hg, hE, by first | trivial | omega⟩)
        · refine lv_aload_n hx hb dX9_putBytes_17 rfl (lv_at hl 0 rfl) ?_
          obtain ⟨r_2, er_2, m_r_2, o_r_2⟩ := (show ∃ r, fR fw3 a0 0 = some r ∧ r ∈ L0 ∧ ArI fw3 r cy.1 168 from hg.2.1 _ m_a0 7 0 o_a0)
          refine q_getr (ci := 7) (C := RX9) (T := TX9) (N := 4) hx hb hts (fun w h => List.mem_cons_of_mem _ (mfX90 w h)) hown hK hw m_a0 o_a0 rfl 0 (by decide) (hts _ (List.mem_cons_of_mem _ (mr1 _ (List.mem_of_getElem? (i := 15) rfl)))) (fun _ h => h) rfl er_2 dX9_putBytes_18 ?_
          refine lv_aload_n hx hb dX9_putBytes_21 rfl (lv_at hl 0 rfl) ?_
          refine q_geti (ci := 7) (C := RX9) (T := TX9) (N := 4) hx hb hts (fun w h => List.mem_cons_of_mem _ (mfX90 w h)) hown hK hw m_a0 o_a0 rfl 1 (by decide) (hts _ (List.mem_cons_of_mem _ (mr1 _ (List.mem_of_getElem? (i := 16) rfl)))) (fun _ h => h) rfl dX9_putBytes_22 (fun x_3 lx_3 ux_3 ex_3 => ?_)
          have bx_3 : 0 ≤ x_3 ∧ x_3 ≤ 168 := by rw [ex_3]; exact hg.1 _ m_a0 7 1 o_a0
          refine lv_lload_n hx hb dX9_putBytes_25 rfl (lv_at hl 1 rfl) ?_
          refine lv_iload_n hx hb dX9_putBytes_26 rfl (lv_at hl 2 rfl) ?_
          refine lv_lushr hx hb dX9_putBytes_27 rfl ?_
          refine q_numl (fun j_4 lj_4 uj_4 ej_4 => ?_)
          refine q_ldc2 (n := 255) hx hb hown (hts _ (List.mem_cons_of_mem _ (mr4 _ (List.mem_of_getElem? (i := 14) rfl)))) rfl dX9_putBytes_28 ?_
          refine lv_land hx hb dX9_putBytes_31 ?_
          refine q_numl (fun j_5 lj_5 uj_5 ej_5 => ?_)
          refine q_l2i hx hb dX9_putBytes_32 (fun x_6 lx_6 ux_6 ex_6 => ?_)
          refine lv_i2c hx hb dX9_putBytes_33 rfl ?_
          refine q_num (fun x_7 lx_7 ux_7 ex_7 => ?_)
          refine q_chst hx hb hK hw m_r_2 0 o_r_2 rfl ⟨lx_3, ux_3⟩ (by omega) (by omega) dX9_putBytes_34 (fun H locs hw => ?_)
          have oo := o_r_2
          obtain ⟨f_8, ef_8⟩ : ∃ g : Nat → va_E, g = aU fw3 r_2 x_3 (vp_nar .char (iI x_7)) := ⟨_, rfl⟩
          have hX : Ex cy fw3 f_8 := by rw [ef_8]; exact Ex_aU oo
          have hg : GI cy L0 f_8 := by rw [ef_8]; exact hg.putA oo
          rw [← ef_8] at hw
          have hE := hE.trans hX.ey
          have o_a0 := hX.1.1 _ _ o_a0
          have t_a0_1_f_8 : fI f_8 a0 1 = fI fw3 a0 1 := by rw [ef_8]; exact fI_aU oo
          refine lv_aload_n hx hb dX9_putBytes_35 rfl (lv_at hl 0 rfl) ?_
          refine lv_dup hx hb dX9_putBytes_36 rfl ?_
          refine q_geti (ci := 7) (C := RX9) (T := TX9) (N := 4) hx hb hts (fun w h => List.mem_cons_of_mem _ (mfX90 w h)) hown hK hw m_a0 o_a0 rfl 1 (by decide) (hts _ (List.mem_cons_of_mem _ (mr1 _ (List.mem_of_getElem? (i := 16) rfl)))) (fun _ h => h) rfl dX9_putBytes_37 (fun x_9 lx_9 ux_9 ex_9 => ?_)
          have bx_9 : 0 ≤ x_9 ∧ x_9 ≤ 168 := by rw [ex_9]; exact hg.1 _ m_a0 7 1 o_a0
          refine q_iconst hx hb dX9_putBytes_40 ?_
          first | refine q_iadd hx hb dX9_putBytes_41 ⟨by omega, by omega⟩ (fun x_10 lx_10 ux_10 ex_10 => ?_) | refine q_iaddw hx hb dX9_putBytes_41 (fun x_10 lx_10 ux_10 _ => ?_)
          refine q_puti (ci := 7) (C := RX9) (T := TX9) (N := 4) hx hb hts (fun w h => List.mem_cons_of_mem _ (mfX90 w h)) hown hK hw m_a0 o_a0 rfl 1 (by decide) (hts _ (List.mem_cons_of_mem _ (mr1 _ (List.mem_of_getElem? (i := 16) rfl)))) (fun _ h => h) tyX9 tyX9_ok nmX9 rfl (ty := .int) (by decide +kernel) rfl rfl dX9_putBytes_42 (fun H locs hw => ?_)
          have oo := o_a0
          obtain ⟨f_11, ef_11⟩ : ∃ g : Nat → va_E, g = pU f_8 a0 1 (.int (iI x_10)) := ⟨_, rfl⟩
          have hX : Ey cy f_8 f_11 := by rw [ef_11]; exact Ey_pU oo rfl
          have hg : GI cy L0 f_11 := by rw [ef_11]; exact hg.putI oo rfl ⟨lx_10, ux_10⟩ (by show 0 ≤ x_10 ∧ x_10 ≤ 168; omega)
          rw [← ef_11] at hw
          have hE := hE.trans hX
          have o_a0 := hX.1.1 _ _ o_a0
          have vf_11 : fI f_11 a0 1 = x_10 := by rw [ef_11]; exact fI_pU_self oo rfl ⟨lx_10, ux_10⟩
          obtain ⟨x_12, lx_12, ux_12, hx_12, ex_12⟩ := q_inc y3_3 (-8)
          try (replace ex_12 : x_12 = y3_3 + (-8) := by omega)
          refine lv_iinc (v := iI x_12) (lv' := [(3, .int (iI x_12)), (0, .ref a0), (1, .long (lJ j1))]) hx hb dX9_putBytes_45 hl (k := 2) rfl hx_12 (by decide) rfl (fun ls hl => ?_)
          refine lv_goto (tgt := 3) hx hb dX9_putBytes_48 (by decide) ?_
          exact ih3 x_12 lx_12 ux_12 L0 f_11 hg hE o_a0 (by omega) (by omega) (by omega) _ _ _ hw (lv_sub hl [1, 2, 0] rfl)
  exact J3 (((56 + (2147483648 : Int)).toNat) + 1) 56 (by decide) (by decide) L0 f0 hg hE o_a0 (by omega) (by omega) (by omega) _ _ _ hw (lv_sub hl [1, 2, 0] rfl)
set_option maxHeartbeats 4000000 in
set_option maxRecDepth 100000 in
theorem c_X9_feed {Z : Zt} (zo : Zok Z) (l : Launch) (D : va_G) (cy : Cy) (L0 : List Nat) (f0 : Nat → va_E) (a0 : Nat) (j1 : Int) (lj1 : -9223372036854775808 ≤ j1) (uj1 : j1 ≤ 9223372036854775807) (j3 : Int) (lj3 : -9223372036854775808 ≤ j3) (uj3 : j3 ≤ 9223372036854775807) (j5 : Int) (lj5 : -9223372036854775808 ≤ j5) (uj5 : j5 ≤ 9223372036854775807) (m_a0 : a0 ∈ L0) (o_a0 : Ob f0 a0 7) (hg : GI cy L0 f0) : Ci Z l yX9_feed (Cond.code yX9_feed cX9_feed 7 (some .int) :: TB) ({ frames := 1, cells := 0, slots := 0, locals := 23 } : Room) 0 0 D (tq cy) [.ref a0, .long (lJ j1), .long (lJ j3), .long (lJ j5)] L0 f0 (fun (r : Int) (L1 : List Nat) (f1 : Nat → va_E) => L0 = L1 ∧ GI cy L0 f1 ∧ Ey cy f0 f1 ∧ (r = -1 ∧ 144 < fI f0 a0 1 ∧ fI f1 a0 1 = fI f0 a0 1 ∨ fI f0 a0 1 ≤ 144 ∧ r = fI f0 a0 1 + 24 ∧ fI f1 a0 1 = fI f0 a0 1 + 24)) := by
  refine Ci.enter (cc := cX9_feed) (n := 7) rfl (plainFor_of_name (by decide)) (Nat.le_of_ble_eq_true rfl) ?_
  intro p e s m below meth c ls A hx hb hr hts hown hlocks hnm hml hK hA hAe hw hZ hl
  have hown : s.vm.findClass RX9 = some m.cls := hown
  have hl : lv_has ls 7 [(0, .ref a0), (1, .long (lJ j1)), (3, .long (lJ j3)), (5, .long (lJ j5))] := hl
  have hN : ZN s := (zo.2.2.2.2 _ _ _ hZ).2
  have hE : Ey cy f0 f0 := Ey.refl cy f0
  refine lv_aload_n hx hb dX9_feed_0 rfl (lv_at hl 0 rfl) ?_
  refine q_geti (ci := 7) (C := RX9) (T := TX9) (N := 4) hx hb hts (fun w h => List.mem_cons_of_mem _ (mfX90 w h)) hown hK hw m_a0 o_a0 rfl 1 (by decide) (hts _ (List.mem_cons_of_mem _ (mr1 _ (List.mem_of_getElem? (i := 16) rfl)))) (fun _ h => h) rfl dX9_feed_1 (fun x_1 lx_1 ux_1 ex_1 => ?_)
  have bx_1 : 0 ≤ x_1 ∧ x_1 ≤ 168 := by rw [ex_1]; exact hg.1 _ m_a0 7 1 o_a0
  refine q_bipush hx hb dX9_feed_4 rfl ?_
  first | refine q_iadd hx hb dX9_feed_6 ⟨by omega, by omega⟩ (fun x_2 lx_2 ux_2 ex_2 => ?_) | refine q_iaddw hx hb dX9_feed_6 (fun x_2 lx_2 ux_2 _ => ?_)
  refine q_sipush hx hb dX9_feed_7 rfl ?_
  refine q_icmp_le (tgt := 15) hx hb dX9_feed_10 (by decide) ⟨lx_2, ux_2⟩ ⟨by decide, by decide⟩ (fun c10 => ?_) (fun c10 => ?_)
  · refine lv_aload_n hx hb dX9_feed_15 rfl (lv_at hl 0 rfl) ?_
    refine lv_lload_n hx hb dX9_feed_16 rfl (lv_at hl 1 rfl) ?_
    refine q_call_v hA hK hw (va_runV (As := [.long (lJ j1)]) (rest := []) ⟨hx, hb, hml, hown, hts⟩ (c_X9_putBytes zo l D cy L0 f0 a0 j1 lj1 uj1 m_a0 o_a0 hg _) (cwV 1 hts (gT (inV (mr4 _ (List.mem_of_getElem? (i := 10) rfl)) (mr4 _ (List.mem_of_getElem? (i := 11) rfl)) (mr4 _ (List.mem_of_getElem? (i := 12) rfl)) (mr1 _ (List.mem_of_getElem? (i := 2) rfl)) (mr4 _ (List.mem_of_getElem? (i := 13) rfl)))) rfl rfl rfl (by decide +kernel) ⟨Nat.le_of_ble_eq_true rfl, Nat.le_of_ble_eq_true rfl⟩) (Wd.preV zo hA hZ hw hK m_a0 o_a0 rfl) rfl rfl hl.1 rfl (lv_room (Nat.le_of_ble_eq_true rfl)) dX9_feed_17 ⟨Nat.le_of_ble_eq_true rfl, Nat.le_of_ble_eq_true rfl⟩) (fun L1 f_4 H locs ex_3 hw => ?_)
    obtain ⟨rfl, hg, hX, ex_3⟩ := ex_3
    have hE := hE.trans hX
    have o_a0 := hX.1.1 _ _ o_a0
    refine lv_aload_n hx hb dX9_feed_20 rfl (lv_at hl 0 rfl) ?_
    refine lv_lload_n hx hb dX9_feed_21 rfl (lv_at hl 2 rfl) ?_
    refine q_call_v hA hK hw (va_runV (As := [.long (lJ j3)]) (rest := []) ⟨hx, hb, hml, hown, hts⟩ (c_X9_putBytes zo l D cy L0 f_4 a0 j3 lj3 uj3 m_a0 o_a0 hg _) (cwV 1 hts (gT (inV (mr4 _ (List.mem_of_getElem? (i := 10) rfl)) (mr4 _ (List.mem_of_getElem? (i := 11) rfl)) (mr4 _ (List.mem_of_getElem? (i := 12) rfl)) (mr1 _ (List.mem_of_getElem? (i := 2) rfl)) (mr4 _ (List.mem_of_getElem? (i := 13) rfl)))) rfl rfl rfl (by decide +kernel) ⟨Nat.le_of_ble_eq_true rfl, Nat.le_of_ble_eq_true rfl⟩) (Wd.preV zo hA hZ hw hK m_a0 o_a0 rfl) rfl rfl hl.1 rfl (lv_room (Nat.le_of_ble_eq_true rfl)) dX9_feed_22 ⟨Nat.le_of_ble_eq_true rfl, Nat.le_of_ble_eq_true rfl⟩) (fun L1 f_6 H locs ex_5 hw => ?_)
    obtain ⟨rfl, hg, hX, ex_5⟩ := ex_5
    have hE := hE.trans hX
    have o_a0 := hX.1.1 _ _ o_a0
    refine lv_aload_n hx hb dX9_feed_25 rfl (lv_at hl 0 rfl) ?_
    refine lv_lload hx hb dX9_feed_26 (lv_at hl 3 rfl) ?_
    refine q_call_v hA hK hw (va_runV (As := [.long (lJ j5)]) (rest := []) ⟨hx, hb, hml, hown, hts⟩ (c_X9_putBytes zo l D cy L0 f_6 a0 j5 lj5 uj5 m_a0 o_a0 hg _) (cwV 1 hts (gT (inV (mr4 _ (List.mem_of_getElem? (i := 10) rfl)) (mr4 _ (List.mem_of_getElem? (i := 11) rfl)) (mr4 _ (List.mem_of_getElem? (i := 12) rfl)) (mr1 _ (List.mem_of_getElem? (i := 2) rfl)) (mr4 _ (List.mem_of_getElem? (i := 13) rfl)))) rfl rfl rfl (by decide +kernel) ⟨Nat.le_of_ble_eq_true rfl, Nat.le_of_ble_eq_true rfl⟩) (Wd.preV zo hA hZ hw hK m_a0 o_a0 rfl) rfl rfl hl.1 rfl (lv_room (Nat.le_of_ble_eq_true rfl)) dX9_feed_28 ⟨Nat.le_of_ble_eq_true rfl, Nat.le_of_ble_eq_true rfl⟩) (fun L1 f_8 H locs ex_7 hw => ?_)
    obtain ⟨rfl, hg, hX, ex_7⟩ := ex_7
    have hE := hE.trans hX
    have o_a0 := hX.1.1 _ _ o_a0
    refine lv_aload_n hx hb dX9_feed_31 rfl (lv_at hl 0 rfl) ?_
    refine q_geti (ci := 7) (C := RX9) (T := TX9) (N := 4) hx hb hts (fun w h => List.mem_cons_of_mem _ (mfX90 w h)) hown hK hw m_a0 o_a0 rfl 1 (by decide) (hts _ (List.mem_cons_of_mem _ (mr1 _ (List.mem_of_getElem? (i := 16) rfl)))) (fun _ h => h) rfl dX9_feed_32 (fun x_9 lx_9 ux_9 ex_9 => ?_)
    have bx_9 : 0 ≤ x_9 ∧ x_9 ≤ 168 := by rw [ex_9]; exact hg.1 _ m_a0 7 1 o_a0
    exact q_ret_i hx hb hr hlocks hK hAe hw ⟨lx_9, ux_9⟩ (Nat.le_of_ble_eq_true rfl) (Nat.le_of_ble_eq_true rfl) dX9_feed_35 (by exact ⟨rfl, hg, hE, by first | trivial | omega⟩)
  · refine q_iconst hx hb dX9_feed_13 ?_
    exact q_ret_i hx hb hr hlocks hK hAe hw ⟨by decide, by decide⟩ (Nat.le_of_ble_eq_true rfl) (Nat.le_of_ble_eq_true rfl) dX9_feed_14 (by exact ⟨rfl, hg, hE, by first | trivial | omega⟩)
set_option maxHeartbeats 4000000 in
set_option maxRecDepth 100000 in
theorem c_X9_end {Z : Zt} (zo : Zok Z) (l : Launch) (D : va_G) (cy : Cy) (L0 : List Nat) (f0 : Nat → va_E) (a0 : Nat) (x1 : Int) (lx1 : -2147483648 ≤ x1) (ux1 : x1 ≤ 2147483647) (m_a0 : a0 ∈ L0) (o_a0 : Ob f0 a0 7) (hg : GI cy L0 f0) : Ci Z l yX9_end (Cond.code yX9_end cX9_end 2 (some .int) :: TB) ({ frames := 0, cells := 0, slots := 0, locals := 0 } : Room) 0 0 D (tq cy) [.ref a0, .int (iI x1)] L0 f0 (fun (r : Int) (L1 : List Nat) (f1 : Nat → va_E) => L0 = L1 ∧ GI cy L0 f1 ∧ Ey cy f0 f1 ∧ (r = -1 ∧ (x1 < 0 ∨ fI f0 a0 1 < x1) ∧ fI f1 a0 1 = fI f0 a0 1 ∨ 0 ≤ x1 ∧ x1 ≤ fI f0 a0 1 ∧ r = x1 ∧ fI f1 a0 1 = x1)) := by
  refine Ci.enter (cc := cX9_end) (n := 2) rfl (plainFor_of_name (by decide)) (Nat.le_of_ble_eq_true rfl) ?_
  intro p e s m below meth c ls A hx hb hr hts hown hlocks hnm hml hK hA hAe hw hZ hl
  have hown : s.vm.findClass RX9 = some m.cls := hown
  have hl : lv_has ls 2 [(0, .ref a0), (1, .int (iI x1))] := hl
  have hN : ZN s := (zo.2.2.2.2 _ _ _ hZ).2
  have hE : Ey cy f0 f0 := Ey.refl cy f0
  refine lv_iload_n hx hb dX9_end_0 rfl (lv_at hl 1 rfl) ?_
  refine q_if_lt (tgt := 12) hx hb dX9_end_1 (by decide) ⟨lx1, ux1⟩ (fun c1 => ?_) (fun c1 => ?_)
  · refine q_iconst hx hb dX9_end_12 ?_
    exact q_ret_i hx hb hr hlocks hK hAe hw ⟨by decide, by decide⟩ (Nat.le_of_ble_eq_true rfl) (Nat.le_of_ble_eq_true rfl) dX9_end_13 (by exact ⟨rfl, hg, hE, by first | trivial | omega⟩)
  · refine lv_iload_n hx hb dX9_end_4 rfl (lv_at hl 1 rfl) ?_
    refine lv_aload_n hx hb dX9_end_5 rfl (lv_at hl 0 rfl) ?_
    refine q_geti (ci := 7) (C := RX9) (T := TX9) (N := 4) hx hb hts (fun w h => List.mem_cons_of_mem _ (mfX90 w h)) hown hK hw m_a0 o_a0 rfl 1 (by decide) (hts _ (List.mem_cons_of_mem _ (mr1 _ (List.mem_of_getElem? (i := 16) rfl)))) (fun _ h => h) rfl dX9_end_6 (fun x_1 lx_1 ux_1 ex_1 => ?_)
    have bx_1 : 0 ≤ x_1 ∧ x_1 ≤ 168 := by rw [ex_1]; exact hg.1 _ m_a0 7 1 o_a0
    refine q_icmp_le (tgt := 14) hx hb dX9_end_9 (by decide) ⟨lx1, ux1⟩ ⟨lx_1, ux_1⟩ (fun c9 => ?_) (fun c9 => ?_)
    · refine lv_aload_n hx hb dX9_end_14 rfl (lv_at hl 0 rfl) ?_
      refine lv_iload_n hx hb dX9_end_15 rfl (lv_at hl 1 rfl) ?_
      refine q_puti (ci := 7) (C := RX9) (T := TX9) (N := 4) hx hb hts (fun w h => List.mem_cons_of_mem _ (mfX90 w h)) hown hK hw m_a0 o_a0 rfl 1 (by decide) (hts _ (List.mem_cons_of_mem _ (mr1 _ (List.mem_of_getElem? (i := 16) rfl)))) (fun _ h => h) tyX9 tyX9_ok nmX9 rfl (ty := .int) (by decide +kernel) rfl rfl dX9_end_16 (fun H locs hw => ?_)
      have oo := o_a0
      obtain ⟨f_2, ef_2⟩ : ∃ g : Nat → va_E, g = pU f0 a0 1 (.int (iI x1)) := ⟨_, rfl⟩
      have hX : Ey cy f0 f_2 := by rw [ef_2]; exact Ey_pU oo rfl
      have hg : GI cy L0 f_2 := by rw [ef_2]; exact hg.putI oo rfl ⟨lx1, ux1⟩ (by show 0 ≤ x1 ∧ x1 ≤ 168; omega)
      rw [← ef_2] at hw
      have hE := hE.trans hX
      have o_a0 := hX.1.1 _ _ o_a0
      have vf_2 : fI f_2 a0 1 = x1 := by rw [ef_2]; exact fI_pU_self oo rfl ⟨lx1, ux1⟩
      refine lv_iload_n hx hb dX9_end_19 rfl (lv_at hl 1 rfl) ?_
      exact q_ret_i hx hb hr hlocks hK hAe hw ⟨lx1, ux1⟩ (Nat.le_of_ble_eq_true rfl) (Nat.le_of_ble_eq_true rfl) dX9_end_20 (by exact ⟨rfl, hg, hE, by first | trivial | omega⟩)
    · refine q_iconst hx hb dX9_end_12 ?_
      exact q_ret_i hx hb hr hlocks hK hAe hw ⟨by decide, by decide⟩ (Nat.le_of_ble_eq_true rfl) (Nat.le_of_ble_eq_true rfl) dX9_end_13 (by exact ⟨rfl, hg, hE, by first | trivial | omega⟩)
