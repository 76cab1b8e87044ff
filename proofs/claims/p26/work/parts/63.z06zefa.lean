set_option maxHeartbeats 4000000 in
set_option maxRecDepth 100000 in
theorem c_X0_forget_z {Z : Zt} (zo : Zok Z) (l : Launch) (D : va_G) (cy : Cy) (L0 : List Nat) (f0 : Nat → va_E) (a0 : Nat) (x1 : Int) (lx1 : -2147483648 ≤ x1) (ux1 : x1 ≤ 2147483647) (m_a0 : a0 ∈ L0) (o_a0 : Ob f0 a0 0) (hg : GI cy L0 f0) (h1 : 1 ≤ fI f0 a0 10) (h2 : 0 ≤ x1) (h3 : x1 < 16) : Cv Z l yX0_forget (Cond.code yX0_forget cX0_forget 2 none :: TB) ({ frames := 0, cells := 0, slots := 0, locals := 0 } : Room) 0 0 D (tq cy) [.ref a0, .int (iI x1)] L0 f0 (fun (L1 : List Nat) (f1 : Nat → va_E) => L0 = L1 ∧ GI cy L0 f1 ∧ Ef cy f0 f1 ∧ (fI f1 a0 10 = fI f0 a0 10 - 1)) := by
  refine Cv.enter (cc := cX0_forget) (n := 2) rfl (plainFor_of_name (by decide)) (Nat.le_of_ble_eq_true rfl) ?_
  intro p e s m below meth c ls A hx hb hr hts hown hlocks hnm hml hK hA hAe hw hZ hl
  have hown : s.vm.findClass RX0 = some m.cls := hown
  have hl : lv_has ls 2 [(0, .ref a0), (1, .int (iI x1))] := hl
  have hN : ZN s := (zo.2.2.2.2 _ _ _ hZ).2
  have hE : Ef cy f0 f0 := Ef.refl cy f0
  have bb : 0 ≤ fI f0 a0 10 ∧ fI f0 a0 10 ≤ 16 := hg.1 _ m_a0 0 10 o_a0
  refine lv_aload_n hx hb dX0_forget_0 rfl (lv_at hl 0 rfl) ?_
  refine lv_dup hx hb dX0_forget_1 rfl ?_
  refine q_geti (ci := 0) (C := RX0) (T := TX0) (N := 15) hx hb hts (fun w h => List.mem_cons_of_mem _ (mfX00 w h)) hown hK hw m_a0 o_a0 rfl 10 (by decide) (hts _ (List.mem_cons_of_mem _ (mr14 _ (List.mem_of_getElem? (i := 9) rfl)))) (fun _ h => h) rfl dX0_forget_2 (fun x_1 lx_1 ux_1 ex_1 => ?_)
  have bx_1 : 0 ≤ x_1 ∧ x_1 ≤ 16 := by rw [ex_1]; exact hg.1 _ m_a0 0 10 o_a0
  refine q_iconst hx hb dX0_forget_5 ?_
  first | refine q_isub hx hb dX0_forget_6 ⟨by omega, by omega⟩ (fun x_2 lx_2 ux_2 ex_2 => ?_) | refine q_isubw hx hb dX0_forget_6 (fun x_2 lx_2 ux_2 _ => ?_)
  refine q_puti (ci := 0) (C := RX0) (T := TX0) (N := 15) hx hb hts (fun w h => List.mem_cons_of_mem _ (mfX00 w h)) hown hK hw m_a0 o_a0 rfl 10 (by decide) (hts _ (List.mem_cons_of_mem _ (mr14 _ (List.mem_of_getElem? (i := 9) rfl)))) (fun _ h => h) tyX0 tyX0_ok nmX0 rfl (ty := .int) (by decide +kernel) rfl rfl dX0_forget_7 (fun H locs hw => ?_)
  have oo := o_a0
  obtain ⟨f_3, ef_3⟩ : ∃ g : Nat → va_E, g = pU f0 a0 10 (.int (iI x_2)) := ⟨_, rfl⟩
  have hX : Ef cy f0 f_3 := by rw [ef_3]; exact Ef_pU oo rfl rfl (by decide)
  have hg : GI cy L0 f_3 := by rw [ef_3]; exact hg.putI oo rfl ⟨lx_2, ux_2⟩ (by show 0 ≤ x_2 ∧ x_2 ≤ 16; omega)
  rw [← ef_3] at hw
  have hE := hE.trans hX
  have o_a0 := hX.1.1.1 _ _ o_a0
  have vf_3 : fI f_3 a0 10 = x_2 := by rw [ef_3]; exact fI_pU_self oo rfl ⟨lx_2, ux_2⟩
  refine lv_aload_n hx hb dX0_forget_10 rfl (lv_at hl 0 rfl) ?_
  obtain ⟨r_4, er_4, m_r_4, o_r_4⟩ := (show ∃ r, fR f_3 a0 11 = some r ∧ r ∈ L0 ∧ ArI f_3 r cy.2.1 16 from hg.2.1 _ m_a0 0 11 o_a0)
  refine q_getr (ci := 0) (C := RX0) (T := TX0) (N := 15) hx hb hts (fun w h => List.mem_cons_of_mem _ (mfX00 w h)) hown hK hw m_a0 o_a0 rfl 11 (by decide) (hts _ (List.mem_cons_of_mem _ (mr3 _ (List.mem_of_getElem? (i := 2) rfl)))) (fun _ h => h) rfl er_4 dX0_forget_11 ?_
  refine lv_iload_n hx hb dX0_forget_14 rfl (lv_at hl 1 rfl) ?_
  refine lv_aload_n hx hb dX0_forget_15 rfl (lv_at hl 0 rfl) ?_
  refine q_getr (ci := 0) (C := RX0) (T := TX0) (N := 15) hx hb hts (fun w h => List.mem_cons_of_mem _ (mfX00 w h)) hown hK hw m_a0 o_a0 rfl 11 (by decide) (hts _ (List.mem_cons_of_mem _ (mr3 _ (List.mem_of_getElem? (i := 2) rfl)))) (fun _ h => h) rfl er_4 dX0_forget_16 ?_
  refine lv_aload_n hx hb dX0_forget_19 rfl (lv_at hl 0 rfl) ?_
  refine q_geti (ci := 0) (C := RX0) (T := TX0) (N := 15) hx hb hts (fun w h => List.mem_cons_of_mem _ (mfX00 w h)) hown hK hw m_a0 o_a0 rfl 10 (by decide) (hts _ (List.mem_cons_of_mem _ (mr14 _ (List.mem_of_getElem? (i := 9) rfl)))) (fun _ h => h) rfl dX0_forget_20 (fun x_5 lx_5 ux_5 ex_5 => ?_)
  have bx_5 : 0 ≤ x_5 ∧ x_5 ≤ 16 := by rw [ex_5]; exact hg.1 _ m_a0 0 10 o_a0
  refine q_iald hx hb hK hw m_r_4 1 o_r_4 rfl ⟨lx_5, ux_5⟩ (by omega) (by omega) dX0_forget_23 (fun x_6 lx_6 ux_6 ex_6 => ?_)
  refine q_iast hx hb hK hw m_r_4 1 o_r_4 rfl ⟨lx1, ux1⟩ (by omega) (by omega) dX0_forget_24 (fun H locs hw => ?_)
  have oo := o_r_4
  obtain ⟨f_7, ef_7⟩ : ∃ g : Nat → va_E, g = aU f_3 r_4 x1 (iI x_6) := ⟨_, rfl⟩
  have hX : Ef cy f_3 f_7 := by rw [ef_7]; exact Ef_aU oo
  have hg : GI cy L0 f_7 := by rw [ef_7]; exact hg.putA oo
  rw [← ef_7] at hw
  have hE := hE.trans hX
  have o_a0 := hX.1.1.1 _ _ o_a0
  have t_a0_10_f_7 : fI f_7 a0 10 = fI f_3 a0 10 := by rw [ef_7]; exact fI_aU oo
  refine lv_aload_n hx hb dX0_forget_25 rfl (lv_at hl 0 rfl) ?_
  obtain ⟨r_8, er_8, m_r_8, o_r_8⟩ := (show ∃ r, fR f_7 a0 12 = some r ∧ r ∈ L0 ∧ ArI f_7 r cy.2.1 16 from hg.2.1 _ m_a0 0 12 o_a0)
  refine q_getr (ci := 0) (C := RX0) (T := TX0) (N := 15) hx hb hts (fun w h => List.mem_cons_of_mem _ (mfX00 w h)) hown hK hw m_a0 o_a0 rfl 12 (by decide) (hts _ (List.mem_cons_of_mem _ (mr3 _ (List.mem_of_getElem? (i := 3) rfl)))) (fun _ h => h) rfl er_8 dX0_forget_26 ?_
  refine lv_iload_n hx hb dX0_forget_29 rfl (lv_at hl 1 rfl) ?_
  refine lv_aload_n hx hb dX0_forget_30 rfl (lv_at hl 0 rfl) ?_
  refine q_getr (ci := 0) (C := RX0) (T := TX0) (N := 15) hx hb hts (fun w h => List.mem_cons_of_mem _ (mfX00 w h)) hown hK hw m_a0 o_a0 rfl 12 (by decide) (hts _ (List.mem_cons_of_mem _ (mr3 _ (List.mem_of_getElem? (i := 3) rfl)))) (fun _ h => h) rfl er_8 dX0_forget_31 ?_
  refine lv_aload_n hx hb dX0_forget_34 rfl (lv_at hl 0 rfl) ?_
  refine q_geti (ci := 0) (C := RX0) (T := TX0) (N := 15) hx hb hts (fun w h => List.mem_cons_of_mem _ (mfX00 w h)) hown hK hw m_a0 o_a0 rfl 10 (by decide) (hts _ (List.mem_cons_of_mem _ (mr14 _ (List.mem_of_getElem? (i := 9) rfl)))) (fun _ h => h) rfl dX0_forget_35 (fun x_9 lx_9 ux_9 ex_9 => ?_)
  have bx_9 : 0 ≤ x_9 ∧ x_9 ≤ 16 := by rw [ex_9]; exact hg.1 _ m_a0 0 10 o_a0
  refine q_iald hx hb hK hw m_r_8 1 o_r_8 rfl ⟨lx_9, ux_9⟩ (by omega) (by omega) dX0_forget_38 (fun x_10 lx_10 ux_10 ex_10 => ?_)
  refine q_iast hx hb hK hw m_r_8 1 o_r_8 rfl ⟨lx1, ux1⟩ (by omega) (by omega) dX0_forget_39 (fun H locs hw => ?_)
  have oo := o_r_8
  obtain ⟨f_11, ef_11⟩ : ∃ g : Nat → va_E, g = aU f_7 r_8 x1 (iI x_10) := ⟨_, rfl⟩
  have hX : Ef cy f_7 f_11 := by rw [ef_11]; exact Ef_aU oo
  have hg : GI cy L0 f_11 := by rw [ef_11]; exact hg.putA oo
  rw [← ef_11] at hw
  have hE := hE.trans hX
  have o_a0 := hX.1.1.1 _ _ o_a0
  have t_a0_10_f_11 : fI f_11 a0 10 = fI f_7 a0 10 := by rw [ef_11]; exact fI_aU oo
  exact q_ret_v hx hb hr hlocks hK hAe hw (Nat.le_of_ble_eq_true rfl) (Nat.le_of_ble_eq_true rfl) dX0_forget_40 (by exact ⟨rfl, hg, hE, by omega⟩)
set_option maxHeartbeats 4000000 in
set_option maxRecDepth 100000 in
theorem c_X0_change_z {Z : Zt} (zo : Zok Z) (l : Launch) (D : va_G) (cy : Cy) (L0 : List Nat) (f0 : Nat → va_E) (a0 : Nat) (x1 : Int) (lx1 : -2147483648 ≤ x1) (ux1 : x1 ≤ 2147483647) (x2 : Int) (lx2 : -2147483648 ≤ x2) (ux2 : x2 ≤ 2147483647) (m_a0 : a0 ∈ L0) (o_a0 : Ob f0 a0 0) (hg : GI cy L0 f0) : Ci Z l yX0_change (Cond.code yX0_change cX0_change 4 (some .boolean) :: TB) ({ frames := 1, cells := 0, slots := 0, locals := 22 } : Room) 0 0 D (tq cy) [.ref a0, .int (iI x1), .int (iI x2)] L0 f0 (fun (r : Int) (L1 : List Nat) (f1 : Nat → va_E) => L0 = L1 ∧ GI cy L0 f1 ∧ Ef cy f0 f1 ∧ (r = 0 ∨ r = 1)) := by
  refine Ci.enter (cc := cX0_change) (n := 4) rfl (plainFor_of_name (by decide)) (Nat.le_of_ble_eq_true rfl) ?_
  intro p e s m below meth c ls A hx hb hr hts hown hlocks hnm hml hK hA hAe hw hZ hl
  have hown : s.vm.findClass RX0 = some m.cls := hown
  have hl : lv_has ls 4 [(0, .ref a0), (1, .int (iI x1)), (2, .int (iI x2))] := hl
  have hN : ZN s := (zo.2.2.2.2 _ _ _ hZ).2
  have hE : Ef cy f0 f0 := Ef.refl cy f0
  have bb : 0 ≤ fI f0 a0 10 ∧ fI f0 a0 10 ≤ 16 := hg.1 _ m_a0 0 10 o_a0
  refine lv_aload_n hx hb dX0_change_0 rfl (lv_at hl 0 rfl) ?_
  refine lv_iload_n hx hb dX0_change_1 rfl (lv_at hl 1 rfl) ?_
  refine q_call_i hA hK hw (va_runV (As := [.int (iI x1)]) (rest := []) ⟨hx, hb, hml, hown, hts⟩ (c_X0_changeOf zo l D cy L0 f0 a0 x1 lx1 ux1 m_a0 o_a0 hg _) (cwV 1 hts (gT (inV (mr26 _ (List.mem_of_getElem? (i := 15) rfl)) (mr26 _ (List.mem_of_getElem? (i := 16) rfl)) (mr26 _ (List.mem_of_getElem? (i := 17) rfl)) (mr2 _ (List.mem_of_getElem? (i := 9) rfl)) (mr26 _ (List.mem_of_getElem? (i := 18) rfl)))) rfl rfl rfl (by decide +kernel) ⟨Nat.le_of_ble_eq_true rfl, Nat.le_of_ble_eq_true rfl⟩) (Wd.preV zo hA hZ hw hK m_a0 o_a0 rfl) rfl rfl hl.1 rfl (lv_room (Nat.le_of_ble_eq_true rfl)) dX0_change_2 ⟨Nat.le_of_ble_eq_true rfl, Nat.le_of_ble_eq_true rfl⟩) (fun x_1 L1 f1 H locs lx_1 ux_1 ex_1 hw => ?_)
  obtain ⟨rfl, rfl, ex_1⟩ := ex_1
  refine lv_istore_n (lv' := [(3, .int (iI x_1)), (0, .ref a0), (1, .int (iI x1)), (2, .int (iI x2))]) hx hb dX0_change_5 rfl hl (by decide) rfl (fun ls hl => ?_)
  refine lv_iload_n hx hb dX0_change_6 rfl (lv_at hl 0 rfl) ?_
  refine q_iconst hx hb dX0_change_7 ?_
  have J37 : ∀ (z3_37 : Int) (lz3_37 : -2147483648 ≤ z3_37) (uz3_37 : z3_37 ≤ 2147483647) (L : List Nat) (fw37 : Nat → va_E) (hg : GI cy L0 fw37) (hE : Ef cy f0 fw37) (o_a0 : Ob fw37 a0 0) (i1 : 0 ≤ z3_37) (i2 : z3_37 < 16) (H : Heap) (locs : List Loc) (ls : Array Slot) (hw : Wd D A s.heap L0 fw37 H locs) (hl : lv_has ls 4 [(0, .ref a0), (1, .int (iI x1)), (2, .int (iI x2)), (3, .int (iI z3_37))]), W p l e ({ frames := 1, cells := 0, slots := 0, locals := 22 } : Room) s m ([.ref a0, .int (iI x1), .int (iI x2)] : List Value).toArray below meth c H locs (0 + 0) (0 + 0) (MQ below (Qi D (tq cy) L0 f0 s.heap.size (fun (r : Int) (L1 : List Nat) (f1 : Nat → va_E) => L0 = L1 ∧ GI cy L0 f1 ∧ Ef cy f0 f1 ∧ (r = 0 ∨ r = 1))) ([.ref a0, .int (iI x1), .int (iI x2)] : List Value).toArray s 0 0 A) (F0 m 37 ls []) := by
    intro z3_37 lz3_37 uz3_37 L fw37 hg hE o_a0 i1 i2 H locs ls hw hl
    refine lv_aload_n hx hb dX0_change_37 rfl (lv_at hl 0 rfl) ?_
    obtain ⟨r_2, er_2, m_r_2, o_r_2⟩ := (show ∃ r, fR fw37 a0 11 = some r ∧ r ∈ L0 ∧ ArI fw37 r cy.2.1 16 from hg.2.1 _ m_a0 0 11 o_a0)
    refine q_getr (ci := 0) (C := RX0) (T := TX0) (N := 15) hx hb hts (fun w h => List.mem_cons_of_mem _ (mfX00 w h)) hown hK hw m_a0 o_a0 rfl 11 (by decide) (hts _ (List.mem_cons_of_mem _ (mr3 _ (List.mem_of_getElem? (i := 2) rfl)))) (fun _ h => h) rfl er_2 dX0_change_38 ?_
    refine lv_iload_n hx hb dX0_change_41 rfl (lv_at hl 3 rfl) ?_
    refine lv_iload_n hx hb dX0_change_42 rfl (lv_at hl 1 rfl) ?_
    refine q_iast hx hb hK hw m_r_2 1 o_r_2 rfl ⟨lz3_37, uz3_37⟩ (by omega) (by omega) dX0_change_43 (fun H locs hw => ?_)
    have oo := o_r_2
    obtain ⟨f_3, ef_3⟩ : ∃ g : Nat → va_E, g = aU fw37 r_2 z3_37 (iI x1) := ⟨_, rfl⟩
    have hX : Ef cy fw37 f_3 := by rw [ef_3]; exact Ef_aU oo
    have hg : GI cy L0 f_3 := by rw [ef_3]; exact hg.putA oo
    rw [← ef_3] at hw
    have hE := hE.trans hX
    have o_a0 := hX.1.1.1 _ _ o_a0
    refine lv_aload_n hx hb dX0_change_44 rfl (lv_at hl 0 rfl) ?_
    obtain ⟨r_4, er_4, m_r_4, o_r_4⟩ := (show ∃ r, fR f_3 a0 12 = some r ∧ r ∈ L0 ∧ ArI f_3 r cy.2.1 16 from hg.2.1 _ m_a0 0 12 o_a0)
    refine q_getr (ci := 0) (C := RX0) (T := TX0) (N := 15) hx hb hts (fun w h => List.mem_cons_of_mem _ (mfX00 w h)) hown hK hw m_a0 o_a0 rfl 12 (by decide) (hts _ (List.mem_cons_of_mem _ (mr3 _ (List.mem_of_getElem? (i := 3) rfl)))) (fun _ h => h) rfl er_4 dX0_change_45 ?_
    refine lv_iload_n hx hb dX0_change_48 rfl (lv_at hl 3 rfl) ?_
    refine lv_iload_n hx hb dX0_change_49 rfl (lv_at hl 2 rfl) ?_
    refine q_iast hx hb hK hw m_r_4 1 o_r_4 rfl ⟨lz3_37, uz3_37⟩ (by omega) (by omega) dX0_change_50 (fun H locs hw => ?_)
    have oo := o_r_4
    obtain ⟨f_5, ef_5⟩ : ∃ g : Nat → va_E, g = aU f_3 r_4 z3_37 (iI x2) := ⟨_, rfl⟩
    have hX : Ef cy f_3 f_5 := by rw [ef_5]; exact Ef_aU oo
    have hg : GI cy L0 f_5 := by rw [ef_5]; exact hg.putA oo
    rw [← ef_5] at hw
    have hE := hE.trans hX
    have o_a0 := hX.1.1.1 _ _ o_a0
    refine q_iconst hx hb dX0_change_51 ?_
    exact q_ret_z hx hb hr hlocks hK hAe hw (by omega) (Nat.le_of_ble_eq_true rfl) (Nat.le_of_ble_eq_true rfl) dX0_change_52 (by exact ⟨rfl, hg, hE, by omega⟩)
  refine q_icmp_ne (tgt := 37) hx hb dX0_change_8 (by decide) ⟨lx_1, ux_1⟩ ⟨by decide, by decide⟩ (fun c8 => ?_) (fun c8 => ?_)
  · exact J37 x_1 lx_1 ux_1 L0 f0 hg hE o_a0 (by omega) (by omega) _ _ _ hw (lv_sub hl [1, 2, 3, 0] rfl)
  · refine lv_aload_n hx hb dX0_change_11 rfl (lv_at hl 1 rfl) ?_
    refine q_geti (ci := 0) (C := RX0) (T := TX0) (N := 15) hx hb hts (fun w h => List.mem_cons_of_mem _ (mfX00 w h)) hown hK hw m_a0 o_a0 rfl 10 (by decide) (hts _ (List.mem_cons_of_mem _ (mr14 _ (List.mem_of_getElem? (i := 9) rfl)))) (fun _ h => h) rfl dX0_change_12 (fun x_6 lx_6 ux_6 ex_6 => ?_)
    have bx_6 : 0 ≤ x_6 ∧ x_6 ≤ 16 := by rw [ex_6]; exact hg.1 _ m_a0 0 10 o_a0
    refine q_bipush hx hb dX0_change_15 rfl ?_
    refine q_icmp_lt (tgt := 22) hx hb dX0_change_17 (by decide) ⟨lx_6, ux_6⟩ ⟨by decide, by decide⟩ (fun c17 => ?_) (fun c17 => ?_)
    · refine lv_aload_n hx hb dX0_change_22 rfl (lv_at hl 1 rfl) ?_
      refine q_geti (ci := 0) (C := RX0) (T := TX0) (N := 15) hx hb hts (fun w h => List.mem_cons_of_mem _ (mfX00 w h)) hown hK hw m_a0 o_a0 rfl 10 (by decide) (hts _ (List.mem_cons_of_mem _ (mr14 _ (List.mem_of_getElem? (i := 9) rfl)))) (fun _ h => h) rfl dX0_change_23 (fun x_7 lx_7 ux_7 ex_7 => ?_)
      have bx_7 : 0 ≤ x_7 ∧ x_7 ≤ 16 := by rw [ex_7]; exact hg.1 _ m_a0 0 10 o_a0
      refine lv_istore_n (lv' := [(3, .int (iI x_7)), (0, .ref a0), (1, .int (iI x1)), (2, .int (iI x2))]) hx hb dX0_change_26 rfl hl (by decide) rfl (fun ls hl => ?_)
      refine lv_aload_n hx hb dX0_change_27 rfl (lv_at hl 1 rfl) ?_
      refine lv_dup hx hb dX0_change_28 rfl ?_
      refine q_geti (ci := 0) (C := RX0) (T := TX0) (N := 15) hx hb hts (fun w h => List.mem_cons_of_mem _ (mfX00 w h)) hown hK hw m_a0 o_a0 rfl 10 (by decide) (hts _ (List.mem_cons_of_mem _ (mr14 _ (List.mem_of_getElem? (i := 9) rfl)))) (fun _ h => h) rfl dX0_change_29 (fun x_8 lx_8 ux_8 ex_8 => ?_)
      have bx_8 : 0 ≤ x_8 ∧ x_8 ≤ 16 := by rw [ex_8]; exact hg.1 _ m_a0 0 10 o_a0
      refine q_iconst hx hb dX0_change_32 ?_
      first | refine q_iadd hx hb dX0_change_33 ⟨by omega, by omega⟩ (fun x_9 lx_9 ux_9 ex_9 => ?_) | refine q_iaddw hx hb dX0_change_33 (fun x_9 lx_9 ux_9 _ => ?_)
      refine q_puti (ci := 0) (C := RX0) (T := TX0) (N := 15) hx hb hts (fun w h => List.mem_cons_of_mem _ (mfX00 w h)) hown hK hw m_a0 o_a0 rfl 10 (by decide) (hts _ (List.mem_cons_of_mem _ (mr14 _ (List.mem_of_getElem? (i := 9) rfl)))) (fun _ h => h) tyX0 tyX0_ok nmX0 rfl (ty := .int) (by decide +kernel) rfl rfl dX0_change_34 (fun H locs hw => ?_)
      have oo := o_a0
      obtain ⟨f_10, ef_10⟩ : ∃ g : Nat → va_E, g = pU f0 a0 10 (.int (iI x_9)) := ⟨_, rfl⟩
      have hX : Ef cy f0 f_10 := by rw [ef_10]; exact Ef_pU oo rfl rfl (by decide)
      have hg : GI cy L0 f_10 := by rw [ef_10]; exact hg.putI oo rfl ⟨lx_9, ux_9⟩ (by show 0 ≤ x_9 ∧ x_9 ≤ 16; omega)
      rw [← ef_10] at hw
      have hE := hE.trans hX
      have o_a0 := hX.1.1.1 _ _ o_a0
      have vf_10 : fI f_10 a0 10 = x_9 := by rw [ef_10]; exact fI_pU_self oo rfl ⟨lx_9, ux_9⟩
      exact J37 x_7 lx_7 ux_7 L0 f_10 hg hE o_a0 (by omega) (by omega) _ _ _ hw (lv_sub hl [1, 2, 3, 0] rfl)
    · refine q_iconst hx hb dX0_change_20 ?_
      exact q_ret_z hx hb hr hlocks hK hAe hw (by omega) (Nat.le_of_ble_eq_true rfl) (Nat.le_of_ble_eq_true rfl) dX0_change_21 (by exact ⟨rfl, hg, hE, by omega⟩)
set_option maxHeartbeats 4000000 in
set_option maxRecDepth 100000 in
theorem c_X0_undoChange_z {Z : Zt} (zo : Zok Z) (l : Launch) (D : va_G) (cy : Cy) (L0 : List Nat) (f0 : Nat → va_E) (a0 : Nat) (x1 : Int) (lx1 : -2147483648 ≤ x1) (ux1 : x1 ≤ 2147483647) (m_a0 : a0 ∈ L0) (o_a0 : Ob f0 a0 0) (hg : GI cy L0 f0) : Ci Z l yX0_undoChange (Cond.code yX0_undoChange cX0_undoChange 4 (some .int) :: TB) ({ frames := 1, cells := 0, slots := 0, locals := 22 } : Room) 0 0 D (tq cy) [.ref a0, .int (iI x1)] L0 f0 (fun (r : Int) (L1 : List Nat) (f1 : Nat → va_E) => L0 = L1 ∧ GI cy L0 f1 ∧ Ef cy f0 f1 ∧ (0 ≤ r ∧ r ≤ 2)) := by
  refine Ci.enter (cc := cX0_undoChange) (n := 4) rfl (plainFor_of_name (by decide)) (Nat.le_of_ble_eq_true rfl) ?_
  intro p e s m below meth c ls A hx hb hr hts hown hlocks hnm hml hK hA hAe hw hZ hl
  have hown : s.vm.findClass RX0 = some m.cls := hown
  have hl : lv_has ls 4 [(0, .ref a0), (1, .int (iI x1))] := hl
  have hN : ZN s := (zo.2.2.2.2 _ _ _ hZ).2
  have hE : Ef cy f0 f0 := Ef.refl cy f0
  have bb : 0 ≤ fI f0 a0 10 ∧ fI f0 a0 10 ≤ 16 := hg.1 _ m_a0 0 10 o_a0
  refine lv_aload_n hx hb dX0_undoChange_0 rfl (lv_at hl 0 rfl) ?_
  refine lv_iload_n hx hb dX0_undoChange_1 rfl (lv_at hl 1 rfl) ?_
  refine q_call_i hA hK hw (va_runV (As := [.int (iI x1)]) (rest := []) ⟨hx, hb, hml, hown, hts⟩ (c_X0_changeOf zo l D cy L0 f0 a0 x1 lx1 ux1 m_a0 o_a0 hg _) (cwV 1 hts (gT (inV (mr26 _ (List.mem_of_getElem? (i := 15) rfl)) (mr26 _ (List.mem_of_getElem? (i := 16) rfl)) (mr26 _ (List.mem_of_getElem? (i := 17) rfl)) (mr2 _ (List.mem_of_getElem? (i := 9) rfl)) (mr26 _ (List.mem_of_getElem? (i := 18) rfl)))) rfl rfl rfl (by decide +kernel) ⟨Nat.le_of_ble_eq_true rfl, Nat.le_of_ble_eq_true rfl⟩) (Wd.preV zo hA hZ hw hK m_a0 o_a0 rfl) rfl rfl hl.1 rfl (lv_room (Nat.le_of_ble_eq_true rfl)) dX0_undoChange_2 ⟨Nat.le_of_ble_eq_true rfl, Nat.le_of_ble_eq_true rfl⟩) (fun x_1 L1 f1 H locs lx_1 ux_1 ex_1 hw => ?_)
  obtain ⟨rfl, rfl, ex_1⟩ := ex_1
  refine lv_istore_n (lv' := [(2, .int (iI x_1)), (0, .ref a0), (1, .int (iI x1))]) hx hb dX0_undoChange_5 rfl hl (by decide) rfl (fun ls hl => ?_)
  refine lv_iload_n hx hb dX0_undoChange_6 rfl (lv_at hl 0 rfl) ?_
  refine q_iconst hx hb dX0_undoChange_7 ?_
  refine q_icmp_ne (tgt := 13) hx hb dX0_undoChange_8 (by decide) ⟨lx_1, ux_1⟩ ⟨by decide, by decide⟩ (fun c8 => ?_) (fun c8 => ?_)
  · refine lv_aload_n hx hb dX0_undoChange_13 rfl (lv_at hl 1 rfl) ?_
    obtain ⟨r_2, er_2, m_r_2, o_r_2⟩ := (show ∃ r, fR f0 a0 12 = some r ∧ r ∈ L0 ∧ ArI f0 r cy.2.1 16 from hg.2.1 _ m_a0 0 12 o_a0)
    refine q_getr (ci := 0) (C := RX0) (T := TX0) (N := 15) hx hb hts (fun w h => List.mem_cons_of_mem _ (mfX00 w h)) hown hK hw m_a0 o_a0 rfl 12 (by decide) (hts _ (List.mem_cons_of_mem _ (mr3 _ (List.mem_of_getElem? (i := 3) rfl)))) (fun _ h => h) rfl er_2 dX0_undoChange_14 ?_
    refine lv_iload_n hx hb dX0_undoChange_17 rfl (lv_at hl 0 rfl) ?_
    refine q_iald hx hb hK hw m_r_2 1 o_r_2 rfl ⟨lx_1, ux_1⟩ (by omega) (by omega) dX0_undoChange_18 (fun x_3 lx_3 ux_3 ex_3 => ?_)
    refine q_iconst hx hb dX0_undoChange_19 ?_
    refine q_icmp_ne (tgt := 27) hx hb dX0_undoChange_20 (by decide) ⟨lx_3, ux_3⟩ ⟨by decide, by decide⟩ (fun c20 => ?_) (fun c20 => ?_)
    · refine q_iconst hx hb dX0_undoChange_27 ?_
      refine lv_istore_n (lv' := [(3, .int (iI 2)), (2, .int (iI x_1)), (0, .ref a0), (1, .int (iI x1))]) hx hb dX0_undoChange_28 rfl hl (by decide) rfl (fun ls hl => ?_)
      refine lv_aload_n hx hb dX0_undoChange_29 rfl (lv_at hl 2 rfl) ?_
      refine lv_iload_n hx hb dX0_undoChange_30 rfl (lv_at hl 1 rfl) ?_
      refine q_call_v hA hK hw (va_runV (As := [.int (iI x_1)]) (rest := []) ⟨hx, hb, hml, hown, hts⟩ (c_X0_forget_z zo l D cy L0 f0 a0 x_1 lx_1 ux_1 m_a0 o_a0 hg (by omega) (by omega) (by omega) _) (cwV 1 hts (gT (inV (mr28 _ (List.mem_of_getElem? (i := 15) rfl)) (mr28 _ (List.mem_of_getElem? (i := 16) rfl)) (mr28 _ (List.mem_of_getElem? (i := 17) rfl)) (mr2 _ (List.mem_of_getElem? (i := 9) rfl)) (mr28 _ (List.mem_of_getElem? (i := 18) rfl)))) rfl rfl rfl (by decide +kernel) ⟨Nat.le_of_ble_eq_true rfl, Nat.le_of_ble_eq_true rfl⟩) (Wd.preV zo hA hZ hw hK m_a0 o_a0 rfl) rfl rfl hl.1 rfl (lv_room (Nat.le_of_ble_eq_true rfl)) dX0_undoChange_31 ⟨Nat.le_of_ble_eq_true rfl, Nat.le_of_ble_eq_true rfl⟩) (fun L1 f_5 H locs ex_4 hw => ?_)
      obtain ⟨rfl, hg, hX, ex_4⟩ := ex_4
      have hE := hE.trans hX
      have o_a0 := hX.1.1.1 _ _ o_a0
      refine lv_iload_n hx hb dX0_undoChange_34 rfl (lv_at hl 0 rfl) ?_
      exact q_ret_i hx hb hr hlocks hK hAe hw ⟨by decide, by decide⟩ (Nat.le_of_ble_eq_true rfl) (Nat.le_of_ble_eq_true rfl) dX0_undoChange_35 (by exact ⟨rfl, hg, hE, by omega⟩)
    · refine q_iconst hx hb dX0_undoChange_23 ?_
      refine lv_goto (tgt := 28) hx hb dX0_undoChange_24 (by decide) ?_
      refine lv_istore_n (lv' := [(3, .int (iI 1)), (2, .int (iI x_1)), (0, .ref a0), (1, .int (iI x1))]) hx hb dX0_undoChange_28 rfl hl (by decide) rfl (fun ls hl => ?_)
      refine lv_aload_n hx hb dX0_undoChange_29 rfl (lv_at hl 2 rfl) ?_
      refine lv_iload_n hx hb dX0_undoChange_30 rfl (lv_at hl 1 rfl) ?_
      refine q_call_v hA hK hw (va_runV (As := [.int (iI x_1)]) (rest := []) ⟨hx, hb, hml, hown, hts⟩ (c_X0_forget_z zo l D cy L0 f0 a0 x_1 lx_1 ux_1 m_a0 o_a0 hg (by omega) (by omega) (by omega) _) (cwV 1 hts (gT (inV (mr28 _ (List.mem_of_getElem? (i := 15) rfl)) (mr28 _ (List.mem_of_getElem? (i := 16) rfl)) (mr28 _ (List.mem_of_getElem? (i := 17) rfl)) (mr2 _ (List.mem_of_getElem? (i := 9) rfl)) (mr28 _ (List.mem_of_getElem? (i := 18) rfl)))) rfl rfl rfl (by decide +kernel) ⟨Nat.le_of_ble_eq_true rfl, Nat.le_of_ble_eq_true rfl⟩) (Wd.preV zo hA hZ hw hK m_a0 o_a0 rfl) rfl rfl hl.1 rfl (lv_room (Nat.le_of_ble_eq_true rfl)) dX0_undoChange_31 ⟨Nat.le_of_ble_eq_true rfl, Nat.le_of_ble_eq_true rfl⟩) (fun L1 f_7 H locs ex_6 hw => ?_)
      obtain ⟨rfl, hg, hX, ex_6⟩ := ex_6
      have hE := hE.trans hX
      have o_a0 := hX.1.1.1 _ _ o_a0
      refine lv_iload_n hx hb dX0_undoChange_34 rfl (lv_at hl 0 rfl) ?_
      exact q_ret_i hx hb hr hlocks hK hAe hw ⟨by decide, by decide⟩ (Nat.le_of_ble_eq_true rfl) (Nat.le_of_ble_eq_true rfl) dX0_undoChange_35 (by exact ⟨rfl, hg, hE, by omega⟩)
  · refine q_iconst hx hb dX0_undoChange_11 ?_
    exact q_ret_i hx hb hr hlocks hK hAe hw ⟨by decide, by decide⟩ (Nat.le_of_ble_eq_true rfl) (Nat.le_of_ble_eq_true rfl) dX0_undoChange_12 (by exact ⟨rfl, hg, hE, by omega⟩)
set_option maxHeartbeats 4000000 in
set_option maxRecDepth 100000 in
theorem c_X0_seek_z {Z : Zt} (zo : Zok Z) (l : Launch) (D : va_G) (cy : Cy) (L0 : List Nat) (f0 : Nat → va_E) (a0 : Nat) (x1 : Int) (lx1 : -2147483648 ≤ x1) (ux1 : x1 ≤ 2147483647) (x2 : Int) (lx2 : -2147483648 ≤ x2) (ux2 : x2 ≤ 2147483647) (m_a0 : a0 ∈ L0) (o_a0 : Ob f0 a0 0) (hg : GI cy L0 f0) : Ci Z l yX0_seek (Cond.code yX0_seek cX0_seek 8 (some .boolean) :: TB) ({ frames := 4, cells := 0, slots := 0, locals := 90 } : Room) 0 0 D (tq cy) [.ref a0, .int (iI x1), .int (iI x2)] L0 f0 (fun (r : Int) (L1 : List Nat) (f1 : Nat → va_E) => L0 = L1 ∧ GI cy L0 f1 ∧ Ef cy f0 f1 ∧ (r = 0 ∨ r = 1)) := by
  refine Ci.enter (cc := cX0_seek) (n := 8) rfl (plainFor_of_name (by decide)) (Nat.le_of_ble_eq_true rfl) ?_
  intro p e s m below meth c ls A hx hb hr hts hown hlocks hnm hml hK hA hAe hw hZ hl
  have hown : s.vm.findClass RX0 = some m.cls := hown
  have hl : lv_has ls 8 [(0, .ref a0), (1, .int (iI x1)), (2, .int (iI x2))] := hl
  have hN : ZN s := (zo.2.2.2.2 _ _ _ hZ).2
  have hE : Ef cy f0 f0 := Ef.refl cy f0
  refine lv_aload_n hx hb dX0_seek_0 rfl (lv_at hl 0 rfl) ?_
  refine lv_aload_n hx hb dX0_seek_1 rfl (lv_at hl 0 rfl) ?_
  refine lv_iload_n hx hb dX0_seek_2 rfl (lv_at hl 1 rfl) ?_
  refine q_call_i hA hK hw (va_runV (As := [.int (iI x1)]) (rest := [.ref a0]) ⟨hx, hb, hml, hown, hts⟩ (c_X0_ruledFrom zo l D cy L0 f0 a0 x1 lx1 ux1 m_a0 o_a0 hg _) (cwV 1 hts (gT (inV (mr29 _ (List.mem_of_getElem? (i := 14) rfl)) (mr29 _ (List.mem_of_getElem? (i := 15) rfl)) (mr29 _ (List.mem_of_getElem? (i := 16) rfl)) (mr2 _ (List.mem_of_getElem? (i := 9) rfl)) (mr29 _ (List.mem_of_getElem? (i := 17) rfl)))) rfl rfl rfl (by decide +kernel) ⟨Nat.le_of_ble_eq_true rfl, Nat.le_of_ble_eq_true rfl⟩) (Wd.preV zo hA hZ hw hK m_a0 o_a0 rfl) rfl rfl hl.1 rfl (lv_room (Nat.le_of_ble_eq_true rfl)) dX0_seek_3 ⟨Nat.le_of_ble_eq_true rfl, Nat.le_of_ble_eq_true rfl⟩) (fun x_1 L1 f1 H locs lx_1 ux_1 ex_1 hw => ?_)
  obtain ⟨rfl, rfl, ex_1⟩ := ex_1
  refine q_call_i hA hK hw (va_runV (As := [.int (iI x_1)]) (rest := []) ⟨hx, hb, hml, hown, hts⟩ (c_X0_keyFrom zo l D cy L0 f0 a0 x_1 lx_1 ux_1 m_a0 o_a0 hg _) (cwV 1 hts (gT (inV (mr26 _ (List.mem_of_getElem? (i := 10) rfl)) (mr24 _ (List.mem_of_getElem? (i := 13) rfl)) (mr24 _ (List.mem_of_getElem? (i := 14) rfl)) (mr2 _ (List.mem_of_getElem? (i := 9) rfl)) (mr24 _ (List.mem_of_getElem? (i := 15) rfl)))) rfl rfl rfl (by decide +kernel) ⟨Nat.le_of_ble_eq_true rfl, Nat.le_of_ble_eq_true rfl⟩) (Wd.preV zo hA hZ hw hK m_a0 o_a0 rfl) rfl rfl hl.1 rfl (lv_room (Nat.le_of_ble_eq_true rfl)) dX0_seek_6 ⟨Nat.le_of_ble_eq_true rfl, Nat.le_of_ble_eq_true rfl⟩) (fun x_2 L1 f1 H locs lx_2 ux_2 ex_2 hw => ?_)
  obtain ⟨rfl, rfl, ex_2⟩ := ex_2
  refine lv_istore_n (lv' := [(3, .int (iI x_2)), (0, .ref a0), (1, .int (iI x1)), (2, .int (iI x2))]) hx hb dX0_seek_9 rfl hl (by decide) rfl (fun ls hl => ?_)
  refine lv_iload_n hx hb dX0_seek_10 rfl (lv_at hl 0 rfl) ?_
  refine q_iconst hx hb dX0_seek_11 ?_
  have J37 : ∀ (z3_37 : Int) (lz3_37 : -2147483648 ≤ z3_37) (uz3_37 : z3_37 ≤ 2147483647) (H : Heap) (locs : List Loc) (ls : Array Slot) (hw : Wd D A s.heap L0 f0 H locs) (hl : lv_has ls 8 [(0, .ref a0), (1, .int (iI x1)), (2, .int (iI x2)), (3, .int (iI z3_37))]), W p l e ({ frames := 4, cells := 0, slots := 0, locals := 90 } : Room) s m ([.ref a0, .int (iI x1), .int (iI x2)] : List Value).toArray below meth c H locs (0 + 0 + 0) (0 + 0 + 0) (MQ below (Qi D (tq cy) L0 f0 s.heap.size (fun (r : Int) (L1 : List Nat) (f1 : Nat → va_E) => L0 = L1 ∧ GI cy L0 f1 ∧ Ef cy f0 f1 ∧ (r = 0 ∨ r = 1))) ([.ref a0, .int (iI x1), .int (iI x2)] : List Value).toArray s 0 0 A) (F0 m 37 ls []) := by
    intro z3_37 lz3_37 uz3_37 H locs ls hw hl
    refine q_iconst hx hb dX0_seek_37 ?_
    refine lv_istore (lv' := [(4, .int (iI 0)), (0, .ref a0), (1, .int (iI x1)), (2, .int (iI x2)), (3, .int (iI z3_37))]) hx hb dX0_seek_38 hl (by decide) rfl (fun ls hl => ?_)
    have J40 : ∀ (n40 : Nat) (y3_40 : Int) (ly3_40 : -2147483648 ≤ y3_40) (uy3_40 : y3_40 ≤ 2147483647) (y4_40 : Int) (ly4_40 : -2147483648 ≤ y4_40) (uy4_40 : y4_40 ≤ 2147483647) (i1 : 0 ≤ y4_40) (hn40 : ((2147483647 : Int) - y4_40).toNat < n40) (H : Heap) (locs : List Loc) (ls : Array Slot) (hw : Wd D A s.heap L0 f0 H locs) (hl : lv_has ls 8 [(0, .ref a0), (1, .int (iI x1)), (2, .int (iI x2)), (3, .int (iI y3_40)), (4, .int (iI y4_40))]), W p l e ({ frames := 4, cells := 0, slots := 0, locals := 90 } : Room) s m ([.ref a0, .int (iI x1), .int (iI x2)] : List Value).toArray below meth c H locs (0 + 0 + 0) (0 + 0 + 0) (MQ below (Qi D (tq cy) L0 f0 s.heap.size (fun (r : Int) (L1 : List Nat) (f1 : Nat → va_E) => L0 = L1 ∧ GI cy L0 f1 ∧ Ef cy f0 f1 ∧ (r = 0 ∨ r = 1))) ([.ref a0, .int (iI x1), .int (iI x2)] : List Value).toArray s 0 0 A) (F0 m 40 ls []) := by
      intro n40
      induction n40 with
      | zero => intro y3_40 ly3_40 uy3_40 y4_40 ly4_40 uy4_40 i1 hn40; exact absurd hn40 (Nat.not_lt_zero _)
      | succ n40 ih40 =>
        intro y3_40 ly3_40 uy3_40 y4_40 ly4_40 uy4_40 i1 hn40 H locs ls hw hl
        refine lv_iload hx hb dX0_seek_40 (lv_at hl 4 rfl) ?_
        refine lv_aload_n hx hb dX0_seek_42 rfl (lv_at hl 0 rfl) ?_
        refine q_geti (ci := 0) (C := RX0) (T := TX0) (N := 15) hx hb hts (fun w h => List.mem_cons_of_mem _ (mfX00 w h)) hown hK hw m_a0 o_a0 rfl 10 (by decide) (hts _ (List.mem_cons_of_mem _ (mr14 _ (List.mem_of_getElem? (i := 9) rfl)))) (fun _ h => h) rfl dX0_seek_43 (fun x_3 lx_3 ux_3 ex_3 => ?_)
        have bx_3 : 0 ≤ x_3 ∧ x_3 ≤ 16 := by rw [ex_3]; exact hg.1 _ m_a0 0 10 o_a0
        have J77 : ∀ (H : Heap) (locs : List Loc) (ls : Array Slot) (hw : Wd D A s.heap L0 f0 H locs) (hl : lv_has ls 8 [(0, .ref a0), (1, .int (iI x1)), (2, .int (iI x2)), (3, .int (iI y3_40))]), W p l e ({ frames := 4, cells := 0, slots := 0, locals := 90 } : Room) s m ([.ref a0, .int (iI x1), .int (iI x2)] : List Value).toArray below meth c H locs (0 + 0 + 0) (0 + 0 + 0) (MQ below (Qi D (tq cy) L0 f0 s.heap.size (fun (r : Int) (L1 : List Nat) (f1 : Nat → va_E) => L0 = L1 ∧ GI cy L0 f1 ∧ Ef cy f0 f1 ∧ (r = 0 ∨ r = 1))) ([.ref a0, .int (iI x1), .int (iI x2)] : List Value).toArray s 0 0 A) (F0 m 77 ls []) := by
          intro H locs ls hw hl
          refine lv_aload_n hx hb dX0_seek_77 rfl (lv_at hl 0 rfl) ?_
          refine lv_iload_n hx hb dX0_seek_78 rfl (lv_at hl 3 rfl) ?_
          refine q_puti (ci := 0) (C := RX0) (T := TX0) (N := 15) hx hb hts (fun w h => List.mem_cons_of_mem _ (mfX00 w h)) hown hK hw m_a0 o_a0 rfl 14 (by decide) (hts _ (List.mem_cons_of_mem _ (mr29 _ (List.mem_of_getElem? (i := 11) rfl)))) (fun _ h => h) tyX0 tyX0_ok nmX0 rfl (ty := .int) (by decide +kernel) rfl rfl dX0_seek_79 (fun H locs hw => ?_)
          have oo := o_a0
          obtain ⟨f_4, ef_4⟩ : ∃ g : Nat → va_E, g = pU f0 a0 14 (.int (iI y3_40)) := ⟨_, rfl⟩
          have hX : Ef cy f0 f_4 := by rw [ef_4]; exact Ef_pU oo rfl rfl (by decide)
          have hg : GI cy L0 f_4 := by rw [ef_4]; exact hg.putI oo rfl ⟨ly3_40, uy3_40⟩ trivial
          rw [← ef_4] at hw
          have hE := hE.trans hX
          have o_a0 := hX.1.1.1 _ _ o_a0
          have vf_4 : fI f_4 a0 14 = y3_40 := by rw [ef_4]; exact fI_pU_self oo rfl ⟨ly3_40, uy3_40⟩
          refine lv_aload_n hx hb dX0_seek_82 rfl (lv_at hl 0 rfl) ?_
          refine lv_iload_n hx hb dX0_seek_83 rfl (lv_at hl 3 rfl) ?_
          refine q_iconst hx hb dX0_seek_84 ?_
          have J98 : ∀ (w0_98 : Int) (lw0_98 : -2147483648 ≤ w0_98) (uw0_98 : w0_98 ≤ 2147483647) (H : Heap) (locs : List Loc) (ls : Array Slot) (hw : Wd D A s.heap L0 f_4 H locs) (hl : lv_has ls 8 [(0, .ref a0), (1, .int (iI x1)), (2, .int (iI x2))]), W p l e ({ frames := 4, cells := 0, slots := 0, locals := 90 } : Room) s m ([.ref a0, .int (iI x1), .int (iI x2)] : List Value).toArray below meth c H locs (0 + 0 + 0) (0 + 0 + 0) (MQ below (Qi D (tq cy) L0 f0 s.heap.size (fun (r : Int) (L1 : List Nat) (f1 : Nat → va_E) => L0 = L1 ∧ GI cy L0 f1 ∧ Ef cy f0 f1 ∧ (r = 0 ∨ r = 1))) ([.ref a0, .int (iI x1), .int (iI x2)] : List Value).toArray s 0 0 A) (F0 m 98 ls [.int (iI w0_98), .ref a0]) := by
            intro w0_98 lw0_98 uw0_98 H locs ls hw hl
            refine q_puti (ci := 0) (C := RX0) (T := TX0) (N := 15) hx hb hts (fun w h => List.mem_cons_of_mem _ (mfX00 w h)) hown hK hw m_a0 o_a0 rfl 13 (by decide) (hts _ (List.mem_cons_of_mem _ (mr29 _ (List.mem_of_getElem? (i := 13) rfl)))) (fun _ h => h) tyX0 tyX0_ok nmX0 rfl (ty := .int) (by decide +kernel) rfl rfl dX0_seek_98 (fun H locs hw => ?_)
            have oo := o_a0
            obtain ⟨f_5, ef_5⟩ : ∃ g : Nat → va_E, g = pU f_4 a0 13 (.int (iI w0_98)) := ⟨_, rfl⟩
            have hX : Ef cy f_4 f_5 := by rw [ef_5]; exact Ef_pU oo rfl rfl (by decide)
            have hg : GI cy L0 f_5 := by rw [ef_5]; exact hg.putI oo rfl ⟨lw0_98, uw0_98⟩ trivial
            rw [← ef_5] at hw
            have hE := hE.trans hX
            have o_a0 := hX.1.1.1 _ _ o_a0
            have vf_5 : fI f_5 a0 13 = w0_98 := by rw [ef_5]; exact fI_pU_self oo rfl ⟨lw0_98, uw0_98⟩
            refine q_iconst hx hb dX0_seek_101 ?_
            refine lv_istore (lv' := [(4, .int (iI 0)), (0, .ref a0), (1, .int (iI x1)), (2, .int (iI x2))]) hx hb dX0_seek_102 hl (by decide) rfl (fun ls hl => ?_)
            have J104 : ∀ (n104 : Nat) (y4_104 : Int) (ly4_104 : -2147483648 ≤ y4_104) (uy4_104 : y4_104 ≤ 2147483647) (L : List Nat) (fw104 : Nat → va_E) (hg : GI cy L0 fw104) (hE : Ef cy f0 fw104) (o_a0 : Ob fw104 a0 0) (i1 : 0 ≤ y4_104) (hn104 : ((2147483647 : Int) - y4_104).toNat < n104) (H : Heap) (locs : List Loc) (ls : Array Slot) (hw : Wd D A s.heap L0 fw104 H locs) (hl : lv_has ls 8 [(0, .ref a0), (1, .int (iI x1)), (2, .int (iI x2)), (4, .int (iI y4_104))]), W p l e ({ frames := 4, cells := 0, slots := 0, locals := 90 } : Room) s m ([.ref a0, .int (iI x1), .int (iI x2)] : List Value).toArray below meth c H locs (0 + 0 + 0) (0 + 0 + 0) (MQ below (Qi D (tq cy) L0 f0 s.heap.size (fun (r : Int) (L1 : List Nat) (f1 : Nat → va_E) => L0 = L1 ∧ GI cy L0 f1 ∧ Ef cy f0 f1 ∧ (r = 0 ∨ r = 1))) ([.ref a0, .int (iI x1), .int (iI x2)] : List Value).toArray s 0 0 A) (F0 m 104 ls []) := by
              intro n104
              induction n104 with
              | zero => intro y4_104 ly4_104 uy4_104 L fw104 hg hE o_a0 i1 hn104; exact absurd hn104 (Nat.not_lt_zero _)
              | succ n104 ih104 =>
                intro y4_104 ly4_104 uy4_104 L fw104 hg hE o_a0 i1 hn104 H locs ls hw hl
                refine lv_iload hx hb dX0_seek_104 (lv_at hl 3 rfl) ?_
                refine lv_aload_n hx hb dX0_seek_106 rfl (lv_at hl 0 rfl) ?_
                refine q_geti (ci := 0) (C := RX0) (T := TX0) (N := 15) hx hb hts (fun w h => List.mem_cons_of_mem _ (mfX00 w h)) hown hK hw m_a0 o_a0 rfl 10 (by decide) (hts _ (List.mem_cons_of_mem _ (mr14 _ (List.mem_of_getElem? (i := 9) rfl)))) (fun _ h => h) rfl dX0_seek_107 (fun x_6 lx_6 ux_6 ex_6 => ?_)
                have bx_6 : 0 ≤ x_6 ∧ x_6 ≤ 16 := by rw [ex_6]; exact hg.1 _ m_a0 0 10 o_a0
                refine q_icmp_ge (tgt := 212) hx hb dX0_seek_110 (by decide) ⟨ly4_104, uy4_104⟩ ⟨lx_6, ux_6⟩ (fun c110 => ?_) (fun c110 => ?_)
                · refine lv_aload_n hx hb dX0_seek_212 rfl (lv_at hl 0 rfl) ?_
                  refine q_geti (ci := 0) (C := RX0) (T := TX0) (N := 15) hx hb hts (fun w h => List.mem_cons_of_mem _ (mfX00 w h)) hown hK hw m_a0 o_a0 rfl 14 (by decide) (hts _ (List.mem_cons_of_mem _ (mr29 _ (List.mem_of_getElem? (i := 11) rfl)))) (fun _ h => h) rfl dX0_seek_213 (fun x_7 lx_7 ux_7 ex_7 => ?_)
                  refine q_iconst hx hb dX0_seek_216 ?_
                  refine q_icmp_eq (tgt := 224) hx hb dX0_seek_217 (by decide) ⟨lx_7, ux_7⟩ ⟨by decide, by decide⟩ (fun c217 => ?_) (fun c217 => ?_)
                  · refine q_iconst hx hb dX0_seek_224 ?_
                    exact q_ret_z hx hb hr hlocks hK hAe hw (by omega) (Nat.le_of_ble_eq_true rfl) (Nat.le_of_ble_eq_true rfl) dX0_seek_225 (by exact ⟨rfl, hg, hE, by first | trivial | omega⟩)
                  · refine q_iconst hx hb dX0_seek_220 ?_
                    refine lv_goto (tgt := 225) hx hb dX0_seek_221 (by decide) ?_
                    exact q_ret_z hx hb hr hlocks hK hAe hw (by omega) (Nat.le_of_ble_eq_true rfl) (Nat.le_of_ble_eq_true rfl) dX0_seek_225 (by exact ⟨rfl, hg, hE, by first | trivial | omega⟩)
                · refine lv_aload_n hx hb dX0_seek_113 rfl (lv_at hl 0 rfl) ?_
                  obtain ⟨r_8, er_8, m_r_8, o_r_8⟩ := (show ∃ r, fR fw104 a0 12 = some r ∧ r ∈ L0 ∧ ArI fw104 r cy.2.1 16 from hg.2.1 _ m_a0 0 12 o_a0)
                  refine q_getr (ci := 0) (C := RX0) (T := TX0) (N := 15) hx hb hts (fun w h => List.mem_cons_of_mem _ (mfX00 w h)) hown hK hw m_a0 o_a0 rfl 12 (by decide) (hts _ (List.mem_cons_of_mem _ (mr3 _ (List.mem_of_getElem? (i := 3) rfl)))) (fun _ h => h) rfl er_8 dX0_seek_114 ?_
                  refine lv_iload hx hb dX0_seek_117 (lv_at hl 3 rfl) ?_
                  refine q_iald hx hb hK hw m_r_8 1 o_r_8 rfl ⟨ly4_104, uy4_104⟩ (by omega) (by omega) dX0_seek_119 (fun x_9 lx_9 ux_9 ex_9 => ?_)
                  refine lv_istore (lv' := [(5, .int (iI x_9)), (0, .ref a0), (1, .int (iI x1)), (2, .int (iI x2)), (4, .int (iI y4_104))]) hx hb dX0_seek_120 hl (by decide) rfl (fun ls hl => ?_)
                  refine lv_aload_n hx hb dX0_seek_122 rfl (lv_at hl 1 rfl) ?_
                  obtain ⟨r_10, er_10, m_r_10, o_r_10⟩ := (show ∃ r, fR fw104 a0 11 = some r ∧ r ∈ L0 ∧ ArI fw104 r cy.2.1 16 from hg.2.1 _ m_a0 0 11 o_a0)
                  refine q_getr (ci := 0) (C := RX0) (T := TX0) (N := 15) hx hb hts (fun w h => List.mem_cons_of_mem _ (mfX00 w h)) hown hK hw m_a0 o_a0 rfl 11 (by decide) (hts _ (List.mem_cons_of_mem _ (mr3 _ (List.mem_of_getElem? (i := 2) rfl)))) (fun _ h => h) rfl er_10 dX0_seek_123 ?_
                  refine lv_iload hx hb dX0_seek_126 (lv_at hl 4 rfl) ?_
                  refine q_iald hx hb hK hw m_r_10 1 o_r_10 rfl ⟨ly4_104, uy4_104⟩ (by omega) (by omega) dX0_seek_128 (fun x_11 lx_11 ux_11 ex_11 => ?_)
                  refine lv_istore (lv' := [(6, .int (iI x_11)), (5, .int (iI x_9)), (0, .ref a0), (1, .int (iI x1)), (2, .int (iI x2)), (4, .int (iI y4_104))]) hx hb dX0_seek_129 hl (by decide) rfl (fun ls hl => ?_)
                  refine lv_iload hx hb dX0_seek_131 (lv_at hl 1 rfl) ?_
                  refine lv_iload_n hx hb dX0_seek_133 rfl (lv_at hl 3 rfl) ?_
                  have J149 : ∀ (H : Heap) (locs : List Loc) (ls : Array Slot) (hw : Wd D A s.heap L0 fw104 H locs) (hl : lv_has ls 8 [(0, .ref a0), (1, .int (iI x1)), (2, .int (iI x2)), (4, .int (iI y4_104)), (5, .int (iI x_9)), (6, .int (iI x_11))]), W p l e ({ frames := 4, cells := 0, slots := 0, locals := 90 } : Room) s m ([.ref a0, .int (iI x1), .int (iI x2)] : List Value).toArray below meth c H locs (0 + 0 + 0) (0 + 0 + 0) (MQ below (Qi D (tq cy) L0 f0 s.heap.size (fun (r : Int) (L1 : List Nat) (f1 : Nat → va_E) => L0 = L1 ∧ GI cy L0 f1 ∧ Ef cy f0 f1 ∧ (r = 0 ∨ r = 1))) ([.ref a0, .int (iI x1), .int (iI x2)] : List Value).toArray s 0 0 A) (F0 m 149 ls []) := by
                    intro H locs ls hw hl
                    refine q_iconst hx hb dX0_seek_149 ?_
                    refine lv_goto (tgt := 154) hx hb dX0_seek_150 (by decide) ?_
                    refine lv_istore (lv' := [(7, .int (iI 1)), (0, .ref a0), (1, .int (iI x1)), (2, .int (iI x2)), (4, .int (iI y4_104)), (5, .int (iI x_9)), (6, .int (iI x_11))]) hx hb dX0_seek_154 hl (by decide) rfl (fun ls hl => ?_)
                    refine lv_iload hx hb dX0_seek_156 (lv_at hl 5 rfl) ?_
                    refine q_iconst hx hb dX0_seek_158 ?_
                    have J206 : ∀ (L : List Nat) (fw206 : Nat → va_E) (hg : GI cy L0 fw206) (hE : Ef cy f0 fw206) (o_a0 : Ob fw206 a0 0) (H : Heap) (locs : List Loc) (ls : Array Slot) (hw : Wd D A s.heap L0 fw206 H locs) (hl : lv_has ls 8 [(0, .ref a0), (1, .int (iI x1)), (2, .int (iI x2)), (4, .int (iI y4_104))]), W p l e ({ frames := 4, cells := 0, slots := 0, locals := 90 } : Room) s m ([.ref a0, .int (iI x1), .int (iI x2)] : List Value).toArray below meth c H locs (0 + 0 + 0) (0 + 0 + 0) (MQ below (Qi D (tq cy) L0 f0 s.heap.size (fun (r : Int) (L1 : List Nat) (f1 : Nat → va_E) => L0 = L1 ∧ GI cy L0 f1 ∧ Ef cy f0 f1 ∧ (r = 0 ∨ r = 1))) ([.ref a0, .int (iI x1), .int (iI x2)] : List Value).toArray s 0 0 A) (F0 m 206 ls []) := by
                      intro L fw206 hg hE o_a0 H locs ls hw hl
                      obtain ⟨x_12, lx_12, ux_12, hx_12, ex_12⟩ := q_inc y4_104 (1)
                      try (replace ex_12 : x_12 = y4_104 + (1) := by omega)
                      refine lv_iinc (v := iI x_12) (lv' := [(4, .int (iI x_12)), (0, .ref a0), (1, .int (iI x1)), (2, .int (iI x2))]) hx hb dX0_seek_206 hl (k := 3) rfl hx_12 (by decide) rfl (fun ls hl => ?_)
                      refine lv_goto (tgt := 104) hx hb dX0_seek_209 (by decide) ?_
                      exact ih104 x_12 lx_12 ux_12 L0 fw206 hg hE o_a0 (by omega) (by omega) _ _ _ hw (lv_sub hl [1, 2, 3, 0] rfl)
                    refine q_icmp_eq (tgt := 206) hx hb dX0_seek_159 (by decide) ⟨lx_9, ux_9⟩ ⟨by decide, by decide⟩ (fun c159 => ?_) (fun c159 => ?_)
                    · exact J206 L0 fw104 hg hE o_a0 _ _ _ hw (lv_sub hl [1, 2, 3, 4] rfl)
                    · refine lv_iload hx hb dX0_seek_162 (lv_at hl 0 rfl) ?_
                      refine q_if_eq (tgt := 206) hx hb dX0_seek_164 (by decide) ⟨by decide, by decide⟩ (fun c164 => ?_) (fun c164 => ?_)
                      · exact J206 L0 fw104 hg hE o_a0 _ _ _ hw (lv_sub hl [1, 2, 3, 4] rfl)
                      · refine lv_iload hx hb dX0_seek_167 (lv_at hl 5 rfl) ?_
                        refine lv_aload_n hx hb dX0_seek_169 rfl (lv_at hl 1 rfl) ?_
                        refine q_geti (ci := 0) (C := RX0) (T := TX0) (N := 15) hx hb hts (fun w h => List.mem_cons_of_mem _ (mfX00 w h)) hown hK hw m_a0 o_a0 rfl 13 (by decide) (hts _ (List.mem_cons_of_mem _ (mr29 _ (List.mem_of_getElem? (i := 13) rfl)))) (fun _ h => h) rfl dX0_seek_170 (fun x_13 lx_13 ux_13 ex_13 => ?_)
                        have J194 : ∀ (H : Heap) (locs : List Loc) (ls : Array Slot) (hw : Wd D A s.heap L0 fw104 H locs) (hl : lv_has ls 8 [(0, .ref a0), (1, .int (iI x1)), (2, .int (iI x2)), (4, .int (iI y4_104)), (5, .int (iI x_9)), (6, .int (iI x_11))]), W p l e ({ frames := 4, cells := 0, slots := 0, locals := 90 } : Room) s m ([.ref a0, .int (iI x1), .int (iI x2)] : List Value).toArray below meth c H locs (0 + 0 + 0) (0 + 0 + 0) (MQ below (Qi D (tq cy) L0 f0 s.heap.size (fun (r : Int) (L1 : List Nat) (f1 : Nat → va_E) => L0 = L1 ∧ GI cy L0 f1 ∧ Ef cy f0 f1 ∧ (r = 0 ∨ r = 1))) ([.ref a0, .int (iI x1), .int (iI x2)] : List Value).toArray s 0 0 A) (F0 m 194 ls []) := by
                          intro H locs ls hw hl
                          refine lv_aload_n hx hb dX0_seek_194 rfl (lv_at hl 0 rfl) ?_
                          refine lv_iload hx hb dX0_seek_195 (lv_at hl 4 rfl) ?_
                          refine q_puti (ci := 0) (C := RX0) (T := TX0) (N := 15) hx hb hts (fun w h => List.mem_cons_of_mem _ (mfX00 w h)) hown hK hw m_a0 o_a0 rfl 13 (by decide) (hts _ (List.mem_cons_of_mem _ (mr29 _ (List.mem_of_getElem? (i := 13) rfl)))) (fun _ h => h) tyX0 tyX0_ok nmX0 rfl (ty := .int) (by decide +kernel) rfl rfl dX0_seek_197 (fun H locs hw => ?_)
                          have oo := o_a0
                          obtain ⟨f_14, ef_14⟩ : ∃ g : Nat → va_E, g = pU fw104 a0 13 (.int (iI x_9)) := ⟨_, rfl⟩
                          have hX : Ef cy fw104 f_14 := by rw [ef_14]; exact Ef_pU oo rfl rfl (by decide)
                          have hg : GI cy L0 f_14 := by rw [ef_14]; exact hg.putI oo rfl ⟨lx_9, ux_9⟩ trivial
                          rw [← ef_14] at hw
                          have hE := hE.trans hX
                          have o_a0 := hX.1.1.1 _ _ o_a0
                          have vf_14 : fI f_14 a0 13 = x_9 := by rw [ef_14]; exact fI_pU_self oo rfl ⟨lx_9, ux_9⟩
                          refine lv_aload_n hx hb dX0_seek_200 rfl (lv_at hl 0 rfl) ?_
                          refine lv_iload hx hb dX0_seek_201 (lv_at hl 5 rfl) ?_
                          refine q_puti (ci := 0) (C := RX0) (T := TX0) (N := 15) hx hb hts (fun w h => List.mem_cons_of_mem _ (mfX00 w h)) hown hK hw m_a0 o_a0 rfl 14 (by decide) (hts _ (List.mem_cons_of_mem _ (mr29 _ (List.mem_of_getElem? (i := 11) rfl)))) (fun _ h => h) tyX0 tyX0_ok nmX0 rfl (ty := .int) (by decide +kernel) rfl rfl dX0_seek_203 (fun H locs hw => ?_)
                          have oo := o_a0
                          obtain ⟨f_15, ef_15⟩ : ∃ g : Nat → va_E, g = pU f_14 a0 14 (.int (iI x_11)) := ⟨_, rfl⟩
                          have hX : Ef cy f_14 f_15 := by rw [ef_15]; exact Ef_pU oo rfl rfl (by decide)
                          have hg : GI cy L0 f_15 := by rw [ef_15]; exact hg.putI oo rfl ⟨lx_11, ux_11⟩ trivial
                          rw [← ef_15] at hw
                          have hE := hE.trans hX
                          have o_a0 := hX.1.1.1 _ _ o_a0
                          have vf_15 : fI f_15 a0 14 = x_11 := by rw [ef_15]; exact fI_pU_self oo rfl ⟨lx_11, ux_11⟩
                          exact J206 L0 f_15 hg hE o_a0 _ _ _ hw (lv_sub hl [0, 1, 2, 3] rfl)
                        refine q_icmp_lt (tgt := 194) hx hb dX0_seek_173 (by decide) ⟨lx_9, ux_9⟩ ⟨lx_13, ux_13⟩ (fun c173 => ?_) (fun c173 => ?_)
                        · exact J194 _ _ _ hw (lv_sub hl [1, 2, 3, 4, 5, 6] rfl)
                        · refine lv_iload hx hb dX0_seek_176 (lv_at hl 5 rfl) ?_
                          refine lv_aload_n hx hb dX0_seek_178 rfl (lv_at hl 1 rfl) ?_
                          refine q_geti (ci := 0) (C := RX0) (T := TX0) (N := 15) hx hb hts (fun w h => List.mem_cons_of_mem _ (mfX00 w h)) hown hK hw m_a0 o_a0 rfl 13 (by decide) (hts _ (List.mem_cons_of_mem _ (mr29 _ (List.mem_of_getElem? (i := 13) rfl)))) (fun _ h => h) rfl dX0_seek_179 (fun x_16 lx_16 ux_16 ex_16 => ?_)
                          refine q_icmp_ne (tgt := 206) hx hb dX0_seek_182 (by decide) ⟨lx_9, ux_9⟩ ⟨lx_16, ux_16⟩ (fun c182 => ?_) (fun c182 => ?_)
                          · exact J206 L0 fw104 hg hE o_a0 _ _ _ hw (lv_sub hl [1, 2, 3, 4] rfl)
                          · refine lv_iload hx hb dX0_seek_185 (lv_at hl 6 rfl) ?_
                            refine lv_aload_n hx hb dX0_seek_187 rfl (lv_at hl 1 rfl) ?_
                            refine q_geti (ci := 0) (C := RX0) (T := TX0) (N := 15) hx hb hts (fun w h => List.mem_cons_of_mem _ (mfX00 w h)) hown hK hw m_a0 o_a0 rfl 14 (by decide) (hts _ (List.mem_cons_of_mem _ (mr29 _ (List.mem_of_getElem? (i := 11) rfl)))) (fun _ h => h) rfl dX0_seek_188 (fun x_17 lx_17 ux_17 ex_17 => ?_)
                            refine q_icmp_ge (tgt := 206) hx hb dX0_seek_191 (by decide) ⟨lx_11, ux_11⟩ ⟨lx_17, ux_17⟩ (fun c191 => ?_) (fun c191 => ?_)
                            · exact J206 L0 fw104 hg hE o_a0 _ _ _ hw (lv_sub hl [1, 2, 3, 4] rfl)
                            · exact J194 _ _ _ hw (lv_sub hl [1, 2, 3, 4, 5, 6] rfl)
                  have J154 : ∀ (w0_154 : Int) (lw0_154 : -2147483648 ≤ w0_154) (uw0_154 : w0_154 ≤ 2147483647) (H : Heap) (locs : List Loc) (ls : Array Slot) (hw : Wd D A s.heap L0 fw104 H locs) (hl : lv_has ls 8 [(0, .ref a0), (1, .int (iI x1)), (2, .int (iI x2)), (4, .int (iI y4_104)), (5, .int (iI x_9)), (6, .int (iI x_11))]), W p l e ({ frames := 4, cells := 0, slots := 0, locals := 90 } : Room) s m ([.ref a0, .int (iI x1), .int (iI x2)] : List Value).toArray below meth c H locs (0 + 0 + 0) (0 + 0 + 0) (MQ below (Qi D (tq cy) L0 f0 s.heap.size (fun (r : Int) (L1 : List Nat) (f1 : Nat → va_E) => L0 = L1 ∧ GI cy L0 f1 ∧ Ef cy f0 f1 ∧ (r = 0 ∨ r = 1))) ([.ref a0, .int (iI x1), .int (iI x2)] : List Value).toArray s 0 0 A) (F0 m 154 ls [.int (iI w0_154)]) := by
                    intro w0_154 lw0_154 uw0_154 H locs ls hw hl
                    refine lv_istore (lv' := [(7, .int (iI w0_154)), (0, .ref a0), (1, .int (iI x1)), (2, .int (iI x2)), (4, .int (iI y4_104)), (5, .int (iI x_9)), (6, .int (iI x_11))]) hx hb dX0_seek_154 hl (by decide) rfl (fun ls hl => ?_)
                    refine lv_iload hx hb dX0_seek_156 (lv_at hl 5 rfl) ?_
                    refine q_iconst hx hb dX0_seek_158 ?_
                    have J206 : ∀ (L : List Nat) (fw206 : Nat → va_E) (hg : GI cy L0 fw206) (hE : Ef cy f0 fw206) (o_a0 : Ob fw206 a0 0) (H : Heap) (locs : List Loc) (ls : Array Slot) (hw : Wd D A s.heap L0 fw206 H locs) (hl : lv_has ls 8 [(0, .ref a0), (1, .int (iI x1)), (2, .int (iI x2)), (4, .int (iI y4_104))]), W p l e ({ frames := 4, cells := 0, slots := 0, locals := 90 } : Room) s m ([.ref a0, .int (iI x1), .int (iI x2)] : List Value).toArray below meth c H locs (0 + 0 + 0) (0 + 0 + 0) (MQ below (Qi D (tq cy) L0 f0 s.heap.size (fun (r : Int) (L1 : List Nat) (f1 : Nat → va_E) => L0 = L1 ∧ GI cy L0 f1 ∧ Ef cy f0 f1 ∧ (r = 0 ∨ r = 1))) ([.ref a0, .int (iI x1), .int (iI x2)] : List Value).toArray s 0 0 A) (F0 m 206 ls []) := by
                      intro L fw206 hg hE o_a0 H locs ls hw hl
                      obtain ⟨x_18, lx_18, ux_18, hx_18, ex_18⟩ := q_inc y4_104 (1)
                      try (replace ex_18 : x_18 = y4_104 + (1) := by omega)
                      refine lv_iinc (v := iI x_18) (lv' := [(4, .int (iI x_18)), (0, .ref a0), (1, .int (iI x1)), (2, .int (iI x2))]) hx hb dX0_seek_206 hl (k := 3) rfl hx_18 (by decide) rfl (fun ls hl => ?_)
                      refine lv_goto (tgt := 104) hx hb dX0_seek_209 (by decide) ?_
                      exact ih104 x_18 lx_18 ux_18 L0 fw206 hg hE o_a0 (by omega) (by omega) _ _ _ hw (lv_sub hl [1, 2, 3, 0] rfl)
                    refine q_icmp_eq (tgt := 206) hx hb dX0_seek_159 (by decide) ⟨lx_9, ux_9⟩ ⟨by decide, by decide⟩ (fun c159 => ?_) (fun c159 => ?_)
                    · exact J206 L0 fw104 hg hE o_a0 _ _ _ hw (lv_sub hl [1, 2, 3, 4] rfl)
                    · refine lv_iload hx hb dX0_seek_162 (lv_at hl 0 rfl) ?_
                      refine q_if_eq (tgt := 206) hx hb dX0_seek_164 (by decide) ⟨lw0_154, uw0_154⟩ (fun c164 => ?_) (fun c164 => ?_)
                      · exact J206 L0 fw104 hg hE o_a0 _ _ _ hw (lv_sub hl [1, 2, 3, 4] rfl)
                      · refine lv_iload hx hb dX0_seek_167 (lv_at hl 5 rfl) ?_
                        refine lv_aload_n hx hb dX0_seek_169 rfl (lv_at hl 1 rfl) ?_
                        refine q_geti (ci := 0) (C := RX0) (T := TX0) (N := 15) hx hb hts (fun w h => List.mem_cons_of_mem _ (mfX00 w h)) hown hK hw m_a0 o_a0 rfl 13 (by decide) (hts _ (List.mem_cons_of_mem _ (mr29 _ (List.mem_of_getElem? (i := 13) rfl)))) (fun _ h => h) rfl dX0_seek_170 (fun x_19 lx_19 ux_19 ex_19 => ?_)
                        have J194 : ∀ (H : Heap) (locs : List Loc) (ls : Array Slot) (hw : Wd D A s.heap L0 fw104 H locs) (hl : lv_has ls 8 [(0, .ref a0), (1, .int (iI x1)), (2, .int (iI x2)), (4, .int (iI y4_104)), (5, .int (iI x_9)), (6, .int (iI x_11))]), W p l e ({ frames := 4, cells := 0, slots := 0, locals := 90 } : Room) s m ([.ref a0, .int (iI x1), .int (iI x2)] : List Value).toArray below meth c H locs (0 + 0 + 0) (0 + 0 + 0) (MQ below (Qi D (tq cy) L0 f0 s.heap.size (fun (r : Int) (L1 : List Nat) (f1 : Nat → va_E) => L0 = L1 ∧ GI cy L0 f1 ∧ Ef cy f0 f1 ∧ (r = 0 ∨ r = 1))) ([.ref a0, .int (iI x1), .int (iI x2)] : List Value).toArray s 0 0 A) (F0 m 194 ls []) := by
                          intro H locs ls hw hl
                          refine lv_aload_n hx hb dX0_seek_194 rfl (lv_at hl 0 rfl) ?_
                          refine lv_iload hx hb dX0_seek_195 (lv_at hl 4 rfl) ?_
                          refine q_puti (ci := 0) (C := RX0) (T := TX0) (N := 15) hx hb hts (fun w h => List.mem_cons_of_mem _ (mfX00 w h)) hown hK hw m_a0 o_a0 rfl 13 (by decide) (hts _ (List.mem_cons_of_mem _ (mr29 _ (List.mem_of_getElem? (i := 13) rfl)))) (fun _ h => h) tyX0 tyX0_ok nmX0 rfl (ty := .int) (by decide +kernel) rfl rfl dX0_seek_197 (fun H locs hw => ?_)
                          have oo := o_a0
                          obtain ⟨f_20, ef_20⟩ : ∃ g : Nat → va_E, g = pU fw104 a0 13 (.int (iI x_9)) := ⟨_, rfl⟩
                          have hX : Ef cy fw104 f_20 := by rw [ef_20]; exact Ef_pU oo rfl rfl (by decide)
                          have hg : GI cy L0 f_20 := by rw [ef_20]; exact hg.putI oo rfl ⟨lx_9, ux_9⟩ trivial
                          rw [← ef_20] at hw
                          have hE := hE.trans hX
                          have o_a0 := hX.1.1.1 _ _ o_a0
                          have vf_20 : fI f_20 a0 13 = x_9 := by rw [ef_20]; exact fI_pU_self oo rfl ⟨lx_9, ux_9⟩
                          refine lv_aload_n hx hb dX0_seek_200 rfl (lv_at hl 0 rfl) ?_
                          refine lv_iload hx hb dX0_seek_201 (lv_at hl 5 rfl) ?_
                          refine q_puti (ci := 0) (C := RX0) (T := TX0) (N := 15) hx hb hts (fun w h => List.mem_cons_of_mem _ (mfX00 w h)) hown hK hw m_a0 o_a0 rfl 14 (by decide) (hts _ (List.mem_cons_of_mem _ (mr29 _ (List.mem_of_getElem? (i := 11) rfl)))) (fun _ h => h) tyX0 tyX0_ok nmX0 rfl (ty := .int) (by decide +kernel) rfl rfl dX0_seek_203 (fun H locs hw => ?_)
                          have oo := o_a0
                          obtain ⟨f_21, ef_21⟩ : ∃ g : Nat → va_E, g = pU f_20 a0 14 (.int (iI x_11)) := ⟨_, rfl⟩
                          have hX : Ef cy f_20 f_21 := by rw [ef_21]; exact Ef_pU oo rfl rfl (by decide)
                          have hg : GI cy L0 f_21 := by rw [ef_21]; exact hg.putI oo rfl ⟨lx_11, ux_11⟩ trivial
                          rw [← ef_21] at hw
                          have hE := hE.trans hX
                          have o_a0 := hX.1.1.1 _ _ o_a0
                          have vf_21 : fI f_21 a0 14 = x_11 := by rw [ef_21]; exact fI_pU_self oo rfl ⟨lx_11, ux_11⟩
                          exact J206 L0 f_21 hg hE o_a0 _ _ _ hw (lv_sub hl [0, 1, 2, 3] rfl)
                        refine q_icmp_lt (tgt := 194) hx hb dX0_seek_173 (by decide) ⟨lx_9, ux_9⟩ ⟨lx_19, ux_19⟩ (fun c173 => ?_) (fun c173 => ?_)
                        · exact J194 _ _ _ hw (lv_sub hl [1, 2, 3, 4, 5, 6] rfl)
                        · refine lv_iload hx hb dX0_seek_176 (lv_at hl 5 rfl) ?_
                          refine lv_aload_n hx hb dX0_seek_178 rfl (lv_at hl 1 rfl) ?_
                          refine q_geti (ci := 0) (C := RX0) (T := TX0) (N := 15) hx hb hts (fun w h => List.mem_cons_of_mem _ (mfX00 w h)) hown hK hw m_a0 o_a0 rfl 13 (by decide) (hts _ (List.mem_cons_of_mem _ (mr29 _ (List.mem_of_getElem? (i := 13) rfl)))) (fun _ h => h) rfl dX0_seek_179 (fun x_22 lx_22 ux_22 ex_22 => ?_)
                          refine q_icmp_ne (tgt := 206) hx hb dX0_seek_182 (by decide) ⟨lx_9, ux_9⟩ ⟨lx_22, ux_22⟩ (fun c182 => ?_) (fun c182 => ?_)
                          · exact J206 L0 fw104 hg hE o_a0 _ _ _ hw (lv_sub hl [1, 2, 3, 4] rfl)
                          · refine lv_iload hx hb dX0_seek_185 (lv_at hl 6 rfl) ?_
                            refine lv_aload_n hx hb dX0_seek_187 rfl (lv_at hl 1 rfl) ?_
                            refine q_geti (ci := 0) (C := RX0) (T := TX0) (N := 15) hx hb hts (fun w h => List.mem_cons_of_mem _ (mfX00 w h)) hown hK hw m_a0 o_a0 rfl 14 (by decide) (hts _ (List.mem_cons_of_mem _ (mr29 _ (List.mem_of_getElem? (i := 11) rfl)))) (fun _ h => h) rfl dX0_seek_188 (fun x_23 lx_23 ux_23 ex_23 => ?_)
                            refine q_icmp_ge (tgt := 206) hx hb dX0_seek_191 (by decide) ⟨lx_11, ux_11⟩ ⟨lx_23, ux_23⟩ (fun c191 => ?_) (fun c191 => ?_)
                            · exact J206 L0 fw104 hg hE o_a0 _ _ _ hw (lv_sub hl [1, 2, 3, 4] rfl)
                            · exact J194 _ _ _ hw (lv_sub hl [1, 2, 3, 4, 5, 6] rfl)
                  refine q_icmp_gt (tgt := 149) hx hb dX0_seek_134 (by decide) ⟨lx_9, ux_9⟩ ⟨lx1, ux1⟩ (fun c134 => ?_) (fun c134 => ?_)
                  · exact J149 _ _ _ hw (lv_sub hl [2, 3, 4, 5, 1, 0] rfl)
                  · refine lv_iload hx hb dX0_seek_137 (lv_at hl 1 rfl) ?_
                    refine lv_iload_n hx hb dX0_seek_139 rfl (lv_at hl 3 rfl) ?_
                    have J153 : ∀ (H : Heap) (locs : List Loc) (ls : Array Slot) (hw : Wd D A s.heap L0 fw104 H locs) (hl : lv_has ls 8 [(0, .ref a0), (1, .int (iI x1)), (2, .int (iI x2)), (4, .int (iI y4_104)), (5, .int (iI x_9)), (6, .int (iI x_11))]), W p l e ({ frames := 4, cells := 0, slots := 0, locals := 90 } : Room) s m ([.ref a0, .int (iI x1), .int (iI x2)] : List Value).toArray below meth c H locs (0 + 0 + 0) (0 + 0 + 0) (MQ below (Qi D (tq cy) L0 f0 s.heap.size (fun (r : Int) (L1 : List Nat) (f1 : Nat → va_E) => L0 = L1 ∧ GI cy L0 f1 ∧ Ef cy f0 f1 ∧ (r = 0 ∨ r = 1))) ([.ref a0, .int (iI x1), .int (iI x2)] : List Value).toArray s 0 0 A) (F0 m 153 ls []) := by
                      intro H locs ls hw hl
                      refine q_iconst hx hb dX0_seek_153 ?_
                      exact J154 0 (by decide) (by decide) _ _ _ hw (lv_sub hl [0, 1, 2, 3, 4, 5] rfl)
                    refine q_icmp_ne (tgt := 153) hx hb dX0_seek_140 (by decide) ⟨lx_9, ux_9⟩ ⟨lx1, ux1⟩ (fun c140 => ?_) (fun c140 => ?_)
                    · exact J153 _ _ _ hw (lv_sub hl [2, 3, 4, 5, 1, 0] rfl)
                    · refine lv_iload hx hb dX0_seek_143 (lv_at hl 0 rfl) ?_
                      refine lv_iload_n hx hb dX0_seek_145 rfl (lv_at hl 4 rfl) ?_
                      refine q_icmp_lt (tgt := 153) hx hb dX0_seek_146 (by decide) ⟨lx_11, ux_11⟩ ⟨lx2, ux2⟩ (fun c146 => ?_) (fun c146 => ?_)
                      · exact J153 _ _ _ hw (lv_sub hl [2, 3, 4, 5, 1, 0] rfl)
                      · exact J149 _ _ _ hw (lv_sub hl [2, 3, 4, 5, 1, 0] rfl)
            exact J104 ((((2147483647 : Int) - 0).toNat) + 1) 0 (by decide) (by decide) L0 f_5 hg hE o_a0 (by omega) (by omega) _ _ _ hw (lv_sub hl [1, 2, 3, 0] rfl)
          refine q_icmp_ne (tgt := 93) hx hb dX0_seek_85 (by decide) ⟨ly3_40, uy3_40⟩ ⟨by decide, by decide⟩ (fun c85 => ?_) (fun c85 => ?_)
          · refine lv_aload_n hx hb dX0_seek_93 rfl (lv_at hl 0 rfl) ?_
            refine lv_iload_n hx hb dX0_seek_94 rfl (lv_at hl 3 rfl) ?_
            refine q_call_i hA hK hw (va_runV (As := [.int (iI y3_40)]) (rest := [.ref a0]) ⟨hx, hb, hml, hown, hts⟩ (c_X0_timeOf zo l D cy L0 f_4 a0 y3_40 ly3_40 uy3_40 m_a0 o_a0 hg _) (cwV 1 hts (gT (inV (mr29 _ (List.mem_of_getElem? (i := 23) rfl)) (mr30 _ (List.mem_of_getElem? (i := 0) rfl)) (mr30 _ (List.mem_of_getElem? (i := 1) rfl)) (mr2 _ (List.mem_of_getElem? (i := 9) rfl)) (mr30 _ (List.mem_of_getElem? (i := 2) rfl)))) rfl rfl rfl (by decide +kernel) ⟨Nat.le_of_ble_eq_true rfl, Nat.le_of_ble_eq_true rfl⟩) (Wd.preV zo hA hZ hw hK m_a0 o_a0 rfl) rfl rfl hl.1 rfl (lv_room (Nat.le_of_ble_eq_true rfl)) dX0_seek_95 ⟨Nat.le_of_ble_eq_true rfl, Nat.le_of_ble_eq_true rfl⟩) (fun x_24 L1 f1 H locs lx_24 ux_24 ex_24 hw => ?_)
            obtain ⟨rfl, rfl, ex_24⟩ := ex_24
            exact J98 x_24 lx_24 ux_24 _ _ _ hw (lv_sub hl [0, 1, 2] rfl)
          · refine q_ldc (n := 2147483647) hx hb hown (hts _ (List.mem_cons_of_mem _ (mr29 _ (List.mem_of_getElem? (i := 12) rfl)))) rfl dX0_seek_88 ?_
            refine lv_goto (tgt := 98) hx hb dX0_seek_90 (by decide) ?_
            exact J98 2147483647 (by decide) (by decide) _ _ _ hw (lv_sub hl [0, 1, 2] rfl)
        refine q_icmp_ge (tgt := 77) hx hb dX0_seek_46 (by decide) ⟨ly4_40, uy4_40⟩ ⟨lx_3, ux_3⟩ (fun c46 => ?_) (fun c46 => ?_)
        · exact J77 _ _ _ hw (lv_sub hl [0, 1, 2, 3] rfl)
        · refine lv_iload_n hx hb dX0_seek_49 rfl (lv_at hl 3 rfl) ?_
          refine q_iconst hx hb dX0_seek_50 ?_
          refine q_icmp_eq (tgt := 77) hx hb dX0_seek_51 (by decide) ⟨ly3_40, uy3_40⟩ ⟨by decide, by decide⟩ (fun c51 => ?_) (fun c51 => ?_)
          · exact J77 _ _ _ hw (lv_sub hl [0, 1, 2, 3] rfl)
          · refine lv_aload_n hx hb dX0_seek_54 rfl (lv_at hl 0 rfl) ?_
            refine lv_iload_n hx hb dX0_seek_55 rfl (lv_at hl 3 rfl) ?_
            refine q_call_i hA hK hw (va_runV (As := [.int (iI y3_40)]) (rest := []) ⟨hx, hb, hml, hown, hts⟩ (c_X0_changeOf zo l D cy L0 f0 a0 y3_40 ly3_40 uy3_40 m_a0 o_a0 hg _) (cwV 1 hts (gT (inV (mr26 _ (List.mem_of_getElem? (i := 15) rfl)) (mr26 _ (List.mem_of_getElem? (i := 16) rfl)) (mr26 _ (List.mem_of_getElem? (i := 17) rfl)) (mr2 _ (List.mem_of_getElem? (i := 9) rfl)) (mr26 _ (List.mem_of_getElem? (i := 18) rfl)))) rfl rfl rfl (by decide +kernel) ⟨Nat.le_of_ble_eq_true rfl, Nat.le_of_ble_eq_true rfl⟩) (Wd.preV zo hA hZ hw hK m_a0 o_a0 rfl) rfl rfl hl.1 rfl (lv_room (Nat.le_of_ble_eq_true rfl)) dX0_seek_56 ⟨Nat.le_of_ble_eq_true rfl, Nat.le_of_ble_eq_true rfl⟩) (fun x_25 L1 f1 H locs lx_25 ux_25 ex_25 hw => ?_)
            obtain ⟨rfl, rfl, ex_25⟩ := ex_25
            refine q_iconst hx hb dX0_seek_59 ?_
            refine q_icmp_eq (tgt := 77) hx hb dX0_seek_60 (by decide) ⟨lx_25, ux_25⟩ ⟨by decide, by decide⟩ (fun c60 => ?_) (fun c60 => ?_)
            · exact J77 _ _ _ hw (lv_sub hl [0, 1, 2, 3] rfl)
            · refine lv_aload_n hx hb dX0_seek_63 rfl (lv_at hl 0 rfl) ?_
              refine lv_iload_n hx hb dX0_seek_64 rfl (lv_at hl 3 rfl) ?_
              refine q_iconst hx hb dX0_seek_65 ?_
              first | refine q_iadd hx hb dX0_seek_66 ⟨by omega, by omega⟩ (fun x_26 lx_26 ux_26 ex_26 => ?_) | refine q_iaddw hx hb dX0_seek_66 (fun x_26 lx_26 ux_26 _ => ?_)
              refine q_call_i hA hK hw (va_runV (As := [.int (iI x_26)]) (rest := []) ⟨hx, hb, hml, hown, hts⟩ (c_X0_keyFrom zo l D cy L0 f0 a0 x_26 lx_26 ux_26 m_a0 o_a0 hg _) (cwV 1 hts (gT (inV (mr26 _ (List.mem_of_getElem? (i := 10) rfl)) (mr24 _ (List.mem_of_getElem? (i := 13) rfl)) (mr24 _ (List.mem_of_getElem? (i := 14) rfl)) (mr2 _ (List.mem_of_getElem? (i := 9) rfl)) (mr24 _ (List.mem_of_getElem? (i := 15) rfl)))) rfl rfl rfl (by decide +kernel) ⟨Nat.le_of_ble_eq_true rfl, Nat.le_of_ble_eq_true rfl⟩) (Wd.preV zo hA hZ hw hK m_a0 o_a0 rfl) rfl rfl hl.1 rfl (lv_room (Nat.le_of_ble_eq_true rfl)) dX0_seek_67 ⟨Nat.le_of_ble_eq_true rfl, Nat.le_of_ble_eq_true rfl⟩) (fun x_27 L1 f1 H locs lx_27 ux_27 ex_27 hw => ?_)
              obtain ⟨rfl, rfl, ex_27⟩ := ex_27
              refine lv_istore_n (lv' := [(3, .int (iI x_27)), (0, .ref a0), (1, .int (iI x1)), (2, .int (iI x2)), (4, .int (iI y4_40))]) hx hb dX0_seek_70 rfl hl (by decide) rfl (fun ls hl => ?_)
              obtain ⟨x_28, lx_28, ux_28, hx_28, ex_28⟩ := q_inc y4_40 (1)
              try (replace ex_28 : x_28 = y4_40 + (1) := by omega)
              refine lv_iinc (v := iI x_28) (lv' := [(4, .int (iI x_28)), (3, .int (iI x_27)), (0, .ref a0), (1, .int (iI x1)), (2, .int (iI x2))]) hx hb dX0_seek_71 hl (k := 4) rfl hx_28 (by decide) rfl (fun ls hl => ?_)
              refine lv_goto (tgt := 40) hx hb dX0_seek_74 (by decide) ?_
              exact ih40 x_27 lx_27 ux_27 x_28 lx_28 ux_28 (by omega) (by omega) _ _ _ hw (lv_sub hl [2, 3, 4, 1, 0] rfl)
    exact J40 ((((2147483647 : Int) - 0).toNat) + 1) z3_37 lz3_37 uz3_37 0 (by decide) (by decide) (by omega) (by omega) _ _ _ hw (lv_sub hl [1, 2, 3, 4, 0] rfl)
  refine q_icmp_eq (tgt := 37) hx hb dX0_seek_12 (by decide) ⟨lx_2, ux_2⟩ ⟨by decide, by decide⟩ (fun c12 => ?_) (fun c12 => ?_)
  · exact J37 x_2 lx_2 ux_2 _ _ _ hw (lv_sub hl [1, 2, 3, 0] rfl)
  · refine lv_iload_n hx hb dX0_seek_15 rfl (lv_at hl 0 rfl) ?_
    refine lv_iload_n hx hb dX0_seek_16 rfl (lv_at hl 3 rfl) ?_
    refine q_icmp_ge (tgt := 37) hx hb dX0_seek_17 (by decide) ⟨lx_2, ux_2⟩ ⟨lx2, ux2⟩ (fun c17 => ?_) (fun c17 => ?_)
    · exact J37 x_2 lx_2 ux_2 _ _ _ hw (lv_sub hl [1, 2, 3, 0] rfl)
    · refine lv_aload_n hx hb dX0_seek_20 rfl (lv_at hl 1 rfl) ?_
      refine lv_iload_n hx hb dX0_seek_21 rfl (lv_at hl 0 rfl) ?_
      refine q_call_i hA hK hw (va_runV (As := [.int (iI x_2)]) (rest := []) ⟨hx, hb, hml, hown, hts⟩ (c_X0_timeOf zo l D cy L0 f0 a0 x_2 lx_2 ux_2 m_a0 o_a0 hg _) (cwV 1 hts (gT (inV (mr29 _ (List.mem_of_getElem? (i := 23) rfl)) (mr30 _ (List.mem_of_getElem? (i := 0) rfl)) (mr30 _ (List.mem_of_getElem? (i := 1) rfl)) (mr2 _ (List.mem_of_getElem? (i := 9) rfl)) (mr30 _ (List.mem_of_getElem? (i := 2) rfl)))) rfl rfl rfl (by decide +kernel) ⟨Nat.le_of_ble_eq_true rfl, Nat.le_of_ble_eq_true rfl⟩) (Wd.preV zo hA hZ hw hK m_a0 o_a0 rfl) rfl rfl hl.1 rfl (lv_room (Nat.le_of_ble_eq_true rfl)) dX0_seek_22 ⟨Nat.le_of_ble_eq_true rfl, Nat.le_of_ble_eq_true rfl⟩) (fun x_29 L1 f1 H locs lx_29 ux_29 ex_29 hw => ?_)
      obtain ⟨rfl, rfl, ex_29⟩ := ex_29
      refine lv_iload_n hx hb dX0_seek_25 rfl (lv_at hl 2 rfl) ?_
      refine q_icmp_ne (tgt := 37) hx hb dX0_seek_26 (by decide) ⟨lx_29, ux_29⟩ ⟨lx1, ux1⟩ (fun c26 => ?_) (fun c26 => ?_)
      · exact J37 x_2 lx_2 ux_2 _ _ _ hw (lv_sub hl [1, 2, 3, 0] rfl)
      · refine lv_aload_n hx hb dX0_seek_29 rfl (lv_at hl 1 rfl) ?_
        refine lv_iload_n hx hb dX0_seek_30 rfl (lv_at hl 0 rfl) ?_
        refine q_iconst hx hb dX0_seek_31 ?_
        first | refine q_iadd hx hb dX0_seek_32 ⟨by omega, by omega⟩ (fun x_30 lx_30 ux_30 ex_30 => ?_) | refine q_iaddw hx hb dX0_seek_32 (fun x_30 lx_30 ux_30 _ => ?_)
        refine q_call_i hA hK hw (va_runV (As := [.int (iI x_30)]) (rest := []) ⟨hx, hb, hml, hown, hts⟩ (c_X0_keyFrom zo l D cy L0 f0 a0 x_30 lx_30 ux_30 m_a0 o_a0 hg _) (cwV 1 hts (gT (inV (mr26 _ (List.mem_of_getElem? (i := 10) rfl)) (mr24 _ (List.mem_of_getElem? (i := 13) rfl)) (mr24 _ (List.mem_of_getElem? (i := 14) rfl)) (mr2 _ (List.mem_of_getElem? (i := 9) rfl)) (mr24 _ (List.mem_of_getElem? (i := 15) rfl)))) rfl rfl rfl (by decide +kernel) ⟨Nat.le_of_ble_eq_true rfl, Nat.le_of_ble_eq_true rfl⟩) (Wd.preV zo hA hZ hw hK m_a0 o_a0 rfl) rfl rfl hl.1 rfl (lv_room (Nat.le_of_ble_eq_true rfl)) dX0_seek_33 ⟨Nat.le_of_ble_eq_true rfl, Nat.le_of_ble_eq_true rfl⟩) (fun x_31 L1 f1 H locs lx_31 ux_31 ex_31 hw => ?_)
        obtain ⟨rfl, rfl, ex_31⟩ := ex_31
        refine lv_istore_n (lv' := [(3, .int (iI x_31)), (0, .ref a0), (1, .int (iI x1)), (2, .int (iI x2))]) hx hb dX0_seek_36 rfl hl (by decide) rfl (fun ls hl => ?_)
        exact J37 x_31 lx_31 ux_31 _ _ _ hw (lv_sub hl [1, 2, 3, 0] rfl)
set_option maxHeartbeats 4000000 in
set_option maxRecDepth 100000 in
theorem c_X0_seekAhead_z {Z : Zt} (zo : Zok Z) (l : Launch) (D : va_G) (cy : Cy) (L0 : List Nat) (f0 : Nat → va_E) (a0 : Nat) (x1 : Int) (lx1 : -2147483648 ≤ x1) (ux1 : x1 ≤ 2147483647) (m_a0 : a0 ∈ L0) (o_a0 : Ob f0 a0 0) (hg : GI cy L0 f0) : Ci Z l yX0_seekAhead (Cond.code yX0_seekAhead cX0_seekAhead 6 (some .boolean) :: TB) ({ frames := 4, cells := 0, slots := 0, locals := 88 } : Room) 0 0 D (tq cy) [.ref a0, .int (iI x1)] L0 f0 (fun (r : Int) (L1 : List Nat) (f1 : Nat → va_E) => L0 = L1 ∧ GI cy L0 f1 ∧ Ef cy f0 f1 ∧ (r = 0 ∨ r = 1)) := by
  refine Ci.enter (cc := cX0_seekAhead) (n := 6) rfl (plainFor_of_name (by decide)) (Nat.le_of_ble_eq_true rfl) ?_
  intro p e s m below meth c ls A hx hb hr hts hown hlocks hnm hml hK hA hAe hw hZ hl
  have hown : s.vm.findClass RX0 = some m.cls := hown
  have hl : lv_has ls 6 [(0, .ref a0), (1, .int (iI x1))] := hl
  have hN : ZN s := (zo.2.2.2.2 _ _ _ hZ).2
  have hE : Ef cy f0 f0 := Ef.refl cy f0
  refine lv_aload_n hx hb dX0_seekAhead_0 rfl (lv_at hl 0 rfl) ?_
  refine lv_aload_n hx hb dX0_seekAhead_1 rfl (lv_at hl 0 rfl) ?_
  refine lv_iload_n hx hb dX0_seekAhead_2 rfl (lv_at hl 1 rfl) ?_
  refine q_iconst hx hb dX0_seekAhead_3 ?_
  first | refine q_isub hx hb dX0_seekAhead_4 ⟨by omega, by omega⟩ (fun x_1 lx_1 ux_1 ex_1 => ?_) | refine q_isubw hx hb dX0_seekAhead_4 (fun x_1 lx_1 ux_1 _ => ?_)
  refine q_call_i hA hK hw (va_runV (As := [.int (iI x_1)]) (rest := [.ref a0]) ⟨hx, hb, hml, hown, hts⟩ (c_X0_ruledTo zo l D cy L0 f0 a0 x_1 lx_1 ux_1 m_a0 o_a0 hg _) (cwV 1 hts (gT (inV (mr30 _ (List.mem_of_getElem? (i := 23) rfl)) (mr31 _ (List.mem_of_getElem? (i := 0) rfl)) (mr31 _ (List.mem_of_getElem? (i := 1) rfl)) (mr2 _ (List.mem_of_getElem? (i := 9) rfl)) (mr31 _ (List.mem_of_getElem? (i := 2) rfl)))) rfl rfl rfl (by decide +kernel) ⟨Nat.le_of_ble_eq_true rfl, Nat.le_of_ble_eq_true rfl⟩) (Wd.preV zo hA hZ hw hK m_a0 o_a0 rfl) rfl rfl hl.1 rfl (lv_room (Nat.le_of_ble_eq_true rfl)) dX0_seekAhead_5 ⟨Nat.le_of_ble_eq_true rfl, Nat.le_of_ble_eq_true rfl⟩) (fun x_2 L1 f1 H locs lx_2 ux_2 ex_2 hw => ?_)
  obtain ⟨rfl, rfl, ex_2⟩ := ex_2
  refine q_call_i hA hK hw (va_runV (As := [.int (iI x_2)]) (rest := []) ⟨hx, hb, hml, hown, hts⟩ (c_X0_keyTo zo l D cy L0 f0 a0 x_2 lx_2 ux_2 m_a0 o_a0 hg _) (cwV 1 hts (gT (inV (mr31 _ (List.mem_of_getElem? (i := 3) rfl)) (mr31 _ (List.mem_of_getElem? (i := 4) rfl)) (mr31 _ (List.mem_of_getElem? (i := 5) rfl)) (mr2 _ (List.mem_of_getElem? (i := 9) rfl)) (mr31 _ (List.mem_of_getElem? (i := 6) rfl)))) rfl rfl rfl (by decide +kernel) ⟨Nat.le_of_ble_eq_true rfl, Nat.le_of_ble_eq_true rfl⟩) (Wd.preV zo hA hZ hw hK m_a0 o_a0 rfl) rfl rfl hl.1 rfl (lv_room (Nat.le_of_ble_eq_true rfl)) dX0_seekAhead_8 ⟨Nat.le_of_ble_eq_true rfl, Nat.le_of_ble_eq_true rfl⟩) (fun x_3 L1 f1 H locs lx_3 ux_3 ex_3 hw => ?_)
  obtain ⟨rfl, rfl, ex_3⟩ := ex_3
  refine lv_istore_n (lv' := [(2, .int (iI x_3)), (0, .ref a0), (1, .int (iI x1))]) hx hb dX0_seekAhead_11 rfl hl (by decide) rfl (fun ls hl => ?_)
  refine q_iconst hx hb dX0_seekAhead_12 ?_
  refine lv_istore_n (lv' := [(3, .int (iI 0)), (2, .int (iI x_3)), (0, .ref a0), (1, .int (iI x1))]) hx hb dX0_seekAhead_13 rfl hl (by decide) rfl (fun ls hl => ?_)
  have J14 : ∀ (n14 : Nat) (y2_14 : Int) (ly2_14 : -2147483648 ≤ y2_14) (uy2_14 : y2_14 ≤ 2147483647) (y3_14 : Int) (ly3_14 : -2147483648 ≤ y3_14) (uy3_14 : y3_14 ≤ 2147483647) (i1 : 0 ≤ y3_14) (hn14 : ((2147483647 : Int) - y3_14).toNat < n14) (H : Heap) (locs : List Loc) (ls : Array Slot) (hw : Wd D A s.heap L0 f0 H locs) (hl : lv_has ls 6 [(0, .ref a0), (1, .int (iI x1)), (2, .int (iI y2_14)), (3, .int (iI y3_14))]), W p l e ({ frames := 4, cells := 0, slots := 0, locals := 88 } : Room) s m ([.ref a0, .int (iI x1)] : List Value).toArray below meth c H locs (0 + 0 + 0) (0 + 0 + 0) (MQ below (Qi D (tq cy) L0 f0 s.heap.size (fun (r : Int) (L1 : List Nat) (f1 : Nat → va_E) => L0 = L1 ∧ GI cy L0 f1 ∧ Ef cy f0 f1 ∧ (r = 0 ∨ r = 1))) ([.ref a0, .int (iI x1)] : List Value).toArray s 0 0 A) (F0 m 14 ls []) := by
    intro n14
    induction n14 with
    | zero => intro y2_14 ly2_14 uy2_14 y3_14 ly3_14 uy3_14 i1 hn14; exact absurd hn14 (Nat.not_lt_zero _)
    | succ n14 ih14 =>
      intro y2_14 ly2_14 uy2_14 y3_14 ly3_14 uy3_14 i1 hn14 H locs ls hw hl
      refine lv_iload_n hx hb dX0_seekAhead_14 rfl (lv_at hl 3 rfl) ?_
      refine lv_aload_n hx hb dX0_seekAhead_15 rfl (lv_at hl 0 rfl) ?_
      refine q_geti (ci := 0) (C := RX0) (T := TX0) (N := 15) hx hb hts (fun w h => List.mem_cons_of_mem _ (mfX00 w h)) hown hK hw m_a0 o_a0 rfl 10 (by decide) (hts _ (List.mem_cons_of_mem _ (mr14 _ (List.mem_of_getElem? (i := 9) rfl)))) (fun _ h => h) rfl dX0_seekAhead_16 (fun x_4 lx_4 ux_4 ex_4 => ?_)
      have bx_4 : 0 ≤ x_4 ∧ x_4 ≤ 16 := by rw [ex_4]; exact hg.1 _ m_a0 0 10 o_a0
      have J50 : ∀ (H : Heap) (locs : List Loc) (ls : Array Slot) (hw : Wd D A s.heap L0 f0 H locs) (hl : lv_has ls 6 [(0, .ref a0), (1, .int (iI x1)), (2, .int (iI y2_14))]), W p l e ({ frames := 4, cells := 0, slots := 0, locals := 88 } : Room) s m ([.ref a0, .int (iI x1)] : List Value).toArray below meth c H locs (0 + 0 + 0) (0 + 0 + 0) (MQ below (Qi D (tq cy) L0 f0 s.heap.size (fun (r : Int) (L1 : List Nat) (f1 : Nat → va_E) => L0 = L1 ∧ GI cy L0 f1 ∧ Ef cy f0 f1 ∧ (r = 0 ∨ r = 1))) ([.ref a0, .int (iI x1)] : List Value).toArray s 0 0 A) (F0 m 50 ls []) := by
        intro H locs ls hw hl
        refine lv_aload_n hx hb dX0_seekAhead_50 rfl (lv_at hl 0 rfl) ?_
        refine lv_iload_n hx hb dX0_seekAhead_51 rfl (lv_at hl 2 rfl) ?_
        refine q_puti (ci := 0) (C := RX0) (T := TX0) (N := 15) hx hb hts (fun w h => List.mem_cons_of_mem _ (mfX00 w h)) hown hK hw m_a0 o_a0 rfl 14 (by decide) (hts _ (List.mem_cons_of_mem _ (mr29 _ (List.mem_of_getElem? (i := 11) rfl)))) (fun _ h => h) tyX0 tyX0_ok nmX0 rfl (ty := .int) (by decide +kernel) rfl rfl dX0_seekAhead_52 (fun H locs hw => ?_)
        have oo := o_a0
        obtain ⟨f_5, ef_5⟩ : ∃ g : Nat → va_E, g = pU f0 a0 14 (.int (iI y2_14)) := ⟨_, rfl⟩
        have hX : Ef cy f0 f_5 := by rw [ef_5]; exact Ef_pU oo rfl rfl (by decide)
        have hg : GI cy L0 f_5 := by rw [ef_5]; exact hg.putI oo rfl ⟨ly2_14, uy2_14⟩ trivial
        rw [← ef_5] at hw
        have hE := hE.trans hX
        have o_a0 := hX.1.1.1 _ _ o_a0
        have vf_5 : fI f_5 a0 14 = y2_14 := by rw [ef_5]; exact fI_pU_self oo rfl ⟨ly2_14, uy2_14⟩
        refine lv_aload_n hx hb dX0_seekAhead_55 rfl (lv_at hl 0 rfl) ?_
        refine lv_iload_n hx hb dX0_seekAhead_56 rfl (lv_at hl 2 rfl) ?_
        refine q_iconst hx hb dX0_seekAhead_57 ?_
        have J70 : ∀ (w0_70 : Int) (lw0_70 : -2147483648 ≤ w0_70) (uw0_70 : w0_70 ≤ 2147483647) (H : Heap) (locs : List Loc) (ls : Array Slot) (hw : Wd D A s.heap L0 f_5 H locs) (hl : lv_has ls 6 [(0, .ref a0), (1, .int (iI x1))]), W p l e ({ frames := 4, cells := 0, slots := 0, locals := 88 } : Room) s m ([.ref a0, .int (iI x1)] : List Value).toArray below meth c H locs (0 + 0 + 0) (0 + 0 + 0) (MQ below (Qi D (tq cy) L0 f0 s.heap.size (fun (r : Int) (L1 : List Nat) (f1 : Nat → va_E) => L0 = L1 ∧ GI cy L0 f1 ∧ Ef cy f0 f1 ∧ (r = 0 ∨ r = 1))) ([.ref a0, .int (iI x1)] : List Value).toArray s 0 0 A) (F0 m 70 ls [.int (iI w0_70), .ref a0]) := by
          intro w0_70 lw0_70 uw0_70 H locs ls hw hl
          refine q_puti (ci := 0) (C := RX0) (T := TX0) (N := 15) hx hb hts (fun w h => List.mem_cons_of_mem _ (mfX00 w h)) hown hK hw m_a0 o_a0 rfl 13 (by decide) (hts _ (List.mem_cons_of_mem _ (mr29 _ (List.mem_of_getElem? (i := 13) rfl)))) (fun _ h => h) tyX0 tyX0_ok nmX0 rfl (ty := .int) (by decide +kernel) rfl rfl dX0_seekAhead_70 (fun H locs hw => ?_)
          have oo := o_a0
          obtain ⟨f_6, ef_6⟩ : ∃ g : Nat → va_E, g = pU f_5 a0 13 (.int (iI w0_70)) := ⟨_, rfl⟩
          have hX : Ef cy f_5 f_6 := by rw [ef_6]; exact Ef_pU oo rfl rfl (by decide)
          have hg : GI cy L0 f_6 := by rw [ef_6]; exact hg.putI oo rfl ⟨lw0_70, uw0_70⟩ trivial
          rw [← ef_6] at hw
          have hE := hE.trans hX
          have o_a0 := hX.1.1.1 _ _ o_a0
          have vf_6 : fI f_6 a0 13 = w0_70 := by rw [ef_6]; exact fI_pU_self oo rfl ⟨lw0_70, uw0_70⟩
          refine q_iconst hx hb dX0_seekAhead_73 ?_
          refine lv_istore_n (lv' := [(3, .int (iI 0)), (0, .ref a0), (1, .int (iI x1))]) hx hb dX0_seekAhead_74 rfl hl (by decide) rfl (fun ls hl => ?_)
          have J75 : ∀ (n75 : Nat) (y3_75 : Int) (ly3_75 : -2147483648 ≤ y3_75) (uy3_75 : y3_75 ≤ 2147483647) (L : List Nat) (fw75 : Nat → va_E) (hg : GI cy L0 fw75) (hE : Ef cy f0 fw75) (o_a0 : Ob fw75 a0 0) (i1 : 0 ≤ y3_75) (hn75 : ((2147483647 : Int) - y3_75).toNat < n75) (H : Heap) (locs : List Loc) (ls : Array Slot) (hw : Wd D A s.heap L0 fw75 H locs) (hl : lv_has ls 6 [(0, .ref a0), (1, .int (iI x1)), (3, .int (iI y3_75))]), W p l e ({ frames := 4, cells := 0, slots := 0, locals := 88 } : Room) s m ([.ref a0, .int (iI x1)] : List Value).toArray below meth c H locs (0 + 0 + 0) (0 + 0 + 0) (MQ below (Qi D (tq cy) L0 f0 s.heap.size (fun (r : Int) (L1 : List Nat) (f1 : Nat → va_E) => L0 = L1 ∧ GI cy L0 f1 ∧ Ef cy f0 f1 ∧ (r = 0 ∨ r = 1))) ([.ref a0, .int (iI x1)] : List Value).toArray s 0 0 A) (F0 m 75 ls []) := by
            intro n75
            induction n75 with
            | zero => intro y3_75 ly3_75 uy3_75 L fw75 hg hE o_a0 i1 hn75; exact absurd hn75 (Nat.not_lt_zero _)
            | succ n75 ih75 =>
              intro y3_75 ly3_75 uy3_75 L fw75 hg hE o_a0 i1 hn75 H locs ls hw hl
              refine lv_iload_n hx hb dX0_seekAhead_75 rfl (lv_at hl 2 rfl) ?_
              refine lv_aload_n hx hb dX0_seekAhead_76 rfl (lv_at hl 0 rfl) ?_
              refine q_geti (ci := 0) (C := RX0) (T := TX0) (N := 15) hx hb hts (fun w h => List.mem_cons_of_mem _ (mfX00 w h)) hown hK hw m_a0 o_a0 rfl 10 (by decide) (hts _ (List.mem_cons_of_mem _ (mr14 _ (List.mem_of_getElem? (i := 9) rfl)))) (fun _ h => h) rfl dX0_seekAhead_77 (fun x_7 lx_7 ux_7 ex_7 => ?_)
              have bx_7 : 0 ≤ x_7 ∧ x_7 ≤ 16 := by rw [ex_7]; exact hg.1 _ m_a0 0 10 o_a0
              refine q_icmp_ge (tgt := 156) hx hb dX0_seekAhead_80 (by decide) ⟨ly3_75, uy3_75⟩ ⟨lx_7, ux_7⟩ (fun c80 => ?_) (fun c80 => ?_)
              · refine lv_aload_n hx hb dX0_seekAhead_156 rfl (lv_at hl 0 rfl) ?_
                refine q_geti (ci := 0) (C := RX0) (T := TX0) (N := 15) hx hb hts (fun w h => List.mem_cons_of_mem _ (mfX00 w h)) hown hK hw m_a0 o_a0 rfl 14 (by decide) (hts _ (List.mem_cons_of_mem _ (mr29 _ (List.mem_of_getElem? (i := 11) rfl)))) (fun _ h => h) rfl dX0_seekAhead_157 (fun x_8 lx_8 ux_8 ex_8 => ?_)
                refine q_iconst hx hb dX0_seekAhead_160 ?_
                refine q_icmp_eq (tgt := 168) hx hb dX0_seekAhead_161 (by decide) ⟨lx_8, ux_8⟩ ⟨by decide, by decide⟩ (fun c161 => ?_) (fun c161 => ?_)
                · refine q_iconst hx hb dX0_seekAhead_168 ?_
                  exact q_ret_z hx hb hr hlocks hK hAe hw (by omega) (Nat.le_of_ble_eq_true rfl) (Nat.le_of_ble_eq_true rfl) dX0_seekAhead_169 (by exact ⟨rfl, hg, hE, by first | trivial | omega⟩)
                · refine q_iconst hx hb dX0_seekAhead_164 ?_
                  refine lv_goto (tgt := 169) hx hb dX0_seekAhead_165 (by decide) ?_
                  exact q_ret_z hx hb hr hlocks hK hAe hw (by omega) (Nat.le_of_ble_eq_true rfl) (Nat.le_of_ble_eq_true rfl) dX0_seekAhead_169 (by exact ⟨rfl, hg, hE, by first | trivial | omega⟩)
              · refine lv_aload_n hx hb dX0_seekAhead_83 rfl (lv_at hl 0 rfl) ?_
                obtain ⟨r_9, er_9, m_r_9, o_r_9⟩ := (show ∃ r, fR fw75 a0 12 = some r ∧ r ∈ L0 ∧ ArI fw75 r cy.2.1 16 from hg.2.1 _ m_a0 0 12 o_a0)
                refine q_getr (ci := 0) (C := RX0) (T := TX0) (N := 15) hx hb hts (fun w h => List.mem_cons_of_mem _ (mfX00 w h)) hown hK hw m_a0 o_a0 rfl 12 (by decide) (hts _ (List.mem_cons_of_mem _ (mr3 _ (List.mem_of_getElem? (i := 3) rfl)))) (fun _ h => h) rfl er_9 dX0_seekAhead_84 ?_
                refine lv_iload_n hx hb dX0_seekAhead_87 rfl (lv_at hl 2 rfl) ?_
                refine q_iald hx hb hK hw m_r_9 1 o_r_9 rfl ⟨ly3_75, uy3_75⟩ (by omega) (by omega) dX0_seekAhead_88 (fun x_10 lx_10 ux_10 ex_10 => ?_)
                refine lv_istore (lv' := [(4, .int (iI x_10)), (0, .ref a0), (1, .int (iI x1)), (3, .int (iI y3_75))]) hx hb dX0_seekAhead_89 hl (by decide) rfl (fun ls hl => ?_)
                refine lv_aload_n hx hb dX0_seekAhead_91 rfl (lv_at hl 1 rfl) ?_
                obtain ⟨r_11, er_11, m_r_11, o_r_11⟩ := (show ∃ r, fR fw75 a0 11 = some r ∧ r ∈ L0 ∧ ArI fw75 r cy.2.1 16 from hg.2.1 _ m_a0 0 11 o_a0)
                refine q_getr (ci := 0) (C := RX0) (T := TX0) (N := 15) hx hb hts (fun w h => List.mem_cons_of_mem _ (mfX00 w h)) hown hK hw m_a0 o_a0 rfl 11 (by decide) (hts _ (List.mem_cons_of_mem _ (mr3 _ (List.mem_of_getElem? (i := 2) rfl)))) (fun _ h => h) rfl er_11 dX0_seekAhead_92 ?_
                refine lv_iload_n hx hb dX0_seekAhead_95 rfl (lv_at hl 3 rfl) ?_
                refine q_iald hx hb hK hw m_r_11 1 o_r_11 rfl ⟨ly3_75, uy3_75⟩ (by omega) (by omega) dX0_seekAhead_96 (fun x_12 lx_12 ux_12 ex_12 => ?_)
                refine lv_istore (lv' := [(5, .int (iI x_12)), (4, .int (iI x_10)), (0, .ref a0), (1, .int (iI x1)), (3, .int (iI y3_75))]) hx hb dX0_seekAhead_97 hl (by decide) rfl (fun ls hl => ?_)
                refine lv_iload hx hb dX0_seekAhead_99 (lv_at hl 1 rfl) ?_
                refine q_iconst hx hb dX0_seekAhead_101 ?_
                have J150 : ∀ (L : List Nat) (fw150 : Nat → va_E) (hg : GI cy L0 fw150) (hE : Ef cy f0 fw150) (o_a0 : Ob fw150 a0 0) (H : Heap) (locs : List Loc) (ls : Array Slot) (hw : Wd D A s.heap L0 fw150 H locs) (hl : lv_has ls 6 [(0, .ref a0), (1, .int (iI x1)), (3, .int (iI y3_75))]), W p l e ({ frames := 4, cells := 0, slots := 0, locals := 88 } : Room) s m ([.ref a0, .int (iI x1)] : List Value).toArray below meth c H locs (0 + 0 + 0) (0 + 0 + 0) (MQ below (Qi D (tq cy) L0 f0 s.heap.size (fun (r : Int) (L1 : List Nat) (f1 : Nat → va_E) => L0 = L1 ∧ GI cy L0 f1 ∧ Ef cy f0 f1 ∧ (r = 0 ∨ r = 1))) ([.ref a0, .int (iI x1)] : List Value).toArray s 0 0 A) (F0 m 150 ls []) := by
                  intro L fw150 hg hE o_a0 H locs ls hw hl
                  obtain ⟨x_13, lx_13, ux_13, hx_13, ex_13⟩ := q_inc y3_75 (1)
                  try (replace ex_13 : x_13 = y3_75 + (1) := by omega)
                  refine lv_iinc (v := iI x_13) (lv' := [(3, .int (iI x_13)), (0, .ref a0), (1, .int (iI x1))]) hx hb dX0_seekAhead_150 hl (k := 2) rfl hx_13 (by decide) rfl (fun ls hl => ?_)
                  refine lv_goto (tgt := 75) hx hb dX0_seekAhead_153 (by decide) ?_
                  exact ih75 x_13 lx_13 ux_13 L0 fw150 hg hE o_a0 (by omega) (by omega) _ _ _ hw (lv_sub hl [1, 2, 0] rfl)
                refine q_icmp_eq (tgt := 150) hx hb dX0_seekAhead_102 (by decide) ⟨lx_10, ux_10⟩ ⟨by decide, by decide⟩ (fun c102 => ?_) (fun c102 => ?_)
                · exact J150 L0 fw75 hg hE o_a0 _ _ _ hw (lv_sub hl [2, 3, 4] rfl)
                · refine lv_iload hx hb dX0_seekAhead_105 (lv_at hl 1 rfl) ?_
                  refine lv_iload_n hx hb dX0_seekAhead_107 rfl (lv_at hl 3 rfl) ?_
                  refine q_icmp_ge (tgt := 150) hx hb dX0_seekAhead_108 (by decide) ⟨lx_10, ux_10⟩ ⟨lx1, ux1⟩ (fun c108 => ?_) (fun c108 => ?_)
                  · exact J150 L0 fw75 hg hE o_a0 _ _ _ hw (lv_sub hl [2, 3, 4] rfl)
                  · refine lv_iload hx hb dX0_seekAhead_111 (lv_at hl 1 rfl) ?_
                    refine lv_aload_n hx hb dX0_seekAhead_113 rfl (lv_at hl 2 rfl) ?_
                    refine q_geti (ci := 0) (C := RX0) (T := TX0) (N := 15) hx hb hts (fun w h => List.mem_cons_of_mem _ (mfX00 w h)) hown hK hw m_a0 o_a0 rfl 13 (by decide) (hts _ (List.mem_cons_of_mem _ (mr29 _ (List.mem_of_getElem? (i := 13) rfl)))) (fun _ h => h) rfl dX0_seekAhead_114 (fun x_14 lx_14 ux_14 ex_14 => ?_)
                    have J138 : ∀ (H : Heap) (locs : List Loc) (ls : Array Slot) (hw : Wd D A s.heap L0 fw75 H locs) (hl : lv_has ls 6 [(0, .ref a0), (1, .int (iI x1)), (3, .int (iI y3_75)), (4, .int (iI x_10)), (5, .int (iI x_12))]), W p l e ({ frames := 4, cells := 0, slots := 0, locals := 88 } : Room) s m ([.ref a0, .int (iI x1)] : List Value).toArray below meth c H locs (0 + 0 + 0) (0 + 0 + 0) (MQ below (Qi D (tq cy) L0 f0 s.heap.size (fun (r : Int) (L1 : List Nat) (f1 : Nat → va_E) => L0 = L1 ∧ GI cy L0 f1 ∧ Ef cy f0 f1 ∧ (r = 0 ∨ r = 1))) ([.ref a0, .int (iI x1)] : List Value).toArray s 0 0 A) (F0 m 138 ls []) := by
                      intro H locs ls hw hl
                      refine lv_aload_n hx hb dX0_seekAhead_138 rfl (lv_at hl 0 rfl) ?_
                      refine lv_iload hx hb dX0_seekAhead_139 (lv_at hl 3 rfl) ?_
                      refine q_puti (ci := 0) (C := RX0) (T := TX0) (N := 15) hx hb hts (fun w h => List.mem_cons_of_mem _ (mfX00 w h)) hown hK hw m_a0 o_a0 rfl 13 (by decide) (hts _ (List.mem_cons_of_mem _ (mr29 _ (List.mem_of_getElem? (i := 13) rfl)))) (fun _ h => h) tyX0 tyX0_ok nmX0 rfl (ty := .int) (by decide +kernel) rfl rfl dX0_seekAhead_141 (fun H locs hw => ?_)
                      have oo := o_a0
                      obtain ⟨f_15, ef_15⟩ : ∃ g : Nat → va_E, g = pU fw75 a0 13 (.int (iI x_10)) := ⟨_, rfl⟩
                      have hX : Ef cy fw75 f_15 := by rw [ef_15]; exact Ef_pU oo rfl rfl (by decide)
                      have hg : GI cy L0 f_15 := by rw [ef_15]; exact hg.putI oo rfl ⟨lx_10, ux_10⟩ trivial
                      rw [← ef_15] at hw
                      have hE := hE.trans hX
                      have o_a0 := hX.1.1.1 _ _ o_a0
                      have vf_15 : fI f_15 a0 13 = x_10 := by rw [ef_15]; exact fI_pU_self oo rfl ⟨lx_10, ux_10⟩
                      refine lv_aload_n hx hb dX0_seekAhead_144 rfl (lv_at hl 0 rfl) ?_
                      refine lv_iload hx hb dX0_seekAhead_145 (lv_at hl 4 rfl) ?_
                      refine q_puti (ci := 0) (C := RX0) (T := TX0) (N := 15) hx hb hts (fun w h => List.mem_cons_of_mem _ (mfX00 w h)) hown hK hw m_a0 o_a0 rfl 14 (by decide) (hts _ (List.mem_cons_of_mem _ (mr29 _ (List.mem_of_getElem? (i := 11) rfl)))) (fun _ h => h) tyX0 tyX0_ok nmX0 rfl (ty := .int) (by decide +kernel) rfl rfl dX0_seekAhead_147 (fun H locs hw => ?_)
                      have oo := o_a0
                      obtain ⟨f_16, ef_16⟩ : ∃ g : Nat → va_E, g = pU f_15 a0 14 (.int (iI x_12)) := ⟨_, rfl⟩
                      have hX : Ef cy f_15 f_16 := by rw [ef_16]; exact Ef_pU oo rfl rfl (by decide)
                      have hg : GI cy L0 f_16 := by rw [ef_16]; exact hg.putI oo rfl ⟨lx_12, ux_12⟩ trivial
                      rw [← ef_16] at hw
                      have hE := hE.trans hX
                      have o_a0 := hX.1.1.1 _ _ o_a0
                      have vf_16 : fI f_16 a0 14 = x_12 := by rw [ef_16]; exact fI_pU_self oo rfl ⟨lx_12, ux_12⟩
                      exact J150 L0 f_16 hg hE o_a0 _ _ _ hw (lv_sub hl [0, 1, 2] rfl)
                    refine q_icmp_gt (tgt := 138) hx hb dX0_seekAhead_117 (by decide) ⟨lx_10, ux_10⟩ ⟨lx_14, ux_14⟩ (fun c117 => ?_) (fun c117 => ?_)
                    · exact J138 _ _ _ hw (lv_sub hl [2, 3, 4, 1, 0] rfl)
                    · refine lv_iload hx hb dX0_seekAhead_120 (lv_at hl 1 rfl) ?_
                      refine lv_aload_n hx hb dX0_seekAhead_122 rfl (lv_at hl 2 rfl) ?_
                      refine q_geti (ci := 0) (C := RX0) (T := TX0) (N := 15) hx hb hts (fun w h => List.mem_cons_of_mem _ (mfX00 w h)) hown hK hw m_a0 o_a0 rfl 13 (by decide) (hts _ (List.mem_cons_of_mem _ (mr29 _ (List.mem_of_getElem? (i := 13) rfl)))) (fun _ h => h) rfl dX0_seekAhead_123 (fun x_17 lx_17 ux_17 ex_17 => ?_)
                      refine q_icmp_ne (tgt := 150) hx hb dX0_seekAhead_126 (by decide) ⟨lx_10, ux_10⟩ ⟨lx_17, ux_17⟩ (fun c126 => ?_) (fun c126 => ?_)
                      · exact J150 L0 fw75 hg hE o_a0 _ _ _ hw (lv_sub hl [2, 3, 4] rfl)
                      · refine lv_iload hx hb dX0_seekAhead_129 (lv_at hl 0 rfl) ?_
                        refine lv_aload_n hx hb dX0_seekAhead_131 rfl (lv_at hl 2 rfl) ?_
                        refine q_geti (ci := 0) (C := RX0) (T := TX0) (N := 15) hx hb hts (fun w h => List.mem_cons_of_mem _ (mfX00 w h)) hown hK hw m_a0 o_a0 rfl 14 (by decide) (hts _ (List.mem_cons_of_mem _ (mr29 _ (List.mem_of_getElem? (i := 11) rfl)))) (fun _ h => h) rfl dX0_seekAhead_132 (fun x_18 lx_18 ux_18 ex_18 => ?_)
                        refine q_icmp_le (tgt := 150) hx hb dX0_seekAhead_135 (by decide) ⟨lx_12, ux_12⟩ ⟨lx_18, ux_18⟩ (fun c135 => ?_) (fun c135 => ?_)
                        · exact J150 L0 fw75 hg hE o_a0 _ _ _ hw (lv_sub hl [2, 3, 4] rfl)
                        · exact J138 _ _ _ hw (lv_sub hl [2, 3, 4, 1, 0] rfl)
          exact J75 ((((2147483647 : Int) - 0).toNat) + 1) 0 (by decide) (by decide) L0 f_6 hg hE o_a0 (by omega) (by omega) _ _ _ hw (lv_sub hl [1, 2, 0] rfl)
        refine q_icmp_ne (tgt := 65) hx hb dX0_seekAhead_58 (by decide) ⟨ly2_14, uy2_14⟩ ⟨by decide, by decide⟩ (fun c58 => ?_) (fun c58 => ?_)
        · refine lv_aload_n hx hb dX0_seekAhead_65 rfl (lv_at hl 0 rfl) ?_
          refine lv_iload_n hx hb dX0_seekAhead_66 rfl (lv_at hl 2 rfl) ?_
          refine q_call_i hA hK hw (va_runV (As := [.int (iI y2_14)]) (rest := [.ref a0]) ⟨hx, hb, hml, hown, hts⟩ (c_X0_timeOf zo l D cy L0 f_5 a0 y2_14 ly2_14 uy2_14 m_a0 o_a0 hg _) (cwV 1 hts (gT (inV (mr29 _ (List.mem_of_getElem? (i := 23) rfl)) (mr30 _ (List.mem_of_getElem? (i := 0) rfl)) (mr30 _ (List.mem_of_getElem? (i := 1) rfl)) (mr2 _ (List.mem_of_getElem? (i := 9) rfl)) (mr30 _ (List.mem_of_getElem? (i := 2) rfl)))) rfl rfl rfl (by decide +kernel) ⟨Nat.le_of_ble_eq_true rfl, Nat.le_of_ble_eq_true rfl⟩) (Wd.preV zo hA hZ hw hK m_a0 o_a0 rfl) rfl rfl hl.1 rfl (lv_room (Nat.le_of_ble_eq_true rfl)) dX0_seekAhead_67 ⟨Nat.le_of_ble_eq_true rfl, Nat.le_of_ble_eq_true rfl⟩) (fun x_19 L1 f1 H locs lx_19 ux_19 ex_19 hw => ?_)
          obtain ⟨rfl, rfl, ex_19⟩ := ex_19
          exact J70 x_19 lx_19 ux_19 _ _ _ hw (lv_sub hl [0, 1] rfl)
        · refine q_iconst hx hb dX0_seekAhead_61 ?_
          refine lv_goto (tgt := 70) hx hb dX0_seekAhead_62 (by decide) ?_
          exact J70 ((-1)) (by decide) (by decide) _ _ _ hw (lv_sub hl [0, 1] rfl)
      refine q_icmp_ge (tgt := 50) hx hb dX0_seekAhead_19 (by decide) ⟨ly3_14, uy3_14⟩ ⟨lx_4, ux_4⟩ (fun c19 => ?_) (fun c19 => ?_)
      · exact J50 _ _ _ hw (lv_sub hl [0, 1, 2] rfl)
      · refine lv_iload_n hx hb dX0_seekAhead_22 rfl (lv_at hl 2 rfl) ?_
        refine q_iconst hx hb dX0_seekAhead_23 ?_
        refine q_icmp_eq (tgt := 50) hx hb dX0_seekAhead_24 (by decide) ⟨ly2_14, uy2_14⟩ ⟨by decide, by decide⟩ (fun c24 => ?_) (fun c24 => ?_)
        · exact J50 _ _ _ hw (lv_sub hl [0, 1, 2] rfl)
        · refine lv_aload_n hx hb dX0_seekAhead_27 rfl (lv_at hl 0 rfl) ?_
          refine lv_iload_n hx hb dX0_seekAhead_28 rfl (lv_at hl 2 rfl) ?_
          refine q_call_i hA hK hw (va_runV (As := [.int (iI y2_14)]) (rest := []) ⟨hx, hb, hml, hown, hts⟩ (c_X0_changeOf zo l D cy L0 f0 a0 y2_14 ly2_14 uy2_14 m_a0 o_a0 hg _) (cwV 1 hts (gT (inV (mr26 _ (List.mem_of_getElem? (i := 15) rfl)) (mr26 _ (List.mem_of_getElem? (i := 16) rfl)) (mr26 _ (List.mem_of_getElem? (i := 17) rfl)) (mr2 _ (List.mem_of_getElem? (i := 9) rfl)) (mr26 _ (List.mem_of_getElem? (i := 18) rfl)))) rfl rfl rfl (by decide +kernel) ⟨Nat.le_of_ble_eq_true rfl, Nat.le_of_ble_eq_true rfl⟩) (Wd.preV zo hA hZ hw hK m_a0 o_a0 rfl) rfl rfl hl.1 rfl (lv_room (Nat.le_of_ble_eq_true rfl)) dX0_seekAhead_29 ⟨Nat.le_of_ble_eq_true rfl, Nat.le_of_ble_eq_true rfl⟩) (fun x_20 L1 f1 H locs lx_20 ux_20 ex_20 hw => ?_)
          obtain ⟨rfl, rfl, ex_20⟩ := ex_20
          refine q_iconst hx hb dX0_seekAhead_32 ?_
          refine q_icmp_eq (tgt := 50) hx hb dX0_seekAhead_33 (by decide) ⟨lx_20, ux_20⟩ ⟨by decide, by decide⟩ (fun c33 => ?_) (fun c33 => ?_)
          · exact J50 _ _ _ hw (lv_sub hl [0, 1, 2] rfl)
          · refine lv_aload_n hx hb dX0_seekAhead_36 rfl (lv_at hl 0 rfl) ?_
            refine lv_iload_n hx hb dX0_seekAhead_37 rfl (lv_at hl 2 rfl) ?_
            refine q_iconst hx hb dX0_seekAhead_38 ?_
            first | refine q_isub hx hb dX0_seekAhead_39 ⟨by omega, by omega⟩ (fun x_21 lx_21 ux_21 ex_21 => ?_) | refine q_isubw hx hb dX0_seekAhead_39 (fun x_21 lx_21 ux_21 _ => ?_)
            refine q_call_i hA hK hw (va_runV (As := [.int (iI x_21)]) (rest := []) ⟨hx, hb, hml, hown, hts⟩ (c_X0_keyTo zo l D cy L0 f0 a0 x_21 lx_21 ux_21 m_a0 o_a0 hg _) (cwV 1 hts (gT (inV (mr31 _ (List.mem_of_getElem? (i := 3) rfl)) (mr31 _ (List.mem_of_getElem? (i := 4) rfl)) (mr31 _ (List.mem_of_getElem? (i := 5) rfl)) (mr2 _ (List.mem_of_getElem? (i := 9) rfl)) (mr31 _ (List.mem_of_getElem? (i := 6) rfl)))) rfl rfl rfl (by decide +kernel) ⟨Nat.le_of_ble_eq_true rfl, Nat.le_of_ble_eq_true rfl⟩) (Wd.preV zo hA hZ hw hK m_a0 o_a0 rfl) rfl rfl hl.1 rfl (lv_room (Nat.le_of_ble_eq_true rfl)) dX0_seekAhead_40 ⟨Nat.le_of_ble_eq_true rfl, Nat.le_of_ble_eq_true rfl⟩) (fun x_22 L1 f1 H locs lx_22 ux_22 ex_22 hw => ?_)
            obtain ⟨rfl, rfl, ex_22⟩ := ex_22
            refine lv_istore_n (lv' := [(2, .int (iI x_22)), (0, .ref a0), (1, .int (iI x1)), (3, .int (iI y3_14))]) hx hb dX0_seekAhead_43 rfl hl (by decide) rfl (fun ls hl => ?_)
            obtain ⟨x_23, lx_23, ux_23, hx_23, ex_23⟩ := q_inc y3_14 (1)
            try (replace ex_23 : x_23 = y3_14 + (1) := by omega)
            refine lv_iinc (v := iI x_23) (lv' := [(3, .int (iI x_23)), (2, .int (iI x_22)), (0, .ref a0), (1, .int (iI x1))]) hx hb dX0_seekAhead_44 hl (k := 3) rfl hx_23 (by decide) rfl (fun ls hl => ?_)
            refine lv_goto (tgt := 14) hx hb dX0_seekAhead_47 (by decide) ?_
            exact ih14 x_22 lx_22 ux_22 x_23 lx_23 ux_23 (by omega) (by omega) _ _ _ hw (lv_sub hl [2, 3, 1, 0] rfl)
  exact J14 ((((2147483647 : Int) - 0).toNat) + 1) x_3 lx_3 ux_3 0 (by decide) (by decide) (by omega) (by omega) _ _ _ hw (lv_sub hl [2, 3, 1, 0] rfl)
set_option maxHeartbeats 4000000 in
set_option maxRecDepth 100000 in
theorem c_X0_meet_z {Z : Zt} (zo : Zok Z) (l : Launch) (D : va_G) (cy : Cy) (L0 : List Nat) (f0 : Nat → va_E) (a0 : Nat) (x1 : Int) (lx1 : -2147483648 ≤ x1) (ux1 : x1 ≤ 2147483647) (x2 : Int) (lx2 : -2147483648 ≤ x2) (ux2 : x2 ≤ 2147483647) (x3 : Int) (lx3 : -2147483648 ≤ x3) (ux3 : x3 ≤ 2147483647) (m_a0 : a0 ∈ L0) (o_a0 : Ob f0 a0 0) (hg : GI cy L0 f0) : Ci Z l yX0_meet (Cond.code yX0_meet cX0_meet 4 (some .int) :: TB) ({ frames := 5, cells := 0, slots := 0, locals := 117 } : Room) 0 0 D (tq cy) [.ref a0, .int (iI x1), .int (iI x2), .int (iI x3)] L0 f0 (fun (r : Int) (L1 : List Nat) (f1 : Nat → va_E) => L0 = L1 ∧ GI cy L0 f1 ∧ Ef cy f0 f1 ∧ (True)) := by
  refine Ci.enter (cc := cX0_meet) (n := 4) rfl (plainFor_of_name (by decide)) (Nat.le_of_ble_eq_true rfl) ?_
  intro p e s m below meth c ls A hx hb hr hts hown hlocks hnm hml hK hA hAe hw hZ hl
  have hown : s.vm.findClass RX0 = some m.cls := hown
  have hl : lv_has ls 4 [(0, .ref a0), (1, .int (iI x1)), (2, .int (iI x2)), (3, .int (iI x3))] := hl
  have hN : ZN s := (zo.2.2.2.2 _ _ _ hZ).2
  have hE : Ef cy f0 f0 := Ef.refl cy f0
  refine lv_iload_n hx hb dX0_meet_0 rfl (lv_at hl 1 rfl) ?_
  refine lv_iload_n hx hb dX0_meet_1 rfl (lv_at hl 3 rfl) ?_
  have J30 : ∀ (L : List Nat) (fw30 : Nat → va_E) (hg : GI cy L0 fw30) (hE : Ef cy f0 fw30) (o_a0 : Ob fw30 a0 0) (H : Heap) (locs : List Loc) (ls : Array Slot) (hw : Wd D A s.heap L0 fw30 H locs) (hl : lv_has ls 4 [(0, .ref a0), (1, .int (iI x1)), (2, .int (iI x2)), (3, .int (iI x3))]), W p l e ({ frames := 5, cells := 0, slots := 0, locals := 117 } : Room) s m ([.ref a0, .int (iI x1), .int (iI x2), .int (iI x3)] : List Value).toArray below meth c H locs (0) (0) (MQ below (Qi D (tq cy) L0 f0 s.heap.size (fun (r : Int) (L1 : List Nat) (f1 : Nat → va_E) => L0 = L1 ∧ GI cy L0 f1 ∧ Ef cy f0 f1 ∧ (True))) ([.ref a0, .int (iI x1), .int (iI x2), .int (iI x3)] : List Value).toArray s 0 0 A) (F0 m 30 ls []) := by
    intro L fw30 hg hE o_a0 H locs ls hw hl
    refine lv_aload_n hx hb dX0_meet_30 rfl (lv_at hl 0 rfl) ?_
    refine lv_iload_n hx hb dX0_meet_31 rfl (lv_at hl 1 rfl) ?_
    refine q_iconst hx hb dX0_meet_32 ?_
    first | refine q_iadd hx hb dX0_meet_33 ⟨by omega, by omega⟩ (fun x_1 lx_1 ux_1 ex_1 => ?_) | refine q_iaddw hx hb dX0_meet_33 (fun x_1 lx_1 ux_1 _ => ?_)
    refine lv_iload_n hx hb dX0_meet_34 rfl (lv_at hl 3 rfl) ?_
    refine q_max hx hb (hml.trans hl.1.symm) hown (hts _ (List.mem_cons_of_mem _ (mr25 _ (List.mem_of_getElem? (i := 20) rfl)))) (hts _ (List.mem_cons_of_mem _ (mr13 _ (List.mem_of_getElem? (i := 0) rfl)))) (hts _ (List.mem_cons_of_mem _ (mr6 _ (List.mem_of_getElem? (i := 14) rfl)))) (hts _ (List.mem_cons_of_mem _ (mr13 _ (List.mem_of_getElem? (i := 1) rfl)))) (Nat.le_of_ble_eq_true rfl) (Nat.le_of_ble_eq_true rfl) (Nat.le_of_ble_eq_true rfl) (Nat.le_of_ble_eq_true rfl) ⟨lx_1, ux_1⟩ ⟨lx3, ux3⟩ dX0_meet_35 (fun x_2 lx_2 ux_2 ex_2 => ?_)
    refine q_iconst hx hb dX0_meet_38 ?_
    refine q_call_i hA hK hw (va_runV (As := [.int (iI x_2), .int (iI 0)]) (rest := []) ⟨hx, hb, hml, hown, hts⟩ (c_X0_seek_z zo l D cy L0 fw30 a0 x_2 lx_2 ux_2 0 (by decide) (by decide) m_a0 o_a0 hg _) (cwV 2 hts (gT (inV (mr35 _ (List.mem_of_getElem? (i := 14) rfl)) (mr29 _ (List.mem_of_getElem? (i := 8) rfl)) (mr29 _ (List.mem_of_getElem? (i := 9) rfl)) (mr2 _ (List.mem_of_getElem? (i := 9) rfl)) (mr29 _ (List.mem_of_getElem? (i := 10) rfl)))) rfl rfl rfl (by decide +kernel) ⟨Nat.le_of_ble_eq_true rfl, Nat.le_of_ble_eq_true rfl⟩) (Wd.preV zo hA hZ hw hK m_a0 o_a0 rfl) rfl rfl hl.1 rfl (lv_room (Nat.le_of_ble_eq_true rfl)) dX0_meet_39 ⟨Nat.le_of_ble_eq_true rfl, Nat.le_of_ble_eq_true rfl⟩) (fun x_3 L1 f_4 H locs lx_3 ux_3 ex_3 hw => ?_)
    obtain ⟨rfl, hg, hX, ex_3⟩ := ex_3
    have hE := hE.trans hX
    have o_a0 := hX.1.1.1 _ _ o_a0
    refine q_if_eq (tgt := 60) hx hb dX0_meet_42 (by decide) ⟨lx_3, ux_3⟩ (fun c42 => ?_) (fun c42 => ?_)
    · refine q_ldc (n := 2147483647) hx hb hown (hts _ (List.mem_cons_of_mem _ (mr29 _ (List.mem_of_getElem? (i := 12) rfl)))) rfl dX0_meet_60 ?_
      exact q_ret_i hx hb hr hlocks hK hAe hw ⟨by decide, by decide⟩ (Nat.le_of_ble_eq_true rfl) (Nat.le_of_ble_eq_true rfl) dX0_meet_62 (by exact ⟨rfl, hg, hE, by first | trivial | omega⟩)
    · refine lv_aload_n hx hb dX0_meet_45 rfl (lv_at hl 0 rfl) ?_
      refine q_geti (ci := 0) (C := RX0) (T := TX0) (N := 15) hx hb hts (fun w h => List.mem_cons_of_mem _ (mfX00 w h)) hown hK hw m_a0 o_a0 rfl 13 (by decide) (hts _ (List.mem_cons_of_mem _ (mr29 _ (List.mem_of_getElem? (i := 13) rfl)))) (fun _ h => h) rfl dX0_meet_46 (fun x_5 lx_5 ux_5 ex_5 => ?_)
      refine lv_iload_n hx hb dX0_meet_49 rfl (lv_at hl 1 rfl) ?_
      refine lv_iload_n hx hb dX0_meet_50 rfl (lv_at hl 2 rfl) ?_
      first | refine q_iadd hx hb dX0_meet_51 ⟨by omega, by omega⟩ (fun x_6 lx_6 ux_6 ex_6 => ?_) | refine q_iaddw hx hb dX0_meet_51 (fun x_6 lx_6 ux_6 _ => ?_)
      refine q_icmp_ge (tgt := 60) hx hb dX0_meet_52 (by decide) ⟨lx_5, ux_5⟩ ⟨lx_6, ux_6⟩ (fun c52 => ?_) (fun c52 => ?_)
      · refine q_ldc (n := 2147483647) hx hb hown (hts _ (List.mem_cons_of_mem _ (mr29 _ (List.mem_of_getElem? (i := 12) rfl)))) rfl dX0_meet_60 ?_
        exact q_ret_i hx hb hr hlocks hK hAe hw ⟨by decide, by decide⟩ (Nat.le_of_ble_eq_true rfl) (Nat.le_of_ble_eq_true rfl) dX0_meet_62 (by exact ⟨rfl, hg, hE, by first | trivial | omega⟩)
      · refine lv_aload_n hx hb dX0_meet_55 rfl (lv_at hl 0 rfl) ?_
        refine q_geti (ci := 0) (C := RX0) (T := TX0) (N := 15) hx hb hts (fun w h => List.mem_cons_of_mem _ (mfX00 w h)) hown hK hw m_a0 o_a0 rfl 13 (by decide) (hts _ (List.mem_cons_of_mem _ (mr29 _ (List.mem_of_getElem? (i := 13) rfl)))) (fun _ h => h) rfl dX0_meet_56 (fun x_7 lx_7 ux_7 ex_7 => ?_)
        exact q_ret_i hx hb hr hlocks hK hAe hw ⟨lx_7, ux_7⟩ (Nat.le_of_ble_eq_true rfl) (Nat.le_of_ble_eq_true rfl) dX0_meet_59 (by exact ⟨rfl, hg, hE, by first | trivial | omega⟩)
  refine q_icmp_lt (tgt := 30) hx hb dX0_meet_2 (by decide) ⟨lx1, ux1⟩ ⟨lx3, ux3⟩ (fun c2 => ?_) (fun c2 => ?_)
  · exact J30 L0 f0 hg hE o_a0 _ _ _ hw (lv_sub hl [0, 1, 2, 3] rfl)
  · refine lv_aload_n hx hb dX0_meet_5 rfl (lv_at hl 0 rfl) ?_
    refine lv_iload_n hx hb dX0_meet_6 rfl (lv_at hl 1 rfl) ?_
    refine q_iconst hx hb dX0_meet_7 ?_
    first | refine q_iadd hx hb dX0_meet_8 ⟨by omega, by omega⟩ (fun x_8 lx_8 ux_8 ex_8 => ?_) | refine q_iaddw hx hb dX0_meet_8 (fun x_8 lx_8 ux_8 _ => ?_)
    refine q_call_i hA hK hw (va_runV (As := [.int (iI x_8)]) (rest := []) ⟨hx, hb, hml, hown, hts⟩ (c_X0_seekAhead_z zo l D cy L0 f0 a0 x_8 lx_8 ux_8 m_a0 o_a0 hg _) (cwV 1 hts (gT (inV (mr35 _ (List.mem_of_getElem? (i := 13) rfl)) (mr30 _ (List.mem_of_getElem? (i := 20) rfl)) (mr30 _ (List.mem_of_getElem? (i := 21) rfl)) (mr2 _ (List.mem_of_getElem? (i := 9) rfl)) (mr30 _ (List.mem_of_getElem? (i := 22) rfl)))) rfl rfl rfl (by decide +kernel) ⟨Nat.le_of_ble_eq_true rfl, Nat.le_of_ble_eq_true rfl⟩) (Wd.preV zo hA hZ hw hK m_a0 o_a0 rfl) rfl rfl hl.1 rfl (lv_room (Nat.le_of_ble_eq_true rfl)) dX0_meet_9 ⟨Nat.le_of_ble_eq_true rfl, Nat.le_of_ble_eq_true rfl⟩) (fun x_9 L1 f_10 H locs lx_9 ux_9 ex_9 hw => ?_)
    obtain ⟨rfl, hg, hX, ex_9⟩ := ex_9
    have hE := hE.trans hX
    have o_a0 := hX.1.1.1 _ _ o_a0
    refine q_if_eq (tgt := 30) hx hb dX0_meet_12 (by decide) ⟨lx_9, ux_9⟩ (fun c12 => ?_) (fun c12 => ?_)
    · exact J30 L0 f_10 hg hE o_a0 _ _ _ hw (lv_sub hl [0, 1, 2, 3] rfl)
    · refine lv_aload_n hx hb dX0_meet_15 rfl (lv_at hl 0 rfl) ?_
      refine q_geti (ci := 0) (C := RX0) (T := TX0) (N := 15) hx hb hts (fun w h => List.mem_cons_of_mem _ (mfX00 w h)) hown hK hw m_a0 o_a0 rfl 13 (by decide) (hts _ (List.mem_cons_of_mem _ (mr29 _ (List.mem_of_getElem? (i := 13) rfl)))) (fun _ h => h) rfl dX0_meet_16 (fun x_11 lx_11 ux_11 ex_11 => ?_)
      refine lv_aload_n hx hb dX0_meet_19 rfl (lv_at hl 0 rfl) ?_
      refine q_geti (ci := 0) (C := RX0) (T := TX0) (N := 15) hx hb hts (fun w h => List.mem_cons_of_mem _ (mfX00 w h)) hown hK hw m_a0 o_a0 rfl 2 (by decide) (hts _ (List.mem_cons_of_mem _ (mr35 _ (List.mem_of_getElem? (i := 12) rfl)))) (fun _ h => h) rfl dX0_meet_20 (fun x_12 lx_12 ux_12 ex_12 => ?_)
      first | refine q_iadd hx hb dX0_meet_23 ⟨by omega, by omega⟩ (fun x_13 lx_13 ux_13 ex_13 => ?_) | refine q_iaddw hx hb dX0_meet_23 (fun x_13 lx_13 ux_13 _ => ?_)
      refine lv_iload_n hx hb dX0_meet_24 rfl (lv_at hl 1 rfl) ?_
      refine q_icmp_le (tgt := 30) hx hb dX0_meet_25 (by decide) ⟨lx_13, ux_13⟩ ⟨lx1, ux1⟩ (fun c25 => ?_) (fun c25 => ?_)
      · exact J30 L0 f_10 hg hE o_a0 _ _ _ hw (lv_sub hl [0, 1, 2, 3] rfl)
      · refine lv_iload_n hx hb dX0_meet_28 rfl (lv_at hl 1 rfl) ?_
        exact q_ret_i hx hb hr hlocks hK hAe hw ⟨lx1, ux1⟩ (Nat.le_of_ble_eq_true rfl) (Nat.le_of_ble_eq_true rfl) dX0_meet_29 (by exact ⟨rfl, hg, hE, by first | trivial | omega⟩)
set_option maxHeartbeats 4000000 in
set_option maxRecDepth 100000 in
theorem c_X9_drop_z {Z : Zt} (zo : Zok Z) (l : Launch) (D : va_G) (cy : Cy) (L0 : List Nat) (f0 : Nat → va_E) (a0 : Nat) (x1 : Int) (lx1 : -2147483648 ≤ x1) (ux1 : x1 ≤ 2147483647) (x2 : Int) (lx2 : -2147483648 ≤ x2) (ux2 : x2 ≤ 2147483647) (m_a0 : a0 ∈ L0) (o_a0 : Ob f0 a0 7) (hg : GI cy L0 f0) : Ci Z l yX9_drop (Cond.code yX9_drop cX9_drop 4 (some .boolean) :: TB) ({ frames := 5, cells := 0, slots := 0, locals := 111 } : Room) 0 0 D (tq cy) [.ref a0, .int (iI x1), .int (iI x2)] L0 f0 (fun (r : Int) (L1 : List Nat) (f1 : Nat → va_E) => L0 = L1 ∧ GI cy L0 f1 ∧ Ef cy f0 f1 ∧ (r = 0 ∨ r = 1)) := by
  refine Ci.enter (cc := cX9_drop) (n := 4) rfl (plainFor_of_name (by decide)) (Nat.le_of_ble_eq_true rfl) ?_
  intro p e s m below meth c ls A hx hb hr hts hown hlocks hnm hml hK hA hAe hw hZ hl
  have hown : s.vm.findClass RX9 = some m.cls := hown
  have hl : lv_has ls 4 [(0, .ref a0), (1, .int (iI x1)), (2, .int (iI x2))] := hl
  have hN : ZN s := (zo.2.2.2.2 _ _ _ hZ).2
  have hE : Ef cy f0 f0 := Ef.refl cy f0
  refine lv_aload_n hx hb dX9_drop_0 rfl (lv_at hl 0 rfl) ?_
  obtain ⟨r_1, er_1, m_r_1, o_r_1⟩ := (show ∃ r, fR f0 a0 2 = some r ∧ r ∈ L0 ∧ Ob f0 r 5 from hg.2.1 _ m_a0 7 2 o_a0)
  refine q_getr (ci := 7) (C := RX9) (T := TX9) (N := 4) hx hb hts (fun w h => List.mem_cons_of_mem _ (mfX90 w h)) hown hK hw m_a0 o_a0 rfl 2 (by decide) (hts _ (List.mem_cons_of_mem _ (mr1 _ (List.mem_of_getElem? (i := 20) rfl)))) (fun _ h => h) rfl er_1 dX9_drop_1 ?_
  refine lv_iload_n hx hb dX9_drop_4 rfl (lv_at hl 1 rfl) ?_
  refine q_call_i hA hK hw (va_runV (As := [.int (iI x1)]) (rest := []) ⟨hx, hb, hml, hown, hts⟩ (c_X7_has zo l D cy L0 f0 r_1 x1 lx1 ux1 m_r_1 o_r_1 hg _) (cwV 1 hts (gT (inV (mr22 _ (List.mem_of_getElem? (i := 9) rfl)) (mr22 _ (List.mem_of_getElem? (i := 10) rfl)) (mr22 _ (List.mem_of_getElem? (i := 11) rfl)) (mr1 _ (List.mem_of_getElem? (i := 19) rfl)) (mr22 _ (List.mem_of_getElem? (i := 12) rfl)))) rfl rfl rfl (by decide +kernel) ⟨Nat.le_of_ble_eq_true rfl, Nat.le_of_ble_eq_true rfl⟩) (Wd.preV zo hA hZ hw hK m_r_1 o_r_1 rfl) rfl rfl hl.1 rfl (lv_room (Nat.le_of_ble_eq_true rfl)) dX9_drop_5 ⟨Nat.le_of_ble_eq_true rfl, Nat.le_of_ble_eq_true rfl⟩) (fun x_2 L1 f1 H locs lx_2 ux_2 ex_2 hw => ?_)
  obtain ⟨rfl, rfl, ex_2⟩ := ex_2
  refine q_if_eq (tgt := 26) hx hb dX9_drop_8 (by decide) ⟨lx_2, ux_2⟩ (fun c8 => ?_) (fun c8 => ?_)
  · refine q_iconst hx hb dX9_drop_26 ?_
    exact q_ret_z hx hb hr hlocks hK hAe hw (by omega) (Nat.le_of_ble_eq_true rfl) (Nat.le_of_ble_eq_true rfl) dX9_drop_27 (by exact ⟨rfl, hg, hE, by first | trivial | omega⟩)
  · refine lv_aload_n hx hb dX9_drop_11 rfl (lv_at hl 0 rfl) ?_
    refine q_getr (ci := 7) (C := RX9) (T := TX9) (N := 4) hx hb hts (fun w h => List.mem_cons_of_mem _ (mfX90 w h)) hown hK hw m_a0 o_a0 rfl 2 (by decide) (hts _ (List.mem_cons_of_mem _ (mr1 _ (List.mem_of_getElem? (i := 20) rfl)))) (fun _ h => h) rfl er_1 dX9_drop_12 ?_
    refine lv_iload_n hx hb dX9_drop_15 rfl (lv_at hl 1 rfl) ?_
    refine q_call_r hA hK hw (va_runV (As := [.int (iI x1)]) (rest := []) ⟨hx, hb, hml, hown, hts⟩ (c_X7_at zo l D cy L0 f0 r_1 x1 lx1 ux1 m_r_1 o_r_1 hg (by omega) (by omega) _) (cwV 1 hts (gT (inV (mr24 _ (List.mem_of_getElem? (i := 8) rfl)) (mr24 _ (List.mem_of_getElem? (i := 9) rfl)) (mr24 _ (List.mem_of_getElem? (i := 10) rfl)) (mr1 _ (List.mem_of_getElem? (i := 19) rfl)) (mr24 _ (List.mem_of_getElem? (i := 11) rfl)))) rfl rfl rfl (by decide +kernel) ⟨Nat.le_of_ble_eq_true rfl, Nat.le_of_ble_eq_true rfl⟩) (Wd.preV zo hA hZ hw hK m_r_1 o_r_1 rfl) rfl rfl hl.1 rfl (lv_room (Nat.le_of_ble_eq_true rfl)) dX9_drop_16 ⟨Nat.le_of_ble_eq_true rfl, Nat.le_of_ble_eq_true rfl⟩) (fun x_3 L1 f1 H locs ex_3 hw => ?_)
    obtain ⟨rfl, rfl, ex_3⟩ := ex_3
    obtain ⟨m_x_3, o_x_3⟩ := ex_3
    refine lv_iload_n hx hb dX9_drop_19 rfl (lv_at hl 2 rfl) ?_
    refine q_call_i hA hK hw (va_runV (As := [.int (iI x2)]) (rest := []) ⟨hx, hb, hml, hown, hts⟩ (c_X0_isKey zo l D cy L0 f0 x_3 x2 lx2 ux2 m_x_3 o_x_3 hg _) (cwV 1 hts (gT (inV (mr26 _ (List.mem_of_getElem? (i := 6) rfl)) (mr26 _ (List.mem_of_getElem? (i := 7) rfl)) (mr26 _ (List.mem_of_getElem? (i := 8) rfl)) (mr2 _ (List.mem_of_getElem? (i := 9) rfl)) (mr26 _ (List.mem_of_getElem? (i := 9) rfl)))) rfl rfl rfl (by decide +kernel) ⟨Nat.le_of_ble_eq_true rfl, Nat.le_of_ble_eq_true rfl⟩) (Wd.preV zo hA hZ hw hK m_x_3 o_x_3 rfl) rfl rfl hl.1 rfl (lv_room (Nat.le_of_ble_eq_true rfl)) dX9_drop_20 ⟨Nat.le_of_ble_eq_true rfl, Nat.le_of_ble_eq_true rfl⟩) (fun x_4 L1 f1 H locs lx_4 ux_4 ex_4 hw => ?_)
    obtain ⟨rfl, rfl, ex_4⟩ := ex_4
    refine q_if_ne (tgt := 28) hx hb dX9_drop_23 (by decide) ⟨lx_4, ux_4⟩ (fun c23 => ?_) (fun c23 => ?_)
    · refine lv_aload_n hx hb dX9_drop_28 rfl (lv_at hl 0 rfl) ?_
      refine q_getr (ci := 7) (C := RX9) (T := TX9) (N := 4) hx hb hts (fun w h => List.mem_cons_of_mem _ (mfX90 w h)) hown hK hw m_a0 o_a0 rfl 2 (by decide) (hts _ (List.mem_cons_of_mem _ (mr1 _ (List.mem_of_getElem? (i := 20) rfl)))) (fun _ h => h) rfl er_1 dX9_drop_29 ?_
      refine lv_iload_n hx hb dX9_drop_32 rfl (lv_at hl 1 rfl) ?_
      refine q_call_r hA hK hw (va_runV (As := [.int (iI x1)]) (rest := []) ⟨hx, hb, hml, hown, hts⟩ (c_X7_at zo l D cy L0 f0 r_1 x1 lx1 ux1 m_r_1 o_r_1 hg (by omega) (by omega) _) (cwV 1 hts (gT (inV (mr24 _ (List.mem_of_getElem? (i := 8) rfl)) (mr24 _ (List.mem_of_getElem? (i := 9) rfl)) (mr24 _ (List.mem_of_getElem? (i := 10) rfl)) (mr1 _ (List.mem_of_getElem? (i := 19) rfl)) (mr24 _ (List.mem_of_getElem? (i := 11) rfl)))) rfl rfl rfl (by decide +kernel) ⟨Nat.le_of_ble_eq_true rfl, Nat.le_of_ble_eq_true rfl⟩) (Wd.preV zo hA hZ hw hK m_r_1 o_r_1 rfl) rfl rfl hl.1 rfl (lv_room (Nat.le_of_ble_eq_true rfl)) dX9_drop_33 ⟨Nat.le_of_ble_eq_true rfl, Nat.le_of_ble_eq_true rfl⟩) (fun x_5 L1 f1 H locs ex_5 hw => ?_)
      obtain ⟨rfl, rfl, ex_5⟩ := ex_5
      obtain ⟨m_x_5, o_x_5⟩ := ex_5
      refine lv_astore_n (lv' := [(3, .ref x_5), (0, .ref a0), (1, .int (iI x1)), (2, .int (iI x2))]) hx hb dX9_drop_36 rfl hl (by decide) rfl (fun ls hl => ?_)
      refine lv_aload_n hx hb dX9_drop_37 rfl (lv_at hl 0 rfl) ?_
      refine lv_iload_n hx hb dX9_drop_38 rfl (lv_at hl 3 rfl) ?_
      refine q_call_i hA hK hw (va_runV (As := [.int (iI x2)]) (rest := []) ⟨hx, hb, hml, hown, hts⟩ (c_X0_isDropped zo l D cy L0 f0 x_5 x2 lx2 ux2 m_x_5 o_x_5 hg _) (cwV 1 hts (gT (inV (mr26 _ (List.mem_of_getElem? (i := 11) rfl)) (mr26 _ (List.mem_of_getElem? (i := 12) rfl)) (mr26 _ (List.mem_of_getElem? (i := 13) rfl)) (mr2 _ (List.mem_of_getElem? (i := 9) rfl)) (mr26 _ (List.mem_of_getElem? (i := 14) rfl)))) rfl rfl rfl (by decide +kernel) ⟨Nat.le_of_ble_eq_true rfl, Nat.le_of_ble_eq_true rfl⟩) (Wd.preV zo hA hZ hw hK m_x_5 o_x_5 rfl) rfl rfl hl.1 rfl (lv_room (Nat.le_of_ble_eq_true rfl)) dX9_drop_39 ⟨Nat.le_of_ble_eq_true rfl, Nat.le_of_ble_eq_true rfl⟩) (fun x_6 L1 f1 H locs lx_6 ux_6 ex_6 hw => ?_)
      obtain ⟨rfl, rfl, ex_6⟩ := ex_6
      refine q_if_ne (tgt := 58) hx hb dX9_drop_42 (by decide) ⟨lx_6, ux_6⟩ (fun c42 => ?_) (fun c42 => ?_)
      · refine q_iconst hx hb dX9_drop_58 ?_
        exact q_ret_z hx hb hr hlocks hK hAe hw (by omega) (Nat.le_of_ble_eq_true rfl) (Nat.le_of_ble_eq_true rfl) dX9_drop_59 (by exact ⟨rfl, hg, hE, by first | trivial | omega⟩)
      · refine lv_aload_n hx hb dX9_drop_45 rfl (lv_at hl 0 rfl) ?_
        refine lv_iload_n hx hb dX9_drop_46 rfl (lv_at hl 3 rfl) ?_
        refine q_iconst hx hb dX9_drop_47 ?_
        refine q_call_i hA hK hw (va_runV (As := [.int (iI x2), .int (iI ((-1)))]) (rest := []) ⟨hx, hb, hml, hown, hts⟩ (c_X0_change_z zo l D cy L0 f0 x_5 x2 lx2 ux2 ((-1)) (by decide) (by decide) m_x_5 o_x_5 hg _) (cwV 2 hts (gT (inV (mr26 _ (List.mem_of_getElem? (i := 19) rfl)) (mr26 _ (List.mem_of_getElem? (i := 20) rfl)) (mr26 _ (List.mem_of_getElem? (i := 21) rfl)) (mr2 _ (List.mem_of_getElem? (i := 9) rfl)) (mr26 _ (List.mem_of_getElem? (i := 22) rfl)))) rfl rfl rfl (by decide +kernel) ⟨Nat.le_of_ble_eq_true rfl, Nat.le_of_ble_eq_true rfl⟩) (Wd.preV zo hA hZ hw hK m_x_5 o_x_5 rfl) rfl rfl hl.1 rfl (lv_room (Nat.le_of_ble_eq_true rfl)) dX9_drop_48 ⟨Nat.le_of_ble_eq_true rfl, Nat.le_of_ble_eq_true rfl⟩) (fun x_7 L1 f_8 H locs lx_7 ux_7 ex_7 hw => ?_)
        obtain ⟨rfl, hg, hX, ex_7⟩ := ex_7
        have hE := hE.trans hX
        have o_x_5 := hX.1.1.1 _ _ o_x_5
        have o_a0 := hX.1.1.1 _ _ o_a0
        refine q_if_eq (tgt := 58) hx hb dX9_drop_51 (by decide) ⟨lx_7, ux_7⟩ (fun c51 => ?_) (fun c51 => ?_)
        · refine q_iconst hx hb dX9_drop_58 ?_
          exact q_ret_z hx hb hr hlocks hK hAe hw (by omega) (Nat.le_of_ble_eq_true rfl) (Nat.le_of_ble_eq_true rfl) dX9_drop_59 (by exact ⟨rfl, hg, hE, by first | trivial | omega⟩)
        · refine q_iconst hx hb dX9_drop_54 ?_
          refine lv_goto (tgt := 59) hx hb dX9_drop_55 (by decide) ?_
          exact q_ret_z hx hb hr hlocks hK hAe hw (by omega) (Nat.le_of_ble_eq_true rfl) (Nat.le_of_ble_eq_true rfl) dX9_drop_59 (by exact ⟨rfl, hg, hE, by first | trivial | omega⟩)
    · refine q_iconst hx hb dX9_drop_26 ?_
      exact q_ret_z hx hb hr hlocks hK hAe hw (by omega) (Nat.le_of_ble_eq_true rfl) (Nat.le_of_ble_eq_true rfl) dX9_drop_27 (by exact ⟨rfl, hg, hE, by first | trivial | omega⟩)
set_option maxHeartbeats 4000000 in
set_option maxRecDepth 100000 in
theorem c_X9_move_z {Z : Zt} (zo : Zok Z) (l : Launch) (D : va_G) (cy : Cy) (L0 : List Nat) (f0 : Nat → va_E) (a0 : Nat) (x1 : Int) (lx1 : -2147483648 ≤ x1) (ux1 : x1 ≤ 2147483647) (x2 : Int) (lx2 : -2147483648 ≤ x2) (ux2 : x2 ≤ 2147483647) (x3 : Int) (lx3 : -2147483648 ≤ x3) (ux3 : x3 ≤ 2147483647) (m_a0 : a0 ∈ L0) (o_a0 : Ob f0 a0 7) (hg : GI cy L0 f0) : Ci Z l yX9_move (Cond.code yX9_move cX9_move 4 (some .boolean) :: TB) ({ frames := 5, cells := 0, slots := 0, locals := 111 } : Room) 0 0 D (tq cy) [.ref a0, .int (iI x1), .int (iI x2), .int (iI x3)] L0 f0 (fun (r : Int) (L1 : List Nat) (f1 : Nat → va_E) => L0 = L1 ∧ GI cy L0 f1 ∧ Ef cy f0 f1 ∧ (r = 0 ∨ r = 1)) := by
  refine Ci.enter (cc := cX9_move) (n := 4) rfl (plainFor_of_name (by decide)) (Nat.le_of_ble_eq_true rfl) ?_
  intro p e s m below meth c ls A hx hb hr hts hown hlocks hnm hml hK hA hAe hw hZ hl
  have hown : s.vm.findClass RX9 = some m.cls := hown
  have hl : lv_has ls 4 [(0, .ref a0), (1, .int (iI x1)), (2, .int (iI x2)), (3, .int (iI x3))] := hl
  have hN : ZN s := (zo.2.2.2.2 _ _ _ hZ).2
  have hE : Ef cy f0 f0 := Ef.refl cy f0
  refine lv_aload_n hx hb dX9_move_0 rfl (lv_at hl 0 rfl) ?_
  obtain ⟨r_1, er_1, m_r_1, o_r_1⟩ := (show ∃ r, fR f0 a0 2 = some r ∧ r ∈ L0 ∧ Ob f0 r 5 from hg.2.1 _ m_a0 7 2 o_a0)
  refine q_getr (ci := 7) (C := RX9) (T := TX9) (N := 4) hx hb hts (fun w h => List.mem_cons_of_mem _ (mfX90 w h)) hown hK hw m_a0 o_a0 rfl 2 (by decide) (hts _ (List.mem_cons_of_mem _ (mr1 _ (List.mem_of_getElem? (i := 20) rfl)))) (fun _ h => h) rfl er_1 dX9_move_1 ?_
  refine lv_iload_n hx hb dX9_move_4 rfl (lv_at hl 1 rfl) ?_
  refine q_call_i hA hK hw (va_runV (As := [.int (iI x1)]) (rest := []) ⟨hx, hb, hml, hown, hts⟩ (c_X7_has zo l D cy L0 f0 r_1 x1 lx1 ux1 m_r_1 o_r_1 hg _) (cwV 1 hts (gT (inV (mr22 _ (List.mem_of_getElem? (i := 9) rfl)) (mr22 _ (List.mem_of_getElem? (i := 10) rfl)) (mr22 _ (List.mem_of_getElem? (i := 11) rfl)) (mr1 _ (List.mem_of_getElem? (i := 19) rfl)) (mr22 _ (List.mem_of_getElem? (i := 12) rfl)))) rfl rfl rfl (by decide +kernel) ⟨Nat.le_of_ble_eq_true rfl, Nat.le_of_ble_eq_true rfl⟩) (Wd.preV zo hA hZ hw hK m_r_1 o_r_1 rfl) rfl rfl hl.1 rfl (lv_room (Nat.le_of_ble_eq_true rfl)) dX9_move_5 ⟨Nat.le_of_ble_eq_true rfl, Nat.le_of_ble_eq_true rfl⟩) (fun x_2 L1 f1 H locs lx_2 ux_2 ex_2 hw => ?_)
  obtain ⟨rfl, rfl, ex_2⟩ := ex_2
  refine q_if_eq (tgt := 33) hx hb dX9_move_8 (by decide) ⟨lx_2, ux_2⟩ (fun c8 => ?_) (fun c8 => ?_)
  · refine q_iconst hx hb dX9_move_33 ?_
    exact q_ret_z hx hb hr hlocks hK hAe hw (by omega) (Nat.le_of_ble_eq_true rfl) (Nat.le_of_ble_eq_true rfl) dX9_move_34 (by exact ⟨rfl, hg, hE, by first | trivial | omega⟩)
  · refine lv_aload_n hx hb dX9_move_11 rfl (lv_at hl 0 rfl) ?_
    refine q_getr (ci := 7) (C := RX9) (T := TX9) (N := 4) hx hb hts (fun w h => List.mem_cons_of_mem _ (mfX90 w h)) hown hK hw m_a0 o_a0 rfl 2 (by decide) (hts _ (List.mem_cons_of_mem _ (mr1 _ (List.mem_of_getElem? (i := 20) rfl)))) (fun _ h => h) rfl er_1 dX9_move_12 ?_
    refine lv_iload_n hx hb dX9_move_15 rfl (lv_at hl 1 rfl) ?_
    refine q_call_r hA hK hw (va_runV (As := [.int (iI x1)]) (rest := []) ⟨hx, hb, hml, hown, hts⟩ (c_X7_at zo l D cy L0 f0 r_1 x1 lx1 ux1 m_r_1 o_r_1 hg (by omega) (by omega) _) (cwV 1 hts (gT (inV (mr24 _ (List.mem_of_getElem? (i := 8) rfl)) (mr24 _ (List.mem_of_getElem? (i := 9) rfl)) (mr24 _ (List.mem_of_getElem? (i := 10) rfl)) (mr1 _ (List.mem_of_getElem? (i := 19) rfl)) (mr24 _ (List.mem_of_getElem? (i := 11) rfl)))) rfl rfl rfl (by decide +kernel) ⟨Nat.le_of_ble_eq_true rfl, Nat.le_of_ble_eq_true rfl⟩) (Wd.preV zo hA hZ hw hK m_r_1 o_r_1 rfl) rfl rfl hl.1 rfl (lv_room (Nat.le_of_ble_eq_true rfl)) dX9_move_16 ⟨Nat.le_of_ble_eq_true rfl, Nat.le_of_ble_eq_true rfl⟩) (fun x_3 L1 f1 H locs ex_3 hw => ?_)
    obtain ⟨rfl, rfl, ex_3⟩ := ex_3
    obtain ⟨m_x_3, o_x_3⟩ := ex_3
    refine lv_iload_n hx hb dX9_move_19 rfl (lv_at hl 2 rfl) ?_
    refine q_call_i hA hK hw (va_runV (As := [.int (iI x2)]) (rest := []) ⟨hx, hb, hml, hown, hts⟩ (c_X0_isKey zo l D cy L0 f0 x_3 x2 lx2 ux2 m_x_3 o_x_3 hg _) (cwV 1 hts (gT (inV (mr26 _ (List.mem_of_getElem? (i := 6) rfl)) (mr26 _ (List.mem_of_getElem? (i := 7) rfl)) (mr26 _ (List.mem_of_getElem? (i := 8) rfl)) (mr2 _ (List.mem_of_getElem? (i := 9) rfl)) (mr26 _ (List.mem_of_getElem? (i := 9) rfl)))) rfl rfl rfl (by decide +kernel) ⟨Nat.le_of_ble_eq_true rfl, Nat.le_of_ble_eq_true rfl⟩) (Wd.preV zo hA hZ hw hK m_x_3 o_x_3 rfl) rfl rfl hl.1 rfl (lv_room (Nat.le_of_ble_eq_true rfl)) dX9_move_20 ⟨Nat.le_of_ble_eq_true rfl, Nat.le_of_ble_eq_true rfl⟩) (fun x_4 L1 f1 H locs lx_4 ux_4 ex_4 hw => ?_)
    obtain ⟨rfl, rfl, ex_4⟩ := ex_4
    refine q_if_eq (tgt := 33) hx hb dX9_move_23 (by decide) ⟨lx_4, ux_4⟩ (fun c23 => ?_) (fun c23 => ?_)
    · refine q_iconst hx hb dX9_move_33 ?_
      exact q_ret_z hx hb hr hlocks hK hAe hw (by omega) (Nat.le_of_ble_eq_true rfl) (Nat.le_of_ble_eq_true rfl) dX9_move_34 (by exact ⟨rfl, hg, hE, by first | trivial | omega⟩)
    · refine lv_iload_n hx hb dX9_move_26 rfl (lv_at hl 3 rfl) ?_
      refine q_call_i hA hK hw (va_runS (As := [.int (iI x3)]) (rest := []) ⟨hx, hb, hml, hown, hts⟩ (c_X9_isTime zo l D cy L0 f0 x3 lx3 ux3 _) (va_cwS 1 hts (gT (inS (mr27 _ (List.mem_of_getElem? (i := 19) rfl)) (mr27 _ (List.mem_of_getElem? (i := 20) rfl)) (mr1 _ (List.mem_of_getElem? (i := 2) rfl)) (mr27 _ (List.mem_of_getElem? (i := 21) rfl)))) rfl rfl rfl (by decide +kernel) ⟨Nat.le_of_ble_eq_true rfl, Nat.le_of_ble_eq_true rfl⟩) (Wd.preS zo hA hZ hw hK) rfl rfl hl.1 rfl (lv_room (Nat.le_of_ble_eq_true rfl)) dX9_move_27 ⟨Nat.le_of_ble_eq_true rfl, Nat.le_of_ble_eq_true rfl⟩) (fun x_5 L1 f1 H locs lx_5 ux_5 ex_5 hw => ?_)
      obtain ⟨rfl, rfl, ex_5⟩ := ex_5
      refine q_if_ne (tgt := 35) hx hb dX9_move_30 (by decide) ⟨lx_5, ux_5⟩ (fun c30 => ?_) (fun c30 => ?_)
      · refine lv_aload_n hx hb dX9_move_35 rfl (lv_at hl 0 rfl) ?_
        refine q_getr (ci := 7) (C := RX9) (T := TX9) (N := 4) hx hb hts (fun w h => List.mem_cons_of_mem _ (mfX90 w h)) hown hK hw m_a0 o_a0 rfl 2 (by decide) (hts _ (List.mem_cons_of_mem _ (mr1 _ (List.mem_of_getElem? (i := 20) rfl)))) (fun _ h => h) rfl er_1 dX9_move_36 ?_
        refine lv_iload_n hx hb dX9_move_39 rfl (lv_at hl 1 rfl) ?_
        refine q_call_r hA hK hw (va_runV (As := [.int (iI x1)]) (rest := []) ⟨hx, hb, hml, hown, hts⟩ (c_X7_at zo l D cy L0 f0 r_1 x1 lx1 ux1 m_r_1 o_r_1 hg (by omega) (by omega) _) (cwV 1 hts (gT (inV (mr24 _ (List.mem_of_getElem? (i := 8) rfl)) (mr24 _ (List.mem_of_getElem? (i := 9) rfl)) (mr24 _ (List.mem_of_getElem? (i := 10) rfl)) (mr1 _ (List.mem_of_getElem? (i := 19) rfl)) (mr24 _ (List.mem_of_getElem? (i := 11) rfl)))) rfl rfl rfl (by decide +kernel) ⟨Nat.le_of_ble_eq_true rfl, Nat.le_of_ble_eq_true rfl⟩) (Wd.preV zo hA hZ hw hK m_r_1 o_r_1 rfl) rfl rfl hl.1 rfl (lv_room (Nat.le_of_ble_eq_true rfl)) dX9_move_40 ⟨Nat.le_of_ble_eq_true rfl, Nat.le_of_ble_eq_true rfl⟩) (fun x_6 L1 f1 H locs ex_6 hw => ?_)
        obtain ⟨rfl, rfl, ex_6⟩ := ex_6
        obtain ⟨m_x_6, o_x_6⟩ := ex_6
        refine lv_iload_n hx hb dX9_move_43 rfl (lv_at hl 2 rfl) ?_
        refine lv_iload_n hx hb dX9_move_44 rfl (lv_at hl 3 rfl) ?_
        refine q_call_i hA hK hw (va_runV (As := [.int (iI x2), .int (iI x3)]) (rest := []) ⟨hx, hb, hml, hown, hts⟩ (c_X0_change_z zo l D cy L0 f0 x_6 x2 lx2 ux2 x3 lx3 ux3 m_x_6 o_x_6 hg _) (cwV 2 hts (gT (inV (mr26 _ (List.mem_of_getElem? (i := 19) rfl)) (mr26 _ (List.mem_of_getElem? (i := 20) rfl)) (mr26 _ (List.mem_of_getElem? (i := 21) rfl)) (mr2 _ (List.mem_of_getElem? (i := 9) rfl)) (mr26 _ (List.mem_of_getElem? (i := 22) rfl)))) rfl rfl rfl (by decide +kernel) ⟨Nat.le_of_ble_eq_true rfl, Nat.le_of_ble_eq_true rfl⟩) (Wd.preV zo hA hZ hw hK m_x_6 o_x_6 rfl) rfl rfl hl.1 rfl (lv_room (Nat.le_of_ble_eq_true rfl)) dX9_move_45 ⟨Nat.le_of_ble_eq_true rfl, Nat.le_of_ble_eq_true rfl⟩) (fun x_7 L1 f_8 H locs lx_7 ux_7 ex_7 hw => ?_)
        obtain ⟨rfl, hg, hX, ex_7⟩ := ex_7
        have hE := hE.trans hX
        have o_a0 := hX.1.1.1 _ _ o_a0
        exact q_ret_z hx hb hr hlocks hK hAe hw (by omega) (Nat.le_of_ble_eq_true rfl) (Nat.le_of_ble_eq_true rfl) dX9_move_48 (by exact ⟨rfl, hg, hE, by first | trivial | omega⟩)
      · refine q_iconst hx hb dX9_move_33 ?_
        exact q_ret_z hx hb hr hlocks hK hAe hw (by omega) (Nat.le_of_ble_eq_true rfl) (Nat.le_of_ble_eq_true rfl) dX9_move_34 (by exact ⟨rfl, hg, hE, by first | trivial | omega⟩)
set_option maxHeartbeats 4000000 in
set_option maxRecDepth 100000 in
theorem c_X9_restore_z {Z : Zt} (zo : Zok Z) (l : Launch) (D : va_G) (cy : Cy) (L0 : List Nat) (f0 : Nat → va_E) (a0 : Nat) (x1 : Int) (lx1 : -2147483648 ≤ x1) (ux1 : x1 ≤ 2147483647) (x2 : Int) (lx2 : -2147483648 ≤ x2) (ux2 : x2 ≤ 2147483647) (m_a0 : a0 ∈ L0) (o_a0 : Ob f0 a0 7) (hg : GI cy L0 f0) : Ci Z l yX9_restore (Cond.code yX9_restore cX9_restore 3 (some .int) :: TB) ({ frames := 5, cells := 0, slots := 0, locals := 111 } : Room) 0 0 D (tq cy) [.ref a0, .int (iI x1), .int (iI x2)] L0 f0 (fun (r : Int) (L1 : List Nat) (f1 : Nat → va_E) => L0 = L1 ∧ GI cy L0 f1 ∧ Ef cy f0 f1 ∧ (True)) := by
  refine Ci.enter (cc := cX9_restore) (n := 3) rfl (plainFor_of_name (by decide)) (Nat.le_of_ble_eq_true rfl) ?_
  intro p e s m below meth c ls A hx hb hr hts hown hlocks hnm hml hK hA hAe hw hZ hl
  have hown : s.vm.findClass RX9 = some m.cls := hown
  have hl : lv_has ls 3 [(0, .ref a0), (1, .int (iI x1)), (2, .int (iI x2))] := hl
  have hN : ZN s := (zo.2.2.2.2 _ _ _ hZ).2
  have hE : Ef cy f0 f0 := Ef.refl cy f0
  refine lv_aload_n hx hb dX9_restore_0 rfl (lv_at hl 0 rfl) ?_
  obtain ⟨r_1, er_1, m_r_1, o_r_1⟩ := (show ∃ r, fR f0 a0 2 = some r ∧ r ∈ L0 ∧ Ob f0 r 5 from hg.2.1 _ m_a0 7 2 o_a0)
  refine q_getr (ci := 7) (C := RX9) (T := TX9) (N := 4) hx hb hts (fun w h => List.mem_cons_of_mem _ (mfX90 w h)) hown hK hw m_a0 o_a0 rfl 2 (by decide) (hts _ (List.mem_cons_of_mem _ (mr1 _ (List.mem_of_getElem? (i := 20) rfl)))) (fun _ h => h) rfl er_1 dX9_restore_1 ?_
  refine lv_iload_n hx hb dX9_restore_4 rfl (lv_at hl 1 rfl) ?_
  refine q_call_i hA hK hw (va_runV (As := [.int (iI x1)]) (rest := []) ⟨hx, hb, hml, hown, hts⟩ (c_X7_has zo l D cy L0 f0 r_1 x1 lx1 ux1 m_r_1 o_r_1 hg _) (cwV 1 hts (gT (inV (mr22 _ (List.mem_of_getElem? (i := 9) rfl)) (mr22 _ (List.mem_of_getElem? (i := 10) rfl)) (mr22 _ (List.mem_of_getElem? (i := 11) rfl)) (mr1 _ (List.mem_of_getElem? (i := 19) rfl)) (mr22 _ (List.mem_of_getElem? (i := 12) rfl)))) rfl rfl rfl (by decide +kernel) ⟨Nat.le_of_ble_eq_true rfl, Nat.le_of_ble_eq_true rfl⟩) (Wd.preV zo hA hZ hw hK m_r_1 o_r_1 rfl) rfl rfl hl.1 rfl (lv_room (Nat.le_of_ble_eq_true rfl)) dX9_restore_5 ⟨Nat.le_of_ble_eq_true rfl, Nat.le_of_ble_eq_true rfl⟩) (fun x_2 L1 f1 H locs lx_2 ux_2 ex_2 hw => ?_)
  obtain ⟨rfl, rfl, ex_2⟩ := ex_2
  refine q_if_eq (tgt := 26) hx hb dX9_restore_8 (by decide) ⟨lx_2, ux_2⟩ (fun c8 => ?_) (fun c8 => ?_)
  · refine q_iconst hx hb dX9_restore_26 ?_
    exact q_ret_i hx hb hr hlocks hK hAe hw ⟨by decide, by decide⟩ (Nat.le_of_ble_eq_true rfl) (Nat.le_of_ble_eq_true rfl) dX9_restore_27 (by exact ⟨rfl, hg, hE, by first | trivial | omega⟩)
  · refine lv_aload_n hx hb dX9_restore_11 rfl (lv_at hl 0 rfl) ?_
    refine q_getr (ci := 7) (C := RX9) (T := TX9) (N := 4) hx hb hts (fun w h => List.mem_cons_of_mem _ (mfX90 w h)) hown hK hw m_a0 o_a0 rfl 2 (by decide) (hts _ (List.mem_cons_of_mem _ (mr1 _ (List.mem_of_getElem? (i := 20) rfl)))) (fun _ h => h) rfl er_1 dX9_restore_12 ?_
    refine lv_iload_n hx hb dX9_restore_15 rfl (lv_at hl 1 rfl) ?_
    refine q_call_r hA hK hw (va_runV (As := [.int (iI x1)]) (rest := []) ⟨hx, hb, hml, hown, hts⟩ (c_X7_at zo l D cy L0 f0 r_1 x1 lx1 ux1 m_r_1 o_r_1 hg (by omega) (by omega) _) (cwV 1 hts (gT (inV (mr24 _ (List.mem_of_getElem? (i := 8) rfl)) (mr24 _ (List.mem_of_getElem? (i := 9) rfl)) (mr24 _ (List.mem_of_getElem? (i := 10) rfl)) (mr1 _ (List.mem_of_getElem? (i := 19) rfl)) (mr24 _ (List.mem_of_getElem? (i := 11) rfl)))) rfl rfl rfl (by decide +kernel) ⟨Nat.le_of_ble_eq_true rfl, Nat.le_of_ble_eq_true rfl⟩) (Wd.preV zo hA hZ hw hK m_r_1 o_r_1 rfl) rfl rfl hl.1 rfl (lv_room (Nat.le_of_ble_eq_true rfl)) dX9_restore_16 ⟨Nat.le_of_ble_eq_true rfl, Nat.le_of_ble_eq_true rfl⟩) (fun x_3 L1 f1 H locs ex_3 hw => ?_)
    obtain ⟨rfl, rfl, ex_3⟩ := ex_3
    obtain ⟨m_x_3, o_x_3⟩ := ex_3
    refine lv_iload_n hx hb dX9_restore_19 rfl (lv_at hl 2 rfl) ?_
    refine q_call_i hA hK hw (va_runV (As := [.int (iI x2)]) (rest := []) ⟨hx, hb, hml, hown, hts⟩ (c_X0_isKey zo l D cy L0 f0 x_3 x2 lx2 ux2 m_x_3 o_x_3 hg _) (cwV 1 hts (gT (inV (mr26 _ (List.mem_of_getElem? (i := 6) rfl)) (mr26 _ (List.mem_of_getElem? (i := 7) rfl)) (mr26 _ (List.mem_of_getElem? (i := 8) rfl)) (mr2 _ (List.mem_of_getElem? (i := 9) rfl)) (mr26 _ (List.mem_of_getElem? (i := 9) rfl)))) rfl rfl rfl (by decide +kernel) ⟨Nat.le_of_ble_eq_true rfl, Nat.le_of_ble_eq_true rfl⟩) (Wd.preV zo hA hZ hw hK m_x_3 o_x_3 rfl) rfl rfl hl.1 rfl (lv_room (Nat.le_of_ble_eq_true rfl)) dX9_restore_20 ⟨Nat.le_of_ble_eq_true rfl, Nat.le_of_ble_eq_true rfl⟩) (fun x_4 L1 f1 H locs lx_4 ux_4 ex_4 hw => ?_)
    obtain ⟨rfl, rfl, ex_4⟩ := ex_4
    refine q_if_ne (tgt := 28) hx hb dX9_restore_23 (by decide) ⟨lx_4, ux_4⟩ (fun c23 => ?_) (fun c23 => ?_)
    · refine lv_aload_n hx hb dX9_restore_28 rfl (lv_at hl 0 rfl) ?_
      refine q_getr (ci := 7) (C := RX9) (T := TX9) (N := 4) hx hb hts (fun w h => List.mem_cons_of_mem _ (mfX90 w h)) hown hK hw m_a0 o_a0 rfl 2 (by decide) (hts _ (List.mem_cons_of_mem _ (mr1 _ (List.mem_of_getElem? (i := 20) rfl)))) (fun _ h => h) rfl er_1 dX9_restore_29 ?_
      refine lv_iload_n hx hb dX9_restore_32 rfl (lv_at hl 1 rfl) ?_
      refine q_call_r hA hK hw (va_runV (As := [.int (iI x1)]) (rest := []) ⟨hx, hb, hml, hown, hts⟩ (c_X7_at zo l D cy L0 f0 r_1 x1 lx1 ux1 m_r_1 o_r_1 hg (by omega) (by omega) _) (cwV 1 hts (gT (inV (mr24 _ (List.mem_of_getElem? (i := 8) rfl)) (mr24 _ (List.mem_of_getElem? (i := 9) rfl)) (mr24 _ (List.mem_of_getElem? (i := 10) rfl)) (mr1 _ (List.mem_of_getElem? (i := 19) rfl)) (mr24 _ (List.mem_of_getElem? (i := 11) rfl)))) rfl rfl rfl (by decide +kernel) ⟨Nat.le_of_ble_eq_true rfl, Nat.le_of_ble_eq_true rfl⟩) (Wd.preV zo hA hZ hw hK m_r_1 o_r_1 rfl) rfl rfl hl.1 rfl (lv_room (Nat.le_of_ble_eq_true rfl)) dX9_restore_33 ⟨Nat.le_of_ble_eq_true rfl, Nat.le_of_ble_eq_true rfl⟩) (fun x_5 L1 f1 H locs ex_5 hw => ?_)
      obtain ⟨rfl, rfl, ex_5⟩ := ex_5
      obtain ⟨m_x_5, o_x_5⟩ := ex_5
      refine lv_iload_n hx hb dX9_restore_36 rfl (lv_at hl 2 rfl) ?_
      refine q_call_i hA hK hw (va_runV (As := [.int (iI x2)]) (rest := []) ⟨hx, hb, hml, hown, hts⟩ (c_X0_undoChange_z zo l D cy L0 f0 x_5 x2 lx2 ux2 m_x_5 o_x_5 hg _) (cwV 1 hts (gT (inV (mr28 _ (List.mem_of_getElem? (i := 11) rfl)) (mr28 _ (List.mem_of_getElem? (i := 12) rfl)) (mr28 _ (List.mem_of_getElem? (i := 13) rfl)) (mr2 _ (List.mem_of_getElem? (i := 9) rfl)) (mr28 _ (List.mem_of_getElem? (i := 14) rfl)))) rfl rfl rfl (by decide +kernel) ⟨Nat.le_of_ble_eq_true rfl, Nat.le_of_ble_eq_true rfl⟩) (Wd.preV zo hA hZ hw hK m_x_5 o_x_5 rfl) rfl rfl hl.1 rfl (lv_room (Nat.le_of_ble_eq_true rfl)) dX9_restore_37 ⟨Nat.le_of_ble_eq_true rfl, Nat.le_of_ble_eq_true rfl⟩) (fun x_6 L1 f_7 H locs lx_6 ux_6 ex_6 hw => ?_)
      obtain ⟨rfl, hg, hX, ex_6⟩ := ex_6
      have hE := hE.trans hX
      have o_a0 := hX.1.1.1 _ _ o_a0
      exact q_ret_i hx hb hr hlocks hK hAe hw ⟨lx_6, ux_6⟩ (Nat.le_of_ble_eq_true rfl) (Nat.le_of_ble_eq_true rfl) dX9_restore_40 (by exact ⟨rfl, hg, hE, by first | trivial | omega⟩)
    · refine q_iconst hx hb dX9_restore_26 ?_
      exact q_ret_i hx hb hr hlocks hK hAe hw ⟨by decide, by decide⟩ (Nat.le_of_ble_eq_true rfl) (Nat.le_of_ble_eq_true rfl) dX9_restore_27 (by exact ⟨rfl, hg, hE, by first | trivial | omega⟩)
set_option maxHeartbeats 4000000 in
set_option maxRecDepth 100000 in
theorem c_X9_next_z {Z : Zt} (zo : Zok Z) (l : Launch) (D : va_G) (cy : Cy) (L0 : List Nat) (f0 : Nat → va_E) (a0 : Nat) (x1 : Int) (lx1 : -2147483648 ≤ x1) (ux1 : x1 ≤ 2147483647) (x2 : Int) (lx2 : -2147483648 ≤ x2) (ux2 : x2 ≤ 2147483647) (x3 : Int) (lx3 : -2147483648 ≤ x3) (ux3 : x3 ≤ 2147483647) (m_a0 : a0 ∈ L0) (o_a0 : Ob f0 a0 7) (hg : GI cy L0 f0) : Ci Z l yX9_next (Cond.code yX9_next cX9_next 5 (some .int) :: TB) ({ frames := 5, cells := 0, slots := 0, locals := 117 } : Room) 0 0 D (tq cy) [.ref a0, .int (iI x1), .int (iI x2), .int (iI x3)] L0 f0 (fun (r : Int) (L1 : List Nat) (f1 : Nat → va_E) => L0 = L1 ∧ GI cy L0 f1 ∧ Ef cy f0 f1 ∧ (True)) := by
  refine Ci.enter (cc := cX9_next) (n := 5) rfl (plainFor_of_name (by decide)) (Nat.le_of_ble_eq_true rfl) ?_
  intro p e s m below meth c ls A hx hb hr hts hown hlocks hnm hml hK hA hAe hw hZ hl
  have hown : s.vm.findClass RX9 = some m.cls := hown
  have hl : lv_has ls 5 [(0, .ref a0), (1, .int (iI x1)), (2, .int (iI x2)), (3, .int (iI x3))] := hl
  have hN : ZN s := (zo.2.2.2.2 _ _ _ hZ).2
  have hE : Ef cy f0 f0 := Ef.refl cy f0
  refine lv_aload_n hx hb dX9_next_0 rfl (lv_at hl 0 rfl) ?_
  obtain ⟨r_1, er_1, m_r_1, o_r_1⟩ := (show ∃ r, fR f0 a0 2 = some r ∧ r ∈ L0 ∧ Ob f0 r 5 from hg.2.1 _ m_a0 7 2 o_a0)
  refine q_getr (ci := 7) (C := RX9) (T := TX9) (N := 4) hx hb hts (fun w h => List.mem_cons_of_mem _ (mfX90 w h)) hown hK hw m_a0 o_a0 rfl 2 (by decide) (hts _ (List.mem_cons_of_mem _ (mr1 _ (List.mem_of_getElem? (i := 20) rfl)))) (fun _ h => h) rfl er_1 dX9_next_1 ?_
  refine lv_iload_n hx hb dX9_next_4 rfl (lv_at hl 1 rfl) ?_
  refine q_call_i hA hK hw (va_runV (As := [.int (iI x1)]) (rest := []) ⟨hx, hb, hml, hown, hts⟩ (c_X7_has zo l D cy L0 f0 r_1 x1 lx1 ux1 m_r_1 o_r_1 hg _) (cwV 1 hts (gT (inV (mr22 _ (List.mem_of_getElem? (i := 9) rfl)) (mr22 _ (List.mem_of_getElem? (i := 10) rfl)) (mr22 _ (List.mem_of_getElem? (i := 11) rfl)) (mr1 _ (List.mem_of_getElem? (i := 19) rfl)) (mr22 _ (List.mem_of_getElem? (i := 12) rfl)))) rfl rfl rfl (by decide +kernel) ⟨Nat.le_of_ble_eq_true rfl, Nat.le_of_ble_eq_true rfl⟩) (Wd.preV zo hA hZ hw hK m_r_1 o_r_1 rfl) rfl rfl hl.1 rfl (lv_room (Nat.le_of_ble_eq_true rfl)) dX9_next_5 ⟨Nat.le_of_ble_eq_true rfl, Nat.le_of_ble_eq_true rfl⟩) (fun x_2 L1 f1 H locs lx_2 ux_2 ex_2 hw => ?_)
  obtain ⟨rfl, rfl, ex_2⟩ := ex_2
  refine q_if_eq (tgt := 18) hx hb dX9_next_8 (by decide) ⟨lx_2, ux_2⟩ (fun c8 => ?_) (fun c8 => ?_)
  · refine q_iconst hx hb dX9_next_18 ?_
    exact q_ret_i hx hb hr hlocks hK hAe hw ⟨by decide, by decide⟩ (Nat.le_of_ble_eq_true rfl) (Nat.le_of_ble_eq_true rfl) dX9_next_19 (by exact ⟨rfl, hg, hE, by first | trivial | omega⟩)
  · refine lv_iload_n hx hb dX9_next_11 rfl (lv_at hl 2 rfl) ?_
    refine q_call_i hA hK hw (va_runS (As := [.int (iI x2)]) (rest := []) ⟨hx, hb, hml, hown, hts⟩ (c_X9_isTime zo l D cy L0 f0 x2 lx2 ux2 _) (va_cwS 1 hts (gT (inS (mr27 _ (List.mem_of_getElem? (i := 19) rfl)) (mr27 _ (List.mem_of_getElem? (i := 20) rfl)) (mr1 _ (List.mem_of_getElem? (i := 2) rfl)) (mr27 _ (List.mem_of_getElem? (i := 21) rfl)))) rfl rfl rfl (by decide +kernel) ⟨Nat.le_of_ble_eq_true rfl, Nat.le_of_ble_eq_true rfl⟩) (Wd.preS zo hA hZ hw hK) rfl rfl hl.1 rfl (lv_room (Nat.le_of_ble_eq_true rfl)) dX9_next_12 ⟨Nat.le_of_ble_eq_true rfl, Nat.le_of_ble_eq_true rfl⟩) (fun x_3 L1 f1 H locs lx_3 ux_3 ex_3 hw => ?_)
    obtain ⟨rfl, rfl, ex_3⟩ := ex_3
    refine q_if_ne (tgt := 20) hx hb dX9_next_15 (by decide) ⟨lx_3, ux_3⟩ (fun c15 => ?_) (fun c15 => ?_)
    · refine lv_aload_n hx hb dX9_next_20 rfl (lv_at hl 0 rfl) ?_
      refine q_getr (ci := 7) (C := RX9) (T := TX9) (N := 4) hx hb hts (fun w h => List.mem_cons_of_mem _ (mfX90 w h)) hown hK hw m_a0 o_a0 rfl 2 (by decide) (hts _ (List.mem_cons_of_mem _ (mr1 _ (List.mem_of_getElem? (i := 20) rfl)))) (fun _ h => h) rfl er_1 dX9_next_21 ?_
      refine lv_iload_n hx hb dX9_next_24 rfl (lv_at hl 1 rfl) ?_
      refine q_call_r hA hK hw (va_runV (As := [.int (iI x1)]) (rest := []) ⟨hx, hb, hml, hown, hts⟩ (c_X7_at zo l D cy L0 f0 r_1 x1 lx1 ux1 m_r_1 o_r_1 hg (by omega) (by omega) _) (cwV 1 hts (gT (inV (mr24 _ (List.mem_of_getElem? (i := 8) rfl)) (mr24 _ (List.mem_of_getElem? (i := 9) rfl)) (mr24 _ (List.mem_of_getElem? (i := 10) rfl)) (mr1 _ (List.mem_of_getElem? (i := 19) rfl)) (mr24 _ (List.mem_of_getElem? (i := 11) rfl)))) rfl rfl rfl (by decide +kernel) ⟨Nat.le_of_ble_eq_true rfl, Nat.le_of_ble_eq_true rfl⟩) (Wd.preV zo hA hZ hw hK m_r_1 o_r_1 rfl) rfl rfl hl.1 rfl (lv_room (Nat.le_of_ble_eq_true rfl)) dX9_next_25 ⟨Nat.le_of_ble_eq_true rfl, Nat.le_of_ble_eq_true rfl⟩) (fun x_4 L1 f1 H locs ex_4 hw => ?_)
      obtain ⟨rfl, rfl, ex_4⟩ := ex_4
      obtain ⟨m_x_4, o_x_4⟩ := ex_4
      refine lv_astore (lv' := [(4, .ref x_4), (0, .ref a0), (1, .int (iI x1)), (2, .int (iI x2)), (3, .int (iI x3))]) hx hb dX9_next_28 hl (by decide) rfl (fun ls hl => ?_)
      refine lv_aload hx hb dX9_next_30 (lv_at hl 0 rfl) ?_
      refine lv_iload_n hx hb dX9_next_32 rfl (lv_at hl 3 rfl) ?_
      refine q_iconst hx hb dX9_next_33 ?_
      refine q_call_i hA hK hw (va_runV (As := [.int (iI x2), .int (iI 0)]) (rest := []) ⟨hx, hb, hml, hown, hts⟩ (c_X0_seek_z zo l D cy L0 f0 x_4 x2 lx2 ux2 0 (by decide) (by decide) m_x_4 o_x_4 hg _) (cwV 2 hts (gT (inV (mr29 _ (List.mem_of_getElem? (i := 7) rfl)) (mr29 _ (List.mem_of_getElem? (i := 8) rfl)) (mr29 _ (List.mem_of_getElem? (i := 9) rfl)) (mr2 _ (List.mem_of_getElem? (i := 9) rfl)) (mr29 _ (List.mem_of_getElem? (i := 10) rfl)))) rfl rfl rfl (by decide +kernel) ⟨Nat.le_of_ble_eq_true rfl, Nat.le_of_ble_eq_true rfl⟩) (Wd.preV zo hA hZ hw hK m_x_4 o_x_4 rfl) rfl rfl hl.1 rfl (lv_room (Nat.le_of_ble_eq_true rfl)) dX9_next_34 ⟨Nat.le_of_ble_eq_true rfl, Nat.le_of_ble_eq_true rfl⟩) (fun x_5 L1 f_6 H locs lx_5 ux_5 ex_5 hw => ?_)
      obtain ⟨rfl, hg, hX, ex_5⟩ := ex_5
      have hE := hE.trans hX
      have o_x_4 := hX.1.1.1 _ _ o_x_4
      have o_a0 := hX.1.1.1 _ _ o_a0
      refine lv_pop hx hb dX9_next_37 rfl ?_
      refine lv_aload hx hb dX9_next_38 (lv_at hl 0 rfl) ?_
      refine lv_iload_n hx hb dX9_next_40 rfl (lv_at hl 4 rfl) ?_
      refine q_call_i hA hK hw (va_runV (As := [.int (iI x3)]) (rest := []) ⟨hx, hb, hml, hown, hts⟩ (c_X0_found zo l D cy L0 f_6 x_4 x3 lx3 ux3 m_x_4 o_x_4 hg _) (cwV 1 hts (gT (inV (mr30 _ (List.mem_of_getElem? (i := 3) rfl)) (mr30 _ (List.mem_of_getElem? (i := 4) rfl)) (mr30 _ (List.mem_of_getElem? (i := 5) rfl)) (mr2 _ (List.mem_of_getElem? (i := 9) rfl)) (mr30 _ (List.mem_of_getElem? (i := 6) rfl)))) rfl rfl rfl (by decide +kernel) ⟨Nat.le_of_ble_eq_true rfl, Nat.le_of_ble_eq_true rfl⟩) (Wd.preV zo hA hZ hw hK m_x_4 o_x_4 rfl) rfl rfl hl.1 rfl (lv_room (Nat.le_of_ble_eq_true rfl)) dX9_next_41 ⟨Nat.le_of_ble_eq_true rfl, Nat.le_of_ble_eq_true rfl⟩) (fun x_7 L1 f1 H locs lx_7 ux_7 ex_7 hw => ?_)
      obtain ⟨rfl, rfl, ex_7⟩ := ex_7
      exact q_ret_i hx hb hr hlocks hK hAe hw ⟨lx_7, ux_7⟩ (Nat.le_of_ble_eq_true rfl) (Nat.le_of_ble_eq_true rfl) dX9_next_44 (by exact ⟨rfl, hg, hE, by first | trivial | omega⟩)
    · refine q_iconst hx hb dX9_next_18 ?_
      exact q_ret_i hx hb hr hlocks hK hAe hw ⟨by decide, by decide⟩ (Nat.le_of_ble_eq_true rfl) (Nat.le_of_ble_eq_true rfl) dX9_next_19 (by exact ⟨rfl, hg, hE, by first | trivial | omega⟩)
set_option maxHeartbeats 4000000 in
set_option maxRecDepth 100000 in
theorem c_X9_ahead_z {Z : Zt} (zo : Zok Z) (l : Launch) (D : va_G) (cy : Cy) (L0 : List Nat) (f0 : Nat → va_E) (a0 : Nat) (x1 : Int) (lx1 : -2147483648 ≤ x1) (ux1 : x1 ≤ 2147483647) (x2 : Int) (lx2 : -2147483648 ≤ x2) (ux2 : x2 ≤ 2147483647) (x3 : Int) (lx3 : -2147483648 ≤ x3) (ux3 : x3 ≤ 2147483647) (m_a0 : a0 ∈ L0) (o_a0 : Ob f0 a0 7) (hg : GI cy L0 f0) : Ci Z l yX9_ahead (Cond.code yX9_ahead cX9_ahead 5 (some .int) :: TB) ({ frames := 5, cells := 0, slots := 0, locals := 113 } : Room) 0 0 D (tq cy) [.ref a0, .int (iI x1), .int (iI x2), .int (iI x3)] L0 f0 (fun (r : Int) (L1 : List Nat) (f1 : Nat → va_E) => L0 = L1 ∧ GI cy L0 f1 ∧ Ef cy f0 f1 ∧ (True)) := by
  refine Ci.enter (cc := cX9_ahead) (n := 5) rfl (plainFor_of_name (by decide)) (Nat.le_of_ble_eq_true rfl) ?_
  intro p e s m below meth c ls A hx hb hr hts hown hlocks hnm hml hK hA hAe hw hZ hl
  have hown : s.vm.findClass RX9 = some m.cls := hown
  have hl : lv_has ls 5 [(0, .ref a0), (1, .int (iI x1)), (2, .int (iI x2)), (3, .int (iI x3))] := hl
  have hN : ZN s := (zo.2.2.2.2 _ _ _ hZ).2
  have hE : Ef cy f0 f0 := Ef.refl cy f0
  refine lv_aload_n hx hb dX9_ahead_0 rfl (lv_at hl 0 rfl) ?_
  obtain ⟨r_1, er_1, m_r_1, o_r_1⟩ := (show ∃ r, fR f0 a0 2 = some r ∧ r ∈ L0 ∧ Ob f0 r 5 from hg.2.1 _ m_a0 7 2 o_a0)
  refine q_getr (ci := 7) (C := RX9) (T := TX9) (N := 4) hx hb hts (fun w h => List.mem_cons_of_mem _ (mfX90 w h)) hown hK hw m_a0 o_a0 rfl 2 (by decide) (hts _ (List.mem_cons_of_mem _ (mr1 _ (List.mem_of_getElem? (i := 20) rfl)))) (fun _ h => h) rfl er_1 dX9_ahead_1 ?_
  refine lv_iload_n hx hb dX9_ahead_4 rfl (lv_at hl 1 rfl) ?_
  refine q_call_i hA hK hw (va_runV (As := [.int (iI x1)]) (rest := []) ⟨hx, hb, hml, hown, hts⟩ (c_X7_has zo l D cy L0 f0 r_1 x1 lx1 ux1 m_r_1 o_r_1 hg _) (cwV 1 hts (gT (inV (mr22 _ (List.mem_of_getElem? (i := 9) rfl)) (mr22 _ (List.mem_of_getElem? (i := 10) rfl)) (mr22 _ (List.mem_of_getElem? (i := 11) rfl)) (mr1 _ (List.mem_of_getElem? (i := 19) rfl)) (mr22 _ (List.mem_of_getElem? (i := 12) rfl)))) rfl rfl rfl (by decide +kernel) ⟨Nat.le_of_ble_eq_true rfl, Nat.le_of_ble_eq_true rfl⟩) (Wd.preV zo hA hZ hw hK m_r_1 o_r_1 rfl) rfl rfl hl.1 rfl (lv_room (Nat.le_of_ble_eq_true rfl)) dX9_ahead_5 ⟨Nat.le_of_ble_eq_true rfl, Nat.le_of_ble_eq_true rfl⟩) (fun x_2 L1 f1 H locs lx_2 ux_2 ex_2 hw => ?_)
  obtain ⟨rfl, rfl, ex_2⟩ := ex_2
  refine q_if_eq (tgt := 18) hx hb dX9_ahead_8 (by decide) ⟨lx_2, ux_2⟩ (fun c8 => ?_) (fun c8 => ?_)
  · refine q_iconst hx hb dX9_ahead_18 ?_
    exact q_ret_i hx hb hr hlocks hK hAe hw ⟨by decide, by decide⟩ (Nat.le_of_ble_eq_true rfl) (Nat.le_of_ble_eq_true rfl) dX9_ahead_19 (by exact ⟨rfl, hg, hE, by first | trivial | omega⟩)
  · refine lv_iload_n hx hb dX9_ahead_11 rfl (lv_at hl 2 rfl) ?_
    refine q_call_i hA hK hw (va_runS (As := [.int (iI x2)]) (rest := []) ⟨hx, hb, hml, hown, hts⟩ (c_X9_isTime zo l D cy L0 f0 x2 lx2 ux2 _) (va_cwS 1 hts (gT (inS (mr27 _ (List.mem_of_getElem? (i := 19) rfl)) (mr27 _ (List.mem_of_getElem? (i := 20) rfl)) (mr1 _ (List.mem_of_getElem? (i := 2) rfl)) (mr27 _ (List.mem_of_getElem? (i := 21) rfl)))) rfl rfl rfl (by decide +kernel) ⟨Nat.le_of_ble_eq_true rfl, Nat.le_of_ble_eq_true rfl⟩) (Wd.preS zo hA hZ hw hK) rfl rfl hl.1 rfl (lv_room (Nat.le_of_ble_eq_true rfl)) dX9_ahead_12 ⟨Nat.le_of_ble_eq_true rfl, Nat.le_of_ble_eq_true rfl⟩) (fun x_3 L1 f1 H locs lx_3 ux_3 ex_3 hw => ?_)
    obtain ⟨rfl, rfl, ex_3⟩ := ex_3
    refine q_if_ne (tgt := 20) hx hb dX9_ahead_15 (by decide) ⟨lx_3, ux_3⟩ (fun c15 => ?_) (fun c15 => ?_)
    · refine lv_aload_n hx hb dX9_ahead_20 rfl (lv_at hl 0 rfl) ?_
      refine q_getr (ci := 7) (C := RX9) (T := TX9) (N := 4) hx hb hts (fun w h => List.mem_cons_of_mem _ (mfX90 w h)) hown hK hw m_a0 o_a0 rfl 2 (by decide) (hts _ (List.mem_cons_of_mem _ (mr1 _ (List.mem_of_getElem? (i := 20) rfl)))) (fun _ h => h) rfl er_1 dX9_ahead_21 ?_
      refine lv_iload_n hx hb dX9_ahead_24 rfl (lv_at hl 1 rfl) ?_
      refine q_call_r hA hK hw (va_runV (As := [.int (iI x1)]) (rest := []) ⟨hx, hb, hml, hown, hts⟩ (c_X7_at zo l D cy L0 f0 r_1 x1 lx1 ux1 m_r_1 o_r_1 hg (by omega) (by omega) _) (cwV 1 hts (gT (inV (mr24 _ (List.mem_of_getElem? (i := 8) rfl)) (mr24 _ (List.mem_of_getElem? (i := 9) rfl)) (mr24 _ (List.mem_of_getElem? (i := 10) rfl)) (mr1 _ (List.mem_of_getElem? (i := 19) rfl)) (mr24 _ (List.mem_of_getElem? (i := 11) rfl)))) rfl rfl rfl (by decide +kernel) ⟨Nat.le_of_ble_eq_true rfl, Nat.le_of_ble_eq_true rfl⟩) (Wd.preV zo hA hZ hw hK m_r_1 o_r_1 rfl) rfl rfl hl.1 rfl (lv_room (Nat.le_of_ble_eq_true rfl)) dX9_ahead_25 ⟨Nat.le_of_ble_eq_true rfl, Nat.le_of_ble_eq_true rfl⟩) (fun x_4 L1 f1 H locs ex_4 hw => ?_)
      obtain ⟨rfl, rfl, ex_4⟩ := ex_4
      obtain ⟨m_x_4, o_x_4⟩ := ex_4
      refine lv_astore (lv' := [(4, .ref x_4), (0, .ref a0), (1, .int (iI x1)), (2, .int (iI x2)), (3, .int (iI x3))]) hx hb dX9_ahead_28 hl (by decide) rfl (fun ls hl => ?_)
      refine lv_aload hx hb dX9_ahead_30 (lv_at hl 0 rfl) ?_
      refine lv_iload_n hx hb dX9_ahead_32 rfl (lv_at hl 3 rfl) ?_
      refine q_call_i hA hK hw (va_runV (As := [.int (iI x2)]) (rest := []) ⟨hx, hb, hml, hown, hts⟩ (c_X0_seekAhead_z zo l D cy L0 f0 x_4 x2 lx2 ux2 m_x_4 o_x_4 hg _) (cwV 1 hts (gT (inV (mr30 _ (List.mem_of_getElem? (i := 19) rfl)) (mr30 _ (List.mem_of_getElem? (i := 20) rfl)) (mr30 _ (List.mem_of_getElem? (i := 21) rfl)) (mr2 _ (List.mem_of_getElem? (i := 9) rfl)) (mr30 _ (List.mem_of_getElem? (i := 22) rfl)))) rfl rfl rfl (by decide +kernel) ⟨Nat.le_of_ble_eq_true rfl, Nat.le_of_ble_eq_true rfl⟩) (Wd.preV zo hA hZ hw hK m_x_4 o_x_4 rfl) rfl rfl hl.1 rfl (lv_room (Nat.le_of_ble_eq_true rfl)) dX9_ahead_33 ⟨Nat.le_of_ble_eq_true rfl, Nat.le_of_ble_eq_true rfl⟩) (fun x_5 L1 f_6 H locs lx_5 ux_5 ex_5 hw => ?_)
      obtain ⟨rfl, hg, hX, ex_5⟩ := ex_5
      have hE := hE.trans hX
      have o_x_4 := hX.1.1.1 _ _ o_x_4
      have o_a0 := hX.1.1.1 _ _ o_a0
      refine lv_pop hx hb dX9_ahead_36 rfl ?_
      refine lv_aload hx hb dX9_ahead_37 (lv_at hl 0 rfl) ?_
      refine lv_iload_n hx hb dX9_ahead_39 rfl (lv_at hl 4 rfl) ?_
      refine q_call_i hA hK hw (va_runV (As := [.int (iI x3)]) (rest := []) ⟨hx, hb, hml, hown, hts⟩ (c_X0_found zo l D cy L0 f_6 x_4 x3 lx3 ux3 m_x_4 o_x_4 hg _) (cwV 1 hts (gT (inV (mr30 _ (List.mem_of_getElem? (i := 3) rfl)) (mr30 _ (List.mem_of_getElem? (i := 4) rfl)) (mr30 _ (List.mem_of_getElem? (i := 5) rfl)) (mr2 _ (List.mem_of_getElem? (i := 9) rfl)) (mr30 _ (List.mem_of_getElem? (i := 6) rfl)))) rfl rfl rfl (by decide +kernel) ⟨Nat.le_of_ble_eq_true rfl, Nat.le_of_ble_eq_true rfl⟩) (Wd.preV zo hA hZ hw hK m_x_4 o_x_4 rfl) rfl rfl hl.1 rfl (lv_room (Nat.le_of_ble_eq_true rfl)) dX9_ahead_40 ⟨Nat.le_of_ble_eq_true rfl, Nat.le_of_ble_eq_true rfl⟩) (fun x_7 L1 f1 H locs lx_7 ux_7 ex_7 hw => ?_)
      obtain ⟨rfl, rfl, ex_7⟩ := ex_7
      exact q_ret_i hx hb hr hlocks hK hAe hw ⟨lx_7, ux_7⟩ (Nat.le_of_ble_eq_true rfl) (Nat.le_of_ble_eq_true rfl) dX9_ahead_43 (by exact ⟨rfl, hg, hE, by first | trivial | omega⟩)
    · refine q_iconst hx hb dX9_ahead_18 ?_
      exact q_ret_i hx hb hr hlocks hK hAe hw ⟨by decide, by decide⟩ (Nat.le_of_ble_eq_true rfl) (Nat.le_of_ble_eq_true rfl) dX9_ahead_19 (by exact ⟨rfl, hg, hE, by first | trivial | omega⟩)
