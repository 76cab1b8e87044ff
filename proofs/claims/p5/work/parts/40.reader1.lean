set_option maxHeartbeats 4000000 in
set_option maxRecDepth 100000 in
theorem c_X5_typeAt {Z : Zt} (zo : Zok Z) (l : Launch) (D : va_G) (cy : Cy) (L0 : List Nat) (f0 : Nat → va_E) (a0 : Nat) (x1 : Int) (lx1 : -2147483648 ≤ x1) (ux1 : x1 ≤ 2147483647) (m_a0 : a0 ∈ L0) (o_a0 : Ob f0 a0 4) (hg : GI cy L0 f0) (h1 : 0 ≤ x1) : Ci Z l yX5_typeAt (Cond.code yX5_typeAt cX5_typeAt 3 (some .int) :: TB) ({ frames := 0, cells := 0, slots := 0, locals := 0 } : Room) 0 0 D (tq cy) [.ref a0, .int (iI x1)] L0 f0 (fun (r : Int) (L1 : List Nat) (f1 : Nat → va_E) => L0 = L1 ∧ f0 = f1 ∧ (0 ≤ r ∧ r ≤ 3)) := by
  refine Ci.enter (cc := cX5_typeAt) (n := 3) rfl (plainFor_of_name (by decide)) (Nat.le_of_ble_eq_true rfl) ?_
  intro p e s m below meth c ls A hx hb hr hts hown hlocks hnm hml hK hA hAe hw hZ hl
  have hown : s.vm.findClass RX5 = some m.cls := hown
  have hl : lv_has ls 3 [(0, .ref a0), (1, .int (iI x1))] := hl
  have hN : ZN s := (zo.2.2.2.2 _ _ _ hZ).2
  refine lv_iload_n hx hb dX5_typeAt_0 rfl (lv_at hl 1 rfl) ?_
  refine lv_aload_n hx hb dX5_typeAt_1 rfl (lv_at hl 0 rfl) ?_
  refine q_geti (ci := 4) (C := RX5) (T := TX5) (N := 10) hx hb hts (fun w h => List.mem_cons_of_mem _ (mfX50 w h)) hown hK hw m_a0 o_a0 rfl 1 (by decide) (hts _ (List.mem_cons_of_mem _ (mr6 _ (List.mem_of_getElem? (i := 16) rfl)))) (fun _ h => h) rfl dX5_typeAt_2 (fun x_1 lx_1 ux_1 ex_1 => ?_)
  have bx_1 : 0 ≤ x_1 ∧ x_1 ≤ 168 := by rw [ex_1]; exact hg.1 _ m_a0 4 1 o_a0
  refine q_icmp_lt (tgt := 10) hx hb dX5_typeAt_5 (by decide) ⟨lx1, ux1⟩ ⟨lx_1, ux_1⟩ (fun c5 => ?_) (fun c5 => ?_)
  · refine lv_aload_n hx hb dX5_typeAt_10 rfl (lv_at hl 0 rfl) ?_
    obtain ⟨r_2, er_2, m_r_2, o_r_2⟩ := (show ∃ r, fR f0 a0 0 = some r ∧ r ∈ L0 ∧ ArI f0 r cy.1 168 from hg.2.1 _ m_a0 4 0 o_a0)
    refine q_getr (ci := 4) (C := RX5) (T := TX5) (N := 10) hx hb hts (fun w h => List.mem_cons_of_mem _ (mfX50 w h)) hown hK hw m_a0 o_a0 rfl 0 (by decide) (hts _ (List.mem_cons_of_mem _ (mr6 _ (List.mem_of_getElem? (i := 11) rfl)))) (fun _ h => h) rfl er_2 dX5_typeAt_11 ?_
    refine lv_iload_n hx hb dX5_typeAt_14 rfl (lv_at hl 1 rfl) ?_
    refine q_chld hx hb hK hw m_r_2 0 o_r_2 rfl ⟨lx1, ux1⟩ (by omega) (by omega) dX5_typeAt_15 (fun x_3 lx_3 ux_3 ex_3 => ?_)
    refine lv_istore_n (lv' := [(2, .int (iI x_3)), (0, .ref a0), (1, .int (iI x1))]) hx hb dX5_typeAt_16 rfl hl (by decide) rfl (fun ls hl => ?_)
    refine lv_iload_n hx hb dX5_typeAt_17 rfl (lv_at hl 0 rfl) ?_
    refine q_bipush hx hb dX5_typeAt_18 rfl ?_
    have J31 : ∀ (H : Heap) (locs : List Loc) (ls : Array Slot) (hw : Wd D A s.heap L0 f0 H locs) (hl : lv_has ls 3 [(2, .int (iI x_3))]), W p l e ({ frames := 0, cells := 0, slots := 0, locals := 0 } : Room) s m ([.ref a0, .int (iI x1)] : List Value).toArray below meth c H locs (0) (0) (MQ below (Qi D (tq cy) L0 f0 s.heap.size (fun (r : Int) (L1 : List Nat) (f1 : Nat → va_E) => L0 = L1 ∧ f0 = f1 ∧ (0 ≤ r ∧ r ≤ 3))) ([.ref a0, .int (iI x1)] : List Value).toArray s 0 0 A) (F0 m 31 ls []) := by
      intro H locs ls hw hl
      refine lv_iload_n hx hb dX5_typeAt_31 rfl (lv_at hl 0 rfl) ?_
      refine q_bipush hx hb dX5_typeAt_32 rfl ?_
      refine q_icmp_lt (tgt := 47) hx hb dX5_typeAt_34 (by decide) ⟨lx_3, ux_3⟩ ⟨by decide, by decide⟩ (fun c34 => ?_) (fun c34 => ?_)
      · refine q_iconst hx hb dX5_typeAt_47 ?_
        exact q_ret_i hx hb hr hlocks hK hAe hw ⟨by decide, by decide⟩ (Nat.le_of_ble_eq_true rfl) (Nat.le_of_ble_eq_true rfl) dX5_typeAt_48 ⟨rfl, rfl, by omega⟩
      · refine lv_iload_n hx hb dX5_typeAt_37 rfl (lv_at hl 0 rfl) ?_
        refine q_bipush hx hb dX5_typeAt_38 rfl ?_
        refine q_icmp_gt (tgt := 47) hx hb dX5_typeAt_40 (by decide) ⟨lx_3, ux_3⟩ ⟨by decide, by decide⟩ (fun c40 => ?_) (fun c40 => ?_)
        · refine q_iconst hx hb dX5_typeAt_47 ?_
          exact q_ret_i hx hb hr hlocks hK hAe hw ⟨by decide, by decide⟩ (Nat.le_of_ble_eq_true rfl) (Nat.le_of_ble_eq_true rfl) dX5_typeAt_48 ⟨rfl, rfl, by omega⟩
        · refine q_iconst hx hb dX5_typeAt_43 ?_
          refine lv_goto (tgt := 48) hx hb dX5_typeAt_44 (by decide) ?_
          exact q_ret_i hx hb hr hlocks hK hAe hw ⟨by decide, by decide⟩ (Nat.le_of_ble_eq_true rfl) (Nat.le_of_ble_eq_true rfl) dX5_typeAt_48 ⟨rfl, rfl, by omega⟩
    refine q_icmp_lt (tgt := 31) hx hb dX5_typeAt_20 (by decide) ⟨lx_3, ux_3⟩ ⟨by decide, by decide⟩ (fun c20 => ?_) (fun c20 => ?_)
    · exact J31 _ _ _ hw (lv_sub hl [0] rfl)
    · refine lv_iload_n hx hb dX5_typeAt_23 rfl (lv_at hl 0 rfl) ?_
      refine q_bipush hx hb dX5_typeAt_24 rfl ?_
      refine q_icmp_gt (tgt := 31) hx hb dX5_typeAt_26 (by decide) ⟨lx_3, ux_3⟩ ⟨by decide, by decide⟩ (fun c26 => ?_) (fun c26 => ?_)
      · exact J31 _ _ _ hw (lv_sub hl [0] rfl)
      · refine q_iconst hx hb dX5_typeAt_29 ?_
        exact q_ret_i hx hb hr hlocks hK hAe hw ⟨by decide, by decide⟩ (Nat.le_of_ble_eq_true rfl) (Nat.le_of_ble_eq_true rfl) dX5_typeAt_30 ⟨rfl, rfl, by omega⟩
  · refine q_iconst hx hb dX5_typeAt_8 ?_
    exact q_ret_i hx hb hr hlocks hK hAe hw ⟨by decide, by decide⟩ (Nat.le_of_ble_eq_true rfl) (Nat.le_of_ble_eq_true rfl) dX5_typeAt_9 ⟨rfl, rfl, by omega⟩
set_option maxHeartbeats 4000000 in
set_option maxRecDepth 100000 in
theorem c_X5_refuse {Z : Zt} (zo : Zok Z) (l : Launch) (D : va_G) (cy : Cy) (L0 : List Nat) (f0 : Nat → va_E) (a0 : Nat) (x1 : Int) (lx1 : -2147483648 ≤ x1) (ux1 : x1 ≤ 2147483647) (m_a0 : a0 ∈ L0) (o_a0 : Ob f0 a0 4) (hg : GI cy L0 f0) : Ci Z l yX5_refuse (Cond.code yX5_refuse cX5_refuse 2 (some .boolean) :: TB) ({ frames := 0, cells := 0, slots := 0, locals := 0 } : Room) 0 0 D (tq cy) [.ref a0, .int (iI x1)] L0 f0 (fun (r : Int) (L1 : List Nat) (f1 : Nat → va_E) => L0 = L1 ∧ GI cy L0 f1 ∧ Ex cy f0 f1 ∧ (r = 0)) := by
  refine Ci.enter (cc := cX5_refuse) (n := 2) rfl (plainFor_of_name (by decide)) (Nat.le_of_ble_eq_true rfl) ?_
  intro p e s m below meth c ls A hx hb hr hts hown hlocks hnm hml hK hA hAe hw hZ hl
  have hown : s.vm.findClass RX5 = some m.cls := hown
  have hl : lv_has ls 2 [(0, .ref a0), (1, .int (iI x1))] := hl
  have hN : ZN s := (zo.2.2.2.2 _ _ _ hZ).2
  have hE : Ex cy f0 f0 := Ex.refl cy f0
  refine lv_aload_n hx hb dX5_refuse_0 rfl (lv_at hl 0 rfl) ?_
  refine q_bipush hx hb dX5_refuse_1 rfl ?_
  refine lv_aload_n hx hb dX5_refuse_3 rfl (lv_at hl 0 rfl) ?_
  refine q_geti (ci := 4) (C := RX5) (T := TX5) (N := 10) hx hb hts (fun w h => List.mem_cons_of_mem _ (mfX50 w h)) hown hK hw m_a0 o_a0 rfl 3 (by decide) (hts _ (List.mem_cons_of_mem _ (mr6 _ (List.mem_of_getElem? (i := 4) rfl)))) (fun _ h => h) rfl dX5_refuse_4 (fun x_1 lx_1 ux_1 ex_1 => ?_)
  have bx_1 : 0 ≤ x_1 ∧ x_1 ≤ 168 := by rw [ex_1]; exact hg.1 _ m_a0 4 3 o_a0
  first | refine q_imul hx hb dX5_refuse_7 ⟨by omega, by omega⟩ (fun x_2 lx_2 ux_2 ex_2 => ?_) | refine q_imulw hx hb dX5_refuse_7 (fun x_2 lx_2 ux_2 _ => ?_)
  refine lv_iload_n hx hb dX5_refuse_8 rfl (lv_at hl 1 rfl) ?_
  first | refine q_iadd hx hb dX5_refuse_9 ⟨by omega, by omega⟩ (fun x_3 lx_3 ux_3 ex_3 => ?_) | refine q_iaddw hx hb dX5_refuse_9 (fun x_3 lx_3 ux_3 _ => ?_)
  refine q_puti (ci := 4) (C := RX5) (T := TX5) (N := 10) hx hb hts (fun w h => List.mem_cons_of_mem _ (mfX50 w h)) hown hK hw m_a0 o_a0 rfl 5 (by decide) (hts _ (List.mem_cons_of_mem _ (mr6 _ (List.mem_of_getElem? (i := 6) rfl)))) (fun _ h => h) tyX5 tyX5_ok nmX5 rfl (ty := .int) (by decide +kernel) rfl rfl dX5_refuse_10 (fun H locs hw => ?_)
  have oo := o_a0
  obtain ⟨f_4, ef_4⟩ : ∃ g : Nat → va_E, g = pU f0 a0 5 (.int (iI x_3)) := ⟨_, rfl⟩
  have hX : Ex cy f0 f_4 := by rw [ef_4]; exact Ex_pU oo rfl rfl (by decide)
  have hg : GI cy L0 f_4 := by rw [ef_4]; exact hg.putI oo rfl ⟨lx_3, ux_3⟩ trivial
  rw [← ef_4] at hw
  have hE := hE.trans hX
  have o_a0 := hX.1.1 _ _ o_a0
  have vf_4 : fI f_4 a0 5 = x_3 := by rw [ef_4]; exact fI_pU_self oo rfl ⟨lx_3, ux_3⟩
  refine q_iconst hx hb dX5_refuse_13 ?_
  exact q_ret_z hx hb hr hlocks hK hAe hw (by omega) (Nat.le_of_ble_eq_true rfl) (Nat.le_of_ble_eq_true rfl) dX5_refuse_14 (by exact ⟨rfl, hg, hE, by first | trivial | omega⟩)
set_option maxHeartbeats 4000000 in
set_option maxRecDepth 100000 in
theorem c_X5_step {Z : Zt} (zo : Zok Z) (l : Launch) (D : va_G) (cy : Cy) (L0 : List Nat) (f0 : Nat → va_E) (a0 : Nat) (m_a0 : a0 ∈ L0) (o_a0 : Ob f0 a0 4) (hg : GI cy L0 f0) : Cv Z l yX5_step (Cond.code yX5_step cX5_step 1 none :: TB) ({ frames := 1, cells := 0, slots := 0, locals := 22 } : Room) 0 0 D (tq cy) [.ref a0] L0 f0 (fun (L1 : List Nat) (f1 : Nat → va_E) => L0 = L1 ∧ GI cy L0 f1 ∧ Ex cy f0 f1 ∧ (True)) := by
  refine Cv.enter (cc := cX5_step) (n := 1) rfl (plainFor_of_name (by decide)) (Nat.le_of_ble_eq_true rfl) ?_
  intro p e s m below meth c ls A hx hb hr hts hown hlocks hnm hml hK hA hAe hw hZ hl
  have hown : s.vm.findClass RX5 = some m.cls := hown
  have hl : lv_has ls 1 [(0, .ref a0)] := hl
  have hN : ZN s := (zo.2.2.2.2 _ _ _ hZ).2
  have hE : Ex cy f0 f0 := Ex.refl cy f0
  refine lv_aload_n hx hb dX5_step_0 rfl (lv_at hl 0 rfl) ?_
  refine lv_aload_n hx hb dX5_step_1 rfl (lv_at hl 0 rfl) ?_
  refine q_geti (ci := 4) (C := RX5) (T := TX5) (N := 10) hx hb hts (fun w h => List.mem_cons_of_mem _ (mfX50 w h)) hown hK hw m_a0 o_a0 rfl 4 (by decide) (hts _ (List.mem_cons_of_mem _ (mr6 _ (List.mem_of_getElem? (i := 5) rfl)))) (fun _ h => h) rfl dX5_step_2 (fun x_1 lx_1 ux_1 ex_1 => ?_)
  have bx_1 : 0 ≤ x_1 ∧ x_1 ≤ 168 := by rw [ex_1]; exact hg.1 _ m_a0 4 4 o_a0
  refine q_puti (ci := 4) (C := RX5) (T := TX5) (N := 10) hx hb hts (fun w h => List.mem_cons_of_mem _ (mfX50 w h)) hown hK hw m_a0 o_a0 rfl 3 (by decide) (hts _ (List.mem_cons_of_mem _ (mr6 _ (List.mem_of_getElem? (i := 4) rfl)))) (fun _ h => h) tyX5 tyX5_ok nmX5 rfl (ty := .int) (by decide +kernel) rfl rfl dX5_step_5 (fun H locs hw => ?_)
  have oo := o_a0
  obtain ⟨f_2, ef_2⟩ : ∃ g : Nat → va_E, g = pU f0 a0 3 (.int (iI x_1)) := ⟨_, rfl⟩
  have hX : Ex cy f0 f_2 := by rw [ef_2]; exact Ex_pU oo rfl rfl (by decide)
  have hg : GI cy L0 f_2 := by rw [ef_2]; exact hg.putI oo rfl ⟨lx_1, ux_1⟩ (by show 0 ≤ x_1 ∧ x_1 ≤ 168; omega)
  rw [← ef_2] at hw
  have hE := hE.trans hX
  have o_a0 := hX.1.1 _ _ o_a0
  have t_a0_4_f_2 : fI f_2 a0 4 = fI f0 a0 4 := by rw [ef_2]; exact fI_pU (Or.inr (by decide))
  have vf_2 : fI f_2 a0 3 = x_1 := by rw [ef_2]; exact fI_pU_self oo rfl ⟨lx_1, ux_1⟩
  have J8 : ∀ (n8 : Nat) (L : List Nat) (fw8 : Nat → va_E) (hg : GI cy L0 fw8) (hE : Ex cy f0 fw8) (o_a0 : Ob fw8 a0 4) (hn8 : (200 - fI fw8 a0 3).toNat < n8) (H : Heap) (locs : List Loc) (ls : Array Slot) (hw : Wd D A s.heap L0 fw8 H locs) (hl : lv_has ls 1 [(0, .ref a0)]), W p l e ({ frames := 1, cells := 0, slots := 0, locals := 22 } : Room) s m ([.ref a0] : List Value).toArray below meth c H locs (0) (0) (MQ below (Qv D (tq cy) L0 f0 s.heap.size (fun (L1 : List Nat) (f1 : Nat → va_E) => L0 = L1 ∧ GI cy L0 f1 ∧ Ex cy f0 f1 ∧ (True))) ([.ref a0] : List Value).toArray s 0 0 A) (F0 m 8 ls []) := by
    intro n8
    induction n8 with
    | zero => intro L fw8 hg hE o_a0 hn8; exact absurd hn8 (Nat.not_lt_zero _)
    | succ n8 ih8 =>
      intro L fw8 hg hE o_a0 hn8 H locs ls hw hl
      refine lv_aload_n hx hb dX5_step_8 rfl (lv_at hl 0 rfl) ?_
      refine q_geti (ci := 4) (C := RX5) (T := TX5) (N := 10) hx hb hts (fun w h => List.mem_cons_of_mem _ (mfX50 w h)) hown hK hw m_a0 o_a0 rfl 3 (by decide) (hts _ (List.mem_cons_of_mem _ (mr6 _ (List.mem_of_getElem? (i := 4) rfl)))) (fun _ h => h) rfl dX5_step_9 (fun x_3 lx_3 ux_3 ex_3 => ?_)
      have bx_3 : 0 ≤ x_3 ∧ x_3 ≤ 168 := by rw [ex_3]; exact hg.1 _ m_a0 4 3 o_a0
      refine lv_aload_n hx hb dX5_step_12 rfl (lv_at hl 0 rfl) ?_
      refine q_geti (ci := 4) (C := RX5) (T := TX5) (N := 10) hx hb hts (fun w h => List.mem_cons_of_mem _ (mfX50 w h)) hown hK hw m_a0 o_a0 rfl 1 (by decide) (hts _ (List.mem_cons_of_mem _ (mr6 _ (List.mem_of_getElem? (i := 16) rfl)))) (fun _ h => h) rfl dX5_step_13 (fun x_4 lx_4 ux_4 ex_4 => ?_)
      have bx_4 : 0 ≤ x_4 ∧ x_4 ≤ 168 := by rw [ex_4]; exact hg.1 _ m_a0 4 1 o_a0
      have J46 : ∀ (H : Heap) (locs : List Loc) (ls : Array Slot) (hw : Wd D A s.heap L0 fw8 H locs) (hl : lv_has ls 1 [(0, .ref a0)]), W p l e ({ frames := 1, cells := 0, slots := 0, locals := 22 } : Room) s m ([.ref a0] : List Value).toArray below meth c H locs (0) (0) (MQ below (Qv D (tq cy) L0 f0 s.heap.size (fun (L1 : List Nat) (f1 : Nat → va_E) => L0 = L1 ∧ GI cy L0 f1 ∧ Ex cy f0 f1 ∧ (True))) ([.ref a0] : List Value).toArray s 0 0 A) (F0 m 46 ls []) := by
        intro H locs ls hw hl
        refine lv_aload_n hx hb dX5_step_46 rfl (lv_at hl 0 rfl) ?_
        refine lv_aload_n hx hb dX5_step_47 rfl (lv_at hl 0 rfl) ?_
        refine lv_aload_n hx hb dX5_step_48 rfl (lv_at hl 0 rfl) ?_
        refine q_geti (ci := 4) (C := RX5) (T := TX5) (N := 10) hx hb hts (fun w h => List.mem_cons_of_mem _ (mfX50 w h)) hown hK hw m_a0 o_a0 rfl 3 (by decide) (hts _ (List.mem_cons_of_mem _ (mr6 _ (List.mem_of_getElem? (i := 4) rfl)))) (fun _ h => h) rfl dX5_step_49 (fun x_5 lx_5 ux_5 ex_5 => ?_)
        have bx_5 : 0 ≤ x_5 ∧ x_5 ≤ 168 := by rw [ex_5]; exact hg.1 _ m_a0 4 3 o_a0
        refine q_call_i hA hK hw (va_runV (As := [.int (iI x_5)]) (rest := [.ref a0]) ⟨hx, hb, hml, hown, hts⟩ (c_X5_typeAt zo l D cy L0 fw8 a0 x_5 lx_5 ux_5 m_a0 o_a0 hg (by omega) _) (cwV 1 hts (gT (inV (mr7 _ (List.mem_of_getElem? (i := 6) rfl)) (mr7 _ (List.mem_of_getElem? (i := 7) rfl)) (mr7 _ (List.mem_of_getElem? (i := 8) rfl)) (mr5 _ (List.mem_of_getElem? (i := 18) rfl)) (mr7 _ (List.mem_of_getElem? (i := 9) rfl)))) rfl rfl rfl (by decide +kernel) ⟨Nat.le_of_ble_eq_true rfl, Nat.le_of_ble_eq_true rfl⟩) (Wd.preV zo hA hZ hw hK m_a0 o_a0 rfl) rfl rfl hl.1 rfl (lv_room (Nat.le_of_ble_eq_true rfl)) dX5_step_52 ⟨Nat.le_of_ble_eq_true rfl, Nat.le_of_ble_eq_true rfl⟩) (fun x_6 L1 f1 H locs lx_6 ux_6 ex_6 hw => ?_)
        obtain ⟨rfl, rfl, ex_6⟩ := ex_6
        refine q_puti (ci := 4) (C := RX5) (T := TX5) (N := 10) hx hb hts (fun w h => List.mem_cons_of_mem _ (mfX50 w h)) hown hK hw m_a0 o_a0 rfl 2 (by decide) (hts _ (List.mem_cons_of_mem _ (mr6 _ (List.mem_of_getElem? (i := 3) rfl)))) (fun _ h => h) tyX5 tyX5_ok nmX5 rfl (ty := .int) (by decide +kernel) rfl rfl dX5_step_55 (fun H locs hw => ?_)
        have oo := o_a0
        obtain ⟨f_7, ef_7⟩ : ∃ g : Nat → va_E, g = pU fw8 a0 2 (.int (iI x_6)) := ⟨_, rfl⟩
        have hX : Ex cy fw8 f_7 := by rw [ef_7]; exact Ex_pU oo rfl rfl (by decide)
        have hg : GI cy L0 f_7 := by rw [ef_7]; exact hg.putI oo rfl ⟨lx_6, ux_6⟩ trivial
        rw [← ef_7] at hw
        have hE := hE.trans hX
        have o_a0 := hX.1.1 _ _ o_a0
        have t_a0_3_f_7 : fI f_7 a0 3 = fI fw8 a0 3 := by rw [ef_7]; exact fI_pU (Or.inr (by decide))
        have t_a0_4_f_7 : fI f_7 a0 4 = fI fw8 a0 4 := by rw [ef_7]; exact fI_pU (Or.inr (by decide))
        have vf_7 : fI f_7 a0 2 = x_6 := by rw [ef_7]; exact fI_pU_self oo rfl ⟨lx_6, ux_6⟩
        refine lv_aload_n hx hb dX5_step_58 rfl (lv_at hl 0 rfl) ?_
        refine lv_aload_n hx hb dX5_step_59 rfl (lv_at hl 0 rfl) ?_
        refine q_geti (ci := 4) (C := RX5) (T := TX5) (N := 10) hx hb hts (fun w h => List.mem_cons_of_mem _ (mfX50 w h)) hown hK hw m_a0 o_a0 rfl 3 (by decide) (hts _ (List.mem_cons_of_mem _ (mr6 _ (List.mem_of_getElem? (i := 4) rfl)))) (fun _ h => h) rfl dX5_step_60 (fun x_8 lx_8 ux_8 ex_8 => ?_)
        have bx_8 : 0 ≤ x_8 ∧ x_8 ≤ 168 := by rw [ex_8]; exact hg.1 _ m_a0 4 3 o_a0
        refine q_puti (ci := 4) (C := RX5) (T := TX5) (N := 10) hx hb hts (fun w h => List.mem_cons_of_mem _ (mfX50 w h)) hown hK hw m_a0 o_a0 rfl 4 (by decide) (hts _ (List.mem_cons_of_mem _ (mr6 _ (List.mem_of_getElem? (i := 5) rfl)))) (fun _ h => h) tyX5 tyX5_ok nmX5 rfl (ty := .int) (by decide +kernel) rfl rfl dX5_step_63 (fun H locs hw => ?_)
        have oo := o_a0
        obtain ⟨f_9, ef_9⟩ : ∃ g : Nat → va_E, g = pU f_7 a0 4 (.int (iI x_8)) := ⟨_, rfl⟩
        have hX : Ex cy f_7 f_9 := by rw [ef_9]; exact Ex_pU oo rfl rfl (by decide)
        have hg : GI cy L0 f_9 := by rw [ef_9]; exact hg.putI oo rfl ⟨lx_8, ux_8⟩ (by show 0 ≤ x_8 ∧ x_8 ≤ 168; omega)
        rw [← ef_9] at hw
        have hE := hE.trans hX
        have o_a0 := hX.1.1 _ _ o_a0
        have t_a0_3_f_9 : fI f_9 a0 3 = fI f_7 a0 3 := by rw [ef_9]; exact fI_pU (Or.inr (by decide))
        have vf_9 : fI f_9 a0 4 = x_8 := by rw [ef_9]; exact fI_pU_self oo rfl ⟨lx_8, ux_8⟩
        have J66 : ∀ (n66 : Nat) (L : List Nat) (fw66 : Nat → va_E) (hg : GI cy L0 fw66) (hE : Ex cy f0 fw66) (o_a0 : Ob fw66 a0 4) (hn66 : (200 - fI fw66 a0 4).toNat < n66) (H : Heap) (locs : List Loc) (ls : Array Slot) (hw : Wd D A s.heap L0 fw66 H locs) (hl : lv_has ls 1 [(0, .ref a0)]), W p l e ({ frames := 1, cells := 0, slots := 0, locals := 22 } : Room) s m ([.ref a0] : List Value).toArray below meth c H locs (0 + 0) (0 + 0) (MQ below (Qv D (tq cy) L0 f0 s.heap.size (fun (L1 : List Nat) (f1 : Nat → va_E) => L0 = L1 ∧ GI cy L0 f1 ∧ Ex cy f0 f1 ∧ (True))) ([.ref a0] : List Value).toArray s 0 0 A) (F0 m 66 ls []) := by
          intro n66
          induction n66 with
          | zero => intro L fw66 hg hE o_a0 hn66; exact absurd hn66 (Nat.not_lt_zero _)
          | succ n66 ih66 =>
            intro L fw66 hg hE o_a0 hn66 H locs ls hw hl
            refine lv_aload_n hx hb dX5_step_66 rfl (lv_at hl 0 rfl) ?_
            refine q_geti (ci := 4) (C := RX5) (T := TX5) (N := 10) hx hb hts (fun w h => List.mem_cons_of_mem _ (mfX50 w h)) hown hK hw m_a0 o_a0 rfl 4 (by decide) (hts _ (List.mem_cons_of_mem _ (mr6 _ (List.mem_of_getElem? (i := 5) rfl)))) (fun _ h => h) rfl dX5_step_67 (fun x_10 lx_10 ux_10 ex_10 => ?_)
            have bx_10 : 0 ≤ x_10 ∧ x_10 ≤ 168 := by rw [ex_10]; exact hg.1 _ m_a0 4 4 o_a0
            refine lv_aload_n hx hb dX5_step_70 rfl (lv_at hl 0 rfl) ?_
            refine q_geti (ci := 4) (C := RX5) (T := TX5) (N := 10) hx hb hts (fun w h => List.mem_cons_of_mem _ (mfX50 w h)) hown hK hw m_a0 o_a0 rfl 1 (by decide) (hts _ (List.mem_cons_of_mem _ (mr6 _ (List.mem_of_getElem? (i := 16) rfl)))) (fun _ h => h) rfl dX5_step_71 (fun x_11 lx_11 ux_11 ex_11 => ?_)
            have bx_11 : 0 ≤ x_11 ∧ x_11 ≤ 168 := by rw [ex_11]; exact hg.1 _ m_a0 4 1 o_a0
            refine q_icmp_ge (tgt := 113) hx hb dX5_step_74 (by decide) ⟨lx_10, ux_10⟩ ⟨lx_11, ux_11⟩ (fun c74 => ?_) (fun c74 => ?_)
            · exact q_ret_v hx hb hr hlocks hK hAe hw (Nat.le_of_ble_eq_true rfl) (Nat.le_of_ble_eq_true rfl) dX5_step_113 (by exact ⟨rfl, hg, hE, by first | trivial | omega⟩)
            · refine lv_aload_n hx hb dX5_step_77 rfl (lv_at hl 0 rfl) ?_
              refine q_geti (ci := 4) (C := RX5) (T := TX5) (N := 10) hx hb hts (fun w h => List.mem_cons_of_mem _ (mfX50 w h)) hown hK hw m_a0 o_a0 rfl 2 (by decide) (hts _ (List.mem_cons_of_mem _ (mr6 _ (List.mem_of_getElem? (i := 3) rfl)))) (fun _ h => h) rfl dX5_step_78 (fun x_12 lx_12 ux_12 ex_12 => ?_)
              refine q_iconst hx hb dX5_step_81 ?_
              refine q_icmp_eq (tgt := 113) hx hb dX5_step_82 (by decide) ⟨lx_12, ux_12⟩ ⟨by decide, by decide⟩ (fun c82 => ?_) (fun c82 => ?_)
              · exact q_ret_v hx hb hr hlocks hK hAe hw (Nat.le_of_ble_eq_true rfl) (Nat.le_of_ble_eq_true rfl) dX5_step_113 (by exact ⟨rfl, hg, hE, by first | trivial | omega⟩)
              · refine lv_aload_n hx hb dX5_step_85 rfl (lv_at hl 0 rfl) ?_
                refine lv_aload_n hx hb dX5_step_86 rfl (lv_at hl 0 rfl) ?_
                refine q_geti (ci := 4) (C := RX5) (T := TX5) (N := 10) hx hb hts (fun w h => List.mem_cons_of_mem _ (mfX50 w h)) hown hK hw m_a0 o_a0 rfl 4 (by decide) (hts _ (List.mem_cons_of_mem _ (mr6 _ (List.mem_of_getElem? (i := 5) rfl)))) (fun _ h => h) rfl dX5_step_87 (fun x_13 lx_13 ux_13 ex_13 => ?_)
                have bx_13 : 0 ≤ x_13 ∧ x_13 ≤ 168 := by rw [ex_13]; exact hg.1 _ m_a0 4 4 o_a0
                refine q_call_i hA hK hw (va_runV (As := [.int (iI x_13)]) (rest := []) ⟨hx, hb, hml, hown, hts⟩ (c_X5_typeAt zo l D cy L0 fw66 a0 x_13 lx_13 ux_13 m_a0 o_a0 hg (by omega) _) (cwV 1 hts (gT (inV (mr7 _ (List.mem_of_getElem? (i := 6) rfl)) (mr7 _ (List.mem_of_getElem? (i := 7) rfl)) (mr7 _ (List.mem_of_getElem? (i := 8) rfl)) (mr5 _ (List.mem_of_getElem? (i := 18) rfl)) (mr7 _ (List.mem_of_getElem? (i := 9) rfl)))) rfl rfl rfl (by decide +kernel) ⟨Nat.le_of_ble_eq_true rfl, Nat.le_of_ble_eq_true rfl⟩) (Wd.preV zo hA hZ hw hK m_a0 o_a0 rfl) rfl rfl hl.1 rfl (lv_room (Nat.le_of_ble_eq_true rfl)) dX5_step_90 ⟨Nat.le_of_ble_eq_true rfl, Nat.le_of_ble_eq_true rfl⟩) (fun x_14 L1 f1 H locs lx_14 ux_14 ex_14 hw => ?_)
                obtain ⟨rfl, rfl, ex_14⟩ := ex_14
                refine lv_aload_n hx hb dX5_step_93 rfl (lv_at hl 0 rfl) ?_
                refine q_geti (ci := 4) (C := RX5) (T := TX5) (N := 10) hx hb hts (fun w h => List.mem_cons_of_mem _ (mfX50 w h)) hown hK hw m_a0 o_a0 rfl 2 (by decide) (hts _ (List.mem_cons_of_mem _ (mr6 _ (List.mem_of_getElem? (i := 3) rfl)))) (fun _ h => h) rfl dX5_step_94 (fun x_15 lx_15 ux_15 ex_15 => ?_)
                refine q_icmp_ne (tgt := 113) hx hb dX5_step_97 (by decide) ⟨lx_14, ux_14⟩ ⟨lx_15, ux_15⟩ (fun c97 => ?_) (fun c97 => ?_)
                · exact q_ret_v hx hb hr hlocks hK hAe hw (Nat.le_of_ble_eq_true rfl) (Nat.le_of_ble_eq_true rfl) dX5_step_113 (by exact ⟨rfl, hg, hE, by first | trivial | omega⟩)
                · refine lv_aload_n hx hb dX5_step_100 rfl (lv_at hl 0 rfl) ?_
                  refine lv_dup hx hb dX5_step_101 rfl ?_
                  refine q_geti (ci := 4) (C := RX5) (T := TX5) (N := 10) hx hb hts (fun w h => List.mem_cons_of_mem _ (mfX50 w h)) hown hK hw m_a0 o_a0 rfl 4 (by decide) (hts _ (List.mem_cons_of_mem _ (mr6 _ (List.mem_of_getElem? (i := 5) rfl)))) (fun _ h => h) rfl dX5_step_102 (fun x_16 lx_16 ux_16 ex_16 => ?_)
                  have bx_16 : 0 ≤ x_16 ∧ x_16 ≤ 168 := by rw [ex_16]; exact hg.1 _ m_a0 4 4 o_a0
                  refine q_iconst hx hb dX5_step_105 ?_
                  first | refine q_iadd hx hb dX5_step_106 ⟨by omega, by omega⟩ (fun x_17 lx_17 ux_17 ex_17 => ?_) | refine q_iaddw hx hb dX5_step_106 (fun x_17 lx_17 ux_17 _ => ?_)
                  refine q_puti (ci := 4) (C := RX5) (T := TX5) (N := 10) hx hb hts (fun w h => List.mem_cons_of_mem _ (mfX50 w h)) hown hK hw m_a0 o_a0 rfl 4 (by decide) (hts _ (List.mem_cons_of_mem _ (mr6 _ (List.mem_of_getElem? (i := 5) rfl)))) (fun _ h => h) tyX5 tyX5_ok nmX5 rfl (ty := .int) (by decide +kernel) rfl rfl dX5_step_107 (fun H locs hw => ?_)
                  have oo := o_a0
                  obtain ⟨f_18, ef_18⟩ : ∃ g : Nat → va_E, g = pU fw66 a0 4 (.int (iI x_17)) := ⟨_, rfl⟩
                  have hX : Ex cy fw66 f_18 := by rw [ef_18]; exact Ex_pU oo rfl rfl (by decide)
                  have hg : GI cy L0 f_18 := by rw [ef_18]; exact hg.putI oo rfl ⟨lx_17, ux_17⟩ (by show 0 ≤ x_17 ∧ x_17 ≤ 168; omega)
                  rw [← ef_18] at hw
                  have hE := hE.trans hX
                  have o_a0 := hX.1.1 _ _ o_a0
                  have t_a0_3_f_18 : fI f_18 a0 3 = fI fw66 a0 3 := by rw [ef_18]; exact fI_pU (Or.inr (by decide))
                  have vf_18 : fI f_18 a0 4 = x_17 := by rw [ef_18]; exact fI_pU_self oo rfl ⟨lx_17, ux_17⟩
                  refine lv_goto (tgt := 66) hx hb dX5_step_110 (by decide) ?_
                  exact ih66 L0 f_18 hg hE o_a0 (by omega) _ _ _ hw (lv_sub hl [0] rfl)
        exact J66 (((200 - fI f_9 a0 4).toNat) + 1) L0 f_9 hg hE o_a0 (by omega) _ _ _ hw (lv_sub hl [0] rfl)
      refine q_icmp_ge (tgt := 46) hx hb dX5_step_16 (by decide) ⟨lx_3, ux_3⟩ ⟨lx_4, ux_4⟩ (fun c16 => ?_) (fun c16 => ?_)
      · exact J46 _ _ _ hw (lv_sub hl [0] rfl)
      · refine lv_aload_n hx hb dX5_step_19 rfl (lv_at hl 0 rfl) ?_
        obtain ⟨r_19, er_19, m_r_19, o_r_19⟩ := (show ∃ r, fR fw8 a0 0 = some r ∧ r ∈ L0 ∧ ArI fw8 r cy.1 168 from hg.2.1 _ m_a0 4 0 o_a0)
        refine q_getr (ci := 4) (C := RX5) (T := TX5) (N := 10) hx hb hts (fun w h => List.mem_cons_of_mem _ (mfX50 w h)) hown hK hw m_a0 o_a0 rfl 0 (by decide) (hts _ (List.mem_cons_of_mem _ (mr6 _ (List.mem_of_getElem? (i := 11) rfl)))) (fun _ h => h) rfl er_19 dX5_step_20 ?_
        refine lv_aload_n hx hb dX5_step_23 rfl (lv_at hl 0 rfl) ?_
        refine q_geti (ci := 4) (C := RX5) (T := TX5) (N := 10) hx hb hts (fun w h => List.mem_cons_of_mem _ (mfX50 w h)) hown hK hw m_a0 o_a0 rfl 3 (by decide) (hts _ (List.mem_cons_of_mem _ (mr6 _ (List.mem_of_getElem? (i := 4) rfl)))) (fun _ h => h) rfl dX5_step_24 (fun x_20 lx_20 ux_20 ex_20 => ?_)
        have bx_20 : 0 ≤ x_20 ∧ x_20 ≤ 168 := by rw [ex_20]; exact hg.1 _ m_a0 4 3 o_a0
        refine q_chld hx hb hK hw m_r_19 0 o_r_19 rfl ⟨lx_20, ux_20⟩ (by omega) (by omega) dX5_step_27 (fun x_21 lx_21 ux_21 ex_21 => ?_)
        refine q_bipush hx hb dX5_step_28 rfl ?_
        refine q_icmp_ne (tgt := 46) hx hb dX5_step_30 (by decide) ⟨lx_21, ux_21⟩ ⟨by decide, by decide⟩ (fun c30 => ?_) (fun c30 => ?_)
        · exact J46 _ _ _ hw (lv_sub hl [0] rfl)
        · refine lv_aload_n hx hb dX5_step_33 rfl (lv_at hl 0 rfl) ?_
          refine lv_dup hx hb dX5_step_34 rfl ?_
          refine q_geti (ci := 4) (C := RX5) (T := TX5) (N := 10) hx hb hts (fun w h => List.mem_cons_of_mem _ (mfX50 w h)) hown hK hw m_a0 o_a0 rfl 3 (by decide) (hts _ (List.mem_cons_of_mem _ (mr6 _ (List.mem_of_getElem? (i := 4) rfl)))) (fun _ h => h) rfl dX5_step_35 (fun x_22 lx_22 ux_22 ex_22 => ?_)
          have bx_22 : 0 ≤ x_22 ∧ x_22 ≤ 168 := by rw [ex_22]; exact hg.1 _ m_a0 4 3 o_a0
          refine q_iconst hx hb dX5_step_38 ?_
          first | refine q_iadd hx hb dX5_step_39 ⟨by omega, by omega⟩ (fun x_23 lx_23 ux_23 ex_23 => ?_) | refine q_iaddw hx hb dX5_step_39 (fun x_23 lx_23 ux_23 _ => ?_)
          refine q_puti (ci := 4) (C := RX5) (T := TX5) (N := 10) hx hb hts (fun w h => List.mem_cons_of_mem _ (mfX50 w h)) hown hK hw m_a0 o_a0 rfl 3 (by decide) (hts _ (List.mem_cons_of_mem _ (mr6 _ (List.mem_of_getElem? (i := 4) rfl)))) (fun _ h => h) tyX5 tyX5_ok nmX5 rfl (ty := .int) (by decide +kernel) rfl rfl dX5_step_40 (fun H locs hw => ?_)
          have oo := o_a0
          obtain ⟨f_24, ef_24⟩ : ∃ g : Nat → va_E, g = pU fw8 a0 3 (.int (iI x_23)) := ⟨_, rfl⟩
          have hX : Ex cy fw8 f_24 := by rw [ef_24]; exact Ex_pU oo rfl rfl (by decide)
          have hg : GI cy L0 f_24 := by rw [ef_24]; exact hg.putI oo rfl ⟨lx_23, ux_23⟩ (by show 0 ≤ x_23 ∧ x_23 ≤ 168; omega)
          rw [← ef_24] at hw
          have hE := hE.trans hX
          have o_a0 := hX.1.1 _ _ o_a0
          have t_a0_4_f_24 : fI f_24 a0 4 = fI fw8 a0 4 := by rw [ef_24]; exact fI_pU (Or.inr (by decide))
          have vf_24 : fI f_24 a0 3 = x_23 := by rw [ef_24]; exact fI_pU_self oo rfl ⟨lx_23, ux_23⟩
          refine lv_goto (tgt := 8) hx hb dX5_step_43 (by decide) ?_
          exact ih8 L0 f_24 hg hE o_a0 (by omega) _ _ _ hw (lv_sub hl [0] rfl)
  exact J8 (((200 - fI f_2 a0 3).toNat) + 1) L0 f_2 hg hE o_a0 (by omega) _ _ _ hw (lv_sub hl [0] rfl)
set_option maxHeartbeats 4000000 in
set_option maxRecDepth 100000 in
theorem c_X5_takeNumber {Z : Zt} (zo : Zok Z) (l : Launch) (D : va_G) (cy : Cy) (L0 : List Nat) (f0 : Nat → va_E) (a0 : Nat) (x1 : Int) (lx1 : -2147483648 ≤ x1) (ux1 : x1 ≤ 2147483647) (x2 : Int) (lx2 : -2147483648 ≤ x2) (ux2 : x2 ≤ 2147483647) (m_a0 : a0 ∈ L0) (o_a0 : Ob f0 a0 4) (hg : GI cy L0 f0) : Ci Z l yX5_takeNumber (Cond.code yX5_takeNumber cX5_takeNumber 5 (some .int) :: TB) ({ frames := 2, cells := 0, slots := 0, locals := 42 } : Room) 0 0 D (tq cy) [.ref a0, .int (iI x1), .int (iI x2)] L0 f0 (fun (r : Int) (L1 : List Nat) (f1 : Nat → va_E) => L0 = L1 ∧ GI cy L0 f1 ∧ Ex cy f0 f1 ∧ (NumP r x1 x2)) := by
  refine Ci.enter (cc := cX5_takeNumber) (n := 5) rfl (plainFor_of_name (by decide)) (Nat.le_of_ble_eq_true rfl) ?_
  intro p e s m below meth c ls A hx hb hr hts hown hlocks hnm hml hK hA hAe hw hZ hl
  have hown : s.vm.findClass RX5 = some m.cls := hown
  have hl : lv_has ls 5 [(0, .ref a0), (1, .int (iI x1)), (2, .int (iI x2))] := hl
  have hN : ZN s := (zo.2.2.2.2 _ _ _ hZ).2
  have hE : Ex cy f0 f0 := Ex.refl cy f0
  refine lv_aload_n hx hb dX5_takeNumber_0 rfl (lv_at hl 0 rfl) ?_
  refine q_geti (ci := 4) (C := RX5) (T := TX5) (N := 10) hx hb hts (fun w h => List.mem_cons_of_mem _ (mfX50 w h)) hown hK hw m_a0 o_a0 rfl 2 (by decide) (hts _ (List.mem_cons_of_mem _ (mr6 _ (List.mem_of_getElem? (i := 3) rfl)))) (fun _ h => h) rfl dX5_takeNumber_1 (fun x_1 lx_1 ux_1 ex_1 => ?_)
  refine q_iconst hx hb dX5_takeNumber_4 ?_
  refine q_icmp_ne (tgt := 21) hx hb dX5_takeNumber_5 (by decide) ⟨lx_1, ux_1⟩ ⟨by decide, by decide⟩ (fun c5 => ?_) (fun c5 => ?_)
  · refine lv_aload_n hx hb dX5_takeNumber_21 rfl (lv_at hl 0 rfl) ?_
    refine q_iconst hx hb dX5_takeNumber_22 ?_
    refine q_call_i hA hK hw (va_runV (As := [.int (iI 1)]) (rest := []) ⟨hx, hb, hml, hown, hts⟩ (c_X5_refuse zo l D cy L0 f0 a0 1 (by decide) (by decide) m_a0 o_a0 hg _) (cwV 1 hts (gT (inV (mr10 _ (List.mem_of_getElem? (i := 6) rfl)) (mr10 _ (List.mem_of_getElem? (i := 7) rfl)) (mr10 _ (List.mem_of_getElem? (i := 8) rfl)) (mr5 _ (List.mem_of_getElem? (i := 18) rfl)) (mr10 _ (List.mem_of_getElem? (i := 9) rfl)))) rfl rfl rfl (by decide +kernel) ⟨Nat.le_of_ble_eq_true rfl, Nat.le_of_ble_eq_true rfl⟩) (Wd.preV zo hA hZ hw hK m_a0 o_a0 rfl) rfl rfl hl.1 rfl (lv_room (Nat.le_of_ble_eq_true rfl)) dX5_takeNumber_23 ⟨Nat.le_of_ble_eq_true rfl, Nat.le_of_ble_eq_true rfl⟩) (fun x_2 L1 f_3 H locs lx_2 ux_2 ex_2 hw => ?_)
    obtain ⟨rfl, hg, hX, ex_2⟩ := ex_2
    have hE := hE.trans hX
    have o_a0 := hX.1.1 _ _ o_a0
    refine lv_pop hx hb dX5_takeNumber_26 rfl ?_
    refine q_iconst hx hb dX5_takeNumber_27 ?_
    exact q_ret_i hx hb hr hlocks hK hAe hw ⟨by decide, by decide⟩ (Nat.le_of_ble_eq_true rfl) (Nat.le_of_ble_eq_true rfl) dX5_takeNumber_28 (by exact ⟨rfl, hg, hE, by unfold NumP; omega⟩)
  · refine lv_aload_n hx hb dX5_takeNumber_8 rfl (lv_at hl 0 rfl) ?_
    refine q_geti (ci := 4) (C := RX5) (T := TX5) (N := 10) hx hb hts (fun w h => List.mem_cons_of_mem _ (mfX50 w h)) hown hK hw m_a0 o_a0 rfl 4 (by decide) (hts _ (List.mem_cons_of_mem _ (mr6 _ (List.mem_of_getElem? (i := 5) rfl)))) (fun _ h => h) rfl dX5_takeNumber_9 (fun x_4 lx_4 ux_4 ex_4 => ?_)
    have bx_4 : 0 ≤ x_4 ∧ x_4 ≤ 168 := by rw [ex_4]; exact hg.1 _ m_a0 4 4 o_a0
    refine lv_aload_n hx hb dX5_takeNumber_12 rfl (lv_at hl 0 rfl) ?_
    refine q_geti (ci := 4) (C := RX5) (T := TX5) (N := 10) hx hb hts (fun w h => List.mem_cons_of_mem _ (mfX50 w h)) hown hK hw m_a0 o_a0 rfl 3 (by decide) (hts _ (List.mem_cons_of_mem _ (mr6 _ (List.mem_of_getElem? (i := 4) rfl)))) (fun _ h => h) rfl dX5_takeNumber_13 (fun x_5 lx_5 ux_5 ex_5 => ?_)
    have bx_5 : 0 ≤ x_5 ∧ x_5 ≤ 168 := by rw [ex_5]; exact hg.1 _ m_a0 4 3 o_a0
    first | refine q_isub hx hb dX5_takeNumber_16 ⟨by omega, by omega⟩ (fun x_6 lx_6 ux_6 ex_6 => ?_) | refine q_isubw hx hb dX5_takeNumber_16 (fun x_6 lx_6 ux_6 _ => ?_)
    refine q_iconst hx hb dX5_takeNumber_17 ?_
    refine q_icmp_le (tgt := 29) hx hb dX5_takeNumber_18 (by decide) ⟨lx_6, ux_6⟩ ⟨by decide, by decide⟩ (fun c18 => ?_) (fun c18 => ?_)
    · refine q_iconst hx hb dX5_takeNumber_29 ?_
      refine lv_istore_n (lv' := [(3, .int (iI 0)), (0, .ref a0), (1, .int (iI x1)), (2, .int (iI x2))]) hx hb dX5_takeNumber_30 rfl hl (by decide) rfl (fun ls hl => ?_)
      refine lv_aload_n hx hb dX5_takeNumber_31 rfl (lv_at hl 1 rfl) ?_
      refine q_geti (ci := 4) (C := RX5) (T := TX5) (N := 10) hx hb hts (fun w h => List.mem_cons_of_mem _ (mfX50 w h)) hown hK hw m_a0 o_a0 rfl 3 (by decide) (hts _ (List.mem_cons_of_mem _ (mr6 _ (List.mem_of_getElem? (i := 4) rfl)))) (fun _ h => h) rfl dX5_takeNumber_32 (fun x_7 lx_7 ux_7 ex_7 => ?_)
      have bx_7 : 0 ≤ x_7 ∧ x_7 ≤ 168 := by rw [ex_7]; exact hg.1 _ m_a0 4 3 o_a0
      refine lv_istore (lv' := [(4, .int (iI x_7)), (3, .int (iI 0)), (0, .ref a0), (1, .int (iI x1)), (2, .int (iI x2))]) hx hb dX5_takeNumber_35 hl (by decide) rfl (fun ls hl => ?_)
      have J37 : ∀ (n37 : Nat) (y3_37 : Int) (ly3_37 : -2147483648 ≤ y3_37) (uy3_37 : y3_37 ≤ 2147483647) (y4_37 : Int) (ly4_37 : -2147483648 ≤ y4_37) (uy4_37 : y4_37 ≤ 2147483647) (i1 : 0 ≤ y4_37) (hn37 : ((2147483647 : Int) - y4_37).toNat < n37) (H : Heap) (locs : List Loc) (ls : Array Slot) (hw : Wd D A s.heap L0 f0 H locs) (hl : lv_has ls 5 [(0, .ref a0), (1, .int (iI x1)), (2, .int (iI x2)), (3, .int (iI y3_37)), (4, .int (iI y4_37))]), W p l e ({ frames := 2, cells := 0, slots := 0, locals := 42 } : Room) s m ([.ref a0, .int (iI x1), .int (iI x2)] : List Value).toArray below meth c H locs (0) (0) (MQ below (Qi D (tq cy) L0 f0 s.heap.size (fun (r : Int) (L1 : List Nat) (f1 : Nat → va_E) => L0 = L1 ∧ GI cy L0 f1 ∧ Ex cy f0 f1 ∧ (NumP r x1 x2))) ([.ref a0, .int (iI x1), .int (iI x2)] : List Value).toArray s 0 0 A) (F0 m 37 ls []) := by
        intro n37
        induction n37 with
        | zero => intro y3_37 ly3_37 uy3_37 y4_37 ly4_37 uy4_37 i1 hn37; exact absurd hn37 (Nat.not_lt_zero _)
        | succ n37 ih37 =>
          intro y3_37 ly3_37 uy3_37 y4_37 ly4_37 uy4_37 i1 hn37 H locs ls hw hl
          refine lv_iload hx hb dX5_takeNumber_37 (lv_at hl 4 rfl) ?_
          refine lv_aload_n hx hb dX5_takeNumber_39 rfl (lv_at hl 0 rfl) ?_
          refine q_geti (ci := 4) (C := RX5) (T := TX5) (N := 10) hx hb hts (fun w h => List.mem_cons_of_mem _ (mfX50 w h)) hown hK hw m_a0 o_a0 rfl 4 (by decide) (hts _ (List.mem_cons_of_mem _ (mr6 _ (List.mem_of_getElem? (i := 5) rfl)))) (fun _ h => h) rfl dX5_takeNumber_40 (fun x_8 lx_8 ux_8 ex_8 => ?_)
          have bx_8 : 0 ≤ x_8 ∧ x_8 ≤ 168 := by rw [ex_8]; exact hg.1 _ m_a0 4 4 o_a0
          refine q_icmp_ge (tgt := 68) hx hb dX5_takeNumber_43 (by decide) ⟨ly4_37, uy4_37⟩ ⟨lx_8, ux_8⟩ (fun c43 => ?_) (fun c43 => ?_)
          · refine lv_iload_n hx hb dX5_takeNumber_68 rfl (lv_at hl 3 rfl) ?_
            refine lv_iload_n hx hb dX5_takeNumber_69 rfl (lv_at hl 1 rfl) ?_
            refine q_icmp_lt (tgt := 78) hx hb dX5_takeNumber_70 (by decide) ⟨ly3_37, uy3_37⟩ ⟨lx1, ux1⟩ (fun c70 => ?_) (fun c70 => ?_)
            · refine lv_aload_n hx hb dX5_takeNumber_78 rfl (lv_at hl 0 rfl) ?_
              refine q_iconst hx hb dX5_takeNumber_79 ?_
              refine q_call_i hA hK hw (va_runV (As := [.int (iI 2)]) (rest := []) ⟨hx, hb, hml, hown, hts⟩ (c_X5_refuse zo l D cy L0 f0 a0 2 (by decide) (by decide) m_a0 o_a0 hg _) (cwV 1 hts (gT (inV (mr10 _ (List.mem_of_getElem? (i := 6) rfl)) (mr10 _ (List.mem_of_getElem? (i := 7) rfl)) (mr10 _ (List.mem_of_getElem? (i := 8) rfl)) (mr5 _ (List.mem_of_getElem? (i := 18) rfl)) (mr10 _ (List.mem_of_getElem? (i := 9) rfl)))) rfl rfl rfl (by decide +kernel) ⟨Nat.le_of_ble_eq_true rfl, Nat.le_of_ble_eq_true rfl⟩) (Wd.preV zo hA hZ hw hK m_a0 o_a0 rfl) rfl rfl hl.1 rfl (lv_room (Nat.le_of_ble_eq_true rfl)) dX5_takeNumber_80 ⟨Nat.le_of_ble_eq_true rfl, Nat.le_of_ble_eq_true rfl⟩) (fun x_9 L1 f_10 H locs lx_9 ux_9 ex_9 hw => ?_)
              obtain ⟨rfl, hg, hX, ex_9⟩ := ex_9
              have hE := hE.trans hX
              have o_a0 := hX.1.1 _ _ o_a0
              refine lv_pop hx hb dX5_takeNumber_83 rfl ?_
              refine q_iconst hx hb dX5_takeNumber_84 ?_
              exact q_ret_i hx hb hr hlocks hK hAe hw ⟨by decide, by decide⟩ (Nat.le_of_ble_eq_true rfl) (Nat.le_of_ble_eq_true rfl) dX5_takeNumber_85 (by exact ⟨rfl, hg, hE, by unfold NumP; omega⟩)
            · refine lv_iload_n hx hb dX5_takeNumber_73 rfl (lv_at hl 3 rfl) ?_
              refine lv_iload_n hx hb dX5_takeNumber_74 rfl (lv_at hl 2 rfl) ?_
              refine q_icmp_le (tgt := 86) hx hb dX5_takeNumber_75 (by decide) ⟨ly3_37, uy3_37⟩ ⟨lx2, ux2⟩ (fun c75 => ?_) (fun c75 => ?_)
              · refine lv_aload_n hx hb dX5_takeNumber_86 rfl (lv_at hl 0 rfl) ?_
                refine q_call_v hA hK hw (va_runV (As := []) (rest := []) ⟨hx, hb, hml, hown, hts⟩ (c_X5_step zo l D cy L0 f0 a0 m_a0 o_a0 hg _) (cwV 0 hts (gT (inV (mr7 _ (List.mem_of_getElem? (i := 2) rfl)) (mr7 _ (List.mem_of_getElem? (i := 3) rfl)) (mr7 _ (List.mem_of_getElem? (i := 4) rfl)) (mr5 _ (List.mem_of_getElem? (i := 18) rfl)) (mr7 _ (List.mem_of_getElem? (i := 5) rfl)))) rfl rfl rfl (by decide +kernel) ⟨Nat.le_of_ble_eq_true rfl, Nat.le_of_ble_eq_true rfl⟩) (Wd.preV zo hA hZ hw hK m_a0 o_a0 rfl) rfl rfl hl.1 rfl (lv_room (Nat.le_of_ble_eq_true rfl)) dX5_takeNumber_87 ⟨Nat.le_of_ble_eq_true rfl, Nat.le_of_ble_eq_true rfl⟩) (fun L1 f_12 H locs ex_11 hw => ?_)
                obtain ⟨rfl, hg, hX, ex_11⟩ := ex_11
                have hE := hE.trans hX
                have o_a0 := hX.1.1 _ _ o_a0
                refine lv_iload_n hx hb dX5_takeNumber_90 rfl (lv_at hl 3 rfl) ?_
                exact q_ret_i hx hb hr hlocks hK hAe hw ⟨ly3_37, uy3_37⟩ (Nat.le_of_ble_eq_true rfl) (Nat.le_of_ble_eq_true rfl) dX5_takeNumber_91 (by exact ⟨rfl, hg, hE, by unfold NumP; omega⟩)
              · refine lv_aload_n hx hb dX5_takeNumber_78 rfl (lv_at hl 0 rfl) ?_
                refine q_iconst hx hb dX5_takeNumber_79 ?_
                refine q_call_i hA hK hw (va_runV (As := [.int (iI 2)]) (rest := []) ⟨hx, hb, hml, hown, hts⟩ (c_X5_refuse zo l D cy L0 f0 a0 2 (by decide) (by decide) m_a0 o_a0 hg _) (cwV 1 hts (gT (inV (mr10 _ (List.mem_of_getElem? (i := 6) rfl)) (mr10 _ (List.mem_of_getElem? (i := 7) rfl)) (mr10 _ (List.mem_of_getElem? (i := 8) rfl)) (mr5 _ (List.mem_of_getElem? (i := 18) rfl)) (mr10 _ (List.mem_of_getElem? (i := 9) rfl)))) rfl rfl rfl (by decide +kernel) ⟨Nat.le_of_ble_eq_true rfl, Nat.le_of_ble_eq_true rfl⟩) (Wd.preV zo hA hZ hw hK m_a0 o_a0 rfl) rfl rfl hl.1 rfl (lv_room (Nat.le_of_ble_eq_true rfl)) dX5_takeNumber_80 ⟨Nat.le_of_ble_eq_true rfl, Nat.le_of_ble_eq_true rfl⟩) (fun x_13 L1 f_14 H locs lx_13 ux_13 ex_13 hw => ?_)
                obtain ⟨rfl, hg, hX, ex_13⟩ := ex_13
                have hE := hE.trans hX
                have o_a0 := hX.1.1 _ _ o_a0
                refine lv_pop hx hb dX5_takeNumber_83 rfl ?_
                refine q_iconst hx hb dX5_takeNumber_84 ?_
                exact q_ret_i hx hb hr hlocks hK hAe hw ⟨by decide, by decide⟩ (Nat.le_of_ble_eq_true rfl) (Nat.le_of_ble_eq_true rfl) dX5_takeNumber_85 (by exact ⟨rfl, hg, hE, by unfold NumP; omega⟩)
          · refine q_bipush hx hb dX5_takeNumber_46 rfl ?_
            refine lv_iload_n hx hb dX5_takeNumber_48 rfl (lv_at hl 3 rfl) ?_
            first | refine q_imul hx hb dX5_takeNumber_49 ⟨by omega, by omega⟩ (fun x_15 lx_15 ux_15 ex_15 => ?_) | refine q_imulw hx hb dX5_takeNumber_49 (fun x_15 lx_15 ux_15 _ => ?_)
            refine lv_aload_n hx hb dX5_takeNumber_50 rfl (lv_at hl 0 rfl) ?_
            obtain ⟨r_16, er_16, m_r_16, o_r_16⟩ := (show ∃ r, fR f0 a0 0 = some r ∧ r ∈ L0 ∧ ArI f0 r cy.1 168 from hg.2.1 _ m_a0 4 0 o_a0)
            refine q_getr (ci := 4) (C := RX5) (T := TX5) (N := 10) hx hb hts (fun w h => List.mem_cons_of_mem _ (mfX50 w h)) hown hK hw m_a0 o_a0 rfl 0 (by decide) (hts _ (List.mem_cons_of_mem _ (mr6 _ (List.mem_of_getElem? (i := 11) rfl)))) (fun _ h => h) rfl er_16 dX5_takeNumber_51 ?_
            refine lv_iload hx hb dX5_takeNumber_54 (lv_at hl 4 rfl) ?_
            refine q_chld hx hb hK hw m_r_16 0 o_r_16 rfl ⟨ly4_37, uy4_37⟩ (by omega) (by omega) dX5_takeNumber_56 (fun x_17 lx_17 ux_17 ex_17 => ?_)
            first | refine q_iadd hx hb dX5_takeNumber_57 ⟨by omega, by omega⟩ (fun x_18 lx_18 ux_18 ex_18 => ?_) | refine q_iaddw hx hb dX5_takeNumber_57 (fun x_18 lx_18 ux_18 _ => ?_)
            refine q_bipush hx hb dX5_takeNumber_58 rfl ?_
            first | refine q_isub hx hb dX5_takeNumber_60 ⟨by omega, by omega⟩ (fun x_19 lx_19 ux_19 ex_19 => ?_) | refine q_isubw hx hb dX5_takeNumber_60 (fun x_19 lx_19 ux_19 _ => ?_)
            refine lv_istore_n (lv' := [(3, .int (iI x_19)), (0, .ref a0), (1, .int (iI x1)), (2, .int (iI x2)), (4, .int (iI y4_37))]) hx hb dX5_takeNumber_61 rfl hl (by decide) rfl (fun ls hl => ?_)
            obtain ⟨x_20, lx_20, ux_20, hx_20, ex_20⟩ := q_inc y4_37 (1)
            try (replace ex_20 : x_20 = y4_37 + (1) := by omega)
            refine lv_iinc (v := iI x_20) (lv' := [(4, .int (iI x_20)), (3, .int (iI x_19)), (0, .ref a0), (1, .int (iI x1)), (2, .int (iI x2))]) hx hb dX5_takeNumber_62 hl (k := 4) rfl hx_20 (by decide) rfl (fun ls hl => ?_)
            refine lv_goto (tgt := 37) hx hb dX5_takeNumber_65 (by decide) ?_
            exact ih37 x_19 lx_19 ux_19 x_20 lx_20 ux_20 (by omega) (by omega) _ _ _ hw (lv_sub hl [2, 3, 4, 1, 0] rfl)
      exact J37 ((((2147483647 : Int) - x_7).toNat) + 1) 0 (by decide) (by decide) x_7 lx_7 ux_7 (by omega) (by omega) _ _ _ hw (lv_sub hl [2, 3, 4, 1, 0] rfl)
    · refine lv_aload_n hx hb dX5_takeNumber_21 rfl (lv_at hl 0 rfl) ?_
      refine q_iconst hx hb dX5_takeNumber_22 ?_
      refine q_call_i hA hK hw (va_runV (As := [.int (iI 1)]) (rest := []) ⟨hx, hb, hml, hown, hts⟩ (c_X5_refuse zo l D cy L0 f0 a0 1 (by decide) (by decide) m_a0 o_a0 hg _) (cwV 1 hts (gT (inV (mr10 _ (List.mem_of_getElem? (i := 6) rfl)) (mr10 _ (List.mem_of_getElem? (i := 7) rfl)) (mr10 _ (List.mem_of_getElem? (i := 8) rfl)) (mr5 _ (List.mem_of_getElem? (i := 18) rfl)) (mr10 _ (List.mem_of_getElem? (i := 9) rfl)))) rfl rfl rfl (by decide +kernel) ⟨Nat.le_of_ble_eq_true rfl, Nat.le_of_ble_eq_true rfl⟩) (Wd.preV zo hA hZ hw hK m_a0 o_a0 rfl) rfl rfl hl.1 rfl (lv_room (Nat.le_of_ble_eq_true rfl)) dX5_takeNumber_23 ⟨Nat.le_of_ble_eq_true rfl, Nat.le_of_ble_eq_true rfl⟩) (fun x_21 L1 f_22 H locs lx_21 ux_21 ex_21 hw => ?_)
      obtain ⟨rfl, hg, hX, ex_21⟩ := ex_21
      have hE := hE.trans hX
      have o_a0 := hX.1.1 _ _ o_a0
      refine lv_pop hx hb dX5_takeNumber_26 rfl ?_
      refine q_iconst hx hb dX5_takeNumber_27 ?_
      exact q_ret_i hx hb hr hlocks hK hAe hw ⟨by decide, by decide⟩ (Nat.le_of_ble_eq_true rfl) (Nat.le_of_ble_eq_true rfl) dX5_takeNumber_28 (by exact ⟨rfl, hg, hE, by unfold NumP; omega⟩)
