set_option maxHeartbeats 4000000 in
set_option maxRecDepth 100000 in
theorem c_X0_changeOf {Z : Zt} (zo : Zok Z) (l : Launch) (D : va_G) (cy : Cy) (L0 : List Nat) (f0 : Nat → va_E) (a0 : Nat) (x1 : Int) (lx1 : -2147483648 ≤ x1) (ux1 : x1 ≤ 2147483647) (m_a0 : a0 ∈ L0) (o_a0 : Ob f0 a0 0) (hg : GI cy L0 f0) : Ci Z l yX0_changeOf (Cond.code yX0_changeOf cX0_changeOf 3 (some .int) :: TB) ({ frames := 0, cells := 0, slots := 0, locals := 0 } : Room) 0 0 D (tq cy) [.ref a0, .int (iI x1)] L0 f0 (fun (r : Int) (L1 : List Nat) (f1 : Nat → va_E) => L0 = L1 ∧ f0 = f1 ∧ (-1 ≤ r ∧ r < fI f0 a0 10)) := by
  refine Ci.enter (cc := cX0_changeOf) (n := 3) rfl (plainFor_of_name (by decide)) (Nat.le_of_ble_eq_true rfl) ?_
  intro p e s m below meth c ls A hx hb hr hts hown hlocks hnm hml hK hA hAe hw hZ hl
  have hown : s.vm.findClass RX0 = some m.cls := hown
  have hl : lv_has ls 3 [(0, .ref a0), (1, .int (iI x1))] := hl
  have hN : ZN s := (zo.2.2.2.2 _ _ _ hZ).2
  have bb : 0 ≤ fI f0 a0 10 ∧ fI f0 a0 10 ≤ 16 := hg.1 _ m_a0 0 10 o_a0
  refine q_iconst hx hb dX0_changeOf_0 ?_
  refine lv_istore_n (lv' := [(2, .int (iI 0)), (0, .ref a0), (1, .int (iI x1))]) hx hb dX0_changeOf_1 rfl hl (by decide) rfl (fun ls hl => ?_)
  have J2 : ∀ (n2 : Nat) (y2_2 : Int) (ly2_2 : -2147483648 ≤ y2_2) (uy2_2 : y2_2 ≤ 2147483647) (i1 : 0 ≤ y2_2) (hn2 : ((2147483647 : Int) - y2_2).toNat < n2) (H : Heap) (locs : List Loc) (ls : Array Slot) (hw : Wd D A s.heap L0 f0 H locs) (hl : lv_has ls 3 [(0, .ref a0), (1, .int (iI x1)), (2, .int (iI y2_2))]), W p l e ({ frames := 0, cells := 0, slots := 0, locals := 0 } : Room) s m ([.ref a0, .int (iI x1)] : List Value).toArray below meth c H locs (0) (0) (MQ below (Qi D (tq cy) L0 f0 s.heap.size (fun (r : Int) (L1 : List Nat) (f1 : Nat → va_E) => L0 = L1 ∧ f0 = f1 ∧ (-1 ≤ r ∧ r < fI f0 a0 10))) ([.ref a0, .int (iI x1)] : List Value).toArray s 0 0 A) (F0 m 2 ls []) := by
    intro n2
    induction n2 with
    | zero => intro y2_2 ly2_2 uy2_2 i1 hn2; exact absurd hn2 (Nat.not_lt_zero _)
    | succ n2 ih2 =>
      intro y2_2 ly2_2 uy2_2 i1 hn2 H locs ls hw hl
      refine lv_iload_n hx hb dX0_changeOf_2 rfl (lv_at hl 2 rfl) ?_
      refine lv_aload_n hx hb dX0_changeOf_3 rfl (lv_at hl 0 rfl) ?_
      refine q_geti (ci := 0) (C := RX0) (T := TX0) (N := 15) hx hb hts (fun w h => List.mem_cons_of_mem _ (mfX00 w h)) hown hK hw m_a0 o_a0 rfl 10 (by decide) (hts _ (List.mem_cons_of_mem _ (mr14 _ (List.mem_of_getElem? (i := 9) rfl)))) (fun _ h => h) rfl dX0_changeOf_4 (fun x_1 lx_1 ux_1 ex_1 => ?_)
      have bx_1 : 0 ≤ x_1 ∧ x_1 ≤ 16 := by rw [ex_1]; exact hg.1 _ m_a0 0 10 o_a0
      refine q_icmp_ge (tgt := 28) hx hb dX0_changeOf_7 (by decide) ⟨ly2_2, uy2_2⟩ ⟨lx_1, ux_1⟩ (fun c7 => ?_) (fun c7 => ?_)
      · refine q_iconst hx hb dX0_changeOf_28 ?_
        exact q_ret_i hx hb hr hlocks hK hAe hw ⟨by decide, by decide⟩ (Nat.le_of_ble_eq_true rfl) (Nat.le_of_ble_eq_true rfl) dX0_changeOf_29 ⟨rfl, rfl, by omega⟩
      · refine lv_aload_n hx hb dX0_changeOf_10 rfl (lv_at hl 0 rfl) ?_
        obtain ⟨r_2, er_2, m_r_2, o_r_2⟩ := (show ∃ r, fR f0 a0 11 = some r ∧ r ∈ L0 ∧ ArI f0 r cy.2.1 16 from hg.2.1 _ m_a0 0 11 o_a0)
        refine q_getr (ci := 0) (C := RX0) (T := TX0) (N := 15) hx hb hts (fun w h => List.mem_cons_of_mem _ (mfX00 w h)) hown hK hw m_a0 o_a0 rfl 11 (by decide) (hts _ (List.mem_cons_of_mem _ (mr3 _ (List.mem_of_getElem? (i := 2) rfl)))) (fun _ h => h) rfl er_2 dX0_changeOf_11 ?_
        refine lv_iload_n hx hb dX0_changeOf_14 rfl (lv_at hl 2 rfl) ?_
        refine q_iald hx hb hK hw m_r_2 1 o_r_2 rfl ⟨ly2_2, uy2_2⟩ (by omega) (by omega) dX0_changeOf_15 (fun x_3 lx_3 ux_3 ex_3 => ?_)
        refine lv_iload_n hx hb dX0_changeOf_16 rfl (lv_at hl 1 rfl) ?_
        refine q_icmp_ne (tgt := 22) hx hb dX0_changeOf_17 (by decide) ⟨lx_3, ux_3⟩ ⟨lx1, ux1⟩ (fun c17 => ?_) (fun c17 => ?_)
        · obtain ⟨x_4, lx_4, ux_4, hx_4, ex_4⟩ := q_inc y2_2 (1)
          try (replace ex_4 : x_4 = y2_2 + (1) := by omega)
          refine lv_iinc (v := iI x_4) (lv' := [(2, .int (iI x_4)), (0, .ref a0), (1, .int (iI x1))]) hx hb dX0_changeOf_22 hl (k := 2) rfl hx_4 (by decide) rfl (fun ls hl => ?_)
          refine lv_goto (tgt := 2) hx hb dX0_changeOf_25 (by decide) ?_
          exact ih2 x_4 lx_4 ux_4 (by omega) (by omega) _ _ _ hw (lv_sub hl [1, 2, 0] rfl)
        · refine lv_iload_n hx hb dX0_changeOf_20 rfl (lv_at hl 2 rfl) ?_
          exact q_ret_i hx hb hr hlocks hK hAe hw ⟨ly2_2, uy2_2⟩ (Nat.le_of_ble_eq_true rfl) (Nat.le_of_ble_eq_true rfl) dX0_changeOf_21 ⟨rfl, rfl, by omega⟩
  exact J2 ((((2147483647 : Int) - 0).toNat) + 1) 0 (by decide) (by decide) (by omega) (by omega) _ _ _ hw (lv_sub hl [1, 2, 0] rfl)
set_option maxHeartbeats 4000000 in
set_option maxRecDepth 100000 in
theorem c_X0_droppedOnes {Z : Zt} (zo : Zok Z) (l : Launch) (D : va_G) (cy : Cy) (L0 : List Nat) (f0 : Nat → va_E) (a0 : Nat) (m_a0 : a0 ∈ L0) (o_a0 : Ob f0 a0 0) (hg : GI cy L0 f0) : Ci Z l yX0_droppedOnes (Cond.code yX0_droppedOnes cX0_droppedOnes 3 (some .int) :: TB) ({ frames := 0, cells := 0, slots := 0, locals := 0 } : Room) 0 0 D (tq cy) [.ref a0] L0 f0 (fun (r : Int) (L1 : List Nat) (f1 : Nat → va_E) => L0 = L1 ∧ f0 = f1 ∧ (True)) := by
  refine Ci.enter (cc := cX0_droppedOnes) (n := 3) rfl (plainFor_of_name (by decide)) (Nat.le_of_ble_eq_true rfl) ?_
  intro p e s m below meth c ls A hx hb hr hts hown hlocks hnm hml hK hA hAe hw hZ hl
  have hown : s.vm.findClass RX0 = some m.cls := hown
  have hl : lv_has ls 3 [(0, .ref a0)] := hl
  have hN : ZN s := (zo.2.2.2.2 _ _ _ hZ).2
  have hE : Ex cy f0 f0 := Ex.refl cy f0
  have bb : 0 ≤ fI f0 a0 10 ∧ fI f0 a0 10 ≤ 16 := hg.1 _ m_a0 0 10 o_a0
  refine q_iconst hx hb dX0_droppedOnes_0 ?_
  refine lv_istore_n (lv' := [(1, .int (iI 0)), (0, .ref a0)]) hx hb dX0_droppedOnes_1 rfl hl (by decide) rfl (fun ls hl => ?_)
  refine q_iconst hx hb dX0_droppedOnes_2 ?_
  refine lv_istore_n (lv' := [(2, .int (iI 0)), (1, .int (iI 0)), (0, .ref a0)]) hx hb dX0_droppedOnes_3 rfl hl (by decide) rfl (fun ls hl => ?_)
  have J4 : ∀ (n4 : Nat) (y1_4 : Int) (ly1_4 : -2147483648 ≤ y1_4) (uy1_4 : y1_4 ≤ 2147483647) (y2_4 : Int) (ly2_4 : -2147483648 ≤ y2_4) (uy2_4 : y2_4 ≤ 2147483647) (i1 : 0 ≤ y2_4) (hn4 : ((2147483647 : Int) - y2_4).toNat < n4) (H : Heap) (locs : List Loc) (ls : Array Slot) (hw : Wd D A s.heap L0 f0 H locs) (hl : lv_has ls 3 [(0, .ref a0), (1, .int (iI y1_4)), (2, .int (iI y2_4))]), W p l e ({ frames := 0, cells := 0, slots := 0, locals := 0 } : Room) s m ([.ref a0] : List Value).toArray below meth c H locs (0) (0) (MQ below (Qi D (tq cy) L0 f0 s.heap.size (fun (r : Int) (L1 : List Nat) (f1 : Nat → va_E) => L0 = L1 ∧ f0 = f1 ∧ (True))) ([.ref a0] : List Value).toArray s 0 0 A) (F0 m 4 ls []) := by
    intro n4
    induction n4 with
    | zero => intro y1_4 ly1_4 uy1_4 y2_4 ly2_4 uy2_4 i1 hn4; exact absurd hn4 (Nat.not_lt_zero _)
    | succ n4 ih4 =>
      intro y1_4 ly1_4 uy1_4 y2_4 ly2_4 uy2_4 i1 hn4 H locs ls hw hl
      refine lv_iload_n hx hb dX0_droppedOnes_4 rfl (lv_at hl 2 rfl) ?_
      refine lv_aload_n hx hb dX0_droppedOnes_5 rfl (lv_at hl 0 rfl) ?_
      refine q_geti (ci := 0) (C := RX0) (T := TX0) (N := 15) hx hb hts (fun w h => List.mem_cons_of_mem _ (mfX00 w h)) hown hK hw m_a0 o_a0 rfl 10 (by decide) (hts _ (List.mem_cons_of_mem _ (mr14 _ (List.mem_of_getElem? (i := 9) rfl)))) (fun _ h => h) rfl dX0_droppedOnes_6 (fun x_1 lx_1 ux_1 ex_1 => ?_)
      have bx_1 : 0 ≤ x_1 ∧ x_1 ≤ 16 := by rw [ex_1]; exact hg.1 _ m_a0 0 10 o_a0
      refine q_icmp_ge (tgt := 31) hx hb dX0_droppedOnes_9 (by decide) ⟨ly2_4, uy2_4⟩ ⟨lx_1, ux_1⟩ (fun c9 => ?_) (fun c9 => ?_)
      · refine lv_iload_n hx hb dX0_droppedOnes_31 rfl (lv_at hl 1 rfl) ?_
        exact q_ret_i hx hb hr hlocks hK hAe hw ⟨ly1_4, uy1_4⟩ (Nat.le_of_ble_eq_true rfl) (Nat.le_of_ble_eq_true rfl) dX0_droppedOnes_32 ⟨rfl, rfl, by trivial⟩
      · refine lv_aload_n hx hb dX0_droppedOnes_12 rfl (lv_at hl 0 rfl) ?_
        obtain ⟨r_2, er_2, m_r_2, o_r_2⟩ := (show ∃ r, fR f0 a0 12 = some r ∧ r ∈ L0 ∧ ArI f0 r cy.2.1 16 from hg.2.1 _ m_a0 0 12 o_a0)
        refine q_getr (ci := 0) (C := RX0) (T := TX0) (N := 15) hx hb hts (fun w h => List.mem_cons_of_mem _ (mfX00 w h)) hown hK hw m_a0 o_a0 rfl 12 (by decide) (hts _ (List.mem_cons_of_mem _ (mr3 _ (List.mem_of_getElem? (i := 3) rfl)))) (fun _ h => h) rfl er_2 dX0_droppedOnes_13 ?_
        refine lv_iload_n hx hb dX0_droppedOnes_16 rfl (lv_at hl 2 rfl) ?_
        refine q_iald hx hb hK hw m_r_2 1 o_r_2 rfl ⟨ly2_4, uy2_4⟩ (by omega) (by omega) dX0_droppedOnes_17 (fun x_3 lx_3 ux_3 ex_3 => ?_)
        refine q_iconst hx hb dX0_droppedOnes_18 ?_
        have J25 : ∀ (z1_25 : Int) (lz1_25 : -2147483648 ≤ z1_25) (uz1_25 : z1_25 ≤ 2147483647) (H : Heap) (locs : List Loc) (ls : Array Slot) (hw : Wd D A s.heap L0 f0 H locs) (hl : lv_has ls 3 [(0, .ref a0), (1, .int (iI z1_25)), (2, .int (iI y2_4))]), W p l e ({ frames := 0, cells := 0, slots := 0, locals := 0 } : Room) s m ([.ref a0] : List Value).toArray below meth c H locs (0) (0) (MQ below (Qi D (tq cy) L0 f0 s.heap.size (fun (r : Int) (L1 : List Nat) (f1 : Nat → va_E) => L0 = L1 ∧ f0 = f1 ∧ (True))) ([.ref a0] : List Value).toArray s 0 0 A) (F0 m 25 ls []) := by
          intro z1_25 lz1_25 uz1_25 H locs ls hw hl
          obtain ⟨x_4, lx_4, ux_4, hx_4, ex_4⟩ := q_inc y2_4 (1)
          try (replace ex_4 : x_4 = y2_4 + (1) := by omega)
          refine lv_iinc (v := iI x_4) (lv' := [(2, .int (iI x_4)), (0, .ref a0), (1, .int (iI z1_25))]) hx hb dX0_droppedOnes_25 hl (k := 2) rfl hx_4 (by decide) rfl (fun ls hl => ?_)
          refine lv_goto (tgt := 4) hx hb dX0_droppedOnes_28 (by decide) ?_
          exact ih4 z1_25 lz1_25 uz1_25 x_4 lx_4 ux_4 (by omega) (by omega) _ _ _ hw (lv_sub hl [1, 2, 0] rfl)
        refine q_icmp_ne (tgt := 25) hx hb dX0_droppedOnes_19 (by decide) ⟨lx_3, ux_3⟩ ⟨by decide, by decide⟩ (fun c19 => ?_) (fun c19 => ?_)
        · exact J25 y1_4 ly1_4 uy1_4 _ _ _ hw (lv_sub hl [0, 1, 2] rfl)
        · obtain ⟨x_5, lx_5, ux_5, hx_5, ex_5⟩ := q_inc y1_4 (1)
          try (replace ex_5 : x_5 = y1_4 + (1) := by omega)
          refine lv_iinc (v := iI x_5) (lv' := [(1, .int (iI x_5)), (0, .ref a0), (2, .int (iI y2_4))]) hx hb dX0_droppedOnes_22 hl (k := 1) rfl hx_5 (by decide) rfl (fun ls hl => ?_)
          exact J25 x_5 lx_5 ux_5 _ _ _ hw (lv_sub hl [1, 0, 2] rfl)
  exact J4 ((((2147483647 : Int) - 0).toNat) + 1) 0 (by decide) (by decide) 0 (by decide) (by decide) (by omega) (by omega) _ _ _ hw (lv_sub hl [2, 1, 0] rfl)
