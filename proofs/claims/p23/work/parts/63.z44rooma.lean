set_option maxHeartbeats 4000000 in
set_option maxRecDepth 100000 in
theorem c_X7_isOf_q {Z : Zt} (zo : Zok Z) (l : Launch) (D : va_G) (cy : Cy) (L0 : List Nat) (f0 : Nat → va_E) (a0 : Nat) (x1 : Int) (lx1 : -2147483648 ≤ x1) (ux1 : x1 ≤ 2147483647) (x2 : Int) (lx2 : -2147483648 ≤ x2) (ux2 : x2 ≤ 2147483647) (m_a0 : a0 ∈ L0) (o_a0 : Ob f0 a0 5) (hg : GI cy L0 f0) (rq : Int → Nat) (g : Int → Int) (mm : Int) (sr : SR f0 a0 rq g mm) (h1 : 0 ≤ x1) (h2 : x1 < mm) (m12 : mm ≤ 12) : Ci Z l yX7_isOf (Cond.code yX7_isOf cX7_isOf 3 (some .boolean) :: TB) ({ frames := 0, cells := 0, slots := 0, locals := 0 } : Room) 0 0 D (tq cy) [.ref a0, .int (iI x1), .int (iI x2)] L0 f0 (fun (r : Int) (L1 : List Nat) (f1 : Nat → va_E) => L0 = L1 ∧ f0 = f1 ∧ ((r = 1 ∧ (x2 = -1 ∨ g (44 * x1) = x2)) ∨ (r = 0 ∧ x2 ≠ -1 ∧ g (44 * x1) ≠ x2))) := by
  refine Ci.enter (cc := cX7_isOf) (n := 3) rfl (plainFor_of_name (by decide)) (Nat.le_of_ble_eq_true rfl) ?_
  intro p e s m below meth c ls A hx hb hr hts hown hlocks hnm hml hK hA hAe hw hZ hl
  have hown : s.vm.findClass RX7 = some m.cls := hown
  have hl : lv_has ls 3 [(0, .ref a0), (1, .int (iI x1)), (2, .int (iI x2))] := hl
  have hN : ZN s := (zo.2.2.2.2 _ _ _ hZ).2
  refine lv_iload_n hx hb dX7_isOf_0 rfl (lv_at hl 2 rfl) ?_
  refine q_iconst hx hb dX7_isOf_1 ?_
  refine q_icmp_eq (tgt := 18) hx hb dX7_isOf_2 (by decide) ⟨lx2, ux2⟩ ⟨by decide, by decide⟩ (fun c2 => ?_) (fun c2 => ?_)
  · refine q_iconst hx hb dX7_isOf_18 ?_
    refine lv_goto (tgt := 23) hx hb dX7_isOf_19 (by decide) ?_
    exact q_ret_z hx hb hr hlocks hK hAe hw (by omega) (Nat.le_of_ble_eq_true rfl) (Nat.le_of_ble_eq_true rfl) dX7_isOf_23 ⟨rfl, rfl, by omega⟩
  · refine lv_aload_n hx hb dX7_isOf_5 rfl (lv_at hl 0 rfl) ?_
    obtain ⟨r_1, er_1, m_r_1, o_r_1⟩ := (show ∃ r, fR f0 a0 0 = some r ∧ r ∈ L0 ∧ ArR f0 r cy.2.2.2.1 12 from hg.2.1 _ m_a0 5 0 o_a0)
    refine q_getr (ci := 5) (C := RX7) (T := TX7) (N := 2) hx hb hts (fun w h => List.mem_cons_of_mem _ (mfX70 w h)) hown hK hw m_a0 o_a0 rfl 0 (by decide) (hts _ (List.mem_cons_of_mem _ (mr2 _ (List.mem_of_getElem? (i := 3) rfl)))) (fun _ h => h) rfl er_1 dX7_isOf_6 ?_
    have er6 := er_1
    refine lv_iload_n hx hb dX7_isOf_9 rfl (lv_at hl 1 rfl) ?_
    obtain ⟨r_2, er_2, m_r_2, o_r_2⟩ := hg.2.2.1 _ m_r_1 x1 o_r_1 (by omega) (by omega)
    refine q_aald hx hb hK hw m_r_1 3 o_r_1 rfl ⟨lx1, ux1⟩ (by omega) (by omega) er_2 dX7_isOf_10 ?_
    show W _ _ _ _ _ _ _ _ _ _ _ _ _ _ _ (F0 m 11 ls (.ref r_2 :: []))
    have rb := sr.rb ⟨_, er6, er_2⟩ (by omega) (by omega) (by omega)
    have w0 : fI f0 r_2 0 = g (44 * x1) := rb.1.1.1
    refine q_geti (ci := 0) (C := RX0) (T := TX0) (N := 15) hx hb hts (fun w h => List.mem_cons_of_mem _ (mfX00 w h)) hown hK hw m_r_2 o_r_2 rfl 0 (by decide) (hts _ (List.mem_cons_of_mem _ (mr32 _ (List.mem_of_getElem? (i := 17) rfl)))) (fun _ h => h) rfl dX7_isOf_11 (fun x_3 lx_3 ux_3 ex_3 => ?_)
    refine lv_iload_n hx hb dX7_isOf_14 rfl (lv_at hl 2 rfl) ?_
    refine q_icmp_ne (tgt := 22) hx hb dX7_isOf_15 (by decide) ⟨lx_3, ux_3⟩ ⟨lx2, ux2⟩ (fun c15 => ?_) (fun c15 => ?_)
    · refine q_iconst hx hb dX7_isOf_22 ?_
      exact q_ret_z hx hb hr hlocks hK hAe hw (by omega) (Nat.le_of_ble_eq_true rfl) (Nat.le_of_ble_eq_true rfl) dX7_isOf_23 ⟨rfl, rfl, by omega⟩
    · refine q_iconst hx hb dX7_isOf_18 ?_
      refine lv_goto (tgt := 23) hx hb dX7_isOf_19 (by decide) ?_
      exact q_ret_z hx hb hr hlocks hK hAe hw (by omega) (Nat.le_of_ble_eq_true rfl) (Nat.le_of_ble_eq_true rfl) dX7_isOf_23 ⟨rfl, rfl, by omega⟩
set_option maxHeartbeats 4000000 in
set_option maxRecDepth 100000 in
theorem c_X9_takenTill_o {Z : Zt} (zo : Zok Z) (l : Launch) (D : va_G) (cy : Cy) (L0 : List Nat) (f0 : Nat → va_E) (a0 : Nat) (x1 : Int) (lx1 : -2147483648 ≤ x1) (ux1 : x1 ≤ 2147483647) (x2 : Int) (lx2 : -2147483648 ≤ x2) (ux2 : x2 ≤ 2147483647) (x3 : Int) (lx3 : -2147483648 ≤ x3) (ux3 : x3 ≤ 2147483647) (m_a0 : a0 ∈ L0) (o_a0 : Ob f0 a0 7) (hg : GI cy L0 f0) (rq : Int → Nat) (g : Int → Int) (mm : Int) (sx : SX f0 a0 rq g mm) (Os : Int → Int → Int) (ocs : OCs f0 rq g mm Os) (mb : ∀ i : Int, 0 ≤ i → i < mm → 0 ≤ g (44 * i + 1) ∧ g (44 * i + 1) ≤ 1439) (ml : ∀ i : Int, 0 ≤ i → i < mm → 1 ≤ g (44 * i + 2) ∧ g (44 * i + 2) ≤ 4320) (r0 : 0 ≤ x1) (u0 : 0 ≤ x2) (u1 : x2 ≤ 60000000) (w0 : 1 ≤ x3) (w1 : x3 ≤ 4320) : Ci Z l yX9_takenTill (Cond.code yX9_takenTill cX9_takenTill 7 (some .int) :: TB) ({ frames := 5, cells := 0, slots := 0, locals := 113 } : Room) 0 0 D (tq cy) [.ref a0, .int (iI x1), .int (iI x2), .int (iI x3)] L0 f0 (fun (r : Int) (L1 : List Nat) (f1 : Nat → va_E) => L0 = L1 ∧ GI cy L0 f1 ∧ Eh cy f0 f1 ∧ (TT (OcR g Os x1 mm) x2 (x2 + x3) r)) := by
  refine Ci.enter (cc := cX9_takenTill) (n := 7) rfl (plainFor_of_name (by decide)) (Nat.le_of_ble_eq_true rfl) ?_
  intro p e s m below meth c ls A hx hb hr hts hown hlocks hnm hml hK hA hAe hw hZ hl
  have hown : s.vm.findClass RX9 = some m.cls := hown
  have hl : lv_has ls 7 [(0, .ref a0), (1, .int (iI x1)), (2, .int (iI x2)), (3, .int (iI x3))] := hl
  have hN : ZN s := (zo.2.2.2.2 _ _ _ hZ).2
  have hE : Eh cy f0 f0 := Eh.refl cy f0
  have oa7 := o_a0
  have mm0 : 0 ≤ mm := by obtain ⟨_, _, _, h9, _⟩ := sx; exact h9
  have pos : ∀ t e : Int, OcR g Os x1 mm t e → t < e := OcR.lt ml
  refine lv_iload_n hx hb dX9_takenTill_0 rfl (lv_at hl 2 rfl) ?_
  refine lv_istore (lv' := [(4, .int (iI x2)), (0, .ref a0), (1, .int (iI x1)), (2, .int (iI x2)), (3, .int (iI x3))]) hx hb dX9_takenTill_1 hl (by decide) rfl (fun ls hl => ?_)
  refine q_iconst hx hb dX9_takenTill_3 ?_
  refine lv_istore (lv' := [(5, .int (iI 0)), (4, .int (iI x2)), (0, .ref a0), (1, .int (iI x1)), (2, .int (iI x2)), (3, .int (iI x3))]) hx hb dX9_takenTill_4 hl (by decide) rfl (fun ls hl => ?_)
  have J6 : ∀ (n6 : Nat) (y4_6 : Int) (ly4_6 : -2147483648 ≤ y4_6) (uy4_6 : y4_6 ≤ 2147483647) (y5_6 : Int) (ly5_6 : -2147483648 ≤ y5_6) (uy5_6 : y5_6 ≤ 2147483647) (L : List Nat) (fw6 : Nat → va_E) (hg : GI cy L0 fw6) (hE : Eh cy f0 fw6) (o_a0 : Ob fw6 a0 7) (i1 : 0 ≤ y5_6) (i2 : y5_6 ≤ mm) (tt : TT (OcR g Os x1 y5_6) x2 (x2 + x3) y4_6) (hn6 : ((2147483647 : Int) - y5_6).toNat < n6) (H : Heap) (locs : List Loc) (ls : Array Slot) (hw : Wd D A s.heap L0 fw6 H locs) (hl : lv_has ls 7 [(0, .ref a0), (1, .int (iI x1)), (2, .int (iI x2)), (3, .int (iI x3)), (4, .int (iI y4_6)), (5, .int (iI y5_6))]), W p l e ({ frames := 5, cells := 0, slots := 0, locals := 113 } : Room) s m ([.ref a0, .int (iI x1), .int (iI x2), .int (iI x3)] : List Value).toArray below meth c H locs (0) (0) (MQ below (Qi D (tq cy) L0 f0 s.heap.size (fun (r : Int) (L1 : List Nat) (f1 : Nat → va_E) => L0 = L1 ∧ GI cy L0 f1 ∧ Eh cy f0 f1 ∧ (TT (OcR g Os x1 mm) x2 (x2 + x3) r))) ([.ref a0, .int (iI x1), .int (iI x2), .int (iI x3)] : List Value).toArray s 0 0 A) (F0 m 6 ls []) := by
    intro n6
    induction n6 with
    | zero => intro y4_6 ly4_6 uy4_6 y5_6 ly5_6 uy5_6 L fw6 hg hE o_a0 i1 i2 tt hn6; exact absurd hn6 (Nat.not_lt_zero _)
    | succ n6 ih6 =>
      intro y4_6 ly4_6 uy4_6 y5_6 ly5_6 uy5_6 L fw6 hg hE o_a0 i1 i2 tt hn6 H locs ls hw hl
      have sxf := sx.eh hE oa7
      have ocf := ocs.eh hE
      refine lv_iload hx hb dX9_takenTill_6 (lv_at hl 5 rfl) ?_
      refine lv_aload_n hx hb dX9_takenTill_8 rfl (lv_at hl 0 rfl) ?_
      obtain ⟨r_1, er_1, m_r_1, o_r_1⟩ := (show ∃ r, fR fw6 a0 2 = some r ∧ r ∈ L0 ∧ Ob fw6 r 5 from hg.2.1 _ m_a0 7 2 o_a0)
      refine q_getr (ci := 7) (C := RX9) (T := TX9) (N := 4) hx hb hts (fun w h => List.mem_cons_of_mem _ (mfX90 w h)) hown hK hw m_a0 o_a0 rfl 2 (by decide) (hts _ (List.mem_cons_of_mem _ (mr1 _ (List.mem_of_getElem? (i := 20) rfl)))) (fun _ h => h) rfl er_1 dX9_takenTill_9 ?_
      have s1 := sxf.at er_1
      refine q_getiN (ci := 5) (C := RX7) (T := TX7) (N := 2) hx hb hts (fun w h => List.mem_cons_of_mem _ (mfX70 w h)) hown hK hw m_r_1 o_r_1 rfl 1 (by decide) (va_Nw.use rfl (hN _ (List.mem_of_getElem? (i := 0) rfl))) (fun _ h => h) rfl dX9_takenTill_12 (fun x_2 lx_2 ux_2 ex_2 => ?_)
      have bx_2 : 0 ≤ x_2 ∧ x_2 ≤ 12 := by rw [ex_2]; exact hg.1 _ m_r_1 5 1 o_r_1
      refine q_icmp_ge (tgt := 77) hx hb dX9_takenTill_15 (by decide) ⟨ly5_6, uy5_6⟩ ⟨lx_2, ux_2⟩ (fun c15 => ?_) (fun c15 => ?_)
      · refine lv_iload hx hb dX9_takenTill_77 (lv_at hl 4 rfl) ?_
        exact q_ret_i hx hb hr hlocks hK hAe hw ⟨ly4_6, uy4_6⟩ (Nat.le_of_ble_eq_true rfl) (Nat.le_of_ble_eq_true rfl) dX9_takenTill_79 (by exact ⟨rfl, hg, hE, tt.to (by omega)⟩)
      · refine lv_aload_n hx hb dX9_takenTill_18 rfl (lv_at hl 0 rfl) ?_
        refine q_getr (ci := 7) (C := RX9) (T := TX9) (N := 4) hx hb hts (fun w h => List.mem_cons_of_mem _ (mfX90 w h)) hown hK hw m_a0 o_a0 rfl 2 (by decide) (hts _ (List.mem_cons_of_mem _ (mr1 _ (List.mem_of_getElem? (i := 20) rfl)))) (fun _ h => h) rfl er_1 dX9_takenTill_19 ?_
        have s1 := sxf.at er_1
        refine lv_iload hx hb dX9_takenTill_22 (lv_at hl 5 rfl) ?_
        refine q_call_r hA hK hw (va_runV (As := [.int (iI y5_6)]) (rest := []) ⟨hx, hb, hml, hown, hts⟩ (c_X7_at_f zo l D cy L0 fw6 r_1 y5_6 ly5_6 uy5_6 m_r_1 o_r_1 hg (by omega) (by omega) _) (cwV 1 hts (gT (inV (mr24 _ (List.mem_of_getElem? (i := 8) rfl)) (mr24 _ (List.mem_of_getElem? (i := 9) rfl)) (mr24 _ (List.mem_of_getElem? (i := 10) rfl)) (mr1 _ (List.mem_of_getElem? (i := 19) rfl)) (mr24 _ (List.mem_of_getElem? (i := 11) rfl)))) rfl rfl rfl (by decide +kernel) ⟨Nat.le_of_ble_eq_true rfl, Nat.le_of_ble_eq_true rfl⟩) (Wd.preV zo hA hZ hw hK m_r_1 o_r_1 rfl) rfl rfl hl.1 rfl (lv_room (Nat.le_of_ble_eq_true rfl)) dX9_takenTill_24 ⟨Nat.le_of_ble_eq_true rfl, Nat.le_of_ble_eq_true rfl⟩) (fun x_3 L1 f1 H locs ex_3 hw => ?_)
        obtain ⟨rfl, rfl, ex_3⟩ := ex_3
        obtain ⟨m_x_3, o_x_3, ex_3⟩ := ex_3
        have gx := s1.1.row ex_3 (by omega) (by omega)
        have rb := s1.1.rb ex_3 (by omega) (by omega) (by omega)
        have pko := rb.pk (ocf y5_6 ⟨by omega, by omega⟩).2.2.1 (mb y5_6 (by omega) (by omega)).1 (mb y5_6 (by omega) (by omega)).2
        have ln := ml y5_6 (by omega) (by omega)
        refine lv_astore (lv' := [(6, .ref x_3), (0, .ref a0), (1, .int (iI x1)), (2, .int (iI x2)), (3, .int (iI x3)), (4, .int (iI y4_6)), (5, .int (iI y5_6))]) hx hb dX9_takenTill_27 hl (by decide) rfl (fun ls hl => ?_)
        refine lv_aload_n hx hb dX9_takenTill_29 rfl (lv_at hl 1 rfl) ?_
        refine q_getr (ci := 7) (C := RX9) (T := TX9) (N := 4) hx hb hts (fun w h => List.mem_cons_of_mem _ (mfX90 w h)) hown hK hw m_a0 o_a0 rfl 2 (by decide) (hts _ (List.mem_cons_of_mem _ (mr1 _ (List.mem_of_getElem? (i := 20) rfl)))) (fun _ h => h) rfl er_1 dX9_takenTill_30 ?_
        have s1 := sxf.at er_1
        refine lv_iload hx hb dX9_takenTill_33 (lv_at hl 6 rfl) ?_
        refine lv_iload_n hx hb dX9_takenTill_35 rfl (lv_at hl 2 rfl) ?_
        refine q_call_i hA hK hw (va_runV (As := [.int (iI y5_6), .int (iI x1)]) (rest := []) ⟨hx, hb, hml, hown, hts⟩ (c_X7_isOf_q zo l D cy L0 fw6 r_1 y5_6 ly5_6 uy5_6 x1 lx1 ux1 m_r_1 o_r_1 hg rq g mm s1.1 (by omega) (by omega) (by omega) _) (cwV 2 hts (gT (inV (mr32 _ (List.mem_of_getElem? (i := 13) rfl)) (mr32 _ (List.mem_of_getElem? (i := 14) rfl)) (mr32 _ (List.mem_of_getElem? (i := 15) rfl)) (mr1 _ (List.mem_of_getElem? (i := 19) rfl)) (mr32 _ (List.mem_of_getElem? (i := 16) rfl)))) rfl rfl rfl (by decide +kernel) ⟨Nat.le_of_ble_eq_true rfl, Nat.le_of_ble_eq_true rfl⟩) (Wd.preV zo hA hZ hw hK m_r_1 o_r_1 rfl) rfl rfl hl.1 rfl (lv_room (Nat.le_of_ble_eq_true rfl)) dX9_takenTill_36 ⟨Nat.le_of_ble_eq_true rfl, Nat.le_of_ble_eq_true rfl⟩) (fun x_4 L1 f1 H locs lx_4 ux_4 ex_4 hw => ?_)
        obtain ⟨rfl, rfl, ex_4⟩ := ex_4
        have h36 := ex_4
        have J71 : ∀ (z4_71 : Int) (lz4_71 : -2147483648 ≤ z4_71) (uz4_71 : z4_71 ≤ 2147483647) (L : List Nat) (fw71 : Nat → va_E) (hg : GI cy L0 fw71) (hE : Eh cy f0 fw71) (o_a0 : Ob fw71 a0 7) (j1 : 0 ≤ y5_6) (j2 : y5_6 < mm) (tt1 : TT (OcR g Os x1 (y5_6 + 1)) x2 (x2 + x3) z4_71) (H : Heap) (locs : List Loc) (ls : Array Slot) (hw : Wd D A s.heap L0 fw71 H locs) (hl : lv_has ls 7 [(0, .ref a0), (1, .int (iI x1)), (2, .int (iI x2)), (3, .int (iI x3)), (4, .int (iI z4_71)), (5, .int (iI y5_6))]), W p l e ({ frames := 5, cells := 0, slots := 0, locals := 113 } : Room) s m ([.ref a0, .int (iI x1), .int (iI x2), .int (iI x3)] : List Value).toArray below meth c H locs (0 + 0 + 0) (0 + 0 + 0) (MQ below (Qi D (tq cy) L0 f0 s.heap.size (fun (r : Int) (L1 : List Nat) (f1 : Nat → va_E) => L0 = L1 ∧ GI cy L0 f1 ∧ Eh cy f0 f1 ∧ (TT (OcR g Os x1 mm) x2 (x2 + x3) r))) ([.ref a0, .int (iI x1), .int (iI x2), .int (iI x3)] : List Value).toArray s 0 0 A) (F0 m 71 ls []) := by
          intro z4_71 lz4_71 uz4_71 L fw71 hg hE o_a0 j1 j2 tt1 H locs ls hw hl
          obtain ⟨x_5, lx_5, ux_5, hx_5, ex_5⟩ := q_inc y5_6 (1)
          try (replace ex_5 : x_5 = y5_6 + (1) := by omega)
          refine lv_iinc (v := iI x_5) (lv' := [(5, .int (iI x_5)), (0, .ref a0), (1, .int (iI x1)), (2, .int (iI x2)), (3, .int (iI x3)), (4, .int (iI z4_71))]) hx hb dX9_takenTill_71 hl (k := 5) rfl hx_5 (by decide) rfl (fun ls hl => ?_)
          refine lv_goto (tgt := 6) hx hb dX9_takenTill_74 (by decide) ?_
          exact ih6 z4_71 lz4_71 uz4_71 x_5 lx_5 ux_5 L0 fw71 hg hE o_a0 (by omega) (by omega) (by first | exact TT.start (by omega) (by omega) | exact tt1.to (by omega) | fail "none") (by omega) _ _ _ hw (lv_sub hl [1, 2, 3, 4, 5, 0] rfl)
        refine q_if_eq (tgt := 71) hx hb dX9_takenTill_39 (by decide) ⟨lx_4, ux_4⟩ (fun c39 => ?_) (fun c39 => ?_)
        · exact J71 y4_6 ly4_6 uy4_6 L0 fw6 hg hE o_a0 (by omega) (by omega) (by first | exact tt.skip (by omega) rfl | exact tt.add (by omega) (by omega) h47 (fun t k z => (pko t k z).1) (Or.inl ⟨by omega, by omega⟩) rfl | exact tt.add (by omega) (by omega) h47 (fun t k z => (pko t k z).1) (Or.inr ⟨by omega, by omega⟩) rfl | fail "none") _ _ _ hw (lv_sub hl [1, 2, 3, 4, 5, 6] rfl)
        · refine lv_aload hx hb dX9_takenTill_42 (lv_at hl 0 rfl) ?_
          refine lv_iload_n hx hb dX9_takenTill_44 rfl (lv_at hl 3 rfl) ?_
          refine lv_iload_n hx hb dX9_takenTill_45 rfl (lv_at hl 4 rfl) ?_
          first | refine q_iadd hx hb dX9_takenTill_46 ⟨by omega, by omega⟩ (fun x_6 lx_6 ux_6 ex_6 => ?_) | refine q_iaddw hx hb dX9_takenTill_46 (fun x_6 lx_6 ux_6 _ => ?_)
          refine q_call_i hA hK hw (va_runV (As := [.int (iI x_6)]) (rest := []) ⟨hx, hb, hml, hown, hts⟩ (c_X0_seekAhead_o zo l D cy L0 fw6 x_3 x_6 lx_6 ux_6 m_x_3 o_x_3 hg g (44 * y5_6) rb (Os y5_6) (by rw [gx]; exact (ocf y5_6 ⟨by omega, by omega⟩).1) (ocf y5_6 ⟨by omega, by omega⟩).2.2.1 (mb y5_6 (by omega) (by omega)).1 (mb y5_6 (by omega) (by omega)).2 (by omega) (by omega) _) (cwV 1 hts (gT (inV (mr30 _ (List.mem_of_getElem? (i := 19) rfl)) (mr30 _ (List.mem_of_getElem? (i := 20) rfl)) (mr30 _ (List.mem_of_getElem? (i := 21) rfl)) (mr2 _ (List.mem_of_getElem? (i := 9) rfl)) (mr30 _ (List.mem_of_getElem? (i := 22) rfl)))) rfl rfl rfl (by decide +kernel) ⟨Nat.le_of_ble_eq_true rfl, Nat.le_of_ble_eq_true rfl⟩) (Wd.preV zo hA hZ hw hK m_x_3 o_x_3 rfl) rfl rfl hl.1 rfl (lv_room (Nat.le_of_ble_eq_true rfl)) dX9_takenTill_47 ⟨Nat.le_of_ble_eq_true rfl, Nat.le_of_ble_eq_true rfl⟩) (fun x_7 L1 f_8 H locs lx_7 ux_7 ex_7 hw => ?_)
          obtain ⟨rfl, hg, hX, ex_7⟩ := ex_7
          have hE := hE.trans hX
          have o_x_3 := hX.1.1.1 _ _ o_x_3
          have o_a0 := hX.1.1.1 _ _ o_a0
          have h47 : Sa (Oc g (44 * y5_6) (Os y5_6)) (x2 + x3) _ _ := ex_7.1.arg (by omega)
          have d47 := ex_7.2
          have g47 := h47.rg pko
          have len47 := (rb.eh hX).1.1.2.2.1
          clear ex_7
          refine q_if_eq (tgt := 71) hx hb dX9_takenTill_50 (by decide) ⟨lx_7, ux_7⟩ (fun c50 => ?_) (fun c50 => ?_)
          · exact J71 y4_6 ly4_6 uy4_6 L0 f_8 hg hE o_a0 (by omega) (by omega) (by first | exact tt.skip (by omega) rfl | exact tt.add (by omega) (by omega) h47 (fun t k z => (pko t k z).1) (Or.inl ⟨by omega, by omega⟩) rfl | exact tt.add (by omega) (by omega) h47 (fun t k z => (pko t k z).1) (Or.inr ⟨by omega, by omega⟩) rfl | fail "none") _ _ _ hw (lv_sub hl [1, 2, 3, 4, 5, 6] rfl)
          · refine lv_iload hx hb dX9_takenTill_53 (lv_at hl 5 rfl) ?_
            refine lv_aload hx hb dX9_takenTill_55 (lv_at hl 0 rfl) ?_
            refine q_geti (ci := 0) (C := RX0) (T := TX0) (N := 15) hx hb hts (fun w h => List.mem_cons_of_mem _ (mfX00 w h)) hown hK hw m_x_3 o_x_3 rfl 13 (by decide) (hts _ (List.mem_cons_of_mem _ (mr34 _ (List.mem_of_getElem? (i := 4) rfl)))) (fun _ h => h) rfl dX9_takenTill_57 (fun x_9 lx_9 ux_9 ex_9 => ?_)
            refine lv_aload hx hb dX9_takenTill_60 (lv_at hl 0 rfl) ?_
            refine q_geti (ci := 0) (C := RX0) (T := TX0) (N := 15) hx hb hts (fun w h => List.mem_cons_of_mem _ (mfX00 w h)) hown hK hw m_x_3 o_x_3 rfl 2 (by decide) (hts _ (List.mem_cons_of_mem _ (mr32 _ (List.mem_of_getElem? (i := 9) rfl)))) (fun _ h => h) rfl dX9_takenTill_62 (fun x_10 lx_10 ux_10 ex_10 => ?_)
            first | refine q_iadd hx hb dX9_takenTill_65 ⟨by omega, by omega⟩ (fun x_11 lx_11 ux_11 ex_11 => ?_) | refine q_iaddw hx hb dX9_takenTill_65 (fun x_11 lx_11 ux_11 _ => ?_)
            refine q_max hx hb (hml.trans hl.1.symm) hown (hts _ (List.mem_cons_of_mem _ (mr35 _ (List.mem_of_getElem? (i := 20) rfl)))) (hts _ (List.mem_cons_of_mem _ (mr13 _ (List.mem_of_getElem? (i := 0) rfl)))) (hts _ (List.mem_cons_of_mem _ (mr6 _ (List.mem_of_getElem? (i := 14) rfl)))) (hts _ (List.mem_cons_of_mem _ (mr13 _ (List.mem_of_getElem? (i := 1) rfl)))) (Nat.le_of_ble_eq_true rfl) (Nat.le_of_ble_eq_true rfl) (Nat.le_of_ble_eq_true rfl) (Nat.le_of_ble_eq_true rfl) ⟨ly4_6, uy4_6⟩ ⟨lx_11, ux_11⟩ dX9_takenTill_66 (fun x_12 lx_12 ux_12 ex_12 => ?_)
            refine lv_istore (lv' := [(4, .int (iI x_12)), (6, .ref x_3), (0, .ref a0), (1, .int (iI x1)), (2, .int (iI x2)), (3, .int (iI x3)), (5, .int (iI y5_6))]) hx hb dX9_takenTill_69 hl (by decide) rfl (fun ls hl => ?_)
            exact J71 x_12 lx_12 ux_12 L0 f_8 hg hE o_a0 (by omega) (by omega) (by first | exact tt.skip (by omega) rfl | exact tt.add (by omega) (by omega) h47 (fun t k z => (pko t k z).1) (Or.inl ⟨by omega, by omega⟩) rfl | exact tt.add (by omega) (by omega) h47 (fun t k z => (pko t k z).1) (Or.inr ⟨by omega, by omega⟩) rfl | fail "none") _ _ _ hw (lv_sub hl [2, 3, 4, 5, 0, 6] rfl)
  exact J6 ((((2147483647 : Int) - 0).toNat) + 1) x2 lx2 ux2 0 (by decide) (by decide) L0 f0 hg hE o_a0 (by omega) (by omega) (by first | exact TT.start (by omega) (by omega) | exact tt1.to (by omega) | fail "none") (by omega) _ _ _ hw (lv_sub hl [2, 3, 4, 5, 1, 0] rfl)
set_option maxHeartbeats 4000000 in
set_option maxRecDepth 100000 in
theorem c_X9_firstBegin_o {Z : Zt} (zo : Zok Z) (l : Launch) (D : va_G) (cy : Cy) (L0 : List Nat) (f0 : Nat → va_E) (a0 : Nat) (x1 : Int) (lx1 : -2147483648 ≤ x1) (ux1 : x1 ≤ 2147483647) (x2 : Int) (lx2 : -2147483648 ≤ x2) (ux2 : x2 ≤ 2147483647) (m_a0 : a0 ∈ L0) (o_a0 : Ob f0 a0 7) (hg : GI cy L0 f0) (rq : Int → Nat) (g : Int → Int) (mm : Int) (sx : SX f0 a0 rq g mm) (Os : Int → Int → Int) (ocs : OCs f0 rq g mm Os) (mb : ∀ i : Int, 0 ≤ i → i < mm → 0 ≤ g (44 * i + 1) ∧ g (44 * i + 1) ≤ 1439) (ml : ∀ i : Int, 0 ≤ i → i < mm → 1 ≤ g (44 * i + 2) ∧ g (44 * i + 2) ≤ 4320) (r0 : 0 ≤ x1) (u0 : 0 ≤ x2) (u1 : x2 ≤ 60000000) : Ci Z l yX9_firstBegin (Cond.code yX9_firstBegin cX9_firstBegin 6 (some .int) :: TB) ({ frames := 5, cells := 0, slots := 0, locals := 117 } : Room) 0 0 D (tq cy) [.ref a0, .int (iI x1), .int (iI x2)] L0 f0 (fun (r : Int) (L1 : List Nat) (f1 : Nat → va_E) => L0 = L1 ∧ GI cy L0 f1 ∧ Eh cy f0 f1 ∧ (FB (OcR g Os x1 mm) x2 r)) := by
  refine Ci.enter (cc := cX9_firstBegin) (n := 6) rfl (plainFor_of_name (by decide)) (Nat.le_of_ble_eq_true rfl) ?_
  intro p e s m below meth c ls A hx hb hr hts hown hlocks hnm hml hK hA hAe hw hZ hl
  have hown : s.vm.findClass RX9 = some m.cls := hown
  have hl : lv_has ls 6 [(0, .ref a0), (1, .int (iI x1)), (2, .int (iI x2))] := hl
  have hN : ZN s := (zo.2.2.2.2 _ _ _ hZ).2
  have hE : Eh cy f0 f0 := Eh.refl cy f0
  have oa7 := o_a0
  have mm0 : 0 ≤ mm := by obtain ⟨_, _, _, h9, _⟩ := sx; exact h9
  have pos : ∀ t e : Int, OcR g Os x1 mm t e → t < e := OcR.lt ml
  refine q_ldc (n := 2147483647) hx hb hown (hts _ (List.mem_cons_of_mem _ (mr34 _ (List.mem_of_getElem? (i := 13) rfl)))) rfl dX9_firstBegin_0 ?_
  refine lv_istore_n (lv' := [(3, .int (iI 2147483647)), (0, .ref a0), (1, .int (iI x1)), (2, .int (iI x2))]) hx hb dX9_firstBegin_2 rfl hl (by decide) rfl (fun ls hl => ?_)
  refine q_iconst hx hb dX9_firstBegin_3 ?_
  refine lv_istore (lv' := [(4, .int (iI 0)), (3, .int (iI 2147483647)), (0, .ref a0), (1, .int (iI x1)), (2, .int (iI x2))]) hx hb dX9_firstBegin_4 hl (by decide) rfl (fun ls hl => ?_)
  have J6 : ∀ (n6 : Nat) (y3_6 : Int) (ly3_6 : -2147483648 ≤ y3_6) (uy3_6 : y3_6 ≤ 2147483647) (y4_6 : Int) (ly4_6 : -2147483648 ≤ y4_6) (uy4_6 : y4_6 ≤ 2147483647) (L : List Nat) (fw6 : Nat → va_E) (hg : GI cy L0 fw6) (hE : Eh cy f0 fw6) (o_a0 : Ob fw6 a0 7) (i1 : 0 ≤ y4_6) (i2 : y4_6 ≤ mm) (fb : FB (OcR g Os x1 y4_6) x2 y3_6) (hn6 : ((2147483647 : Int) - y4_6).toNat < n6) (H : Heap) (locs : List Loc) (ls : Array Slot) (hw : Wd D A s.heap L0 fw6 H locs) (hl : lv_has ls 6 [(0, .ref a0), (1, .int (iI x1)), (2, .int (iI x2)), (3, .int (iI y3_6)), (4, .int (iI y4_6))]), W p l e ({ frames := 5, cells := 0, slots := 0, locals := 117 } : Room) s m ([.ref a0, .int (iI x1), .int (iI x2)] : List Value).toArray below meth c H locs (0) (0) (MQ below (Qi D (tq cy) L0 f0 s.heap.size (fun (r : Int) (L1 : List Nat) (f1 : Nat → va_E) => L0 = L1 ∧ GI cy L0 f1 ∧ Eh cy f0 f1 ∧ (FB (OcR g Os x1 mm) x2 r))) ([.ref a0, .int (iI x1), .int (iI x2)] : List Value).toArray s 0 0 A) (F0 m 6 ls []) := by
    intro n6
    induction n6 with
    | zero => intro y3_6 ly3_6 uy3_6 y4_6 ly4_6 uy4_6 L fw6 hg hE o_a0 i1 i2 fb hn6; exact absurd hn6 (Nat.not_lt_zero _)
    | succ n6 ih6 =>
      intro y3_6 ly3_6 uy3_6 y4_6 ly4_6 uy4_6 L fw6 hg hE o_a0 i1 i2 fb hn6 H locs ls hw hl
      have sxf := sx.eh hE oa7
      have ocf := ocs.eh hE
      refine lv_iload hx hb dX9_firstBegin_6 (lv_at hl 4 rfl) ?_
      refine lv_aload_n hx hb dX9_firstBegin_8 rfl (lv_at hl 0 rfl) ?_
      obtain ⟨r_1, er_1, m_r_1, o_r_1⟩ := (show ∃ r, fR fw6 a0 2 = some r ∧ r ∈ L0 ∧ Ob fw6 r 5 from hg.2.1 _ m_a0 7 2 o_a0)
      refine q_getr (ci := 7) (C := RX9) (T := TX9) (N := 4) hx hb hts (fun w h => List.mem_cons_of_mem _ (mfX90 w h)) hown hK hw m_a0 o_a0 rfl 2 (by decide) (hts _ (List.mem_cons_of_mem _ (mr1 _ (List.mem_of_getElem? (i := 20) rfl)))) (fun _ h => h) rfl er_1 dX9_firstBegin_9 ?_
      have s1 := sxf.at er_1
      refine q_getiN (ci := 5) (C := RX7) (T := TX7) (N := 2) hx hb hts (fun w h => List.mem_cons_of_mem _ (mfX70 w h)) hown hK hw m_r_1 o_r_1 rfl 1 (by decide) (va_Nw.use rfl (hN _ (List.mem_of_getElem? (i := 0) rfl))) (fun _ h => h) rfl dX9_firstBegin_12 (fun x_2 lx_2 ux_2 ex_2 => ?_)
      have bx_2 : 0 ≤ x_2 ∧ x_2 ≤ 12 := by rw [ex_2]; exact hg.1 _ m_r_1 5 1 o_r_1
      refine q_icmp_ge (tgt := 68) hx hb dX9_firstBegin_15 (by decide) ⟨ly4_6, uy4_6⟩ ⟨lx_2, ux_2⟩ (fun c15 => ?_) (fun c15 => ?_)
      · refine lv_iload_n hx hb dX9_firstBegin_68 rfl (lv_at hl 3 rfl) ?_
        exact q_ret_i hx hb hr hlocks hK hAe hw ⟨ly3_6, uy3_6⟩ (Nat.le_of_ble_eq_true rfl) (Nat.le_of_ble_eq_true rfl) dX9_firstBegin_69 (by exact ⟨rfl, hg, hE, fb.to (by omega)⟩)
      · refine lv_aload_n hx hb dX9_firstBegin_18 rfl (lv_at hl 0 rfl) ?_
        refine q_getr (ci := 7) (C := RX9) (T := TX9) (N := 4) hx hb hts (fun w h => List.mem_cons_of_mem _ (mfX90 w h)) hown hK hw m_a0 o_a0 rfl 2 (by decide) (hts _ (List.mem_cons_of_mem _ (mr1 _ (List.mem_of_getElem? (i := 20) rfl)))) (fun _ h => h) rfl er_1 dX9_firstBegin_19 ?_
        have s1 := sxf.at er_1
        refine lv_iload hx hb dX9_firstBegin_22 (lv_at hl 4 rfl) ?_
        refine q_call_r hA hK hw (va_runV (As := [.int (iI y4_6)]) (rest := []) ⟨hx, hb, hml, hown, hts⟩ (c_X7_at_f zo l D cy L0 fw6 r_1 y4_6 ly4_6 uy4_6 m_r_1 o_r_1 hg (by omega) (by omega) _) (cwV 1 hts (gT (inV (mr24 _ (List.mem_of_getElem? (i := 8) rfl)) (mr24 _ (List.mem_of_getElem? (i := 9) rfl)) (mr24 _ (List.mem_of_getElem? (i := 10) rfl)) (mr1 _ (List.mem_of_getElem? (i := 19) rfl)) (mr24 _ (List.mem_of_getElem? (i := 11) rfl)))) rfl rfl rfl (by decide +kernel) ⟨Nat.le_of_ble_eq_true rfl, Nat.le_of_ble_eq_true rfl⟩) (Wd.preV zo hA hZ hw hK m_r_1 o_r_1 rfl) rfl rfl hl.1 rfl (lv_room (Nat.le_of_ble_eq_true rfl)) dX9_firstBegin_24 ⟨Nat.le_of_ble_eq_true rfl, Nat.le_of_ble_eq_true rfl⟩) (fun x_3 L1 f1 H locs ex_3 hw => ?_)
        obtain ⟨rfl, rfl, ex_3⟩ := ex_3
        obtain ⟨m_x_3, o_x_3, ex_3⟩ := ex_3
        have gx := s1.1.row ex_3 (by omega) (by omega)
        have rb := s1.1.rb ex_3 (by omega) (by omega) (by omega)
        have pko := rb.pk (ocf y4_6 ⟨by omega, by omega⟩).2.2.1 (mb y4_6 (by omega) (by omega)).1 (mb y4_6 (by omega) (by omega)).2
        have ln := ml y4_6 (by omega) (by omega)
        refine lv_astore (lv' := [(5, .ref x_3), (0, .ref a0), (1, .int (iI x1)), (2, .int (iI x2)), (3, .int (iI y3_6)), (4, .int (iI y4_6))]) hx hb dX9_firstBegin_27 hl (by decide) rfl (fun ls hl => ?_)
        refine lv_aload_n hx hb dX9_firstBegin_29 rfl (lv_at hl 1 rfl) ?_
        refine q_getr (ci := 7) (C := RX9) (T := TX9) (N := 4) hx hb hts (fun w h => List.mem_cons_of_mem _ (mfX90 w h)) hown hK hw m_a0 o_a0 rfl 2 (by decide) (hts _ (List.mem_cons_of_mem _ (mr1 _ (List.mem_of_getElem? (i := 20) rfl)))) (fun _ h => h) rfl er_1 dX9_firstBegin_30 ?_
        have s1 := sxf.at er_1
        refine lv_iload hx hb dX9_firstBegin_33 (lv_at hl 5 rfl) ?_
        refine lv_iload_n hx hb dX9_firstBegin_35 rfl (lv_at hl 2 rfl) ?_
        refine q_call_i hA hK hw (va_runV (As := [.int (iI y4_6), .int (iI x1)]) (rest := []) ⟨hx, hb, hml, hown, hts⟩ (c_X7_isOf_q zo l D cy L0 fw6 r_1 y4_6 ly4_6 uy4_6 x1 lx1 ux1 m_r_1 o_r_1 hg rq g mm s1.1 (by omega) (by omega) (by omega) _) (cwV 2 hts (gT (inV (mr32 _ (List.mem_of_getElem? (i := 13) rfl)) (mr32 _ (List.mem_of_getElem? (i := 14) rfl)) (mr32 _ (List.mem_of_getElem? (i := 15) rfl)) (mr1 _ (List.mem_of_getElem? (i := 19) rfl)) (mr32 _ (List.mem_of_getElem? (i := 16) rfl)))) rfl rfl rfl (by decide +kernel) ⟨Nat.le_of_ble_eq_true rfl, Nat.le_of_ble_eq_true rfl⟩) (Wd.preV zo hA hZ hw hK m_r_1 o_r_1 rfl) rfl rfl hl.1 rfl (lv_room (Nat.le_of_ble_eq_true rfl)) dX9_firstBegin_36 ⟨Nat.le_of_ble_eq_true rfl, Nat.le_of_ble_eq_true rfl⟩) (fun x_4 L1 f1 H locs lx_4 ux_4 ex_4 hw => ?_)
        obtain ⟨rfl, rfl, ex_4⟩ := ex_4
        have h36 := ex_4
        have J62 : ∀ (z3_62 : Int) (lz3_62 : -2147483648 ≤ z3_62) (uz3_62 : z3_62 ≤ 2147483647) (L : List Nat) (fw62 : Nat → va_E) (hg : GI cy L0 fw62) (hE : Eh cy f0 fw62) (o_a0 : Ob fw62 a0 7) (j1 : 0 ≤ y4_6) (j2 : y4_6 < mm) (fb1 : FB (OcR g Os x1 (y4_6 + 1)) x2 z3_62) (H : Heap) (locs : List Loc) (ls : Array Slot) (hw : Wd D A s.heap L0 fw62 H locs) (hl : lv_has ls 6 [(0, .ref a0), (1, .int (iI x1)), (2, .int (iI x2)), (3, .int (iI z3_62)), (4, .int (iI y4_6))]), W p l e ({ frames := 5, cells := 0, slots := 0, locals := 117 } : Room) s m ([.ref a0, .int (iI x1), .int (iI x2)] : List Value).toArray below meth c H locs (0 + 0 + 0) (0 + 0 + 0) (MQ below (Qi D (tq cy) L0 f0 s.heap.size (fun (r : Int) (L1 : List Nat) (f1 : Nat → va_E) => L0 = L1 ∧ GI cy L0 f1 ∧ Eh cy f0 f1 ∧ (FB (OcR g Os x1 mm) x2 r))) ([.ref a0, .int (iI x1), .int (iI x2)] : List Value).toArray s 0 0 A) (F0 m 62 ls []) := by
          intro z3_62 lz3_62 uz3_62 L fw62 hg hE o_a0 j1 j2 fb1 H locs ls hw hl
          obtain ⟨x_5, lx_5, ux_5, hx_5, ex_5⟩ := q_inc y4_6 (1)
          try (replace ex_5 : x_5 = y4_6 + (1) := by omega)
          refine lv_iinc (v := iI x_5) (lv' := [(4, .int (iI x_5)), (0, .ref a0), (1, .int (iI x1)), (2, .int (iI x2)), (3, .int (iI z3_62))]) hx hb dX9_firstBegin_62 hl (k := 4) rfl hx_5 (by decide) rfl (fun ls hl => ?_)
          refine lv_goto (tgt := 6) hx hb dX9_firstBegin_65 (by decide) ?_
          exact ih6 z3_62 lz3_62 uz3_62 x_5 lx_5 ux_5 L0 fw62 hg hE o_a0 (by omega) (by omega) (by first | exact FB.start (by omega) (by omega) | exact fb1.to (by omega) | fail "none") (by omega) _ _ _ hw (lv_sub hl [1, 2, 3, 4, 0] rfl)
        refine q_if_eq (tgt := 62) hx hb dX9_firstBegin_39 (by decide) ⟨lx_4, ux_4⟩ (fun c39 => ?_) (fun c39 => ?_)
        · exact J62 y3_6 ly3_6 uy3_6 L0 fw6 hg hE o_a0 (by omega) (by omega) (by first | exact fb.skip (by omega) rfl | exact fb.add (by omega) (by omega) h46 (fun t k z => ⟨(pko t k z).1, (pko t k z).2.2.2⟩) (Or.inl ⟨by omega, by omega⟩) rfl | exact fb.add (by omega) (by omega) h46 (fun t k z => ⟨(pko t k z).1, (pko t k z).2.2.2⟩) (Or.inr ⟨by omega, by omega⟩) rfl | fail "none") _ _ _ hw (lv_sub hl [1, 2, 3, 4, 5] rfl)
        · refine lv_aload hx hb dX9_firstBegin_42 (lv_at hl 0 rfl) ?_
          refine lv_iload_n hx hb dX9_firstBegin_44 rfl (lv_at hl 3 rfl) ?_
          refine q_iconst hx hb dX9_firstBegin_45 ?_
          refine q_call_i hA hK hw (va_runV (As := [.int (iI x2), .int (iI 0)]) (rest := []) ⟨hx, hb, hml, hown, hts⟩ (c_X0_seek_o zo l D cy L0 fw6 x_3 x2 lx2 ux2 0 (by decide) (by decide) m_x_3 o_x_3 hg g (44 * y4_6) rb (Os y4_6) (by rw [gx]; exact (ocf y4_6 ⟨by omega, by omega⟩).1) (ocf y4_6 ⟨by omega, by omega⟩).2.2.1 (mb y4_6 (by omega) (by omega)).1 (mb y4_6 (by omega) (by omega)).2 (by omega) (by omega) _) (cwV 2 hts (gT (inV (mr29 _ (List.mem_of_getElem? (i := 7) rfl)) (mr29 _ (List.mem_of_getElem? (i := 8) rfl)) (mr29 _ (List.mem_of_getElem? (i := 9) rfl)) (mr2 _ (List.mem_of_getElem? (i := 9) rfl)) (mr29 _ (List.mem_of_getElem? (i := 10) rfl)))) rfl rfl rfl (by decide +kernel) ⟨Nat.le_of_ble_eq_true rfl, Nat.le_of_ble_eq_true rfl⟩) (Wd.preV zo hA hZ hw hK m_x_3 o_x_3 rfl) rfl rfl hl.1 rfl (lv_room (Nat.le_of_ble_eq_true rfl)) dX9_firstBegin_46 ⟨Nat.le_of_ble_eq_true rfl, Nat.le_of_ble_eq_true rfl⟩) (fun x_6 L1 f_7 H locs lx_6 ux_6 ex_6 hw => ?_)
          obtain ⟨rfl, hg, hX, ex_6⟩ := ex_6
          have hE := hE.trans hX
          have o_x_3 := hX.1.1.1 _ _ o_x_3
          have o_a0 := hX.1.1.1 _ _ o_a0
          have h46 : Sk (Oc g (44 * y4_6) (Os y4_6)) x2 0 _ _ := ex_6.1.arg (by omega) (by omega)
          have d46 := ex_6.2
          have g46 := h46.rg pko
          clear ex_6
          refine q_if_eq (tgt := 62) hx hb dX9_firstBegin_49 (by decide) ⟨lx_6, ux_6⟩ (fun c49 => ?_) (fun c49 => ?_)
          · exact J62 y3_6 ly3_6 uy3_6 L0 f_7 hg hE o_a0 (by omega) (by omega) (by first | exact fb.skip (by omega) rfl | exact fb.add (by omega) (by omega) h46 (fun t k z => ⟨(pko t k z).1, (pko t k z).2.2.2⟩) (Or.inl ⟨by omega, by omega⟩) rfl | exact fb.add (by omega) (by omega) h46 (fun t k z => ⟨(pko t k z).1, (pko t k z).2.2.2⟩) (Or.inr ⟨by omega, by omega⟩) rfl | fail "none") _ _ _ hw (lv_sub hl [1, 2, 3, 4, 5] rfl)
          · refine lv_iload_n hx hb dX9_firstBegin_52 rfl (lv_at hl 4 rfl) ?_
            refine lv_aload hx hb dX9_firstBegin_53 (lv_at hl 0 rfl) ?_
            refine q_geti (ci := 0) (C := RX0) (T := TX0) (N := 15) hx hb hts (fun w h => List.mem_cons_of_mem _ (mfX00 w h)) hown hK hw m_x_3 o_x_3 rfl 13 (by decide) (hts _ (List.mem_cons_of_mem _ (mr34 _ (List.mem_of_getElem? (i := 4) rfl)))) (fun _ h => h) rfl dX9_firstBegin_55 (fun x_8 lx_8 ux_8 ex_8 => ?_)
            refine q_min hx hb (hml.trans hl.1.symm) hown (hts _ (List.mem_cons_of_mem _ (mr35 _ (List.mem_of_getElem? (i := 7) rfl)))) (hts _ (List.mem_cons_of_mem _ (mr6 _ (List.mem_of_getElem? (i := 13) rfl)))) (hts _ (List.mem_cons_of_mem _ (mr6 _ (List.mem_of_getElem? (i := 14) rfl)))) (hts _ (List.mem_cons_of_mem _ (mr6 _ (List.mem_of_getElem? (i := 15) rfl)))) (Nat.le_of_ble_eq_true rfl) (Nat.le_of_ble_eq_true rfl) (Nat.le_of_ble_eq_true rfl) (Nat.le_of_ble_eq_true rfl) ⟨ly3_6, uy3_6⟩ ⟨lx_8, ux_8⟩ dX9_firstBegin_58 (fun x_9 lx_9 ux_9 ex_9 => ?_)
            refine lv_istore_n (lv' := [(3, .int (iI x_9)), (5, .ref x_3), (0, .ref a0), (1, .int (iI x1)), (2, .int (iI x2)), (4, .int (iI y4_6))]) hx hb dX9_firstBegin_61 rfl hl (by decide) rfl (fun ls hl => ?_)
            exact J62 x_9 lx_9 ux_9 L0 f_7 hg hE o_a0 (by omega) (by omega) (by first | exact fb.skip (by omega) rfl | exact fb.add (by omega) (by omega) h46 (fun t k z => ⟨(pko t k z).1, (pko t k z).2.2.2⟩) (Or.inl ⟨by omega, by omega⟩) rfl | exact fb.add (by omega) (by omega) h46 (fun t k z => ⟨(pko t k z).1, (pko t k z).2.2.2⟩) (Or.inr ⟨by omega, by omega⟩) rfl | fail "none") _ _ _ hw (lv_sub hl [2, 3, 4, 0, 5] rfl)
  exact J6 ((((2147483647 : Int) - 0).toNat) + 1) 2147483647 (by decide) (by decide) 0 (by decide) (by decide) L0 f0 hg hE o_a0 (by omega) (by omega) (by first | exact FB.start (by omega) (by omega) | exact fb1.to (by omega) | fail "none") (by omega) _ _ _ hw (lv_sub hl [2, 3, 4, 1, 0] rfl)
set_option maxHeartbeats 4000000 in
set_option maxRecDepth 100000 in
theorem c_X9_takenMinutes_o {Z : Zt} (zo : Zok Z) (l : Launch) (D : va_G) (cy : Cy) (L0 : List Nat) (f0 : Nat → va_E) (a0 : Nat) (x1 : Int) (lx1 : -2147483648 ≤ x1) (ux1 : x1 ≤ 2147483647) (x2 : Int) (lx2 : -2147483648 ≤ x2) (ux2 : x2 ≤ 2147483647) (m_a0 : a0 ∈ L0) (o_a0 : Ob f0 a0 7) (hg : GI cy L0 f0) (rq : Int → Nat) (g : Int → Int) (mm : Int) (sx : SX f0 a0 rq g mm) (Os : Int → Int → Int) (ocs : OCs f0 rq g mm Os) (mb : ∀ i : Int, 0 ≤ i → i < mm → 0 ≤ g (44 * i + 1) ∧ g (44 * i + 1) ≤ 1439) (ml : ∀ i : Int, 0 ≤ i → i < mm → 1 ≤ g (44 * i + 2) ∧ g (44 * i + 2) ≤ 4320) (r0 : 0 ≤ x1) (u0 : 0 ≤ x2) (u1 : x2 ≤ 36524) : Ci Z l yX9_takenMinutes (Cond.code yX9_takenMinutes cX9_takenMinutes 8 (some .int) :: TB) ({ frames := 6, cells := 0, slots := 0, locals := 142 } : Room) 0 0 D (tq cy) [.ref a0, .int (iI x1), .int (iI x2)] L0 f0 (fun (r : Int) (L1 : List Nat) (f1 : Nat → va_E) => L0 = L1 ∧ GI cy L0 f1 ∧ Eh cy f0 f1 ∧ (r = wdy (OcR g Os x1 mm) x2)) := by
  refine Ci.enter (cc := cX9_takenMinutes) (n := 8) rfl (plainFor_of_name (by decide)) (Nat.le_of_ble_eq_true rfl) ?_
  intro p e s m below meth c ls A hx hb hr hts hown hlocks hnm hml hK hA hAe hw hZ hl
  have hown : s.vm.findClass RX9 = some m.cls := hown
  have hl : lv_has ls 8 [(0, .ref a0), (1, .int (iI x1)), (2, .int (iI x2))] := hl
  have hN : ZN s := (zo.2.2.2.2 _ _ _ hZ).2
  have hE : Eh cy f0 f0 := Eh.refl cy f0
  have oa7 := o_a0
  have mm0 : 0 ≤ mm := by obtain ⟨_, _, _, h9, _⟩ := sx; exact h9
  have pos : ∀ t e : Int, OcR g Os x1 mm t e → t < e := OcR.lt ml
  refine lv_iload_n hx hb dX9_takenMinutes_0 rfl (lv_at hl 2 rfl) ?_
  refine q_sipush hx hb dX9_takenMinutes_1 rfl ?_
  first | refine q_imul hx hb dX9_takenMinutes_4 ⟨by omega, by omega⟩ (fun x_1 lx_1 ux_1 ex_1 => ?_) | refine q_imulw hx hb dX9_takenMinutes_4 (fun x_1 lx_1 ux_1 _ => ?_)
  refine lv_istore_n (lv' := [(3, .int (iI x_1)), (0, .ref a0), (1, .int (iI x1)), (2, .int (iI x2))]) hx hb dX9_takenMinutes_5 rfl hl (by decide) rfl (fun ls hl => ?_)
  refine lv_iload_n hx hb dX9_takenMinutes_6 rfl (lv_at hl 0 rfl) ?_
  refine q_sipush hx hb dX9_takenMinutes_7 rfl ?_
  first | refine q_iadd hx hb dX9_takenMinutes_10 ⟨by omega, by omega⟩ (fun x_2 lx_2 ux_2 ex_2 => ?_) | refine q_iaddw hx hb dX9_takenMinutes_10 (fun x_2 lx_2 ux_2 _ => ?_)
  refine lv_istore (lv' := [(4, .int (iI x_2)), (3, .int (iI x_1)), (0, .ref a0), (1, .int (iI x1)), (2, .int (iI x2))]) hx hb dX9_takenMinutes_11 hl (by decide) rfl (fun ls hl => ?_)
  refine q_iconst hx hb dX9_takenMinutes_13 ?_
  refine lv_istore (lv' := [(5, .int (iI 0)), (4, .int (iI x_2)), (3, .int (iI x_1)), (0, .ref a0), (1, .int (iI x1)), (2, .int (iI x2))]) hx hb dX9_takenMinutes_14 hl (by decide) rfl (fun ls hl => ?_)
  refine q_iconst hx hb dX9_takenMinutes_16 ?_
  refine lv_istore (lv' := [(6, .int (iI 0)), (5, .int (iI 0)), (4, .int (iI x_2)), (3, .int (iI x_1)), (0, .ref a0), (1, .int (iI x1)), (2, .int (iI x2))]) hx hb dX9_takenMinutes_17 hl (by decide) rfl (fun ls hl => ?_)
  have J19 : ∀ (n19 : Nat) (y3_19 : Int) (ly3_19 : -2147483648 ≤ y3_19) (uy3_19 : y3_19 ≤ 2147483647) (y5_19 : Int) (ly5_19 : -2147483648 ≤ y5_19) (uy5_19 : y5_19 ≤ 2147483647) (y6_19 : Int) (ly6_19 : -2147483648 ≤ y6_19) (uy6_19 : y6_19 ≤ 2147483647) (L : List Nat) (fw19 : Nat → va_E) (hg : GI cy L0 fw19) (hE : Eh cy f0 fw19) (o_a0 : Ob fw19 a0 7) (t1 : 1440 * x2 ≤ y3_19) (t2 : y3_19 ≤ 1440 * x2 + 1440) (t3 : 0 ≤ y6_19) (t4 : y6_19 ≤ y3_19 - 1440 * x2) (t0 : x_2 = 1440 * x2 + 1440) (tk : y5_19 = cn (cov (OcR g Os x1 mm)) (1440 * x2) y3_19) (hn19 : ((2147483647 : Int) - y6_19).toNat < n19) (H : Heap) (locs : List Loc) (ls : Array Slot) (hw : Wd D A s.heap L0 fw19 H locs) (hl : lv_has ls 8 [(0, .ref a0), (1, .int (iI x1)), (3, .int (iI y3_19)), (4, .int (iI x_2)), (5, .int (iI y5_19)), (6, .int (iI y6_19))]), W p l e ({ frames := 6, cells := 0, slots := 0, locals := 142 } : Room) s m ([.ref a0, .int (iI x1), .int (iI x2)] : List Value).toArray below meth c H locs (0) (0) (MQ below (Qi D (tq cy) L0 f0 s.heap.size (fun (r : Int) (L1 : List Nat) (f1 : Nat → va_E) => L0 = L1 ∧ GI cy L0 f1 ∧ Eh cy f0 f1 ∧ (r = wdy (OcR g Os x1 mm) x2))) ([.ref a0, .int (iI x1), .int (iI x2)] : List Value).toArray s 0 0 A) (F0 m 19 ls []) := by
    intro n19
    induction n19 with
    | zero => intro y3_19 ly3_19 uy3_19 y5_19 ly5_19 uy5_19 y6_19 ly6_19 uy6_19 L fw19 hg hE o_a0 t1 t2 t3 t4 t0 tk hn19; exact absurd hn19 (Nat.not_lt_zero _)
    | succ n19 ih19 =>
      intro y3_19 ly3_19 uy3_19 y5_19 ly5_19 uy5_19 y6_19 ly6_19 uy6_19 L fw19 hg hE o_a0 t1 t2 t3 t4 t0 tk hn19 H locs ls hw hl
      have sxf := sx.eh hE oa7
      have ocf := ocs.eh hE
      have cb := cn_pos (p := cov (OcR g Os x1 mm)) (a := 1440 * x2) (b := y3_19)
      refine lv_iload hx hb dX9_takenMinutes_19 (lv_at hl 5 rfl) ?_
      refine q_sipush hx hb dX9_takenMinutes_21 rfl ?_
      refine q_icmp_ge (tgt := 85) hx hb dX9_takenMinutes_24 (by decide) ⟨ly6_19, uy6_19⟩ ⟨by decide, by decide⟩ (fun c24 => ?_) (fun c24 => ?_)
      · refine lv_iload hx hb dX9_takenMinutes_85 (lv_at hl 4 rfl) ?_
        exact q_ret_i hx hb hr hlocks hK hAe hw ⟨ly5_19, uy5_19⟩ (Nat.le_of_ble_eq_true rfl) (Nat.le_of_ble_eq_true rfl) dX9_takenMinutes_87 (by exact ⟨rfl, hg, hE, wd_of tk rfl (by omega)⟩)
      · refine lv_iload_n hx hb dX9_takenMinutes_27 rfl (lv_at hl 2 rfl) ?_
        refine lv_iload hx hb dX9_takenMinutes_28 (lv_at hl 3 rfl) ?_
        refine q_icmp_ge (tgt := 85) hx hb dX9_takenMinutes_30 (by decide) ⟨ly3_19, uy3_19⟩ ⟨lx_2, ux_2⟩ (fun c30 => ?_) (fun c30 => ?_)
        · refine lv_iload hx hb dX9_takenMinutes_85 (lv_at hl 4 rfl) ?_
          exact q_ret_i hx hb hr hlocks hK hAe hw ⟨ly5_19, uy5_19⟩ (Nat.le_of_ble_eq_true rfl) (Nat.le_of_ble_eq_true rfl) dX9_takenMinutes_87 (by exact ⟨rfl, hg, hE, wd_of tk rfl (by omega)⟩)
        · refine lv_aload_n hx hb dX9_takenMinutes_33 rfl (lv_at hl 0 rfl) ?_
          refine lv_iload_n hx hb dX9_takenMinutes_34 rfl (lv_at hl 1 rfl) ?_
          refine lv_iload_n hx hb dX9_takenMinutes_35 rfl (lv_at hl 2 rfl) ?_
          refine q_iconst hx hb dX9_takenMinutes_36 ?_
          refine q_call_i hA hK hw (va_runV (As := [.int (iI x1), .int (iI y3_19), .int (iI 1)]) (rest := []) ⟨hx, hb, hml, hown, hts⟩ (c_X9_takenTill_o zo l D cy L0 fw19 a0 x1 lx1 ux1 y3_19 ly3_19 uy3_19 1 (by decide) (by decide) m_a0 o_a0 hg rq g mm sxf Os ocf mb ml (by omega) (by omega) (by omega) (by omega) (by omega) _) (cwV 3 hts (gT (inV (mr38 _ (List.mem_of_getElem? (i := 14) rfl)) (mr38 _ (List.mem_of_getElem? (i := 15) rfl)) (mr38 _ (List.mem_of_getElem? (i := 16) rfl)) (mr1 _ (List.mem_of_getElem? (i := 2) rfl)) (mr38 _ (List.mem_of_getElem? (i := 17) rfl)))) rfl rfl rfl (by decide +kernel) ⟨Nat.le_of_ble_eq_true rfl, Nat.le_of_ble_eq_true rfl⟩) (Wd.preV zo hA hZ hw hK m_a0 o_a0 rfl) rfl rfl hl.1 rfl (lv_room (Nat.le_of_ble_eq_true rfl)) dX9_takenMinutes_37 ⟨Nat.le_of_ble_eq_true rfl, Nat.le_of_ble_eq_true rfl⟩) (fun x_3 L1 f_4 H locs lx_3 ux_3 ex_3 hw => ?_)
          obtain ⟨rfl, hg, hX, ex_3⟩ := ex_3
          have hE := hE.trans hX
          have o_a0 := hX.1.1.1 _ _ o_a0
          obtain ⟨t0_, et0⟩ : ∃ z : Int, z = x_3 := ⟨_, rfl⟩
          have h37 : TT (OcR g Os x1 mm) y3_19 (y3_19 + 1) t0_ := by rw [et0]; exact ex_3.arg (by omega)
          have n37 := h37.1
          have u37 := h37.up ml (by omega) (by omega)
          clear ex_3
          have sx37 := sx.eh hE oa7
          have oc37 := ocs.eh hE
          refine lv_iload hx hb dX9_takenMinutes_40 (lv_at hl 3 rfl) ?_
          refine q_min hx hb (hml.trans hl.1.symm) hown (hts _ (List.mem_cons_of_mem _ (mr35 _ (List.mem_of_getElem? (i := 7) rfl)))) (hts _ (List.mem_cons_of_mem _ (mr6 _ (List.mem_of_getElem? (i := 13) rfl)))) (hts _ (List.mem_cons_of_mem _ (mr6 _ (List.mem_of_getElem? (i := 14) rfl)))) (hts _ (List.mem_cons_of_mem _ (mr6 _ (List.mem_of_getElem? (i := 15) rfl)))) (Nat.le_of_ble_eq_true rfl) (Nat.le_of_ble_eq_true rfl) (Nat.le_of_ble_eq_true rfl) (Nat.le_of_ble_eq_true rfl) ⟨lx_3, ux_3⟩ ⟨lx_2, ux_2⟩ dX9_takenMinutes_42 (fun x_5 lx_5 ux_5 ex_5 => ?_)
          have e45 : x_5 = min t0_ x_2 := by omega
          refine lv_istore (lv' := [(7, .int (iI x_5)), (0, .ref a0), (1, .int (iI x1)), (3, .int (iI y3_19)), (4, .int (iI x_2)), (5, .int (iI y5_19)), (6, .int (iI y6_19))]) hx hb dX9_takenMinutes_45 hl (by decide) rfl (fun ls hl => ?_)
          refine lv_iload hx hb dX9_takenMinutes_47 (lv_at hl 5 rfl) ?_
          refine lv_iload hx hb dX9_takenMinutes_49 (lv_at hl 0 rfl) ?_
          refine lv_iload_n hx hb dX9_takenMinutes_51 rfl (lv_at hl 3 rfl) ?_
          first | refine q_isub hx hb dX9_takenMinutes_52 ⟨by omega, by omega⟩ (fun x_6 lx_6 ux_6 ex_6 => ?_) | refine q_isubw hx hb dX9_takenMinutes_52 (fun x_6 lx_6 ux_6 _ => ?_)
          first | refine q_iadd hx hb dX9_takenMinutes_53 ⟨by omega, by omega⟩ (fun x_7 lx_7 ux_7 ex_7 => ?_) | refine q_iaddw hx hb dX9_takenMinutes_53 (fun x_7 lx_7 ux_7 _ => ?_)
          refine lv_istore (lv' := [(5, .int (iI x_7)), (7, .int (iI x_5)), (0, .ref a0), (1, .int (iI x1)), (3, .int (iI y3_19)), (4, .int (iI x_2)), (6, .int (iI y6_19))]) hx hb dX9_takenMinutes_54 hl (by decide) rfl (fun ls hl => ?_)
          refine lv_iload hx hb dX9_takenMinutes_56 (lv_at hl 1 rfl) ?_
          refine lv_iload_n hx hb dX9_takenMinutes_58 rfl (lv_at hl 4 rfl) ?_
          have J78 : ∀ (w0_78 : Int) (lw0_78 : -2147483648 ≤ w0_78) (uw0_78 : w0_78 ≤ 2147483647) (L : List Nat) (fw78 : Nat → va_E) (hg : GI cy L0 fw78) (hE : Eh cy f0 fw78) (o_a0 : Ob fw78 a0 7) (u3 : y6_19 + 1 ≤ w0_78 - 1440 * x2) (u2 : w0_78 ≤ 1440 * x2 + 1440) (u4 : 0 ≤ y6_19) (u0_ : x_2 = 1440 * x2 + 1440) (uk : x_7 = cn (cov (OcR g Os x1 mm)) (1440 * x2) w0_78) (H : Heap) (locs : List Loc) (ls : Array Slot) (hw : Wd D A s.heap L0 fw78 H locs) (hl : lv_has ls 8 [(0, .ref a0), (1, .int (iI x1)), (4, .int (iI x_2)), (5, .int (iI x_7)), (6, .int (iI y6_19))]), W p l e ({ frames := 6, cells := 0, slots := 0, locals := 142 } : Room) s m ([.ref a0, .int (iI x1), .int (iI x2)] : List Value).toArray below meth c H locs (0 + 0) (0 + 0) (MQ below (Qi D (tq cy) L0 f0 s.heap.size (fun (r : Int) (L1 : List Nat) (f1 : Nat → va_E) => L0 = L1 ∧ GI cy L0 f1 ∧ Eh cy f0 f1 ∧ (r = wdy (OcR g Os x1 mm) x2))) ([.ref a0, .int (iI x1), .int (iI x2)] : List Value).toArray s 0 0 A) (F0 m 78 ls [.int (iI w0_78)]) := by
            intro w0_78 lw0_78 uw0_78 L fw78 hg hE o_a0 u3 u2 u4 u0_ uk H locs ls hw hl
            refine lv_istore_n (lv' := [(3, .int (iI w0_78)), (0, .ref a0), (1, .int (iI x1)), (4, .int (iI x_2)), (5, .int (iI x_7)), (6, .int (iI y6_19))]) hx hb dX9_takenMinutes_78 rfl hl (by decide) rfl (fun ls hl => ?_)
            obtain ⟨x_8, lx_8, ux_8, hx_8, ex_8⟩ := q_inc y6_19 (1)
            try (replace ex_8 : x_8 = y6_19 + (1) := by omega)
            refine lv_iinc (v := iI x_8) (lv' := [(6, .int (iI x_8)), (3, .int (iI w0_78)), (0, .ref a0), (1, .int (iI x1)), (4, .int (iI x_2)), (5, .int (iI x_7))]) hx hb dX9_takenMinutes_79 hl (k := 5) rfl hx_8 (by decide) rfl (fun ls hl => ?_)
            refine lv_goto (tgt := 19) hx hb dX9_takenMinutes_82 (by decide) ?_
            exact ih19 w0_78 lw0_78 uw0_78 x_7 lx_7 ux_7 x_8 lx_8 ux_8 L0 fw78 hg hE o_a0 (by omega) (by omega) (by omega) (by omega) (by omega) (by first | exact (cn_le (by omega)).symm | exact cn_to uk (by omega) | fail "none") (by omega) _ _ _ hw (lv_sub hl [2, 3, 1, 4, 5, 0] rfl)
          refine q_icmp_le (tgt := 67) hx hb dX9_takenMinutes_59 (by decide) ⟨lx_5, ux_5⟩ ⟨ly3_19, uy3_19⟩ (fun c59 => ?_) (fun c59 => ?_)
          · refine lv_aload_n hx hb dX9_takenMinutes_67 rfl (lv_at hl 2 rfl) ?_
            refine lv_iload_n hx hb dX9_takenMinutes_68 rfl (lv_at hl 3 rfl) ?_
            refine lv_iload_n hx hb dX9_takenMinutes_69 rfl (lv_at hl 4 rfl) ?_
            refine q_call_i hA hK hw (va_runV (As := [.int (iI x1), .int (iI y3_19)]) (rest := []) ⟨hx, hb, hml, hown, hts⟩ (c_X9_firstBegin_o zo l D cy L0 f_4 a0 x1 lx1 ux1 y3_19 ly3_19 uy3_19 m_a0 o_a0 hg rq g mm sx37 Os oc37 mb ml (by omega) (by omega) (by omega) _) (cwV 2 hts (gT (inV (mr39 _ (List.mem_of_getElem? (i := 11) rfl)) (mr39 _ (List.mem_of_getElem? (i := 12) rfl)) (mr39 _ (List.mem_of_getElem? (i := 13) rfl)) (mr1 _ (List.mem_of_getElem? (i := 2) rfl)) (mr39 _ (List.mem_of_getElem? (i := 14) rfl)))) rfl rfl rfl (by decide +kernel) ⟨Nat.le_of_ble_eq_true rfl, Nat.le_of_ble_eq_true rfl⟩) (Wd.preV zo hA hZ hw hK m_a0 o_a0 rfl) rfl rfl hl.1 rfl (lv_room (Nat.le_of_ble_eq_true rfl)) dX9_takenMinutes_70 ⟨Nat.le_of_ble_eq_true rfl, Nat.le_of_ble_eq_true rfl⟩) (fun x_9 L1 f_10 H locs lx_9 ux_9 ex_9 hw => ?_)
            obtain ⟨rfl, hg, hX, ex_9⟩ := ex_9
            have hE := hE.trans hX
            have o_a0 := hX.1.1.1 _ _ o_a0
            obtain ⟨b0_, eb0⟩ : ∃ z : Int, z = x_9 := ⟨_, rfl⟩
            have h70 : FB (OcR g Os x1 mm) y3_19 b0_ := by rw [eb0]; exact ex_9
            refine lv_iload hx hb dX9_takenMinutes_73 (lv_at hl 5 rfl) ?_
            refine q_min hx hb (hml.trans hl.1.symm) hown (hts _ (List.mem_cons_of_mem _ (mr35 _ (List.mem_of_getElem? (i := 7) rfl)))) (hts _ (List.mem_cons_of_mem _ (mr6 _ (List.mem_of_getElem? (i := 13) rfl)))) (hts _ (List.mem_cons_of_mem _ (mr6 _ (List.mem_of_getElem? (i := 14) rfl)))) (hts _ (List.mem_cons_of_mem _ (mr6 _ (List.mem_of_getElem? (i := 15) rfl)))) (Nat.le_of_ble_eq_true rfl) (Nat.le_of_ble_eq_true rfl) (Nat.le_of_ble_eq_true rfl) (Nat.le_of_ble_eq_true rfl) ⟨lx_9, ux_9⟩ ⟨lx_2, ux_2⟩ dX9_takenMinutes_75 (fun x_11 lx_11 ux_11 ex_11 => ?_)
            have e75 : x_11 = min b0_ x_2 := by omega
            exact J78 x_11 lx_11 ux_11 L0 f_10 hg hE o_a0 (by first | omega | (have n75 := tm_no2 (s := 1440 * x2) h37 e45 (by omega) h70 pos e75 (by omega) (by omega) (by omega) tk rfl; omega) | fail "none") (by omega) (by omega) (by omega) (by first | exact tm_yes h37 e45 (by omega) (by omega) tk (by omega) | exact (tm_no2 h37 e45 (by omega) h70 pos e75 (by omega) (by omega) (by omega) tk (by omega)).2.2 | fail "none") _ _ _ hw (lv_sub hl [2, 3, 5, 0, 6] rfl)
          · refine lv_iload hx hb dX9_takenMinutes_62 (lv_at hl 1 rfl) ?_
            refine lv_goto (tgt := 78) hx hb dX9_takenMinutes_64 (by decide) ?_
            exact J78 x_5 lx_5 ux_5 L0 f_4 hg hE o_a0 (by first | omega | (have n75 := tm_no2 (s := 1440 * x2) h37 e45 (by omega) h70 pos e75 (by omega) (by omega) (by omega) tk rfl; omega) | fail "none") (by omega) (by omega) (by omega) (by first | exact tm_yes h37 e45 (by omega) (by omega) tk (by omega) | exact (tm_no2 h37 e45 (by omega) h70 pos e75 (by omega) (by omega) (by omega) tk (by omega)).2.2 | fail "none") _ _ _ hw (lv_sub hl [2, 3, 5, 0, 6] rfl)
  exact J19 ((((2147483647 : Int) - 0).toNat) + 1) x_1 lx_1 ux_1 0 (by decide) (by decide) 0 (by decide) (by decide) L0 f0 hg hE o_a0 (by omega) (by omega) (by omega) (by omega) (by omega) (by first | exact (cn_le (by omega)).symm | exact cn_to uk (by omega) | fail "none") (by omega) _ _ _ hw (lv_sub hl [4, 5, 3, 2, 1, 0] rfl)
set_option maxHeartbeats 4000000 in
set_option maxRecDepth 100000 in
theorem c_X9_busiest_o {Z : Zt} (zo : Zok Z) (l : Launch) (D : va_G) (cy : Cy) (L0 : List Nat) (f0 : Nat → va_E) (a0 : Nat) (x1 : Int) (lx1 : -2147483648 ≤ x1) (ux1 : x1 ≤ 2147483647) (x2 : Int) (lx2 : -2147483648 ≤ x2) (ux2 : x2 ≤ 2147483647) (x3 : Int) (lx3 : -2147483648 ≤ x3) (ux3 : x3 ≤ 2147483647) (m_a0 : a0 ∈ L0) (o_a0 : Ob f0 a0 7) (hg : GI cy L0 f0) (rq : Int → Nat) (g : Int → Int) (mm : Int) (sx : SX f0 a0 rq g mm) (Os : Int → Int → Int) (ocs : OCs f0 rq g mm Os) (mb : ∀ i : Int, 0 ≤ i → i < mm → 0 ≤ g (44 * i + 1) ∧ g (44 * i + 1) ≤ 1439) (ml : ∀ i : Int, 0 ≤ i → i < mm → 1 ≤ g (44 * i + 2) ∧ g (44 * i + 2) ≤ 4320) : Ci Z l yX9_busiest (Cond.code yX9_busiest cX9_busiest 8 (some .int) :: TB) ({ frames := 7, cells := 0, slots := 0, locals := 169 } : Room) 0 0 D (tq cy) [.ref a0, .int (iI x1), .int (iI x2), .int (iI x3)] L0 f0 (fun (r : Int) (L1 : List Nat) (f1 : Nat → va_E) => L0 = L1 ∧ GI cy L0 f1 ∧ Eh cy f0 f1 ∧ ((r = -1 ∧ ¬ ((0 ≤ x1 ∧ x1 ≤ 7) ∧ (0 ≤ x2 ∧ x2 ≤ x3 ∧ x3 ≤ 36524 ∧ x3 - x2 < 60))) ∨ ((0 ≤ x1 ∧ x1 ≤ 7) ∧ (0 ≤ x2 ∧ x2 ≤ x3 ∧ x3 ≤ 36524 ∧ x3 - x2 < 60) ∧ BS (wdy (OcR g Os x1 mm)) x2 x3 r))) := by
  refine Ci.enter (cc := cX9_busiest) (n := 8) rfl (plainFor_of_name (by decide)) (Nat.le_of_ble_eq_true rfl) ?_
  intro p e s m below meth c ls A hx hb hr hts hown hlocks hnm hml hK hA hAe hw hZ hl
  have hown : s.vm.findClass RX9 = some m.cls := hown
  have hl : lv_has ls 8 [(0, .ref a0), (1, .int (iI x1)), (2, .int (iI x2)), (3, .int (iI x3))] := hl
  have hN : ZN s := (zo.2.2.2.2 _ _ _ hZ).2
  have hE : Eh cy f0 f0 := Eh.refl cy f0
  have oa7 := o_a0
  have mm0 : 0 ≤ mm := by obtain ⟨_, _, _, h9, _⟩ := sx; exact h9
  have pos : ∀ t e : Int, OcR g Os x1 mm t e → t < e := OcR.lt ml
  refine lv_iload_n hx hb dX9_busiest_0 rfl (lv_at hl 1 rfl) ?_
  refine q_call_i hA hK hw (va_runS (As := [.int (iI x1)]) (rest := []) ⟨hx, hb, hml, hown, hts⟩ (c_X9_isRoom zo l D cy L0 f0 x1 lx1 ux1 _) (va_cwS 1 hts (gT (inS (mr32 _ (List.mem_of_getElem? (i := 10) rfl)) (mr32 _ (List.mem_of_getElem? (i := 11) rfl)) (mr1 _ (List.mem_of_getElem? (i := 2) rfl)) (mr32 _ (List.mem_of_getElem? (i := 12) rfl)))) rfl rfl rfl (by decide +kernel) ⟨Nat.le_of_ble_eq_true rfl, Nat.le_of_ble_eq_true rfl⟩) (Wd.preS zo hA hZ hw hK) rfl rfl hl.1 rfl (lv_room (Nat.le_of_ble_eq_true rfl)) dX9_busiest_1 ⟨Nat.le_of_ble_eq_true rfl, Nat.le_of_ble_eq_true rfl⟩) (fun x_1 L1 f1 H locs lx_1 ux_1 ex_1 hw => ?_)
  obtain ⟨rfl, rfl, ex_1⟩ := ex_1
  refine q_if_eq (tgt := 17) hx hb dX9_busiest_4 (by decide) ⟨lx_1, ux_1⟩ (fun c4 => ?_) (fun c4 => ?_)
  · refine q_iconst hx hb dX9_busiest_17 ?_
    exact q_ret_i hx hb hr hlocks hK hAe hw ⟨by decide, by decide⟩ (Nat.le_of_ble_eq_true rfl) (Nat.le_of_ble_eq_true rfl) dX9_busiest_18 (by exact ⟨rfl, hg, hE, Or.inl ⟨by omega, by omega⟩⟩)
  · refine lv_iload_n hx hb dX9_busiest_7 rfl (lv_at hl 2 rfl) ?_
    refine lv_iload_n hx hb dX9_busiest_8 rfl (lv_at hl 3 rfl) ?_
    refine q_bipush hx hb dX9_busiest_9 rfl ?_
    refine q_call_i hA hK hw (va_runS (As := [.int (iI x2), .int (iI x3), .int (iI 60)]) (rest := []) ⟨hx, hb, hml, hown, hts⟩ (c_X9_areDays_f zo l D cy L0 f0 x2 lx2 ux2 x3 lx3 ux3 60 (by decide) (by decide) _) (va_cwS 3 hts (gT (inS (mr25 _ (List.mem_of_getElem? (i := 13) rfl)) (mr25 _ (List.mem_of_getElem? (i := 14) rfl)) (mr1 _ (List.mem_of_getElem? (i := 2) rfl)) (mr25 _ (List.mem_of_getElem? (i := 15) rfl)))) rfl rfl rfl (by decide +kernel) ⟨Nat.le_of_ble_eq_true rfl, Nat.le_of_ble_eq_true rfl⟩) (Wd.preS zo hA hZ hw hK) rfl rfl hl.1 rfl (lv_room (Nat.le_of_ble_eq_true rfl)) dX9_busiest_11 ⟨Nat.le_of_ble_eq_true rfl, Nat.le_of_ble_eq_true rfl⟩) (fun x_2 L1 f1 H locs lx_2 ux_2 ex_2 hw => ?_)
    obtain ⟨rfl, rfl, ex_2⟩ := ex_2
    refine q_if_ne (tgt := 19) hx hb dX9_busiest_14 (by decide) ⟨lx_2, ux_2⟩ (fun c14 => ?_) (fun c14 => ?_)
    · refine lv_iload_n hx hb dX9_busiest_19 rfl (lv_at hl 2 rfl) ?_
      refine lv_istore (lv' := [(4, .int (iI x2)), (0, .ref a0), (1, .int (iI x1)), (2, .int (iI x2)), (3, .int (iI x3))]) hx hb dX9_busiest_20 hl (by decide) rfl (fun ls hl => ?_)
      refine q_iconst hx hb dX9_busiest_22 ?_
      refine lv_istore (lv' := [(5, .int (iI 0)), (4, .int (iI x2)), (0, .ref a0), (1, .int (iI x1)), (2, .int (iI x2)), (3, .int (iI x3))]) hx hb dX9_busiest_23 hl (by decide) rfl (fun ls hl => ?_)
      refine lv_iload_n hx hb dX9_busiest_25 rfl (lv_at hl 4 rfl) ?_
      refine lv_istore (lv' := [(6, .int (iI x2)), (5, .int (iI 0)), (4, .int (iI x2)), (0, .ref a0), (1, .int (iI x1)), (2, .int (iI x2)), (3, .int (iI x3))]) hx hb dX9_busiest_26 hl (by decide) rfl (fun ls hl => ?_)
      have J28 : ∀ (n28 : Nat) (y4_28 : Int) (ly4_28 : -2147483648 ≤ y4_28) (uy4_28 : y4_28 ≤ 2147483647) (y5_28 : Int) (ly5_28 : -2147483648 ≤ y5_28) (uy5_28 : y5_28 ≤ 2147483647) (y6_28 : Int) (ly6_28 : -2147483648 ≤ y6_28) (uy6_28 : y6_28 ≤ 2147483647) (L : List Nat) (fw28 : Nat → va_E) (hg : GI cy L0 fw28) (hE : Eh cy f0 fw28) (o_a0 : Ob fw28 a0 7) (d1 : x2 ≤ y6_28) (d2 : y6_28 ≤ x3 + 1) (bt : BT2 (wdy (OcR g Os x1 mm)) 0 x2 y6_28 y4_28 y5_28) (hn28 : ((2147483647 : Int) - y6_28).toNat < n28) (H : Heap) (locs : List Loc) (ls : Array Slot) (hw : Wd D A s.heap L0 fw28 H locs) (hl : lv_has ls 8 [(0, .ref a0), (1, .int (iI x1)), (3, .int (iI x3)), (4, .int (iI y4_28)), (5, .int (iI y5_28)), (6, .int (iI y6_28))]), W p l e ({ frames := 7, cells := 0, slots := 0, locals := 169 } : Room) s m ([.ref a0, .int (iI x1), .int (iI x2), .int (iI x3)] : List Value).toArray below meth c H locs (0 + 0 + 0) (0 + 0 + 0) (MQ below (Qi D (tq cy) L0 f0 s.heap.size (fun (r : Int) (L1 : List Nat) (f1 : Nat → va_E) => L0 = L1 ∧ GI cy L0 f1 ∧ Eh cy f0 f1 ∧ ((r = -1 ∧ ¬ ((0 ≤ x1 ∧ x1 ≤ 7) ∧ (0 ≤ x2 ∧ x2 ≤ x3 ∧ x3 ≤ 36524 ∧ x3 - x2 < 60))) ∨ ((0 ≤ x1 ∧ x1 ≤ 7) ∧ (0 ≤ x2 ∧ x2 ≤ x3 ∧ x3 ≤ 36524 ∧ x3 - x2 < 60) ∧ BS (wdy (OcR g Os x1 mm)) x2 x3 r)))) ([.ref a0, .int (iI x1), .int (iI x2), .int (iI x3)] : List Value).toArray s 0 0 A) (F0 m 28 ls []) := by
        intro n28
        induction n28 with
        | zero => intro y4_28 ly4_28 uy4_28 y5_28 ly5_28 uy5_28 y6_28 ly6_28 uy6_28 L fw28 hg hE o_a0 d1 d2 bt hn28; exact absurd hn28 (Nat.not_lt_zero _)
        | succ n28 ih28 =>
          intro y4_28 ly4_28 uy4_28 y5_28 ly5_28 uy5_28 y6_28 ly6_28 uy6_28 L fw28 hg hE o_a0 d1 d2 bt hn28 H locs ls hw hl
          have sxf := sx.eh hE oa7
          have ocf := ocs.eh hE
          refine lv_iload hx hb dX9_busiest_28 (lv_at hl 5 rfl) ?_
          refine lv_iload_n hx hb dX9_busiest_30 rfl (lv_at hl 2 rfl) ?_
          refine q_icmp_gt (tgt := 64) hx hb dX9_busiest_31 (by decide) ⟨ly6_28, uy6_28⟩ ⟨lx3, ux3⟩ (fun c31 => ?_) (fun c31 => ?_)
          · refine lv_iload hx hb dX9_busiest_64 (lv_at hl 3 rfl) ?_
            exact q_ret_i hx hb hr hlocks hK hAe hw ⟨ly4_28, uy4_28⟩ (Nat.le_of_ble_eq_true rfl) (Nat.le_of_ble_eq_true rfl) dX9_busiest_66 (by exact ⟨rfl, hg, hE, Or.inr ⟨⟨by omega, by omega⟩, ⟨by omega, by omega, by omega, by omega⟩, bt.out (by omega) (fun _ => wdy_rg.1) (by omega) (by omega)⟩⟩)
          · refine lv_aload_n hx hb dX9_busiest_34 rfl (lv_at hl 0 rfl) ?_
            refine lv_iload_n hx hb dX9_busiest_35 rfl (lv_at hl 1 rfl) ?_
            refine lv_iload hx hb dX9_busiest_36 (lv_at hl 5 rfl) ?_
            refine q_call_i hA hK hw (va_runV (As := [.int (iI x1), .int (iI y6_28)]) (rest := []) ⟨hx, hb, hml, hown, hts⟩ (c_X9_takenMinutes_o zo l D cy L0 fw28 a0 x1 lx1 ux1 y6_28 ly6_28 uy6_28 m_a0 o_a0 hg rq g mm sxf Os ocf mb ml (by omega) (by omega) (by omega) _) (cwV 2 hts (gT (inV (mr39 _ (List.mem_of_getElem? (i := 7) rfl)) (mr39 _ (List.mem_of_getElem? (i := 8) rfl)) (mr39 _ (List.mem_of_getElem? (i := 9) rfl)) (mr1 _ (List.mem_of_getElem? (i := 2) rfl)) (mr39 _ (List.mem_of_getElem? (i := 10) rfl)))) rfl rfl rfl (by decide +kernel) ⟨Nat.le_of_ble_eq_true rfl, Nat.le_of_ble_eq_true rfl⟩) (Wd.preV zo hA hZ hw hK m_a0 o_a0 rfl) rfl rfl hl.1 rfl (lv_room (Nat.le_of_ble_eq_true rfl)) dX9_busiest_38 ⟨Nat.le_of_ble_eq_true rfl, Nat.le_of_ble_eq_true rfl⟩) (fun x_3 L1 f_4 H locs lx_3 ux_3 ex_3 hw => ?_)
            obtain ⟨rfl, hg, hX, ex_3⟩ := ex_3
            have hE := hE.trans hX
            have o_a0 := hX.1.1.1 _ _ o_a0
            have h38 := ex_3
            have g38 := wdy_rg (P := (OcR g Os x1 mm)) (d := y6_28)
            refine lv_istore (lv' := [(7, .int (iI x_3)), (0, .ref a0), (1, .int (iI x1)), (3, .int (iI x3)), (4, .int (iI y4_28)), (5, .int (iI y5_28)), (6, .int (iI y6_28))]) hx hb dX9_busiest_41 hl (by decide) rfl (fun ls hl => ?_)
            refine lv_iload hx hb dX9_busiest_43 (lv_at hl 0 rfl) ?_
            refine lv_iload hx hb dX9_busiest_45 (lv_at hl 5 rfl) ?_
            have J58 : ∀ (z4_58 : Int) (lz4_58 : -2147483648 ≤ z4_58) (uz4_58 : z4_58 ≤ 2147483647) (z5_58 : Int) (lz5_58 : -2147483648 ≤ z5_58) (uz5_58 : z5_58 ≤ 2147483647) (b1 : x2 ≤ y6_28) (b2 : y6_28 ≤ x3) (bt1 : BT2 (wdy (OcR g Os x1 mm)) 0 x2 (y6_28 + 1) z4_58 z5_58) (H : Heap) (locs : List Loc) (ls : Array Slot) (hw : Wd D A s.heap L0 f_4 H locs) (hl : lv_has ls 8 [(0, .ref a0), (1, .int (iI x1)), (3, .int (iI x3)), (4, .int (iI z4_58)), (5, .int (iI z5_58)), (6, .int (iI y6_28))]), W p l e ({ frames := 7, cells := 0, slots := 0, locals := 169 } : Room) s m ([.ref a0, .int (iI x1), .int (iI x2), .int (iI x3)] : List Value).toArray below meth c H locs (0 + 0 + 0 + 0) (0 + 0 + 0 + 0) (MQ below (Qi D (tq cy) L0 f0 s.heap.size (fun (r : Int) (L1 : List Nat) (f1 : Nat → va_E) => L0 = L1 ∧ GI cy L0 f1 ∧ Eh cy f0 f1 ∧ ((r = -1 ∧ ¬ ((0 ≤ x1 ∧ x1 ≤ 7) ∧ (0 ≤ x2 ∧ x2 ≤ x3 ∧ x3 ≤ 36524 ∧ x3 - x2 < 60))) ∨ ((0 ≤ x1 ∧ x1 ≤ 7) ∧ (0 ≤ x2 ∧ x2 ≤ x3 ∧ x3 ≤ 36524 ∧ x3 - x2 < 60) ∧ BS (wdy (OcR g Os x1 mm)) x2 x3 r)))) ([.ref a0, .int (iI x1), .int (iI x2), .int (iI x3)] : List Value).toArray s 0 0 A) (F0 m 58 ls []) := by
              intro z4_58 lz4_58 uz4_58 z5_58 lz5_58 uz5_58 b1 b2 bt1 H locs ls hw hl
              obtain ⟨x_5, lx_5, ux_5, hx_5, ex_5⟩ := q_inc y6_28 (1)
              try (replace ex_5 : x_5 = y6_28 + (1) := by omega)
              refine lv_iinc (v := iI x_5) (lv' := [(6, .int (iI x_5)), (0, .ref a0), (1, .int (iI x1)), (3, .int (iI x3)), (4, .int (iI z4_58)), (5, .int (iI z5_58))]) hx hb dX9_busiest_58 hl (k := 5) rfl hx_5 (by decide) rfl (fun ls hl => ?_)
              refine lv_goto (tgt := 28) hx hb dX9_busiest_61 (by decide) ?_
              exact ih28 z4_58 lz4_58 uz4_58 z5_58 lz5_58 uz5_58 x_5 lx_5 ux_5 L0 f_4 hg hE o_a0 (by omega) (by omega) (by first | exact BT2.start (by omega) (by omega) (by omega) | exact bt1.to (by omega) | fail "none") (by omega) _ _ _ hw (lv_sub hl [1, 2, 3, 4, 5, 0] rfl)
            refine q_icmp_le (tgt := 58) hx hb dX9_busiest_47 (by decide) ⟨lx_3, ux_3⟩ ⟨ly5_28, uy5_28⟩ (fun c47 => ?_) (fun c47 => ?_)
            · exact J58 y4_28 ly4_28 uy4_28 y5_28 ly5_28 uy5_28 (by omega) (by omega) (by first | exact bt.no h38 (by omega) rfl | exact bt.yes (by omega) h38 (by omega) rfl (by omega) | fail "none") _ _ _ hw (lv_sub hl [1, 2, 3, 4, 5, 6] rfl)
            · refine lv_iload hx hb dX9_busiest_50 (lv_at hl 0 rfl) ?_
              refine lv_istore (lv' := [(5, .int (iI x_3)), (7, .int (iI x_3)), (0, .ref a0), (1, .int (iI x1)), (3, .int (iI x3)), (4, .int (iI y4_28)), (6, .int (iI y6_28))]) hx hb dX9_busiest_52 hl (by decide) rfl (fun ls hl => ?_)
              refine lv_iload hx hb dX9_busiest_54 (lv_at hl 6 rfl) ?_
              refine lv_istore (lv' := [(4, .int (iI y6_28)), (5, .int (iI x_3)), (7, .int (iI x_3)), (0, .ref a0), (1, .int (iI x1)), (3, .int (iI x3)), (6, .int (iI y6_28))]) hx hb dX9_busiest_56 hl (by decide) rfl (fun ls hl => ?_)
              exact J58 y6_28 ly6_28 uy6_28 x_3 lx_3 ux_3 (by omega) (by omega) (by first | exact bt.no h38 (by omega) rfl | exact bt.yes (by omega) h38 (by omega) rfl (by omega) | fail "none") _ _ _ hw (lv_sub hl [3, 4, 5, 0, 1, 6] rfl)
      exact J28 ((((2147483647 : Int) - x2).toNat) + 1) x2 lx2 ux2 0 (by decide) (by decide) x2 lx2 ux2 L0 f0 hg hE o_a0 (by omega) (by omega) (by first | exact BT2.start (by omega) (by omega) (by omega) | exact bt1.to (by omega) | fail "none") (by omega) _ _ _ hw (lv_sub hl [3, 4, 6, 2, 1, 0] rfl)
    · refine q_iconst hx hb dX9_busiest_17 ?_
      exact q_ret_i hx hb hr hlocks hK hAe hw ⟨by decide, by decide⟩ (Nat.le_of_ble_eq_true rfl) (Nat.le_of_ble_eq_true rfl) dX9_busiest_18 (by exact ⟨rfl, hg, hE, Or.inl ⟨by omega, by omega⟩⟩)