set_option maxHeartbeats 4000000 in
set_option maxRecDepth 100000 in
theorem c_X5_standsHere {Z : Zt} (zo : Zok Z) (l : Launch) (D : va_G) (cy : Cy) (L0 : List Nat) (f0 : Nat → va_E) (a0 : Nat) (a1 : Nat) (x2 : Int) (lx2 : -2147483648 ≤ x2) (ux2 : x2 ≤ 2147483647) (m_a0 : a0 ∈ L0) (o_a0 : Ob f0 a0 4) (b_a1 : List Int32) (v_a1 : Nat) (nb_a1 : Asc b_a1) (tx_a1 : ∀ (A : Nat → Prop) (U : State) (H : Heap), Z A U H → Tx b_a1 a1 v_a1 A U H) (hg : GI cy L0 f0) (h0 : 0 ≤ x2) (h1 : x2 ≤ 100) : Ci Z l yX5_standsHere (Cond.code yX5_standsHere cX5_standsHere 5 (some .boolean) :: TB) ({ frames := 4, cells := 0, slots := 0, locals := 85 } : Room) 0 0 D (tq cy) [.ref a0, .ref a1, .int (iI x2)] L0 f0 (fun (r : Int) (L1 : List Nat) (f1 : Nat → va_E) => L0 = L1 ∧ f0 = f1 ∧ (0 ≤ r ∧ r ≤ 1)) := by
  refine Ci.enter (cc := cX5_standsHere) (n := 5) rfl (plainFor_of_name (by decide)) (Nat.le_of_ble_eq_true rfl) ?_
  intro p e s m below meth c ls A hx hb hr hts hown hlocks hnm hml hK hA hAe hw hZ hl
  have hown : s.vm.findClass RX5 = some m.cls := hown
  have hl : lv_has ls 5 [(0, .ref a0), (1, .ref a1), (2, .int (iI x2))] := hl
  have hN : ZN s := (zo.2.2.2.2 _ _ _ hZ).2
  refine lv_aload_n hx hb dX5_standsHere_0 rfl (lv_at hl 0 rfl) ?_
  refine q_geti (ci := 4) (C := RX5) (T := TX5) (N := 10) hx hb hts (fun w h => List.mem_cons_of_mem _ (mfX50 w h)) hown hK hw m_a0 o_a0 rfl 3 (by decide) (hts _ (List.mem_cons_of_mem _ (mr6 _ (List.mem_of_getElem? (i := 4) rfl)))) (fun _ h => h) rfl dX5_standsHere_1 (fun x_1 lx_1 ux_1 ex_1 => ?_)
  have bx_1 : 0 ≤ x_1 ∧ x_1 ≤ 168 := by rw [ex_1]; exact hg.1 _ m_a0 4 3 o_a0
  refine lv_istore_n (lv' := [(3, .int (iI x_1)), (0, .ref a0), (1, .ref a1), (2, .int (iI x2))]) hx hb dX5_standsHere_4 rfl hl (by decide) rfl (fun ls hl => ?_)
  have J5 : ∀ (n5 : Nat) (y3_5 : Int) (ly3_5 : -2147483648 ≤ y3_5) (uy3_5 : y3_5 ≤ 2147483647) (i1 : fI f0 a0 3 ≤ y3_5) (hn5 : ((2147483647 : Int) - y3_5).toNat < n5) (H : Heap) (locs : List Loc) (ls : Array Slot) (hw : Wd D A s.heap L0 f0 H locs) (hl : lv_has ls 5 [(0, .ref a0), (1, .ref a1), (2, .int (iI x2)), (3, .int (iI y3_5))]), W p l e ({ frames := 4, cells := 0, slots := 0, locals := 85 } : Room) s m ([.ref a0, .ref a1, .int (iI x2)] : List Value).toArray below meth c H locs (0) (0) (MQ below (Qi D (tq cy) L0 f0 s.heap.size (fun (r : Int) (L1 : List Nat) (f1 : Nat → va_E) => L0 = L1 ∧ f0 = f1 ∧ (0 ≤ r ∧ r ≤ 1))) ([.ref a0, .ref a1, .int (iI x2)] : List Value).toArray s 0 0 A) (F0 m 5 ls []) := by
    intro n5
    induction n5 with
    | zero => intro y3_5 ly3_5 uy3_5 i1 hn5; exact absurd hn5 (Nat.not_lt_zero _)
    | succ n5 ih5 =>
      intro y3_5 ly3_5 uy3_5 i1 hn5 H locs ls hw hl
      refine lv_iload_n hx hb dX5_standsHere_5 rfl (lv_at hl 3 rfl) ?_
      refine lv_aload_n hx hb dX5_standsHere_6 rfl (lv_at hl 0 rfl) ?_
      refine q_geti (ci := 4) (C := RX5) (T := TX5) (N := 10) hx hb hts (fun w h => List.mem_cons_of_mem _ (mfX50 w h)) hown hK hw m_a0 o_a0 rfl 4 (by decide) (hts _ (List.mem_cons_of_mem _ (mr6 _ (List.mem_of_getElem? (i := 5) rfl)))) (fun _ h => h) rfl dX5_standsHere_7 (fun x_2 lx_2 ux_2 ex_2 => ?_)
      have bx_2 : 0 ≤ x_2 ∧ x_2 ≤ 168 := by rw [ex_2]; exact hg.1 _ m_a0 4 4 o_a0
      refine q_icmp_ge (tgt := 55) hx hb dX5_standsHere_10 (by decide) ⟨ly3_5, uy3_5⟩ ⟨lx_2, ux_2⟩ (fun c10 => ?_) (fun c10 => ?_)
      · refine q_iconst hx hb dX5_standsHere_55 ?_
        exact q_ret_z hx hb hr hlocks hK hAe hw (by omega) (Nat.le_of_ble_eq_true rfl) (Nat.le_of_ble_eq_true rfl) dX5_standsHere_56 ⟨rfl, rfl, by omega⟩
      · refine lv_iload_n hx hb dX5_standsHere_13 rfl (lv_at hl 2 rfl) ?_
        refine lv_iload_n hx hb dX5_standsHere_14 rfl (lv_at hl 3 rfl) ?_
        first | refine q_iadd hx hb dX5_standsHere_15 ⟨by omega, by omega⟩ (fun x_3 lx_3 ux_3 ex_3 => ?_) | refine q_iaddw hx hb dX5_standsHere_15 (fun x_3 lx_3 ux_3 _ => ?_)
        refine lv_aload_n hx hb dX5_standsHere_16 rfl (lv_at hl 0 rfl) ?_
        refine q_geti (ci := 4) (C := RX5) (T := TX5) (N := 10) hx hb hts (fun w h => List.mem_cons_of_mem _ (mfX50 w h)) hown hK hw m_a0 o_a0 rfl 3 (by decide) (hts _ (List.mem_cons_of_mem _ (mr6 _ (List.mem_of_getElem? (i := 4) rfl)))) (fun _ h => h) rfl dX5_standsHere_17 (fun x_4 lx_4 ux_4 ex_4 => ?_)
        have bx_4 : 0 ≤ x_4 ∧ x_4 ≤ 168 := by rw [ex_4]; exact hg.1 _ m_a0 4 3 o_a0
        first | refine q_isub hx hb dX5_standsHere_20 ⟨by omega, by omega⟩ (fun x_5 lx_5 ux_5 ex_5 => ?_) | refine q_isubw hx hb dX5_standsHere_20 (fun x_5 lx_5 ux_5 _ => ?_)
        refine lv_istore (lv' := [(4, .int (iI x_5)), (0, .ref a0), (1, .ref a1), (2, .int (iI x2)), (3, .int (iI y3_5))]) hx hb dX5_standsHere_21 hl (by decide) rfl (fun ls hl => ?_)
        refine lv_iload hx hb dX5_standsHere_23 (lv_at hl 0 rfl) ?_
        refine lv_aload_n hx hb dX5_standsHere_25 rfl (lv_at hl 2 rfl) ?_
        refine q_call_i hA hK hw (va_runV (As := []) (rest := [.int (iI x_5)]) ⟨hx, hb, hml, hown, hts⟩ (c_J0_length_8abf5 zo l D cy L0 f0 a1 b_a1 v_a1 nb_a1 tx_a1 _) (cwV 0 hts (gT (inV (mr8 _ (List.mem_of_getElem? (i := 1) rfl)) (mr8 _ (List.mem_of_getElem? (i := 2) rfl)) (mr8 _ (List.mem_of_getElem? (i := 3) rfl)) (mr8 _ (List.mem_of_getElem? (i := 4) rfl)) (mr8 _ (List.mem_of_getElem? (i := 5) rfl)))) rfl rfl rfl (by decide +kernel) ⟨Nat.le_of_ble_eq_true rfl, Nat.le_of_ble_eq_true rfl⟩) (Wd.preVT zo hA hZ hw hK tx_a1) rfl rfl hl.1 rfl (lv_room (Nat.le_of_ble_eq_true rfl)) dX5_standsHere_26 ⟨Nat.le_of_ble_eq_true rfl, Nat.le_of_ble_eq_true rfl⟩) (fun x_6 L1 f1 H locs lx_6 ux_6 ex_6 hw => ?_)
        obtain ⟨rfl, rfl, ex_6⟩ := ex_6
        refine q_icmp_ge (tgt := 47) hx hb dX5_standsHere_29 (by decide) ⟨lx_5, ux_5⟩ ⟨lx_6, ux_6⟩ (fun c29 => ?_) (fun c29 => ?_)
        · refine q_iconst hx hb dX5_standsHere_47 ?_
          exact q_ret_z hx hb hr hlocks hK hAe hw (by omega) (Nat.le_of_ble_eq_true rfl) (Nat.le_of_ble_eq_true rfl) dX5_standsHere_48 ⟨rfl, rfl, by omega⟩
        · refine lv_aload_n hx hb dX5_standsHere_32 rfl (lv_at hl 1 rfl) ?_
          obtain ⟨r_7, er_7, m_r_7, o_r_7⟩ := (show ∃ r, fR f0 a0 0 = some r ∧ r ∈ L0 ∧ ArI f0 r cy.1 168 from hg.2.1 _ m_a0 4 0 o_a0)
          refine q_getr (ci := 4) (C := RX5) (T := TX5) (N := 10) hx hb hts (fun w h => List.mem_cons_of_mem _ (mfX50 w h)) hown hK hw m_a0 o_a0 rfl 0 (by decide) (hts _ (List.mem_cons_of_mem _ (mr6 _ (List.mem_of_getElem? (i := 11) rfl)))) (fun _ h => h) rfl er_7 dX5_standsHere_33 ?_
          refine lv_iload_n hx hb dX5_standsHere_36 rfl (lv_at hl 4 rfl) ?_
          refine q_chld hx hb hK hw m_r_7 0 o_r_7 rfl ⟨ly3_5, uy3_5⟩ (by omega) (by omega) dX5_standsHere_37 (fun x_8 lx_8 ux_8 ex_8 => ?_)
          refine lv_aload_n hx hb dX5_standsHere_38 rfl (lv_at hl 2 rfl) ?_
          refine lv_iload hx hb dX5_standsHere_39 (lv_at hl 0 rfl) ?_
          refine q_call_i hA hK hw (va_runV (As := [.int (iI x_5)]) (rest := [.int (iI x_8)]) ⟨hx, hb, hml, hown, hts⟩ (c_J0_charAt_5068e zo l D cy L0 f0 a1 x_5 lx_5 ux_5 b_a1 v_a1 nb_a1 tx_a1 (by omega) (by omega) _) (cwV 1 hts (gT (inV (mr8 _ (List.mem_of_getElem? (i := 17) rfl)) (mr8 _ (List.mem_of_getElem? (i := 18) rfl)) (mr8 _ (List.mem_of_getElem? (i := 19) rfl)) (mr8 _ (List.mem_of_getElem? (i := 4) rfl)) (mr8 _ (List.mem_of_getElem? (i := 20) rfl)))) rfl rfl rfl (by decide +kernel) ⟨Nat.le_of_ble_eq_true rfl, Nat.le_of_ble_eq_true rfl⟩) (Wd.preVT zo hA hZ hw hK tx_a1) rfl rfl hl.1 rfl (lv_room (Nat.le_of_ble_eq_true rfl)) dX5_standsHere_41 ⟨Nat.le_of_ble_eq_true rfl, Nat.le_of_ble_eq_true rfl⟩) (fun x_9 L1 f1 H locs lx_9 ux_9 ex_9 hw => ?_)
          obtain ⟨rfl, rfl, ex_9⟩ := ex_9
          refine q_icmp_eq (tgt := 49) hx hb dX5_standsHere_44 (by decide) ⟨lx_8, ux_8⟩ ⟨lx_9, ux_9⟩ (fun c44 => ?_) (fun c44 => ?_)
          · obtain ⟨x_10, lx_10, ux_10, hx_10, ex_10⟩ := q_inc y3_5 (1)
            try (replace ex_10 : x_10 = y3_5 + (1) := by omega)
            refine lv_iinc (v := iI x_10) (lv' := [(3, .int (iI x_10)), (4, .int (iI x_5)), (0, .ref a0), (1, .ref a1), (2, .int (iI x2))]) hx hb dX5_standsHere_49 hl (k := 4) rfl hx_10 (by decide) rfl (fun ls hl => ?_)
            refine lv_goto (tgt := 5) hx hb dX5_standsHere_52 (by decide) ?_
            exact ih5 x_10 lx_10 ux_10 (by omega) (by omega) _ _ _ hw (lv_sub hl [2, 3, 4, 0] rfl)
          · refine q_iconst hx hb dX5_standsHere_47 ?_
            exact q_ret_z hx hb hr hlocks hK hAe hw (by omega) (Nat.le_of_ble_eq_true rfl) (Nat.le_of_ble_eq_true rfl) dX5_standsHere_48 ⟨rfl, rfl, by omega⟩
  exact J5 ((((2147483647 : Int) - x_1).toNat) + 1) x_1 lx_1 ux_1 (by omega) (by omega) _ _ _ hw (lv_sub hl [1, 2, 3, 0] rfl)
set_option maxHeartbeats 4000000 in
set_option maxRecDepth 100000 in
theorem c_X5_take {Z : Zt} (zo : Zok Z) (l : Launch) (D : va_G) (cy : Cy) (L0 : List Nat) (f0 : Nat → va_E) (a0 : Nat) (a1 : Nat) (m_a0 : a0 ∈ L0) (o_a0 : Ob f0 a0 4) (b_a1 : List Int32) (v_a1 : Nat) (nb_a1 : Asc b_a1) (tx_a1 : ∀ (A : Nat → Prop) (U : State) (H : Heap), Z A U H → Tx b_a1 a1 v_a1 A U H) (hg : GI cy L0 f0) : Ci Z l yX5_take (Cond.code yX5_take cX5_take 2 (some .boolean) :: TB) ({ frames := 5, cells := 0, slots := 0, locals := 109 } : Room) 0 0 D (tq cy) [.ref a0, .ref a1] L0 f0 (fun (r : Int) (L1 : List Nat) (f1 : Nat → va_E) => L0 = L1 ∧ GI cy L0 f1 ∧ Ex cy f0 f1 ∧ (0 ≤ r ∧ r ≤ 1)) := by
  refine Ci.enter (cc := cX5_take) (n := 2) rfl (plainFor_of_name (by decide)) (Nat.le_of_ble_eq_true rfl) ?_
  intro p e s m below meth c ls A hx hb hr hts hown hlocks hnm hml hK hA hAe hw hZ hl
  have hown : s.vm.findClass RX5 = some m.cls := hown
  have hl : lv_has ls 2 [(0, .ref a0), (1, .ref a1)] := hl
  have hN : ZN s := (zo.2.2.2.2 _ _ _ hZ).2
  have hE : Ex cy f0 f0 := Ex.refl cy f0
  refine lv_aload_n hx hb dX5_take_0 rfl (lv_at hl 0 rfl) ?_
  refine q_geti (ci := 4) (C := RX5) (T := TX5) (N := 10) hx hb hts (fun w h => List.mem_cons_of_mem _ (mfX50 w h)) hown hK hw m_a0 o_a0 rfl 2 (by decide) (hts _ (List.mem_cons_of_mem _ (mr6 _ (List.mem_of_getElem? (i := 3) rfl)))) (fun _ h => h) rfl dX5_take_1 (fun x_1 lx_1 ux_1 ex_1 => ?_)
  refine q_iconst hx hb dX5_take_4 ?_
  refine q_icmp_ne (tgt := 33) hx hb dX5_take_5 (by decide) ⟨lx_1, ux_1⟩ ⟨by decide, by decide⟩ (fun c5 => ?_) (fun c5 => ?_)
  · refine q_iconst hx hb dX5_take_33 ?_
    exact q_ret_z hx hb hr hlocks hK hAe hw (by omega) (Nat.le_of_ble_eq_true rfl) (Nat.le_of_ble_eq_true rfl) dX5_take_34 (by exact ⟨rfl, hg, hE, by first | trivial | omega⟩)
  · refine lv_aload_n hx hb dX5_take_8 rfl (lv_at hl 0 rfl) ?_
    refine q_geti (ci := 4) (C := RX5) (T := TX5) (N := 10) hx hb hts (fun w h => List.mem_cons_of_mem _ (mfX50 w h)) hown hK hw m_a0 o_a0 rfl 4 (by decide) (hts _ (List.mem_cons_of_mem _ (mr6 _ (List.mem_of_getElem? (i := 5) rfl)))) (fun _ h => h) rfl dX5_take_9 (fun x_2 lx_2 ux_2 ex_2 => ?_)
    have bx_2 : 0 ≤ x_2 ∧ x_2 ≤ 168 := by rw [ex_2]; exact hg.1 _ m_a0 4 4 o_a0
    refine lv_aload_n hx hb dX5_take_12 rfl (lv_at hl 0 rfl) ?_
    refine q_geti (ci := 4) (C := RX5) (T := TX5) (N := 10) hx hb hts (fun w h => List.mem_cons_of_mem _ (mfX50 w h)) hown hK hw m_a0 o_a0 rfl 3 (by decide) (hts _ (List.mem_cons_of_mem _ (mr6 _ (List.mem_of_getElem? (i := 4) rfl)))) (fun _ h => h) rfl dX5_take_13 (fun x_3 lx_3 ux_3 ex_3 => ?_)
    have bx_3 : 0 ≤ x_3 ∧ x_3 ≤ 168 := by rw [ex_3]; exact hg.1 _ m_a0 4 3 o_a0
    first | refine q_isub hx hb dX5_take_16 ⟨by omega, by omega⟩ (fun x_4 lx_4 ux_4 ex_4 => ?_) | refine q_isubw hx hb dX5_take_16 (fun x_4 lx_4 ux_4 _ => ?_)
    refine lv_aload_n hx hb dX5_take_17 rfl (lv_at hl 1 rfl) ?_
    refine q_call_i hA hK hw (va_runV (As := []) (rest := [.int (iI x_4)]) ⟨hx, hb, hml, hown, hts⟩ (c_J0_length_8abf5 zo l D cy L0 f0 a1 b_a1 v_a1 nb_a1 tx_a1 _) (cwV 0 hts (gT (inV (mr8 _ (List.mem_of_getElem? (i := 1) rfl)) (mr8 _ (List.mem_of_getElem? (i := 2) rfl)) (mr8 _ (List.mem_of_getElem? (i := 3) rfl)) (mr8 _ (List.mem_of_getElem? (i := 4) rfl)) (mr8 _ (List.mem_of_getElem? (i := 5) rfl)))) rfl rfl rfl (by decide +kernel) ⟨Nat.le_of_ble_eq_true rfl, Nat.le_of_ble_eq_true rfl⟩) (Wd.preVT zo hA hZ hw hK tx_a1) rfl rfl hl.1 rfl (lv_room (Nat.le_of_ble_eq_true rfl)) dX5_take_18 ⟨Nat.le_of_ble_eq_true rfl, Nat.le_of_ble_eq_true rfl⟩) (fun x_5 L1 f1 H locs lx_5 ux_5 ex_5 hw => ?_)
    obtain ⟨rfl, rfl, ex_5⟩ := ex_5
    refine q_icmp_ne (tgt := 33) hx hb dX5_take_21 (by decide) ⟨lx_4, ux_4⟩ ⟨lx_5, ux_5⟩ (fun c21 => ?_) (fun c21 => ?_)
    · refine q_iconst hx hb dX5_take_33 ?_
      exact q_ret_z hx hb hr hlocks hK hAe hw (by omega) (Nat.le_of_ble_eq_true rfl) (Nat.le_of_ble_eq_true rfl) dX5_take_34 (by exact ⟨rfl, hg, hE, by first | trivial | omega⟩)
    · refine lv_aload_n hx hb dX5_take_24 rfl (lv_at hl 0 rfl) ?_
      refine lv_aload_n hx hb dX5_take_25 rfl (lv_at hl 1 rfl) ?_
      refine q_iconst hx hb dX5_take_26 ?_
      refine q_call_i hA hK hw (va_runV (As := [.ref a1, .int (iI 0)]) (rest := []) ⟨hx, hb, hml, hown, hts⟩ (c_X5_standsHere zo l D cy L0 f0 a0 a1 0 (by decide) (by decide) m_a0 o_a0 b_a1 v_a1 nb_a1 tx_a1 hg (by omega) (by omega) _) (cwV 2 hts (gT (inV (mr8 _ (List.mem_of_getElem? (i := 13) rfl)) (mr8 _ (List.mem_of_getElem? (i := 14) rfl)) (mr8 _ (List.mem_of_getElem? (i := 15) rfl)) (mr5 _ (List.mem_of_getElem? (i := 18) rfl)) (mr8 _ (List.mem_of_getElem? (i := 16) rfl)))) rfl rfl rfl (by decide +kernel) ⟨Nat.le_of_ble_eq_true rfl, Nat.le_of_ble_eq_true rfl⟩) (Wd.preV zo hA hZ hw hK m_a0 o_a0 rfl) rfl rfl hl.1 rfl (lv_room (Nat.le_of_ble_eq_true rfl)) dX5_take_27 ⟨Nat.le_of_ble_eq_true rfl, Nat.le_of_ble_eq_true rfl⟩) (fun x_6 L1 f1 H locs lx_6 ux_6 ex_6 hw => ?_)
      obtain ⟨rfl, rfl, ex_6⟩ := ex_6
      refine q_if_ne (tgt := 35) hx hb dX5_take_30 (by decide) ⟨lx_6, ux_6⟩ (fun c30 => ?_) (fun c30 => ?_)
      · refine lv_aload_n hx hb dX5_take_35 rfl (lv_at hl 0 rfl) ?_
        refine q_call_v hA hK hw (va_runV (As := []) (rest := []) ⟨hx, hb, hml, hown, hts⟩ (c_X5_step zo l D cy L0 f0 a0 m_a0 o_a0 hg _) (cwV 0 hts (gT (inV (mr7 _ (List.mem_of_getElem? (i := 2) rfl)) (mr7 _ (List.mem_of_getElem? (i := 3) rfl)) (mr7 _ (List.mem_of_getElem? (i := 4) rfl)) (mr5 _ (List.mem_of_getElem? (i := 18) rfl)) (mr7 _ (List.mem_of_getElem? (i := 5) rfl)))) rfl rfl rfl (by decide +kernel) ⟨Nat.le_of_ble_eq_true rfl, Nat.le_of_ble_eq_true rfl⟩) (Wd.preV zo hA hZ hw hK m_a0 o_a0 rfl) rfl rfl hl.1 rfl (lv_room (Nat.le_of_ble_eq_true rfl)) dX5_take_36 ⟨Nat.le_of_ble_eq_true rfl, Nat.le_of_ble_eq_true rfl⟩) (fun L1 f_8 H locs ex_7 hw => ?_)
        obtain ⟨rfl, hg, hX, ex_7⟩ := ex_7
        have hE := hE.trans hX
        have o_a0 := hX.1.1 _ _ o_a0
        refine q_iconst hx hb dX5_take_39 ?_
        exact q_ret_z hx hb hr hlocks hK hAe hw (by omega) (Nat.le_of_ble_eq_true rfl) (Nat.le_of_ble_eq_true rfl) dX5_take_40 (by exact ⟨rfl, hg, hE, by first | trivial | omega⟩)
      · refine q_iconst hx hb dX5_take_33 ?_
        exact q_ret_z hx hb hr hlocks hK hAe hw (by omega) (Nat.le_of_ble_eq_true rfl) (Nat.le_of_ble_eq_true rfl) dX5_take_34 (by exact ⟨rfl, hg, hE, by first | trivial | omega⟩)
set_option maxHeartbeats 4000000 in
set_option maxRecDepth 100000 in
theorem c_X5_require {Z : Zt} (zo : Zok Z) (l : Launch) (D : va_G) (cy : Cy) (L0 : List Nat) (f0 : Nat → va_E) (a0 : Nat) (a1 : Nat) (m_a0 : a0 ∈ L0) (o_a0 : Ob f0 a0 4) (b_a1 : List Int32) (v_a1 : Nat) (nb_a1 : Asc b_a1) (tx_a1 : ∀ (A : Nat → Prop) (U : State) (H : Heap), Z A U H → Tx b_a1 a1 v_a1 A U H) (hg : GI cy L0 f0) : Ci Z l yX5_require (Cond.code yX5_require cX5_require 2 (some .boolean) :: TB) ({ frames := 6, cells := 0, slots := 0, locals := 130 } : Room) 0 0 D (tq cy) [.ref a0, .ref a1] L0 f0 (fun (r : Int) (L1 : List Nat) (f1 : Nat → va_E) => L0 = L1 ∧ GI cy L0 f1 ∧ Ex cy f0 f1 ∧ (0 ≤ r ∧ r ≤ 1)) := by
  refine Ci.enter (cc := cX5_require) (n := 2) rfl (plainFor_of_name (by decide)) (Nat.le_of_ble_eq_true rfl) ?_
  intro p e s m below meth c ls A hx hb hr hts hown hlocks hnm hml hK hA hAe hw hZ hl
  have hown : s.vm.findClass RX5 = some m.cls := hown
  have hl : lv_has ls 2 [(0, .ref a0), (1, .ref a1)] := hl
  have hN : ZN s := (zo.2.2.2.2 _ _ _ hZ).2
  have hE : Ex cy f0 f0 := Ex.refl cy f0
  refine lv_aload_n hx hb dX5_require_0 rfl (lv_at hl 0 rfl) ?_
  refine lv_aload_n hx hb dX5_require_1 rfl (lv_at hl 1 rfl) ?_
  refine q_call_i hA hK hw (va_runV (As := [.ref a1]) (rest := []) ⟨hx, hb, hml, hown, hts⟩ (c_X5_take zo l D cy L0 f0 a0 a1 m_a0 o_a0 b_a1 v_a1 nb_a1 tx_a1 hg _) (cwV 1 hts (gT (inV (mr7 _ (List.mem_of_getElem? (i := 21) rfl)) (mr7 _ (List.mem_of_getElem? (i := 22) rfl)) (mr7 _ (List.mem_of_getElem? (i := 23) rfl)) (mr5 _ (List.mem_of_getElem? (i := 18) rfl)) (mr8 _ (List.mem_of_getElem? (i := 0) rfl)))) rfl rfl rfl (by decide +kernel) ⟨Nat.le_of_ble_eq_true rfl, Nat.le_of_ble_eq_true rfl⟩) (Wd.preV zo hA hZ hw hK m_a0 o_a0 rfl) rfl rfl hl.1 rfl (lv_room (Nat.le_of_ble_eq_true rfl)) dX5_require_2 ⟨Nat.le_of_ble_eq_true rfl, Nat.le_of_ble_eq_true rfl⟩) (fun x_1 L1 f_2 H locs lx_1 ux_1 ex_1 hw => ?_)
  obtain ⟨rfl, hg, hX, ex_1⟩ := ex_1
  have hE := hE.trans hX
  have o_a0 := hX.1.1 _ _ o_a0
  refine q_if_ne (tgt := 16) hx hb dX5_require_5 (by decide) ⟨lx_1, ux_1⟩ (fun c5 => ?_) (fun c5 => ?_)
  · refine q_iconst hx hb dX5_require_16 ?_
    refine lv_goto (tgt := 21) hx hb dX5_require_17 (by decide) ?_
    exact q_ret_z hx hb hr hlocks hK hAe hw (by omega) (Nat.le_of_ble_eq_true rfl) (Nat.le_of_ble_eq_true rfl) dX5_require_21 (by exact ⟨rfl, hg, hE, by first | trivial | omega⟩)
  · refine lv_aload_n hx hb dX5_require_8 rfl (lv_at hl 0 rfl) ?_
    refine q_iconst hx hb dX5_require_9 ?_
    refine q_call_i hA hK hw (va_runV (As := [.int (iI 1)]) (rest := []) ⟨hx, hb, hml, hown, hts⟩ (c_X5_refuse zo l D cy L0 f_2 a0 1 (by decide) (by decide) m_a0 o_a0 hg _) (cwV 1 hts (gT (inV (mr10 _ (List.mem_of_getElem? (i := 6) rfl)) (mr10 _ (List.mem_of_getElem? (i := 7) rfl)) (mr10 _ (List.mem_of_getElem? (i := 8) rfl)) (mr5 _ (List.mem_of_getElem? (i := 18) rfl)) (mr10 _ (List.mem_of_getElem? (i := 9) rfl)))) rfl rfl rfl (by decide +kernel) ⟨Nat.le_of_ble_eq_true rfl, Nat.le_of_ble_eq_true rfl⟩) (Wd.preV zo hA hZ hw hK m_a0 o_a0 rfl) rfl rfl hl.1 rfl (lv_room (Nat.le_of_ble_eq_true rfl)) dX5_require_10 ⟨Nat.le_of_ble_eq_true rfl, Nat.le_of_ble_eq_true rfl⟩) (fun x_3 L1 f_4 H locs lx_3 ux_3 ex_3 hw => ?_)
    obtain ⟨rfl, hg, hX, ex_3⟩ := ex_3
    have hE := hE.trans hX
    have o_a0 := hX.1.1 _ _ o_a0
    refine q_if_eq (tgt := 20) hx hb dX5_require_13 (by decide) ⟨lx_3, ux_3⟩ (fun c13 => ?_) (fun c13 => ?_)
    · refine q_iconst hx hb dX5_require_20 ?_
      exact q_ret_z hx hb hr hlocks hK hAe hw (by omega) (Nat.le_of_ble_eq_true rfl) (Nat.le_of_ble_eq_true rfl) dX5_require_21 (by exact ⟨rfl, hg, hE, by first | trivial | omega⟩)
    · refine q_iconst hx hb dX5_require_16 ?_
      refine lv_goto (tgt := 21) hx hb dX5_require_17 (by decide) ?_
      exact q_ret_z hx hb hr hlocks hK hAe hw (by omega) (Nat.le_of_ble_eq_true rfl) (Nat.le_of_ble_eq_true rfl) dX5_require_21 (by exact ⟨rfl, hg, hE, by first | trivial | omega⟩)
set_option maxHeartbeats 4000000 in
set_option maxRecDepth 100000 in
theorem c_X5_weekdayHere {Z : Zt} (zo : Zok Z) (l : Launch) (D : va_G) (cy : Cy) (L0 : List Nat) (f0 : Nat → va_E) (a0 : Nat) (m_a0 : a0 ∈ L0) (o_a0 : Ob f0 a0 4) (hg : GI cy L0 f0) : Ci Z l yX5_weekdayHere (Cond.code yX5_weekdayHere cX5_weekdayHere 2 (some .int) :: TB) ({ frames := 5, cells := 0, slots := 0, locals := 109 } : Room) 0 0 D (tq cy) [.ref a0] L0 f0 (fun (r : Int) (L1 : List Nat) (f1 : Nat → va_E) => L0 = L1 ∧ f0 = f1 ∧ (-1 ≤ r ∧ r ≤ 6)) := by
  refine Ci.enter (cc := cX5_weekdayHere) (n := 2) rfl (plainFor_of_name (by decide)) (Nat.le_of_ble_eq_true rfl) ?_
  intro p e s m below meth c ls A hx hb hr hts hown hlocks hnm hml hK hA hAe hw hZ hl
  have hown : s.vm.findClass RX5 = some m.cls := hown
  have hl : lv_has ls 2 [(0, .ref a0)] := hl
  have hN : ZN s := (zo.2.2.2.2 _ _ _ hZ).2
  refine lv_aload_n hx hb dX5_weekdayHere_0 rfl (lv_at hl 0 rfl) ?_
  refine q_geti (ci := 4) (C := RX5) (T := TX5) (N := 10) hx hb hts (fun w h => List.mem_cons_of_mem _ (mfX50 w h)) hown hK hw m_a0 o_a0 rfl 2 (by decide) (hts _ (List.mem_cons_of_mem _ (mr6 _ (List.mem_of_getElem? (i := 3) rfl)))) (fun _ h => h) rfl dX5_weekdayHere_1 (fun x_1 lx_1 ux_1 ex_1 => ?_)
  refine q_iconst hx hb dX5_weekdayHere_4 ?_
  refine q_icmp_ne (tgt := 21) hx hb dX5_weekdayHere_5 (by decide) ⟨lx_1, ux_1⟩ ⟨by decide, by decide⟩ (fun c5 => ?_) (fun c5 => ?_)
  · refine q_iconst hx hb dX5_weekdayHere_21 ?_
    exact q_ret_i hx hb hr hlocks hK hAe hw ⟨by decide, by decide⟩ (Nat.le_of_ble_eq_true rfl) (Nat.le_of_ble_eq_true rfl) dX5_weekdayHere_22 ⟨rfl, rfl, by omega⟩
  · refine lv_aload_n hx hb dX5_weekdayHere_8 rfl (lv_at hl 0 rfl) ?_
    refine q_geti (ci := 4) (C := RX5) (T := TX5) (N := 10) hx hb hts (fun w h => List.mem_cons_of_mem _ (mfX50 w h)) hown hK hw m_a0 o_a0 rfl 4 (by decide) (hts _ (List.mem_cons_of_mem _ (mr6 _ (List.mem_of_getElem? (i := 5) rfl)))) (fun _ h => h) rfl dX5_weekdayHere_9 (fun x_2 lx_2 ux_2 ex_2 => ?_)
    have bx_2 : 0 ≤ x_2 ∧ x_2 ≤ 168 := by rw [ex_2]; exact hg.1 _ m_a0 4 4 o_a0
    refine lv_aload_n hx hb dX5_weekdayHere_12 rfl (lv_at hl 0 rfl) ?_
    refine q_geti (ci := 4) (C := RX5) (T := TX5) (N := 10) hx hb hts (fun w h => List.mem_cons_of_mem _ (mfX50 w h)) hown hK hw m_a0 o_a0 rfl 3 (by decide) (hts _ (List.mem_cons_of_mem _ (mr6 _ (List.mem_of_getElem? (i := 4) rfl)))) (fun _ h => h) rfl dX5_weekdayHere_13 (fun x_3 lx_3 ux_3 ex_3 => ?_)
    have bx_3 : 0 ≤ x_3 ∧ x_3 ≤ 168 := by rw [ex_3]; exact hg.1 _ m_a0 4 3 o_a0
    first | refine q_isub hx hb dX5_weekdayHere_16 ⟨by omega, by omega⟩ (fun x_4 lx_4 ux_4 ex_4 => ?_) | refine q_isubw hx hb dX5_weekdayHere_16 (fun x_4 lx_4 ux_4 _ => ?_)
    refine q_iconst hx hb dX5_weekdayHere_17 ?_
    refine q_icmp_eq (tgt := 23) hx hb dX5_weekdayHere_18 (by decide) ⟨lx_4, ux_4⟩ ⟨by decide, by decide⟩ (fun c18 => ?_) (fun c18 => ?_)
    · refine q_iconst hx hb dX5_weekdayHere_23 ?_
      refine lv_istore_n (lv' := [(1, .int (iI 0)), (0, .ref a0)]) hx hb dX5_weekdayHere_24 rfl hl (by decide) rfl (fun ls hl => ?_)
      have J25 : ∀ (n25 : Nat) (y1_25 : Int) (ly1_25 : -2147483648 ≤ y1_25) (uy1_25 : y1_25 ≤ 2147483647) (i1 : 0 ≤ y1_25) (hn25 : ((2147483647 : Int) - y1_25).toNat < n25) (H : Heap) (locs : List Loc) (ls : Array Slot) (hw : Wd D A s.heap L0 f0 H locs) (hl : lv_has ls 2 [(0, .ref a0), (1, .int (iI y1_25))]), W p l e ({ frames := 5, cells := 0, slots := 0, locals := 109 } : Room) s m ([.ref a0] : List Value).toArray below meth c H locs (0) (0) (MQ below (Qi D (tq cy) L0 f0 s.heap.size (fun (r : Int) (L1 : List Nat) (f1 : Nat → va_E) => L0 = L1 ∧ f0 = f1 ∧ (-1 ≤ r ∧ r ≤ 6))) ([.ref a0] : List Value).toArray s 0 0 A) (F0 m 25 ls []) := by
        intro n25
        induction n25 with
        | zero => intro y1_25 ly1_25 uy1_25 i1 hn25; exact absurd hn25 (Nat.not_lt_zero _)
        | succ n25 ih25 =>
          intro y1_25 ly1_25 uy1_25 i1 hn25 H locs ls hw hl
          refine lv_iload_n hx hb dX5_weekdayHere_25 rfl (lv_at hl 1 rfl) ?_
          refine q_bipush hx hb dX5_weekdayHere_26 rfl ?_
          refine q_icmp_ge (tgt := 51) hx hb dX5_weekdayHere_28 (by decide) ⟨ly1_25, uy1_25⟩ ⟨by decide, by decide⟩ (fun c28 => ?_) (fun c28 => ?_)
          · refine q_iconst hx hb dX5_weekdayHere_51 ?_
            exact q_ret_i hx hb hr hlocks hK hAe hw ⟨by decide, by decide⟩ (Nat.le_of_ble_eq_true rfl) (Nat.le_of_ble_eq_true rfl) dX5_weekdayHere_52 ⟨rfl, rfl, by omega⟩
          · refine lv_aload_n hx hb dX5_weekdayHere_31 rfl (lv_at hl 0 rfl) ?_
            obtain ⟨t_5, v_t_5, h_t_5⟩ : ∃ q v : Nat, ∀ (A : Nat → Prop) (U : State) (H : Heap), Z A U H → vk_R RX5 192 "montuewedthufrisatsun" q U ∧ Tx [109, 111, 110, 116, 117, 101, 119, 101, 100, 116, 104, 117, 102, 114, 105, 115, 97, 116, 115, 117, 110] q v A U H := ztx_17 zo
            obtain ⟨b_t_5, eb_t_5⟩ : ∃ b : List Int32, b = [109, 111, 110, 116, 117, 101, 119, 101, 100, 116, 104, 117, 102, 114, 105, 115, 97, 116, 115, 117, 110] := ⟨_, rfl⟩
            have nb_t_5 : Asc b_t_5 := by rw [eb_t_5]; exact ⟨by decide, by decide +kernel⟩
            have tx_t_5 : ∀ (A : Nat → Prop) (U : State) (H : Heap), Z A U H → Tx b_t_5 t_5 v_t_5 A U H := fun A U H h => by rw [eb_t_5]; exact (h_t_5 A U H h).2
            refine va_ldcS hx hb hown (h_t_5 _ _ _ hZ).1 dX5_weekdayHere_32 ?_
            refine q_iconst hx hb dX5_weekdayHere_34 ?_
            refine lv_iload_n hx hb dX5_weekdayHere_35 rfl (lv_at hl 1 rfl) ?_
            first | refine q_imul hx hb dX5_weekdayHere_36 ⟨by omega, by omega⟩ (fun x_6 lx_6 ux_6 ex_6 => ?_) | refine q_imulw hx hb dX5_weekdayHere_36 (fun x_6 lx_6 ux_6 _ => ?_)
            refine q_call_i hA hK hw (va_runV (As := [.ref t_5, .int (iI x_6)]) (rest := []) ⟨hx, hb, hml, hown, hts⟩ (c_X5_standsHere zo l D cy L0 f0 a0 t_5 x_6 lx_6 ux_6 m_a0 o_a0 b_t_5 v_t_5 nb_t_5 tx_t_5 hg (by omega) (by omega) _) (cwV 2 hts (gT (inV (mr8 _ (List.mem_of_getElem? (i := 13) rfl)) (mr8 _ (List.mem_of_getElem? (i := 14) rfl)) (mr8 _ (List.mem_of_getElem? (i := 15) rfl)) (mr5 _ (List.mem_of_getElem? (i := 18) rfl)) (mr8 _ (List.mem_of_getElem? (i := 16) rfl)))) rfl rfl rfl (by decide +kernel) ⟨Nat.le_of_ble_eq_true rfl, Nat.le_of_ble_eq_true rfl⟩) (Wd.preV zo hA hZ hw hK m_a0 o_a0 rfl) rfl rfl hl.1 rfl (lv_room (Nat.le_of_ble_eq_true rfl)) dX5_weekdayHere_37 ⟨Nat.le_of_ble_eq_true rfl, Nat.le_of_ble_eq_true rfl⟩) (fun x_7 L1 f1 H locs lx_7 ux_7 ex_7 hw => ?_)
            obtain ⟨rfl, rfl, ex_7⟩ := ex_7
            refine q_if_eq (tgt := 45) hx hb dX5_weekdayHere_40 (by decide) ⟨lx_7, ux_7⟩ (fun c40 => ?_) (fun c40 => ?_)
            · obtain ⟨x_8, lx_8, ux_8, hx_8, ex_8⟩ := q_inc y1_25 (1)
              try (replace ex_8 : x_8 = y1_25 + (1) := by omega)
              refine lv_iinc (v := iI x_8) (lv' := [(1, .int (iI x_8)), (0, .ref a0)]) hx hb dX5_weekdayHere_45 hl (k := 1) rfl hx_8 (by decide) rfl (fun ls hl => ?_)
              refine lv_goto (tgt := 25) hx hb dX5_weekdayHere_48 (by decide) ?_
              exact ih25 x_8 lx_8 ux_8 (by omega) (by omega) _ _ _ hw (lv_sub hl [1, 0] rfl)
            · refine lv_iload_n hx hb dX5_weekdayHere_43 rfl (lv_at hl 1 rfl) ?_
              exact q_ret_i hx hb hr hlocks hK hAe hw ⟨ly1_25, uy1_25⟩ (Nat.le_of_ble_eq_true rfl) (Nat.le_of_ble_eq_true rfl) dX5_weekdayHere_44 ⟨rfl, rfl, by omega⟩
      exact J25 ((((2147483647 : Int) - 0).toNat) + 1) 0 (by decide) (by decide) (by omega) (by omega) _ _ _ hw (lv_sub hl [1, 0] rfl)
    · refine q_iconst hx hb dX5_weekdayHere_21 ?_
      exact q_ret_i hx hb hr hlocks hK hAe hw ⟨by decide, by decide⟩ (Nat.le_of_ble_eq_true rfl) (Nat.le_of_ble_eq_true rfl) dX5_weekdayHere_22 ⟨rfl, rfl, by omega⟩
set_option maxHeartbeats 4000000 in
set_option maxRecDepth 100000 in
theorem c_X5_readWeekday {Z : Zt} (zo : Zok Z) (l : Launch) (D : va_G) (cy : Cy) (L0 : List Nat) (f0 : Nat → va_E) (a0 : Nat) (m_a0 : a0 ∈ L0) (o_a0 : Ob f0 a0 4) (hg : GI cy L0 f0) : Ci Z l yX5_readWeekday (Cond.code yX5_readWeekday cX5_readWeekday 1 (some .boolean) :: TB) ({ frames := 6, cells := 0, slots := 0, locals := 130 } : Room) 0 0 D (tq cy) [.ref a0] L0 f0 (fun (r : Int) (L1 : List Nat) (f1 : Nat → va_E) => L0 = L1 ∧ GI cy L0 f1 ∧ Ex cy f0 f1 ∧ (0 ≤ r ∧ r ≤ 1)) := by
  refine Ci.enter (cc := cX5_readWeekday) (n := 1) rfl (plainFor_of_name (by decide)) (Nat.le_of_ble_eq_true rfl) ?_
  intro p e s m below meth c ls A hx hb hr hts hown hlocks hnm hml hK hA hAe hw hZ hl
  have hown : s.vm.findClass RX5 = some m.cls := hown
  have hl : lv_has ls 1 [(0, .ref a0)] := hl
  have hN : ZN s := (zo.2.2.2.2 _ _ _ hZ).2
  have hE : Ex cy f0 f0 := Ex.refl cy f0
  refine lv_aload_n hx hb dX5_readWeekday_0 rfl (lv_at hl 0 rfl) ?_
  refine lv_aload_n hx hb dX5_readWeekday_1 rfl (lv_at hl 0 rfl) ?_
  refine q_call_i hA hK hw (va_runV (As := []) (rest := [.ref a0]) ⟨hx, hb, hml, hown, hts⟩ (c_X5_weekdayHere zo l D cy L0 f0 a0 m_a0 o_a0 hg _) (cwV 0 hts (gT (inV (mr10 _ (List.mem_of_getElem? (i := 22) rfl)) (mr10 _ (List.mem_of_getElem? (i := 23) rfl)) (mr11 _ (List.mem_of_getElem? (i := 0) rfl)) (mr5 _ (List.mem_of_getElem? (i := 18) rfl)) (mr11 _ (List.mem_of_getElem? (i := 1) rfl)))) rfl rfl rfl (by decide +kernel) ⟨Nat.le_of_ble_eq_true rfl, Nat.le_of_ble_eq_true rfl⟩) (Wd.preV zo hA hZ hw hK m_a0 o_a0 rfl) rfl rfl hl.1 rfl (lv_room (Nat.le_of_ble_eq_true rfl)) dX5_readWeekday_2 ⟨Nat.le_of_ble_eq_true rfl, Nat.le_of_ble_eq_true rfl⟩) (fun x_1 L1 f1 H locs lx_1 ux_1 ex_1 hw => ?_)
  obtain ⟨rfl, rfl, ex_1⟩ := ex_1
  refine q_puti (ci := 4) (C := RX5) (T := TX5) (N := 10) hx hb hts (fun w h => List.mem_cons_of_mem _ (mfX50 w h)) hown hK hw m_a0 o_a0 rfl 9 (by decide) (hts _ (List.mem_cons_of_mem _ (mr6 _ (List.mem_of_getElem? (i := 10) rfl)))) (fun _ h => h) tyX5 tyX5_ok nmX5 rfl (ty := .int) (by decide +kernel) rfl rfl dX5_readWeekday_5 (fun H locs hw => ?_)
  have oo := o_a0
  obtain ⟨f_2, ef_2⟩ : ∃ g : Nat → va_E, g = pU f0 a0 9 (.int (iI x_1)) := ⟨_, rfl⟩
  have hX : Ex cy f0 f_2 := by rw [ef_2]; exact Ex_pU oo rfl rfl (by decide)
  have hg : GI cy L0 f_2 := by rw [ef_2]; exact hg.putI oo rfl ⟨lx_1, ux_1⟩ trivial
  rw [← ef_2] at hw
  have hE := hE.trans hX
  have o_a0 := hX.1.1 _ _ o_a0
  have vf_2 : fI f_2 a0 9 = x_1 := by rw [ef_2]; exact fI_pU_self oo rfl ⟨lx_1, ux_1⟩
  refine lv_aload_n hx hb dX5_readWeekday_8 rfl (lv_at hl 0 rfl) ?_
  refine q_geti (ci := 4) (C := RX5) (T := TX5) (N := 10) hx hb hts (fun w h => List.mem_cons_of_mem _ (mfX50 w h)) hown hK hw m_a0 o_a0 rfl 9 (by decide) (hts _ (List.mem_cons_of_mem _ (mr6 _ (List.mem_of_getElem? (i := 10) rfl)))) (fun _ h => h) rfl dX5_readWeekday_9 (fun x_3 lx_3 ux_3 ex_3 => ?_)
  refine q_iconst hx hb dX5_readWeekday_12 ?_
  refine q_icmp_ne (tgt := 22) hx hb dX5_readWeekday_13 (by decide) ⟨lx_3, ux_3⟩ ⟨by decide, by decide⟩ (fun c13 => ?_) (fun c13 => ?_)
  · refine lv_aload_n hx hb dX5_readWeekday_22 rfl (lv_at hl 0 rfl) ?_
    refine q_call_v hA hK hw (va_runV (As := []) (rest := []) ⟨hx, hb, hml, hown, hts⟩ (c_X5_step zo l D cy L0 f_2 a0 m_a0 o_a0 hg _) (cwV 0 hts (gT (inV (mr7 _ (List.mem_of_getElem? (i := 2) rfl)) (mr7 _ (List.mem_of_getElem? (i := 3) rfl)) (mr7 _ (List.mem_of_getElem? (i := 4) rfl)) (mr5 _ (List.mem_of_getElem? (i := 18) rfl)) (mr7 _ (List.mem_of_getElem? (i := 5) rfl)))) rfl rfl rfl (by decide +kernel) ⟨Nat.le_of_ble_eq_true rfl, Nat.le_of_ble_eq_true rfl⟩) (Wd.preV zo hA hZ hw hK m_a0 o_a0 rfl) rfl rfl hl.1 rfl (lv_room (Nat.le_of_ble_eq_true rfl)) dX5_readWeekday_23 ⟨Nat.le_of_ble_eq_true rfl, Nat.le_of_ble_eq_true rfl⟩) (fun L1 f_5 H locs ex_4 hw => ?_)
    obtain ⟨rfl, hg, hX, ex_4⟩ := ex_4
    have hE := hE.trans hX
    have o_a0 := hX.1.1 _ _ o_a0
    refine q_iconst hx hb dX5_readWeekday_26 ?_
    exact q_ret_z hx hb hr hlocks hK hAe hw (by omega) (Nat.le_of_ble_eq_true rfl) (Nat.le_of_ble_eq_true rfl) dX5_readWeekday_27 (by exact ⟨rfl, hg, hE, by first | trivial | omega⟩)
  · refine lv_aload_n hx hb dX5_readWeekday_16 rfl (lv_at hl 0 rfl) ?_
    refine q_iconst hx hb dX5_readWeekday_17 ?_
    refine q_call_i hA hK hw (va_runV (As := [.int (iI 1)]) (rest := []) ⟨hx, hb, hml, hown, hts⟩ (c_X5_refuse zo l D cy L0 f_2 a0 1 (by decide) (by decide) m_a0 o_a0 hg _) (cwV 1 hts (gT (inV (mr10 _ (List.mem_of_getElem? (i := 6) rfl)) (mr10 _ (List.mem_of_getElem? (i := 7) rfl)) (mr10 _ (List.mem_of_getElem? (i := 8) rfl)) (mr5 _ (List.mem_of_getElem? (i := 18) rfl)) (mr10 _ (List.mem_of_getElem? (i := 9) rfl)))) rfl rfl rfl (by decide +kernel) ⟨Nat.le_of_ble_eq_true rfl, Nat.le_of_ble_eq_true rfl⟩) (Wd.preV zo hA hZ hw hK m_a0 o_a0 rfl) rfl rfl hl.1 rfl (lv_room (Nat.le_of_ble_eq_true rfl)) dX5_readWeekday_18 ⟨Nat.le_of_ble_eq_true rfl, Nat.le_of_ble_eq_true rfl⟩) (fun x_6 L1 f_7 H locs lx_6 ux_6 ex_6 hw => ?_)
    obtain ⟨rfl, hg, hX, ex_6⟩ := ex_6
    have hE := hE.trans hX
    have o_a0 := hX.1.1 _ _ o_a0
    exact q_ret_z hx hb hr hlocks hK hAe hw (by omega) (Nat.le_of_ble_eq_true rfl) (Nat.le_of_ble_eq_true rfl) dX5_readWeekday_21 (by exact ⟨rfl, hg, hE, by first | trivial | omega⟩)
set_option maxHeartbeats 4000000 in
set_option maxRecDepth 100000 in
theorem c_X5_readWeekdays {Z : Zt} (zo : Zok Z) (l : Launch) (D : va_G) (cy : Cy) (L0 : List Nat) (f0 : Nat → va_E) (a0 : Nat) (m_a0 : a0 ∈ L0) (o_a0 : Ob f0 a0 4) (hg : GI cy L0 f0) : Ci Z l yX5_readWeekdays (Cond.code yX5_readWeekdays cX5_readWeekdays 3 (some .boolean) :: TB) ({ frames := 6, cells := 0, slots := 0, locals := 130 } : Room) 0 0 D (tq cy) [.ref a0] L0 f0 (fun (r : Int) (L1 : List Nat) (f1 : Nat → va_E) => L0 = L1 ∧ GI cy L0 f1 ∧ Ex cy f0 f1 ∧ (0 ≤ r ∧ r ≤ 1)) := by
  refine Ci.enter (cc := cX5_readWeekdays) (n := 3) rfl (plainFor_of_name (by decide)) (Nat.le_of_ble_eq_true rfl) ?_
  intro p e s m below meth c ls A hx hb hr hts hown hlocks hnm hml hK hA hAe hw hZ hl
  have hown : s.vm.findClass RX5 = some m.cls := hown
  have hl : lv_has ls 3 [(0, .ref a0)] := hl
  have hN : ZN s := (zo.2.2.2.2 _ _ _ hZ).2
  have hE : Ex cy f0 f0 := Ex.refl cy f0
  refine q_iconst hx hb dX5_readWeekdays_0 ?_
  refine lv_istore_n (lv' := [(1, .int (iI 0)), (0, .ref a0)]) hx hb dX5_readWeekdays_1 rfl hl (by decide) rfl (fun ls hl => ?_)
  have J2 : ∀ (n2 : Nat) (y1_2 : Int) (ly1_2 : -2147483648 ≤ y1_2) (uy1_2 : y1_2 ≤ 2147483647) (L : List Nat) (fw2 : Nat → va_E) (hg : GI cy L0 fw2) (hE : Ex cy f0 fw2) (o_a0 : Ob fw2 a0 4) (i1 : 0 ≤ y1_2) (hn2 : ((2147483647 : Int) - y1_2).toNat < n2) (H : Heap) (locs : List Loc) (ls : Array Slot) (hw : Wd D A s.heap L0 fw2 H locs) (hl : lv_has ls 3 [(0, .ref a0), (1, .int (iI y1_2))]), W p l e ({ frames := 6, cells := 0, slots := 0, locals := 130 } : Room) s m ([.ref a0] : List Value).toArray below meth c H locs (0) (0) (MQ below (Qi D (tq cy) L0 f0 s.heap.size (fun (r : Int) (L1 : List Nat) (f1 : Nat → va_E) => L0 = L1 ∧ GI cy L0 f1 ∧ Ex cy f0 f1 ∧ (0 ≤ r ∧ r ≤ 1))) ([.ref a0] : List Value).toArray s 0 0 A) (F0 m 2 ls []) := by
    intro n2
    induction n2 with
    | zero => intro y1_2 ly1_2 uy1_2 L fw2 hg hE o_a0 i1 hn2; exact absurd hn2 (Nat.not_lt_zero _)
    | succ n2 ih2 =>
      intro y1_2 ly1_2 uy1_2 L fw2 hg hE o_a0 i1 hn2 H locs ls hw hl
      refine lv_iload_n hx hb dX5_readWeekdays_2 rfl (lv_at hl 1 rfl) ?_
      refine q_bipush hx hb dX5_readWeekdays_3 rfl ?_
      have J58 : ∀ (H : Heap) (locs : List Loc) (ls : Array Slot) (hw : Wd D A s.heap L0 fw2 H locs) (hl : lv_has ls 3 [(0, .ref a0)]), W p l e ({ frames := 6, cells := 0, slots := 0, locals := 130 } : Room) s m ([.ref a0] : List Value).toArray below meth c H locs (0) (0) (MQ below (Qi D (tq cy) L0 f0 s.heap.size (fun (r : Int) (L1 : List Nat) (f1 : Nat → va_E) => L0 = L1 ∧ GI cy L0 f1 ∧ Ex cy f0 f1 ∧ (0 ≤ r ∧ r ≤ 1))) ([.ref a0] : List Value).toArray s 0 0 A) (F0 m 58 ls []) := by
        intro H locs ls hw hl
        refine lv_aload_n hx hb dX5_readWeekdays_58 rfl (lv_at hl 0 rfl) ?_
        refine q_geti (ci := 4) (C := RX5) (T := TX5) (N := 10) hx hb hts (fun w h => List.mem_cons_of_mem _ (mfX50 w h)) hown hK hw m_a0 o_a0 rfl 8 (by decide) (hts _ (List.mem_cons_of_mem _ (mr6 _ (List.mem_of_getElem? (i := 9) rfl)))) (fun _ h => h) rfl dX5_readWeekdays_59 (fun x_1 lx_1 ux_1 ex_1 => ?_)
        refine q_if_ne (tgt := 73) hx hb dX5_readWeekdays_62 (by decide) ⟨lx_1, ux_1⟩ (fun c62 => ?_) (fun c62 => ?_)
        · refine q_iconst hx hb dX5_readWeekdays_73 ?_
          refine lv_goto (tgt := 78) hx hb dX5_readWeekdays_74 (by decide) ?_
          exact q_ret_z hx hb hr hlocks hK hAe hw (by omega) (Nat.le_of_ble_eq_true rfl) (Nat.le_of_ble_eq_true rfl) dX5_readWeekdays_78 (by exact ⟨rfl, hg, hE, by first | trivial | omega⟩)
        · refine lv_aload_n hx hb dX5_readWeekdays_65 rfl (lv_at hl 0 rfl) ?_
          refine q_iconst hx hb dX5_readWeekdays_66 ?_
          refine q_call_i hA hK hw (va_runV (As := [.int (iI 1)]) (rest := []) ⟨hx, hb, hml, hown, hts⟩ (c_X5_refuse zo l D cy L0 fw2 a0 1 (by decide) (by decide) m_a0 o_a0 hg _) (cwV 1 hts (gT (inV (mr10 _ (List.mem_of_getElem? (i := 6) rfl)) (mr10 _ (List.mem_of_getElem? (i := 7) rfl)) (mr10 _ (List.mem_of_getElem? (i := 8) rfl)) (mr5 _ (List.mem_of_getElem? (i := 18) rfl)) (mr10 _ (List.mem_of_getElem? (i := 9) rfl)))) rfl rfl rfl (by decide +kernel) ⟨Nat.le_of_ble_eq_true rfl, Nat.le_of_ble_eq_true rfl⟩) (Wd.preV zo hA hZ hw hK m_a0 o_a0 rfl) rfl rfl hl.1 rfl (lv_room (Nat.le_of_ble_eq_true rfl)) dX5_readWeekdays_67 ⟨Nat.le_of_ble_eq_true rfl, Nat.le_of_ble_eq_true rfl⟩) (fun x_2 L1 f_3 H locs lx_2 ux_2 ex_2 hw => ?_)
          obtain ⟨rfl, hg, hX, ex_2⟩ := ex_2
          have hE := hE.trans hX
          have o_a0 := hX.1.1 _ _ o_a0
          refine q_if_eq (tgt := 77) hx hb dX5_readWeekdays_70 (by decide) ⟨lx_2, ux_2⟩ (fun c70 => ?_) (fun c70 => ?_)
          · refine q_iconst hx hb dX5_readWeekdays_77 ?_
            exact q_ret_z hx hb hr hlocks hK hAe hw (by omega) (Nat.le_of_ble_eq_true rfl) (Nat.le_of_ble_eq_true rfl) dX5_readWeekdays_78 (by exact ⟨rfl, hg, hE, by first | trivial | omega⟩)
          · refine q_iconst hx hb dX5_readWeekdays_73 ?_
            refine lv_goto (tgt := 78) hx hb dX5_readWeekdays_74 (by decide) ?_
            exact q_ret_z hx hb hr hlocks hK hAe hw (by omega) (Nat.le_of_ble_eq_true rfl) (Nat.le_of_ble_eq_true rfl) dX5_readWeekdays_78 (by exact ⟨rfl, hg, hE, by first | trivial | omega⟩)
      refine q_icmp_ge (tgt := 58) hx hb dX5_readWeekdays_5 (by decide) ⟨ly1_2, uy1_2⟩ ⟨by decide, by decide⟩ (fun c5 => ?_) (fun c5 => ?_)
      · exact J58 _ _ _ hw (lv_sub hl [0] rfl)
      · refine lv_aload_n hx hb dX5_readWeekdays_8 rfl (lv_at hl 0 rfl) ?_
        refine q_call_i hA hK hw (va_runV (As := []) (rest := []) ⟨hx, hb, hml, hown, hts⟩ (c_X5_weekdayHere zo l D cy L0 fw2 a0 m_a0 o_a0 hg _) (cwV 0 hts (gT (inV (mr10 _ (List.mem_of_getElem? (i := 22) rfl)) (mr10 _ (List.mem_of_getElem? (i := 23) rfl)) (mr11 _ (List.mem_of_getElem? (i := 0) rfl)) (mr5 _ (List.mem_of_getElem? (i := 18) rfl)) (mr11 _ (List.mem_of_getElem? (i := 1) rfl)))) rfl rfl rfl (by decide +kernel) ⟨Nat.le_of_ble_eq_true rfl, Nat.le_of_ble_eq_true rfl⟩) (Wd.preV zo hA hZ hw hK m_a0 o_a0 rfl) rfl rfl hl.1 rfl (lv_room (Nat.le_of_ble_eq_true rfl)) dX5_readWeekdays_9 ⟨Nat.le_of_ble_eq_true rfl, Nat.le_of_ble_eq_true rfl⟩) (fun x_4 L1 f1 H locs lx_4 ux_4 ex_4 hw => ?_)
        obtain ⟨rfl, rfl, ex_4⟩ := ex_4
        refine q_iconst hx hb dX5_readWeekdays_12 ?_
        refine q_icmp_eq (tgt := 58) hx hb dX5_readWeekdays_13 (by decide) ⟨lx_4, ux_4⟩ ⟨by decide, by decide⟩ (fun c13 => ?_) (fun c13 => ?_)
        · exact J58 _ _ _ hw (lv_sub hl [0] rfl)
        · refine q_iconst hx hb dX5_readWeekdays_16 ?_
          refine lv_aload_n hx hb dX5_readWeekdays_17 rfl (lv_at hl 0 rfl) ?_
          refine q_call_i hA hK hw (va_runV (As := []) (rest := [.int (iI 1)]) ⟨hx, hb, hml, hown, hts⟩ (c_X5_weekdayHere zo l D cy L0 fw2 a0 m_a0 o_a0 hg _) (cwV 0 hts (gT (inV (mr10 _ (List.mem_of_getElem? (i := 22) rfl)) (mr10 _ (List.mem_of_getElem? (i := 23) rfl)) (mr11 _ (List.mem_of_getElem? (i := 0) rfl)) (mr5 _ (List.mem_of_getElem? (i := 18) rfl)) (mr11 _ (List.mem_of_getElem? (i := 1) rfl)))) rfl rfl rfl (by decide +kernel) ⟨Nat.le_of_ble_eq_true rfl, Nat.le_of_ble_eq_true rfl⟩) (Wd.preV zo hA hZ hw hK m_a0 o_a0 rfl) rfl rfl hl.1 rfl (lv_room (Nat.le_of_ble_eq_true rfl)) dX5_readWeekdays_18 ⟨Nat.le_of_ble_eq_true rfl, Nat.le_of_ble_eq_true rfl⟩) (fun x_5 L1 f1 H locs lx_5 ux_5 ex_5 hw => ?_)
          obtain ⟨rfl, rfl, ex_5⟩ := ex_5
          refine lv_ishl hx hb dX5_readWeekdays_21 ?_
          refine q_num (fun x_6 lx_6 ux_6 ex_6 => ?_)
          refine lv_istore_n (lv' := [(2, .int (iI x_6)), (0, .ref a0), (1, .int (iI y1_2))]) hx hb dX5_readWeekdays_22 rfl hl (by decide) rfl (fun ls hl => ?_)
          refine lv_aload_n hx hb dX5_readWeekdays_23 rfl (lv_at hl 1 rfl) ?_
          refine q_geti (ci := 4) (C := RX5) (T := TX5) (N := 10) hx hb hts (fun w h => List.mem_cons_of_mem _ (mfX50 w h)) hown hK hw m_a0 o_a0 rfl 8 (by decide) (hts _ (List.mem_cons_of_mem _ (mr6 _ (List.mem_of_getElem? (i := 9) rfl)))) (fun _ h => h) rfl dX5_readWeekdays_24 (fun x_7 lx_7 ux_7 ex_7 => ?_)
          refine lv_iload_n hx hb dX5_readWeekdays_27 rfl (lv_at hl 0 rfl) ?_
          refine lv_iand hx hb dX5_readWeekdays_28 ?_
          refine q_num (fun x_8 lx_8 ux_8 ex_8 => ?_)
          refine q_if_eq (tgt := 38) hx hb dX5_readWeekdays_29 (by decide) ⟨lx_8, ux_8⟩ (fun c29 => ?_) (fun c29 => ?_)
          · refine lv_aload_n hx hb dX5_readWeekdays_38 rfl (lv_at hl 1 rfl) ?_
            refine lv_dup hx hb dX5_readWeekdays_39 rfl ?_
            refine q_geti (ci := 4) (C := RX5) (T := TX5) (N := 10) hx hb hts (fun w h => List.mem_cons_of_mem _ (mfX50 w h)) hown hK hw m_a0 o_a0 rfl 8 (by decide) (hts _ (List.mem_cons_of_mem _ (mr6 _ (List.mem_of_getElem? (i := 9) rfl)))) (fun _ h => h) rfl dX5_readWeekdays_40 (fun x_9 lx_9 ux_9 ex_9 => ?_)
            refine lv_iload_n hx hb dX5_readWeekdays_43 rfl (lv_at hl 0 rfl) ?_
            refine lv_ior hx hb dX5_readWeekdays_44 ?_
            refine q_num (fun x_10 lx_10 ux_10 ex_10 => ?_)
            refine q_puti (ci := 4) (C := RX5) (T := TX5) (N := 10) hx hb hts (fun w h => List.mem_cons_of_mem _ (mfX50 w h)) hown hK hw m_a0 o_a0 rfl 8 (by decide) (hts _ (List.mem_cons_of_mem _ (mr6 _ (List.mem_of_getElem? (i := 9) rfl)))) (fun _ h => h) tyX5 tyX5_ok nmX5 rfl (ty := .int) (by decide +kernel) rfl rfl dX5_readWeekdays_45 (fun H locs hw => ?_)
            have oo := o_a0
            obtain ⟨f_11, ef_11⟩ : ∃ g : Nat → va_E, g = pU fw2 a0 8 (.int (iI x_10)) := ⟨_, rfl⟩
            have hX : Ex cy fw2 f_11 := by rw [ef_11]; exact Ex_pU oo rfl rfl (by decide)
            have hg : GI cy L0 f_11 := by rw [ef_11]; exact hg.putI oo rfl ⟨lx_10, ux_10⟩ trivial
            rw [← ef_11] at hw
            have hE := hE.trans hX
            have o_a0 := hX.1.1 _ _ o_a0
            have vf_11 : fI f_11 a0 8 = x_10 := by rw [ef_11]; exact fI_pU_self oo rfl ⟨lx_10, ux_10⟩
            refine lv_aload_n hx hb dX5_readWeekdays_48 rfl (lv_at hl 1 rfl) ?_
            refine q_call_v hA hK hw (va_runV (As := []) (rest := []) ⟨hx, hb, hml, hown, hts⟩ (c_X5_step zo l D cy L0 f_11 a0 m_a0 o_a0 hg _) (cwV 0 hts (gT (inV (mr7 _ (List.mem_of_getElem? (i := 2) rfl)) (mr7 _ (List.mem_of_getElem? (i := 3) rfl)) (mr7 _ (List.mem_of_getElem? (i := 4) rfl)) (mr5 _ (List.mem_of_getElem? (i := 18) rfl)) (mr7 _ (List.mem_of_getElem? (i := 5) rfl)))) rfl rfl rfl (by decide +kernel) ⟨Nat.le_of_ble_eq_true rfl, Nat.le_of_ble_eq_true rfl⟩) (Wd.preV zo hA hZ hw hK m_a0 o_a0 rfl) rfl rfl hl.1 rfl (lv_room (Nat.le_of_ble_eq_true rfl)) dX5_readWeekdays_49 ⟨Nat.le_of_ble_eq_true rfl, Nat.le_of_ble_eq_true rfl⟩) (fun L1 f_13 H locs ex_12 hw => ?_)
            obtain ⟨rfl, hg, hX, ex_12⟩ := ex_12
            have hE := hE.trans hX
            have o_a0 := hX.1.1 _ _ o_a0
            obtain ⟨x_14, lx_14, ux_14, hx_14, ex_14⟩ := q_inc y1_2 (1)
            try (replace ex_14 : x_14 = y1_2 + (1) := by omega)
            refine lv_iinc (v := iI x_14) (lv' := [(1, .int (iI x_14)), (2, .int (iI x_6)), (0, .ref a0)]) hx hb dX5_readWeekdays_52 hl (k := 2) rfl hx_14 (by decide) rfl (fun ls hl => ?_)
            refine lv_goto (tgt := 2) hx hb dX5_readWeekdays_55 (by decide) ?_
            exact ih2 x_14 lx_14 ux_14 L0 f_13 hg hE o_a0 (by omega) (by omega) _ _ _ hw (lv_sub hl [2, 0] rfl)
          · refine lv_aload_n hx hb dX5_readWeekdays_32 rfl (lv_at hl 1 rfl) ?_
            refine q_iconst hx hb dX5_readWeekdays_33 ?_
            refine q_call_i hA hK hw (va_runV (As := [.int (iI 2)]) (rest := []) ⟨hx, hb, hml, hown, hts⟩ (c_X5_refuse zo l D cy L0 fw2 a0 2 (by decide) (by decide) m_a0 o_a0 hg _) (cwV 1 hts (gT (inV (mr10 _ (List.mem_of_getElem? (i := 6) rfl)) (mr10 _ (List.mem_of_getElem? (i := 7) rfl)) (mr10 _ (List.mem_of_getElem? (i := 8) rfl)) (mr5 _ (List.mem_of_getElem? (i := 18) rfl)) (mr10 _ (List.mem_of_getElem? (i := 9) rfl)))) rfl rfl rfl (by decide +kernel) ⟨Nat.le_of_ble_eq_true rfl, Nat.le_of_ble_eq_true rfl⟩) (Wd.preV zo hA hZ hw hK m_a0 o_a0 rfl) rfl rfl hl.1 rfl (lv_room (Nat.le_of_ble_eq_true rfl)) dX5_readWeekdays_34 ⟨Nat.le_of_ble_eq_true rfl, Nat.le_of_ble_eq_true rfl⟩) (fun x_15 L1 f_16 H locs lx_15 ux_15 ex_15 hw => ?_)
            obtain ⟨rfl, hg, hX, ex_15⟩ := ex_15
            have hE := hE.trans hX
            have o_a0 := hX.1.1 _ _ o_a0
            exact q_ret_z hx hb hr hlocks hK hAe hw (by omega) (Nat.le_of_ble_eq_true rfl) (Nat.le_of_ble_eq_true rfl) dX5_readWeekdays_37 (by exact ⟨rfl, hg, hE, by first | trivial | omega⟩)
  exact J2 ((((2147483647 : Int) - 0).toNat) + 1) 0 (by decide) (by decide) L0 f0 hg hE o_a0 (by omega) (by omega) _ _ _ hw (lv_sub hl [1, 0] rfl)
set_option maxHeartbeats 4000000 in
set_option maxRecDepth 100000 in
theorem c_X5_readMonths {Z : Zt} (zo : Zok Z) (l : Launch) (D : va_G) (cy : Cy) (L0 : List Nat) (f0 : Nat → va_E) (a0 : Nat) (m_a0 : a0 ∈ L0) (o_a0 : Ob f0 a0 4) (hg : GI cy L0 f0) : Ci Z l yX5_readMonths (Cond.code yX5_readMonths cX5_readMonths 1 (some .boolean) :: TB) ({ frames := 7, cells := 0, slots := 0, locals := 151 } : Room) 0 0 D (tq cy) [.ref a0] L0 f0 (fun (r : Int) (L1 : List Nat) (f1 : Nat → va_E) => L0 = L1 ∧ GI cy L0 f1 ∧ Ex cy f0 f1 ∧ (0 ≤ r ∧ r ≤ 1)) := by
  refine Ci.enter (cc := cX5_readMonths) (n := 1) rfl (plainFor_of_name (by decide)) (Nat.le_of_ble_eq_true rfl) ?_
  intro p e s m below meth c ls A hx hb hr hts hown hlocks hnm hml hK hA hAe hw hZ hl
  have hown : s.vm.findClass RX5 = some m.cls := hown
  have hl : lv_has ls 1 [(0, .ref a0)] := hl
  have hN : ZN s := (zo.2.2.2.2 _ _ _ hZ).2
  have hE : Ex cy f0 f0 := Ex.refl cy f0
  refine lv_aload_n hx hb dX5_readMonths_0 rfl (lv_at hl 0 rfl) ?_
  obtain ⟨t_1, v_t_1, h_t_1⟩ : ∃ q v : Nat, ∀ (A : Nat → Prop) (U : State) (H : Heap), Z A U H → vk_R RX5 116 "on" q U ∧ Tx [111, 110] q v A U H := ztx_10 zo
  obtain ⟨b_t_1, eb_t_1⟩ : ∃ b : List Int32, b = [111, 110] := ⟨_, rfl⟩
  have nb_t_1 : Asc b_t_1 := by rw [eb_t_1]; exact ⟨by decide, by decide +kernel⟩
  have tx_t_1 : ∀ (A : Nat → Prop) (U : State) (H : Heap), Z A U H → Tx b_t_1 t_1 v_t_1 A U H := fun A U H h => by rw [eb_t_1]; exact (h_t_1 A U H h).2
  refine va_ldcS hx hb hown (h_t_1 _ _ _ hZ).1 dX5_readMonths_1 ?_
  refine q_call_i hA hK hw (va_runV (As := [.ref t_1]) (rest := []) ⟨hx, hb, hml, hown, hts⟩ (c_X5_take zo l D cy L0 f0 a0 t_1 m_a0 o_a0 b_t_1 v_t_1 nb_t_1 tx_t_1 hg _) (cwV 1 hts (gT (inV (mr7 _ (List.mem_of_getElem? (i := 21) rfl)) (mr7 _ (List.mem_of_getElem? (i := 22) rfl)) (mr7 _ (List.mem_of_getElem? (i := 23) rfl)) (mr5 _ (List.mem_of_getElem? (i := 18) rfl)) (mr8 _ (List.mem_of_getElem? (i := 0) rfl)))) rfl rfl rfl (by decide +kernel) ⟨Nat.le_of_ble_eq_true rfl, Nat.le_of_ble_eq_true rfl⟩) (Wd.preV zo hA hZ hw hK m_a0 o_a0 rfl) rfl rfl hl.1 rfl (lv_room (Nat.le_of_ble_eq_true rfl)) dX5_readMonths_3 ⟨Nat.le_of_ble_eq_true rfl, Nat.le_of_ble_eq_true rfl⟩) (fun x_2 L1 f_3 H locs lx_2 ux_2 ex_2 hw => ?_)
  obtain ⟨rfl, hg, hX, ex_2⟩ := ex_2
  have hE := hE.trans hX
  have o_a0 := hX.1.1 _ _ o_a0
  refine q_if_eq (tgt := 39) hx hb dX5_readMonths_6 (by decide) ⟨lx_2, ux_2⟩ (fun c6 => ?_) (fun c6 => ?_)
  · refine lv_aload_n hx hb dX5_readMonths_39 rfl (lv_at hl 0 rfl) ?_
    obtain ⟨t_4, v_t_4, h_t_4⟩ : ∃ q v : Nat, ∀ (A : Nat → Prop) (U : State) (H : Heap), Z A U H → vk_R RX5 118 "end" q U ∧ Tx [101, 110, 100] q v A U H := ztx_11 zo
    obtain ⟨b_t_4, eb_t_4⟩ : ∃ b : List Int32, b = [101, 110, 100] := ⟨_, rfl⟩
    have nb_t_4 : Asc b_t_4 := by rw [eb_t_4]; exact ⟨by decide, by decide +kernel⟩
    have tx_t_4 : ∀ (A : Nat → Prop) (U : State) (H : Heap), Z A U H → Tx b_t_4 t_4 v_t_4 A U H := fun A U H h => by rw [eb_t_4]; exact (h_t_4 A U H h).2
    refine va_ldcS hx hb hown (h_t_4 _ _ _ hZ).1 dX5_readMonths_40 ?_
    refine q_call_i hA hK hw (va_runV (As := [.ref t_4]) (rest := []) ⟨hx, hb, hml, hown, hts⟩ (c_X5_take zo l D cy L0 f_3 a0 t_4 m_a0 o_a0 b_t_4 v_t_4 nb_t_4 tx_t_4 hg _) (cwV 1 hts (gT (inV (mr7 _ (List.mem_of_getElem? (i := 21) rfl)) (mr7 _ (List.mem_of_getElem? (i := 22) rfl)) (mr7 _ (List.mem_of_getElem? (i := 23) rfl)) (mr5 _ (List.mem_of_getElem? (i := 18) rfl)) (mr8 _ (List.mem_of_getElem? (i := 0) rfl)))) rfl rfl rfl (by decide +kernel) ⟨Nat.le_of_ble_eq_true rfl, Nat.le_of_ble_eq_true rfl⟩) (Wd.preV zo hA hZ hw hK m_a0 o_a0 rfl) rfl rfl hl.1 rfl (lv_room (Nat.le_of_ble_eq_true rfl)) dX5_readMonths_42 ⟨Nat.le_of_ble_eq_true rfl, Nat.le_of_ble_eq_true rfl⟩) (fun x_5 L1 f_6 H locs lx_5 ux_5 ex_5 hw => ?_)
    obtain ⟨rfl, hg, hX, ex_5⟩ := ex_5
    have hE := hE.trans hX
    have o_a0 := hX.1.1 _ _ o_a0
    refine q_if_eq (tgt := 78) hx hb dX5_readMonths_45 (by decide) ⟨lx_5, ux_5⟩ (fun c45 => ?_) (fun c45 => ?_)
    · refine lv_aload_n hx hb dX5_readMonths_78 rfl (lv_at hl 0 rfl) ?_
      obtain ⟨t_7, v_t_7, h_t_7⟩ : ∃ q v : Nat, ∀ (A : Nat → Prop) (U : State) (H : Heap), Z A U H → vk_R RX5 120 "nth" q U ∧ Tx [110, 116, 104] q v A U H := ztx_12 zo
      obtain ⟨b_t_7, eb_t_7⟩ : ∃ b : List Int32, b = [110, 116, 104] := ⟨_, rfl⟩
      have nb_t_7 : Asc b_t_7 := by rw [eb_t_7]; exact ⟨by decide, by decide +kernel⟩
      have tx_t_7 : ∀ (A : Nat → Prop) (U : State) (H : Heap), Z A U H → Tx b_t_7 t_7 v_t_7 A U H := fun A U H h => by rw [eb_t_7]; exact (h_t_7 A U H h).2
      refine va_ldcS hx hb hown (h_t_7 _ _ _ hZ).1 dX5_readMonths_79 ?_
      refine q_call_i hA hK hw (va_runV (As := [.ref t_7]) (rest := []) ⟨hx, hb, hml, hown, hts⟩ (c_X5_take zo l D cy L0 f_6 a0 t_7 m_a0 o_a0 b_t_7 v_t_7 nb_t_7 tx_t_7 hg _) (cwV 1 hts (gT (inV (mr7 _ (List.mem_of_getElem? (i := 21) rfl)) (mr7 _ (List.mem_of_getElem? (i := 22) rfl)) (mr7 _ (List.mem_of_getElem? (i := 23) rfl)) (mr5 _ (List.mem_of_getElem? (i := 18) rfl)) (mr8 _ (List.mem_of_getElem? (i := 0) rfl)))) rfl rfl rfl (by decide +kernel) ⟨Nat.le_of_ble_eq_true rfl, Nat.le_of_ble_eq_true rfl⟩) (Wd.preV zo hA hZ hw hK m_a0 o_a0 rfl) rfl rfl hl.1 rfl (lv_room (Nat.le_of_ble_eq_true rfl)) dX5_readMonths_81 ⟨Nat.le_of_ble_eq_true rfl, Nat.le_of_ble_eq_true rfl⟩) (fun x_8 L1 f_9 H locs lx_8 ux_8 ex_8 hw => ?_)
      obtain ⟨rfl, hg, hX, ex_8⟩ := ex_8
      have hE := hE.trans hX
      have o_a0 := hX.1.1 _ _ o_a0
      refine q_if_eq (tgt := 123) hx hb dX5_readMonths_84 (by decide) ⟨lx_8, ux_8⟩ (fun c84 => ?_) (fun c84 => ?_)
      · refine lv_aload_n hx hb dX5_readMonths_123 rfl (lv_at hl 0 rfl) ?_
        refine q_bipush hx hb dX5_readMonths_124 rfl ?_
        refine q_puti (ci := 4) (C := RX5) (T := TX5) (N := 10) hx hb hts (fun w h => List.mem_cons_of_mem _ (mfX50 w h)) hown hK hw m_a0 o_a0 rfl 6 (by decide) (hts _ (List.mem_cons_of_mem _ (mr6 _ (List.mem_of_getElem? (i := 7) rfl)))) (fun _ h => h) tyX5 tyX5_ok nmX5 rfl (ty := .int) (by decide +kernel) rfl rfl dX5_readMonths_126 (fun H locs hw => ?_)
        have oo := o_a0
        obtain ⟨f_10, ef_10⟩ : ∃ g : Nat → va_E, g = pU f_9 a0 6 (.int (iI 6)) := ⟨_, rfl⟩
        have hX : Ex cy f_9 f_10 := by rw [ef_10]; exact Ex_pU oo rfl rfl (by decide)
        have hg : GI cy L0 f_10 := by rw [ef_10]; exact hg.putI oo rfl ⟨by decide, by decide⟩ trivial
        rw [← ef_10] at hw
        have hE := hE.trans hX
        have o_a0 := hX.1.1 _ _ o_a0
        have vf_10 : fI f_10 a0 6 = 6 := by rw [ef_10]; exact fI_pU_self oo rfl ⟨by decide, by decide⟩
        refine lv_aload_n hx hb dX5_readMonths_129 rfl (lv_at hl 0 rfl) ?_
        obtain ⟨t_11, v_t_11, h_t_11⟩ : ∃ q v : Nat, ∀ (A : Nat → Prop) (U : State) (H : Heap), Z A U H → vk_R RX5 125 "last" q U ∧ Tx [108, 97, 115, 116] q v A U H := ztx_13 zo
        obtain ⟨b_t_11, eb_t_11⟩ : ∃ b : List Int32, b = [108, 97, 115, 116] := ⟨_, rfl⟩
        have nb_t_11 : Asc b_t_11 := by rw [eb_t_11]; exact ⟨by decide, by decide +kernel⟩
        have tx_t_11 : ∀ (A : Nat → Prop) (U : State) (H : Heap), Z A U H → Tx b_t_11 t_11 v_t_11 A U H := fun A U H h => by rw [eb_t_11]; exact (h_t_11 A U H h).2
        refine va_ldcS hx hb hown (h_t_11 _ _ _ hZ).1 dX5_readMonths_130 ?_
        refine q_call_i hA hK hw (va_runV (As := [.ref t_11]) (rest := []) ⟨hx, hb, hml, hown, hts⟩ (c_X5_require zo l D cy L0 f_10 a0 t_11 m_a0 o_a0 b_t_11 v_t_11 nb_t_11 tx_t_11 hg _) (cwV 1 hts (gT (inV (mr7 _ (List.mem_of_getElem? (i := 17) rfl)) (mr7 _ (List.mem_of_getElem? (i := 18) rfl)) (mr7 _ (List.mem_of_getElem? (i := 19) rfl)) (mr5 _ (List.mem_of_getElem? (i := 18) rfl)) (mr7 _ (List.mem_of_getElem? (i := 20) rfl)))) rfl rfl rfl (by decide +kernel) ⟨Nat.le_of_ble_eq_true rfl, Nat.le_of_ble_eq_true rfl⟩) (Wd.preV zo hA hZ hw hK m_a0 o_a0 rfl) rfl rfl hl.1 rfl (lv_room (Nat.le_of_ble_eq_true rfl)) dX5_readMonths_132 ⟨Nat.le_of_ble_eq_true rfl, Nat.le_of_ble_eq_true rfl⟩) (fun x_12 L1 f_13 H locs lx_12 ux_12 ex_12 hw => ?_)
        obtain ⟨rfl, hg, hX, ex_12⟩ := ex_12
        have hE := hE.trans hX
        have o_a0 := hX.1.1 _ _ o_a0
        refine q_if_eq (tgt := 149) hx hb dX5_readMonths_135 (by decide) ⟨lx_12, ux_12⟩ (fun c135 => ?_) (fun c135 => ?_)
        · refine q_iconst hx hb dX5_readMonths_149 ?_
          exact q_ret_z hx hb hr hlocks hK hAe hw (by omega) (Nat.le_of_ble_eq_true rfl) (Nat.le_of_ble_eq_true rfl) dX5_readMonths_150 (by exact ⟨rfl, hg, hE, by first | trivial | omega⟩)
        · refine lv_aload_n hx hb dX5_readMonths_138 rfl (lv_at hl 0 rfl) ?_
          refine q_call_i hA hK hw (va_runV (As := []) (rest := []) ⟨hx, hb, hml, hown, hts⟩ (c_X5_readWeekday zo l D cy L0 f_13 a0 m_a0 o_a0 hg _) (cwV 0 hts (gT (inV (mr11 _ (List.mem_of_getElem? (i := 6) rfl)) (mr11 _ (List.mem_of_getElem? (i := 7) rfl)) (mr11 _ (List.mem_of_getElem? (i := 8) rfl)) (mr5 _ (List.mem_of_getElem? (i := 18) rfl)) (mr11 _ (List.mem_of_getElem? (i := 9) rfl)))) rfl rfl rfl (by decide +kernel) ⟨Nat.le_of_ble_eq_true rfl, Nat.le_of_ble_eq_true rfl⟩) (Wd.preV zo hA hZ hw hK m_a0 o_a0 rfl) rfl rfl hl.1 rfl (lv_room (Nat.le_of_ble_eq_true rfl)) dX5_readMonths_139 ⟨Nat.le_of_ble_eq_true rfl, Nat.le_of_ble_eq_true rfl⟩) (fun x_14 L1 f_15 H locs lx_14 ux_14 ex_14 hw => ?_)
          obtain ⟨rfl, hg, hX, ex_14⟩ := ex_14
          have hE := hE.trans hX
          have o_a0 := hX.1.1 _ _ o_a0
          refine q_if_eq (tgt := 149) hx hb dX5_readMonths_142 (by decide) ⟨lx_14, ux_14⟩ (fun c142 => ?_) (fun c142 => ?_)
          · refine q_iconst hx hb dX5_readMonths_149 ?_
            exact q_ret_z hx hb hr hlocks hK hAe hw (by omega) (Nat.le_of_ble_eq_true rfl) (Nat.le_of_ble_eq_true rfl) dX5_readMonths_150 (by exact ⟨rfl, hg, hE, by first | trivial | omega⟩)
          · refine q_iconst hx hb dX5_readMonths_145 ?_
            refine lv_goto (tgt := 150) hx hb dX5_readMonths_146 (by decide) ?_
            exact q_ret_z hx hb hr hlocks hK hAe hw (by omega) (Nat.le_of_ble_eq_true rfl) (Nat.le_of_ble_eq_true rfl) dX5_readMonths_150 (by exact ⟨rfl, hg, hE, by first | trivial | omega⟩)
      · refine lv_aload_n hx hb dX5_readMonths_87 rfl (lv_at hl 0 rfl) ?_
        refine q_iconst hx hb dX5_readMonths_88 ?_
        refine q_puti (ci := 4) (C := RX5) (T := TX5) (N := 10) hx hb hts (fun w h => List.mem_cons_of_mem _ (mfX50 w h)) hown hK hw m_a0 o_a0 rfl 6 (by decide) (hts _ (List.mem_cons_of_mem _ (mr6 _ (List.mem_of_getElem? (i := 7) rfl)))) (fun _ h => h) tyX5 tyX5_ok nmX5 rfl (ty := .int) (by decide +kernel) rfl rfl dX5_readMonths_89 (fun H locs hw => ?_)
        have oo := o_a0
        obtain ⟨f_16, ef_16⟩ : ∃ g : Nat → va_E, g = pU f_9 a0 6 (.int (iI 5)) := ⟨_, rfl⟩
        have hX : Ex cy f_9 f_16 := by rw [ef_16]; exact Ex_pU oo rfl rfl (by decide)
        have hg : GI cy L0 f_16 := by rw [ef_16]; exact hg.putI oo rfl ⟨by decide, by decide⟩ trivial
        rw [← ef_16] at hw
        have hE := hE.trans hX
        have o_a0 := hX.1.1 _ _ o_a0
        have vf_16 : fI f_16 a0 6 = 5 := by rw [ef_16]; exact fI_pU_self oo rfl ⟨by decide, by decide⟩
        refine lv_aload_n hx hb dX5_readMonths_92 rfl (lv_at hl 0 rfl) ?_
        refine lv_aload_n hx hb dX5_readMonths_93 rfl (lv_at hl 0 rfl) ?_
        refine q_iconst hx hb dX5_readMonths_94 ?_
        refine q_iconst hx hb dX5_readMonths_95 ?_
        refine q_call_i hA hK hw (va_runV (As := [.int (iI 1), .int (iI 5)]) (rest := [.ref a0]) ⟨hx, hb, hml, hown, hts⟩ (c_X5_takeNumber zo l D cy L0 f_16 a0 1 (by decide) (by decide) 5 (by decide) (by decide) m_a0 o_a0 hg _) (cwV 2 hts (gT (inV (mr10 _ (List.mem_of_getElem? (i := 10) rfl)) (mr10 _ (List.mem_of_getElem? (i := 11) rfl)) (mr10 _ (List.mem_of_getElem? (i := 12) rfl)) (mr5 _ (List.mem_of_getElem? (i := 18) rfl)) (mr10 _ (List.mem_of_getElem? (i := 13) rfl)))) rfl rfl rfl (by decide +kernel) ⟨Nat.le_of_ble_eq_true rfl, Nat.le_of_ble_eq_true rfl⟩) (Wd.preV zo hA hZ hw hK m_a0 o_a0 rfl) rfl rfl hl.1 rfl (lv_room (Nat.le_of_ble_eq_true rfl)) dX5_readMonths_96 ⟨Nat.le_of_ble_eq_true rfl, Nat.le_of_ble_eq_true rfl⟩) (fun x_17 L1 f_18 H locs lx_17 ux_17 ex_17 hw => ?_)
        obtain ⟨rfl, hg, hX, ex_17⟩ := ex_17
        have hE := hE.trans hX
        have o_a0 := hX.1.1 _ _ o_a0
        refine q_puti (ci := 4) (C := RX5) (T := TX5) (N := 10) hx hb hts (fun w h => List.mem_cons_of_mem _ (mfX50 w h)) hown hK hw m_a0 o_a0 rfl 8 (by decide) (hts _ (List.mem_cons_of_mem _ (mr6 _ (List.mem_of_getElem? (i := 9) rfl)))) (fun _ h => h) tyX5 tyX5_ok nmX5 rfl (ty := .int) (by decide +kernel) rfl rfl dX5_readMonths_99 (fun H locs hw => ?_)
        have oo := o_a0
        obtain ⟨f_19, ef_19⟩ : ∃ g : Nat → va_E, g = pU f_18 a0 8 (.int (iI x_17)) := ⟨_, rfl⟩
        have hX : Ex cy f_18 f_19 := by rw [ef_19]; exact Ex_pU oo rfl rfl (by decide)
        have hg : GI cy L0 f_19 := by rw [ef_19]; exact hg.putI oo rfl ⟨lx_17, ux_17⟩ trivial
        rw [← ef_19] at hw
        have hE := hE.trans hX
        have o_a0 := hX.1.1 _ _ o_a0
        have vf_19 : fI f_19 a0 8 = x_17 := by rw [ef_19]; exact fI_pU_self oo rfl ⟨lx_17, ux_17⟩
        refine lv_aload_n hx hb dX5_readMonths_102 rfl (lv_at hl 0 rfl) ?_
        refine q_geti (ci := 4) (C := RX5) (T := TX5) (N := 10) hx hb hts (fun w h => List.mem_cons_of_mem _ (mfX50 w h)) hown hK hw m_a0 o_a0 rfl 8 (by decide) (hts _ (List.mem_cons_of_mem _ (mr6 _ (List.mem_of_getElem? (i := 9) rfl)))) (fun _ h => h) rfl dX5_readMonths_103 (fun x_20 lx_20 ux_20 ex_20 => ?_)
        refine q_iconst hx hb dX5_readMonths_106 ?_
        refine q_icmp_eq (tgt := 121) hx hb dX5_readMonths_107 (by decide) ⟨lx_20, ux_20⟩ ⟨by decide, by decide⟩ (fun c107 => ?_) (fun c107 => ?_)
        · refine q_iconst hx hb dX5_readMonths_121 ?_
          exact q_ret_z hx hb hr hlocks hK hAe hw (by omega) (Nat.le_of_ble_eq_true rfl) (Nat.le_of_ble_eq_true rfl) dX5_readMonths_122 (by exact ⟨rfl, hg, hE, by first | trivial | omega⟩)
        · refine lv_aload_n hx hb dX5_readMonths_110 rfl (lv_at hl 0 rfl) ?_
          refine q_call_i hA hK hw (va_runV (As := []) (rest := []) ⟨hx, hb, hml, hown, hts⟩ (c_X5_readWeekday zo l D cy L0 f_19 a0 m_a0 o_a0 hg _) (cwV 0 hts (gT (inV (mr11 _ (List.mem_of_getElem? (i := 6) rfl)) (mr11 _ (List.mem_of_getElem? (i := 7) rfl)) (mr11 _ (List.mem_of_getElem? (i := 8) rfl)) (mr5 _ (List.mem_of_getElem? (i := 18) rfl)) (mr11 _ (List.mem_of_getElem? (i := 9) rfl)))) rfl rfl rfl (by decide +kernel) ⟨Nat.le_of_ble_eq_true rfl, Nat.le_of_ble_eq_true rfl⟩) (Wd.preV zo hA hZ hw hK m_a0 o_a0 rfl) rfl rfl hl.1 rfl (lv_room (Nat.le_of_ble_eq_true rfl)) dX5_readMonths_111 ⟨Nat.le_of_ble_eq_true rfl, Nat.le_of_ble_eq_true rfl⟩) (fun x_21 L1 f_22 H locs lx_21 ux_21 ex_21 hw => ?_)
          obtain ⟨rfl, hg, hX, ex_21⟩ := ex_21
          have hE := hE.trans hX
          have o_a0 := hX.1.1 _ _ o_a0
          refine q_if_eq (tgt := 121) hx hb dX5_readMonths_114 (by decide) ⟨lx_21, ux_21⟩ (fun c114 => ?_) (fun c114 => ?_)
          · refine q_iconst hx hb dX5_readMonths_121 ?_
            exact q_ret_z hx hb hr hlocks hK hAe hw (by omega) (Nat.le_of_ble_eq_true rfl) (Nat.le_of_ble_eq_true rfl) dX5_readMonths_122 (by exact ⟨rfl, hg, hE, by first | trivial | omega⟩)
          · refine q_iconst hx hb dX5_readMonths_117 ?_
            refine lv_goto (tgt := 122) hx hb dX5_readMonths_118 (by decide) ?_
            exact q_ret_z hx hb hr hlocks hK hAe hw (by omega) (Nat.le_of_ble_eq_true rfl) (Nat.le_of_ble_eq_true rfl) dX5_readMonths_122 (by exact ⟨rfl, hg, hE, by first | trivial | omega⟩)
    · refine lv_aload_n hx hb dX5_readMonths_48 rfl (lv_at hl 0 rfl) ?_
      refine q_iconst hx hb dX5_readMonths_49 ?_
      refine q_puti (ci := 4) (C := RX5) (T := TX5) (N := 10) hx hb hts (fun w h => List.mem_cons_of_mem _ (mfX50 w h)) hown hK hw m_a0 o_a0 rfl 6 (by decide) (hts _ (List.mem_cons_of_mem _ (mr6 _ (List.mem_of_getElem? (i := 7) rfl)))) (fun _ h => h) tyX5 tyX5_ok nmX5 rfl (ty := .int) (by decide +kernel) rfl rfl dX5_readMonths_50 (fun H locs hw => ?_)
      have oo := o_a0
      obtain ⟨f_23, ef_23⟩ : ∃ g : Nat → va_E, g = pU f_6 a0 6 (.int (iI 4)) := ⟨_, rfl⟩
      have hX : Ex cy f_6 f_23 := by rw [ef_23]; exact Ex_pU oo rfl rfl (by decide)
      have hg : GI cy L0 f_23 := by rw [ef_23]; exact hg.putI oo rfl ⟨by decide, by decide⟩ trivial
      rw [← ef_23] at hw
      have hE := hE.trans hX
      have o_a0 := hX.1.1 _ _ o_a0
      have vf_23 : fI f_23 a0 6 = 4 := by rw [ef_23]; exact fI_pU_self oo rfl ⟨by decide, by decide⟩
      refine lv_aload_n hx hb dX5_readMonths_53 rfl (lv_at hl 0 rfl) ?_
      refine lv_aload_n hx hb dX5_readMonths_54 rfl (lv_at hl 0 rfl) ?_
      refine q_iconst hx hb dX5_readMonths_55 ?_
      refine q_bipush hx hb dX5_readMonths_56 rfl ?_
      refine q_call_i hA hK hw (va_runV (As := [.int (iI 1), .int (iI 28)]) (rest := [.ref a0]) ⟨hx, hb, hml, hown, hts⟩ (c_X5_takeNumber zo l D cy L0 f_23 a0 1 (by decide) (by decide) 28 (by decide) (by decide) m_a0 o_a0 hg _) (cwV 2 hts (gT (inV (mr10 _ (List.mem_of_getElem? (i := 10) rfl)) (mr10 _ (List.mem_of_getElem? (i := 11) rfl)) (mr10 _ (List.mem_of_getElem? (i := 12) rfl)) (mr5 _ (List.mem_of_getElem? (i := 18) rfl)) (mr10 _ (List.mem_of_getElem? (i := 13) rfl)))) rfl rfl rfl (by decide +kernel) ⟨Nat.le_of_ble_eq_true rfl, Nat.le_of_ble_eq_true rfl⟩) (Wd.preV zo hA hZ hw hK m_a0 o_a0 rfl) rfl rfl hl.1 rfl (lv_room (Nat.le_of_ble_eq_true rfl)) dX5_readMonths_58 ⟨Nat.le_of_ble_eq_true rfl, Nat.le_of_ble_eq_true rfl⟩) (fun x_24 L1 f_25 H locs lx_24 ux_24 ex_24 hw => ?_)
      obtain ⟨rfl, hg, hX, ex_24⟩ := ex_24
      have hE := hE.trans hX
      have o_a0 := hX.1.1 _ _ o_a0
      refine q_puti (ci := 4) (C := RX5) (T := TX5) (N := 10) hx hb hts (fun w h => List.mem_cons_of_mem _ (mfX50 w h)) hown hK hw m_a0 o_a0 rfl 8 (by decide) (hts _ (List.mem_cons_of_mem _ (mr6 _ (List.mem_of_getElem? (i := 9) rfl)))) (fun _ h => h) tyX5 tyX5_ok nmX5 rfl (ty := .int) (by decide +kernel) rfl rfl dX5_readMonths_61 (fun H locs hw => ?_)
      have oo := o_a0
      obtain ⟨f_26, ef_26⟩ : ∃ g : Nat → va_E, g = pU f_25 a0 8 (.int (iI x_24)) := ⟨_, rfl⟩
      have hX : Ex cy f_25 f_26 := by rw [ef_26]; exact Ex_pU oo rfl rfl (by decide)
      have hg : GI cy L0 f_26 := by rw [ef_26]; exact hg.putI oo rfl ⟨lx_24, ux_24⟩ trivial
      rw [← ef_26] at hw
      have hE := hE.trans hX
      have o_a0 := hX.1.1 _ _ o_a0
      have vf_26 : fI f_26 a0 8 = x_24 := by rw [ef_26]; exact fI_pU_self oo rfl ⟨lx_24, ux_24⟩
      refine lv_aload_n hx hb dX5_readMonths_64 rfl (lv_at hl 0 rfl) ?_
      refine q_geti (ci := 4) (C := RX5) (T := TX5) (N := 10) hx hb hts (fun w h => List.mem_cons_of_mem _ (mfX50 w h)) hown hK hw m_a0 o_a0 rfl 8 (by decide) (hts _ (List.mem_cons_of_mem _ (mr6 _ (List.mem_of_getElem? (i := 9) rfl)))) (fun _ h => h) rfl dX5_readMonths_65 (fun x_27 lx_27 ux_27 ex_27 => ?_)
      refine q_iconst hx hb dX5_readMonths_68 ?_
      refine q_icmp_eq (tgt := 76) hx hb dX5_readMonths_69 (by decide) ⟨lx_27, ux_27⟩ ⟨by decide, by decide⟩ (fun c69 => ?_) (fun c69 => ?_)
      · refine q_iconst hx hb dX5_readMonths_76 ?_
        exact q_ret_z hx hb hr hlocks hK hAe hw (by omega) (Nat.le_of_ble_eq_true rfl) (Nat.le_of_ble_eq_true rfl) dX5_readMonths_77 (by exact ⟨rfl, hg, hE, by first | trivial | omega⟩)
      · refine q_iconst hx hb dX5_readMonths_72 ?_
        refine lv_goto (tgt := 77) hx hb dX5_readMonths_73 (by decide) ?_
        exact q_ret_z hx hb hr hlocks hK hAe hw (by omega) (Nat.le_of_ble_eq_true rfl) (Nat.le_of_ble_eq_true rfl) dX5_readMonths_77 (by exact ⟨rfl, hg, hE, by first | trivial | omega⟩)
  · refine lv_aload_n hx hb dX5_readMonths_9 rfl (lv_at hl 0 rfl) ?_
    refine q_iconst hx hb dX5_readMonths_10 ?_
    refine q_puti (ci := 4) (C := RX5) (T := TX5) (N := 10) hx hb hts (fun w h => List.mem_cons_of_mem _ (mfX50 w h)) hown hK hw m_a0 o_a0 rfl 6 (by decide) (hts _ (List.mem_cons_of_mem _ (mr6 _ (List.mem_of_getElem? (i := 7) rfl)))) (fun _ h => h) tyX5 tyX5_ok nmX5 rfl (ty := .int) (by decide +kernel) rfl rfl dX5_readMonths_11 (fun H locs hw => ?_)
    have oo := o_a0
    obtain ⟨f_28, ef_28⟩ : ∃ g : Nat → va_E, g = pU f_3 a0 6 (.int (iI 3)) := ⟨_, rfl⟩
    have hX : Ex cy f_3 f_28 := by rw [ef_28]; exact Ex_pU oo rfl rfl (by decide)
    have hg : GI cy L0 f_28 := by rw [ef_28]; exact hg.putI oo rfl ⟨by decide, by decide⟩ trivial
    rw [← ef_28] at hw
    have hE := hE.trans hX
    have o_a0 := hX.1.1 _ _ o_a0
    have vf_28 : fI f_28 a0 6 = 3 := by rw [ef_28]; exact fI_pU_self oo rfl ⟨by decide, by decide⟩
    refine lv_aload_n hx hb dX5_readMonths_14 rfl (lv_at hl 0 rfl) ?_
    refine lv_aload_n hx hb dX5_readMonths_15 rfl (lv_at hl 0 rfl) ?_
    refine q_iconst hx hb dX5_readMonths_16 ?_
    refine q_bipush hx hb dX5_readMonths_17 rfl ?_
    refine q_call_i hA hK hw (va_runV (As := [.int (iI 1), .int (iI 31)]) (rest := [.ref a0]) ⟨hx, hb, hml, hown, hts⟩ (c_X5_takeNumber zo l D cy L0 f_28 a0 1 (by decide) (by decide) 31 (by decide) (by decide) m_a0 o_a0 hg _) (cwV 2 hts (gT (inV (mr10 _ (List.mem_of_getElem? (i := 10) rfl)) (mr10 _ (List.mem_of_getElem? (i := 11) rfl)) (mr10 _ (List.mem_of_getElem? (i := 12) rfl)) (mr5 _ (List.mem_of_getElem? (i := 18) rfl)) (mr10 _ (List.mem_of_getElem? (i := 13) rfl)))) rfl rfl rfl (by decide +kernel) ⟨Nat.le_of_ble_eq_true rfl, Nat.le_of_ble_eq_true rfl⟩) (Wd.preV zo hA hZ hw hK m_a0 o_a0 rfl) rfl rfl hl.1 rfl (lv_room (Nat.le_of_ble_eq_true rfl)) dX5_readMonths_19 ⟨Nat.le_of_ble_eq_true rfl, Nat.le_of_ble_eq_true rfl⟩) (fun x_29 L1 f_30 H locs lx_29 ux_29 ex_29 hw => ?_)
    obtain ⟨rfl, hg, hX, ex_29⟩ := ex_29
    have hE := hE.trans hX
    have o_a0 := hX.1.1 _ _ o_a0
    refine q_puti (ci := 4) (C := RX5) (T := TX5) (N := 10) hx hb hts (fun w h => List.mem_cons_of_mem _ (mfX50 w h)) hown hK hw m_a0 o_a0 rfl 8 (by decide) (hts _ (List.mem_cons_of_mem _ (mr6 _ (List.mem_of_getElem? (i := 9) rfl)))) (fun _ h => h) tyX5 tyX5_ok nmX5 rfl (ty := .int) (by decide +kernel) rfl rfl dX5_readMonths_22 (fun H locs hw => ?_)
    have oo := o_a0
    obtain ⟨f_31, ef_31⟩ : ∃ g : Nat → va_E, g = pU f_30 a0 8 (.int (iI x_29)) := ⟨_, rfl⟩
    have hX : Ex cy f_30 f_31 := by rw [ef_31]; exact Ex_pU oo rfl rfl (by decide)
    have hg : GI cy L0 f_31 := by rw [ef_31]; exact hg.putI oo rfl ⟨lx_29, ux_29⟩ trivial
    rw [← ef_31] at hw
    have hE := hE.trans hX
    have o_a0 := hX.1.1 _ _ o_a0
    have vf_31 : fI f_31 a0 8 = x_29 := by rw [ef_31]; exact fI_pU_self oo rfl ⟨lx_29, ux_29⟩
    refine lv_aload_n hx hb dX5_readMonths_25 rfl (lv_at hl 0 rfl) ?_
    refine q_geti (ci := 4) (C := RX5) (T := TX5) (N := 10) hx hb hts (fun w h => List.mem_cons_of_mem _ (mfX50 w h)) hown hK hw m_a0 o_a0 rfl 8 (by decide) (hts _ (List.mem_cons_of_mem _ (mr6 _ (List.mem_of_getElem? (i := 9) rfl)))) (fun _ h => h) rfl dX5_readMonths_26 (fun x_32 lx_32 ux_32 ex_32 => ?_)
    refine q_iconst hx hb dX5_readMonths_29 ?_
    refine q_icmp_eq (tgt := 37) hx hb dX5_readMonths_30 (by decide) ⟨lx_32, ux_32⟩ ⟨by decide, by decide⟩ (fun c30 => ?_) (fun c30 => ?_)
    · refine q_iconst hx hb dX5_readMonths_37 ?_
      exact q_ret_z hx hb hr hlocks hK hAe hw (by omega) (Nat.le_of_ble_eq_true rfl) (Nat.le_of_ble_eq_true rfl) dX5_readMonths_38 (by exact ⟨rfl, hg, hE, by first | trivial | omega⟩)
    · refine q_iconst hx hb dX5_readMonths_33 ?_
      refine lv_goto (tgt := 38) hx hb dX5_readMonths_34 (by decide) ?_
      exact q_ret_z hx hb hr hlocks hK hAe hw (by omega) (Nat.le_of_ble_eq_true rfl) (Nat.le_of_ble_eq_true rfl) dX5_readMonths_38 (by exact ⟨rfl, hg, hE, by first | trivial | omega⟩)
set_option maxHeartbeats 4000000 in
set_option maxRecDepth 100000 in
theorem c_X5_readRule {Z : Zt} (zo : Zok Z) (l : Launch) (D : va_G) (cy : Cy) (L0 : List Nat) (f0 : Nat → va_E) (a0 : Nat) (m_a0 : a0 ∈ L0) (o_a0 : Ob f0 a0 4) (hg : GI cy L0 f0) : Ci Z l yX5_readRule (Cond.code yX5_readRule cX5_readRule 1 (some .boolean) :: TB) ({ frames := 8, cells := 0, slots := 0, locals := 171 } : Room) 0 0 D (tq cy) [.ref a0] L0 f0 (fun (r : Int) (L1 : List Nat) (f1 : Nat → va_E) => L0 = L1 ∧ GI cy L0 f1 ∧ Ex cy f0 f1 ∧ (0 ≤ r ∧ r ≤ 1)) := by
  refine Ci.enter (cc := cX5_readRule) (n := 1) rfl (plainFor_of_name (by decide)) (Nat.le_of_ble_eq_true rfl) ?_
  intro p e s m below meth c ls A hx hb hr hts hown hlocks hnm hml hK hA hAe hw hZ hl
  have hown : s.vm.findClass RX5 = some m.cls := hown
  have hl : lv_has ls 1 [(0, .ref a0)] := hl
  have hN : ZN s := (zo.2.2.2.2 _ _ _ hZ).2
  have hE : Ex cy f0 f0 := Ex.refl cy f0
  refine lv_aload_n hx hb dX5_readRule_0 rfl (lv_at hl 0 rfl) ?_
  obtain ⟨t_1, v_t_1, h_t_1⟩ : ∃ q v : Nat, ∀ (A : Nat → Prop) (U : State) (H : Heap), Z A U H → vk_R RX5 92 "once" q U ∧ Tx [111, 110, 99, 101] q v A U H := ztx_4 zo
  obtain ⟨b_t_1, eb_t_1⟩ : ∃ b : List Int32, b = [111, 110, 99, 101] := ⟨_, rfl⟩
  have nb_t_1 : Asc b_t_1 := by rw [eb_t_1]; exact ⟨by decide, by decide +kernel⟩
  have tx_t_1 : ∀ (A : Nat → Prop) (U : State) (H : Heap), Z A U H → Tx b_t_1 t_1 v_t_1 A U H := fun A U H h => by rw [eb_t_1]; exact (h_t_1 A U H h).2
  refine va_ldcS hx hb hown (h_t_1 _ _ _ hZ).1 dX5_readRule_1 ?_
  refine q_call_i hA hK hw (va_runV (As := [.ref t_1]) (rest := []) ⟨hx, hb, hml, hown, hts⟩ (c_X5_take zo l D cy L0 f0 a0 t_1 m_a0 o_a0 b_t_1 v_t_1 nb_t_1 tx_t_1 hg _) (cwV 1 hts (gT (inV (mr7 _ (List.mem_of_getElem? (i := 21) rfl)) (mr7 _ (List.mem_of_getElem? (i := 22) rfl)) (mr7 _ (List.mem_of_getElem? (i := 23) rfl)) (mr5 _ (List.mem_of_getElem? (i := 18) rfl)) (mr8 _ (List.mem_of_getElem? (i := 0) rfl)))) rfl rfl rfl (by decide +kernel) ⟨Nat.le_of_ble_eq_true rfl, Nat.le_of_ble_eq_true rfl⟩) (Wd.preV zo hA hZ hw hK m_a0 o_a0 rfl) rfl rfl hl.1 rfl (lv_room (Nat.le_of_ble_eq_true rfl)) dX5_readRule_3 ⟨Nat.le_of_ble_eq_true rfl, Nat.le_of_ble_eq_true rfl⟩) (fun x_2 L1 f_3 H locs lx_2 ux_2 ex_2 hw => ?_)
  obtain ⟨rfl, hg, hX, ex_2⟩ := ex_2
  have hE := hE.trans hX
  have o_a0 := hX.1.1 _ _ o_a0
  refine q_if_eq (tgt := 11) hx hb dX5_readRule_6 (by decide) ⟨lx_2, ux_2⟩ (fun c6 => ?_) (fun c6 => ?_)
  · refine lv_aload_n hx hb dX5_readRule_11 rfl (lv_at hl 0 rfl) ?_
    obtain ⟨t_4, v_t_4, h_t_4⟩ : ∃ q v : Nat, ∀ (A : Nat → Prop) (U : State) (H : Heap), Z A U H → vk_R RX5 97 "every" q U ∧ Tx [101, 118, 101, 114, 121] q v A U H := ztx_5 zo
    obtain ⟨b_t_4, eb_t_4⟩ : ∃ b : List Int32, b = [101, 118, 101, 114, 121] := ⟨_, rfl⟩
    have nb_t_4 : Asc b_t_4 := by rw [eb_t_4]; exact ⟨by decide, by decide +kernel⟩
    have tx_t_4 : ∀ (A : Nat → Prop) (U : State) (H : Heap), Z A U H → Tx b_t_4 t_4 v_t_4 A U H := fun A U H h => by rw [eb_t_4]; exact (h_t_4 A U H h).2
    refine va_ldcS hx hb hown (h_t_4 _ _ _ hZ).1 dX5_readRule_12 ?_
    refine q_call_i hA hK hw (va_runV (As := [.ref t_4]) (rest := []) ⟨hx, hb, hml, hown, hts⟩ (c_X5_require zo l D cy L0 f_3 a0 t_4 m_a0 o_a0 b_t_4 v_t_4 nb_t_4 tx_t_4 hg _) (cwV 1 hts (gT (inV (mr7 _ (List.mem_of_getElem? (i := 17) rfl)) (mr7 _ (List.mem_of_getElem? (i := 18) rfl)) (mr7 _ (List.mem_of_getElem? (i := 19) rfl)) (mr5 _ (List.mem_of_getElem? (i := 18) rfl)) (mr7 _ (List.mem_of_getElem? (i := 20) rfl)))) rfl rfl rfl (by decide +kernel) ⟨Nat.le_of_ble_eq_true rfl, Nat.le_of_ble_eq_true rfl⟩) (Wd.preV zo hA hZ hw hK m_a0 o_a0 rfl) rfl rfl hl.1 rfl (lv_room (Nat.le_of_ble_eq_true rfl)) dX5_readRule_14 ⟨Nat.le_of_ble_eq_true rfl, Nat.le_of_ble_eq_true rfl⟩) (fun x_5 L1 f_6 H locs lx_5 ux_5 ex_5 hw => ?_)
    obtain ⟨rfl, hg, hX, ex_5⟩ := ex_5
    have hE := hE.trans hX
    have o_a0 := hX.1.1 _ _ o_a0
    refine q_if_ne (tgt := 22) hx hb dX5_readRule_17 (by decide) ⟨lx_5, ux_5⟩ (fun c17 => ?_) (fun c17 => ?_)
    · refine lv_aload_n hx hb dX5_readRule_22 rfl (lv_at hl 0 rfl) ?_
      refine lv_aload_n hx hb dX5_readRule_23 rfl (lv_at hl 0 rfl) ?_
      refine q_iconst hx hb dX5_readRule_24 ?_
      refine q_sipush hx hb dX5_readRule_25 rfl ?_
      refine q_call_i hA hK hw (va_runV (As := [.int (iI 1), .int (iI 999)]) (rest := [.ref a0]) ⟨hx, hb, hml, hown, hts⟩ (c_X5_takeNumber zo l D cy L0 f_6 a0 1 (by decide) (by decide) 999 (by decide) (by decide) m_a0 o_a0 hg _) (cwV 2 hts (gT (inV (mr10 _ (List.mem_of_getElem? (i := 10) rfl)) (mr10 _ (List.mem_of_getElem? (i := 11) rfl)) (mr10 _ (List.mem_of_getElem? (i := 12) rfl)) (mr5 _ (List.mem_of_getElem? (i := 18) rfl)) (mr10 _ (List.mem_of_getElem? (i := 13) rfl)))) rfl rfl rfl (by decide +kernel) ⟨Nat.le_of_ble_eq_true rfl, Nat.le_of_ble_eq_true rfl⟩) (Wd.preV zo hA hZ hw hK m_a0 o_a0 rfl) rfl rfl hl.1 rfl (lv_room (Nat.le_of_ble_eq_true rfl)) dX5_readRule_28 ⟨Nat.le_of_ble_eq_true rfl, Nat.le_of_ble_eq_true rfl⟩) (fun x_7 L1 f_8 H locs lx_7 ux_7 ex_7 hw => ?_)
      obtain ⟨rfl, hg, hX, ex_7⟩ := ex_7
      have hE := hE.trans hX
      have o_a0 := hX.1.1 _ _ o_a0
      have q28 : -1 ≤ x_7 ∧ x_7 ≤ 999 := by unfold NumP at ex_7; omega
      refine q_puti (ci := 4) (C := RX5) (T := TX5) (N := 10) hx hb hts (fun w h => List.mem_cons_of_mem _ (mfX50 w h)) hown hK hw m_a0 o_a0 rfl 7 (by decide) (hts _ (List.mem_cons_of_mem _ (mr6 _ (List.mem_of_getElem? (i := 8) rfl)))) (fun _ h => h) tyX5 tyX5_ok nmX5 rfl (ty := .int) (by decide +kernel) rfl rfl dX5_readRule_31 (fun H locs hw => ?_)
      have oo := o_a0
      obtain ⟨f_9, ef_9⟩ : ∃ g : Nat → va_E, g = pU f_8 a0 7 (.int (iI x_7)) := ⟨_, rfl⟩
      have hX : Ex cy f_8 f_9 := by rw [ef_9]; exact Ex_pU oo rfl rfl (by decide)
      have hg : GI cy L0 f_9 := by rw [ef_9]; exact hg.putI oo rfl ⟨lx_7, ux_7⟩ (by show -1 ≤ x_7 ∧ x_7 ≤ 999; omega)
      rw [← ef_9] at hw
      have hE := hE.trans hX
      have o_a0 := hX.1.1 _ _ o_a0
      have vf_9 : fI f_9 a0 7 = x_7 := by rw [ef_9]; exact fI_pU_self oo rfl ⟨lx_7, ux_7⟩
      refine lv_aload_n hx hb dX5_readRule_34 rfl (lv_at hl 0 rfl) ?_
      refine q_geti (ci := 4) (C := RX5) (T := TX5) (N := 10) hx hb hts (fun w h => List.mem_cons_of_mem _ (mfX50 w h)) hown hK hw m_a0 o_a0 rfl 7 (by decide) (hts _ (List.mem_cons_of_mem _ (mr6 _ (List.mem_of_getElem? (i := 8) rfl)))) (fun _ h => h) rfl dX5_readRule_35 (fun x_10 lx_10 ux_10 ex_10 => ?_)
      have bx_10 : -1 ≤ x_10 ∧ x_10 ≤ 999 := by rw [ex_10]; exact hg.1 _ m_a0 4 7 o_a0
      refine q_iconst hx hb dX5_readRule_38 ?_
      refine q_icmp_ne (tgt := 44) hx hb dX5_readRule_39 (by decide) ⟨lx_10, ux_10⟩ ⟨by decide, by decide⟩ (fun c39 => ?_) (fun c39 => ?_)
      · refine lv_aload_n hx hb dX5_readRule_44 rfl (lv_at hl 0 rfl) ?_
        obtain ⟨t_11, v_t_11, h_t_11⟩ : ∃ q v : Nat, ∀ (A : Nat → Prop) (U : State) (H : Heap), Z A U H → vk_R RX5 98 "days" q U ∧ Tx [100, 97, 121, 115] q v A U H := ztx_6 zo
        obtain ⟨b_t_11, eb_t_11⟩ : ∃ b : List Int32, b = [100, 97, 121, 115] := ⟨_, rfl⟩
        have nb_t_11 : Asc b_t_11 := by rw [eb_t_11]; exact ⟨by decide, by decide +kernel⟩
        have tx_t_11 : ∀ (A : Nat → Prop) (U : State) (H : Heap), Z A U H → Tx b_t_11 t_11 v_t_11 A U H := fun A U H h => by rw [eb_t_11]; exact (h_t_11 A U H h).2
        refine va_ldcS hx hb hown (h_t_11 _ _ _ hZ).1 dX5_readRule_45 ?_
        refine q_call_i hA hK hw (va_runV (As := [.ref t_11]) (rest := []) ⟨hx, hb, hml, hown, hts⟩ (c_X5_take zo l D cy L0 f_9 a0 t_11 m_a0 o_a0 b_t_11 v_t_11 nb_t_11 tx_t_11 hg _) (cwV 1 hts (gT (inV (mr7 _ (List.mem_of_getElem? (i := 21) rfl)) (mr7 _ (List.mem_of_getElem? (i := 22) rfl)) (mr7 _ (List.mem_of_getElem? (i := 23) rfl)) (mr5 _ (List.mem_of_getElem? (i := 18) rfl)) (mr8 _ (List.mem_of_getElem? (i := 0) rfl)))) rfl rfl rfl (by decide +kernel) ⟨Nat.le_of_ble_eq_true rfl, Nat.le_of_ble_eq_true rfl⟩) (Wd.preV zo hA hZ hw hK m_a0 o_a0 rfl) rfl rfl hl.1 rfl (lv_room (Nat.le_of_ble_eq_true rfl)) dX5_readRule_47 ⟨Nat.le_of_ble_eq_true rfl, Nat.le_of_ble_eq_true rfl⟩) (fun x_12 L1 f_13 H locs lx_12 ux_12 ex_12 hw => ?_)
        obtain ⟨rfl, hg, hX, ex_12⟩ := ex_12
        have hE := hE.trans hX
        have o_a0 := hX.1.1 _ _ o_a0
        refine q_if_eq (tgt := 60) hx hb dX5_readRule_50 (by decide) ⟨lx_12, ux_12⟩ (fun c50 => ?_) (fun c50 => ?_)
        · refine lv_aload_n hx hb dX5_readRule_60 rfl (lv_at hl 0 rfl) ?_
          obtain ⟨t_14, v_t_14, h_t_14⟩ : ∃ q v : Nat, ∀ (A : Nat → Prop) (U : State) (H : Heap), Z A U H → vk_R RX5 100 "years" q U ∧ Tx [121, 101, 97, 114, 115] q v A U H := ztx_7 zo
          obtain ⟨b_t_14, eb_t_14⟩ : ∃ b : List Int32, b = [121, 101, 97, 114, 115] := ⟨_, rfl⟩
          have nb_t_14 : Asc b_t_14 := by rw [eb_t_14]; exact ⟨by decide, by decide +kernel⟩
          have tx_t_14 : ∀ (A : Nat → Prop) (U : State) (H : Heap), Z A U H → Tx b_t_14 t_14 v_t_14 A U H := fun A U H h => by rw [eb_t_14]; exact (h_t_14 A U H h).2
          refine va_ldcS hx hb hown (h_t_14 _ _ _ hZ).1 dX5_readRule_61 ?_
          refine q_call_i hA hK hw (va_runV (As := [.ref t_14]) (rest := []) ⟨hx, hb, hml, hown, hts⟩ (c_X5_take zo l D cy L0 f_13 a0 t_14 m_a0 o_a0 b_t_14 v_t_14 nb_t_14 tx_t_14 hg _) (cwV 1 hts (gT (inV (mr7 _ (List.mem_of_getElem? (i := 21) rfl)) (mr7 _ (List.mem_of_getElem? (i := 22) rfl)) (mr7 _ (List.mem_of_getElem? (i := 23) rfl)) (mr5 _ (List.mem_of_getElem? (i := 18) rfl)) (mr8 _ (List.mem_of_getElem? (i := 0) rfl)))) rfl rfl rfl (by decide +kernel) ⟨Nat.le_of_ble_eq_true rfl, Nat.le_of_ble_eq_true rfl⟩) (Wd.preV zo hA hZ hw hK m_a0 o_a0 rfl) rfl rfl hl.1 rfl (lv_room (Nat.le_of_ble_eq_true rfl)) dX5_readRule_63 ⟨Nat.le_of_ble_eq_true rfl, Nat.le_of_ble_eq_true rfl⟩) (fun x_15 L1 f_16 H locs lx_15 ux_15 ex_15 hw => ?_)
          obtain ⟨rfl, hg, hX, ex_15⟩ := ex_15
          have hE := hE.trans hX
          have o_a0 := hX.1.1 _ _ o_a0
          refine q_if_eq (tgt := 77) hx hb dX5_readRule_66 (by decide) ⟨lx_15, ux_15⟩ (fun c66 => ?_) (fun c66 => ?_)
          · refine lv_aload_n hx hb dX5_readRule_77 rfl (lv_at hl 0 rfl) ?_
            obtain ⟨t_17, v_t_17, h_t_17⟩ : ∃ q v : Nat, ∀ (A : Nat → Prop) (U : State) (H : Heap), Z A U H → vk_R RX5 102 "weeks" q U ∧ Tx [119, 101, 101, 107, 115] q v A U H := ztx_8 zo
            obtain ⟨b_t_17, eb_t_17⟩ : ∃ b : List Int32, b = [119, 101, 101, 107, 115] := ⟨_, rfl⟩
            have nb_t_17 : Asc b_t_17 := by rw [eb_t_17]; exact ⟨by decide, by decide +kernel⟩
            have tx_t_17 : ∀ (A : Nat → Prop) (U : State) (H : Heap), Z A U H → Tx b_t_17 t_17 v_t_17 A U H := fun A U H h => by rw [eb_t_17]; exact (h_t_17 A U H h).2
            refine va_ldcS hx hb hown (h_t_17 _ _ _ hZ).1 dX5_readRule_78 ?_
            refine q_call_i hA hK hw (va_runV (As := [.ref t_17]) (rest := []) ⟨hx, hb, hml, hown, hts⟩ (c_X5_take zo l D cy L0 f_16 a0 t_17 m_a0 o_a0 b_t_17 v_t_17 nb_t_17 tx_t_17 hg _) (cwV 1 hts (gT (inV (mr7 _ (List.mem_of_getElem? (i := 21) rfl)) (mr7 _ (List.mem_of_getElem? (i := 22) rfl)) (mr7 _ (List.mem_of_getElem? (i := 23) rfl)) (mr5 _ (List.mem_of_getElem? (i := 18) rfl)) (mr8 _ (List.mem_of_getElem? (i := 0) rfl)))) rfl rfl rfl (by decide +kernel) ⟨Nat.le_of_ble_eq_true rfl, Nat.le_of_ble_eq_true rfl⟩) (Wd.preV zo hA hZ hw hK m_a0 o_a0 rfl) rfl rfl hl.1 rfl (lv_room (Nat.le_of_ble_eq_true rfl)) dX5_readRule_80 ⟨Nat.le_of_ble_eq_true rfl, Nat.le_of_ble_eq_true rfl⟩) (fun x_18 L1 f_19 H locs lx_18 ux_18 ex_18 hw => ?_)
            obtain ⟨rfl, hg, hX, ex_18⟩ := ex_18
            have hE := hE.trans hX
            have o_a0 := hX.1.1 _ _ o_a0
            refine q_if_eq (tgt := 96) hx hb dX5_readRule_83 (by decide) ⟨lx_18, ux_18⟩ (fun c83 => ?_) (fun c83 => ?_)
            · refine lv_aload_n hx hb dX5_readRule_96 rfl (lv_at hl 0 rfl) ?_
              obtain ⟨t_20, v_t_20, h_t_20⟩ : ∃ q v : Nat, ∀ (A : Nat → Prop) (U : State) (H : Heap), Z A U H → vk_R RX5 107 "months" q U ∧ Tx [109, 111, 110, 116, 104, 115] q v A U H := ztx_9 zo
              obtain ⟨b_t_20, eb_t_20⟩ : ∃ b : List Int32, b = [109, 111, 110, 116, 104, 115] := ⟨_, rfl⟩
              have nb_t_20 : Asc b_t_20 := by rw [eb_t_20]; exact ⟨by decide, by decide +kernel⟩
              have tx_t_20 : ∀ (A : Nat → Prop) (U : State) (H : Heap), Z A U H → Tx b_t_20 t_20 v_t_20 A U H := fun A U H h => by rw [eb_t_20]; exact (h_t_20 A U H h).2
              refine va_ldcS hx hb hown (h_t_20 _ _ _ hZ).1 dX5_readRule_97 ?_
              refine q_call_i hA hK hw (va_runV (As := [.ref t_20]) (rest := []) ⟨hx, hb, hml, hown, hts⟩ (c_X5_require zo l D cy L0 f_19 a0 t_20 m_a0 o_a0 b_t_20 v_t_20 nb_t_20 tx_t_20 hg _) (cwV 1 hts (gT (inV (mr7 _ (List.mem_of_getElem? (i := 17) rfl)) (mr7 _ (List.mem_of_getElem? (i := 18) rfl)) (mr7 _ (List.mem_of_getElem? (i := 19) rfl)) (mr5 _ (List.mem_of_getElem? (i := 18) rfl)) (mr7 _ (List.mem_of_getElem? (i := 20) rfl)))) rfl rfl rfl (by decide +kernel) ⟨Nat.le_of_ble_eq_true rfl, Nat.le_of_ble_eq_true rfl⟩) (Wd.preV zo hA hZ hw hK m_a0 o_a0 rfl) rfl rfl hl.1 rfl (lv_room (Nat.le_of_ble_eq_true rfl)) dX5_readRule_99 ⟨Nat.le_of_ble_eq_true rfl, Nat.le_of_ble_eq_true rfl⟩) (fun x_21 L1 f_22 H locs lx_21 ux_21 ex_21 hw => ?_)
              obtain ⟨rfl, hg, hX, ex_21⟩ := ex_21
              have hE := hE.trans hX
              have o_a0 := hX.1.1 _ _ o_a0
              refine q_if_eq (tgt := 116) hx hb dX5_readRule_102 (by decide) ⟨lx_21, ux_21⟩ (fun c102 => ?_) (fun c102 => ?_)
              · refine q_iconst hx hb dX5_readRule_116 ?_
                exact q_ret_z hx hb hr hlocks hK hAe hw (by omega) (Nat.le_of_ble_eq_true rfl) (Nat.le_of_ble_eq_true rfl) dX5_readRule_117 (by exact ⟨rfl, hg, hE, by first | trivial | omega⟩)
              · refine lv_aload_n hx hb dX5_readRule_105 rfl (lv_at hl 0 rfl) ?_
                refine q_call_i hA hK hw (va_runV (As := []) (rest := []) ⟨hx, hb, hml, hown, hts⟩ (c_X5_readMonths zo l D cy L0 f_22 a0 m_a0 o_a0 hg _) (cwV 0 hts (gT (inV (mr11 _ (List.mem_of_getElem? (i := 2) rfl)) (mr11 _ (List.mem_of_getElem? (i := 3) rfl)) (mr11 _ (List.mem_of_getElem? (i := 4) rfl)) (mr5 _ (List.mem_of_getElem? (i := 18) rfl)) (mr11 _ (List.mem_of_getElem? (i := 5) rfl)))) rfl rfl rfl (by decide +kernel) ⟨Nat.le_of_ble_eq_true rfl, Nat.le_of_ble_eq_true rfl⟩) (Wd.preV zo hA hZ hw hK m_a0 o_a0 rfl) rfl rfl hl.1 rfl (lv_room (Nat.le_of_ble_eq_true rfl)) dX5_readRule_106 ⟨Nat.le_of_ble_eq_true rfl, Nat.le_of_ble_eq_true rfl⟩) (fun x_23 L1 f_24 H locs lx_23 ux_23 ex_23 hw => ?_)
                obtain ⟨rfl, hg, hX, ex_23⟩ := ex_23
                have hE := hE.trans hX
                have o_a0 := hX.1.1 _ _ o_a0
                refine q_if_eq (tgt := 116) hx hb dX5_readRule_109 (by decide) ⟨lx_23, ux_23⟩ (fun c109 => ?_) (fun c109 => ?_)
                · refine q_iconst hx hb dX5_readRule_116 ?_
                  exact q_ret_z hx hb hr hlocks hK hAe hw (by omega) (Nat.le_of_ble_eq_true rfl) (Nat.le_of_ble_eq_true rfl) dX5_readRule_117 (by exact ⟨rfl, hg, hE, by first | trivial | omega⟩)
                · refine q_iconst hx hb dX5_readRule_112 ?_
                  refine lv_goto (tgt := 117) hx hb dX5_readRule_113 (by decide) ?_
                  exact q_ret_z hx hb hr hlocks hK hAe hw (by omega) (Nat.le_of_ble_eq_true rfl) (Nat.le_of_ble_eq_true rfl) dX5_readRule_117 (by exact ⟨rfl, hg, hE, by first | trivial | omega⟩)
            · refine lv_aload_n hx hb dX5_readRule_86 rfl (lv_at hl 0 rfl) ?_
              refine q_iconst hx hb dX5_readRule_87 ?_
              refine q_puti (ci := 4) (C := RX5) (T := TX5) (N := 10) hx hb hts (fun w h => List.mem_cons_of_mem _ (mfX50 w h)) hown hK hw m_a0 o_a0 rfl 6 (by decide) (hts _ (List.mem_cons_of_mem _ (mr6 _ (List.mem_of_getElem? (i := 7) rfl)))) (fun _ h => h) tyX5 tyX5_ok nmX5 rfl (ty := .int) (by decide +kernel) rfl rfl dX5_readRule_88 (fun H locs hw => ?_)
              have oo := o_a0
              obtain ⟨f_25, ef_25⟩ : ∃ g : Nat → va_E, g = pU f_19 a0 6 (.int (iI 2)) := ⟨_, rfl⟩
              have hX : Ex cy f_19 f_25 := by rw [ef_25]; exact Ex_pU oo rfl rfl (by decide)
              have hg : GI cy L0 f_25 := by rw [ef_25]; exact hg.putI oo rfl ⟨by decide, by decide⟩ trivial
              rw [← ef_25] at hw
              have hE := hE.trans hX
              have o_a0 := hX.1.1 _ _ o_a0
              have vf_25 : fI f_25 a0 6 = 2 := by rw [ef_25]; exact fI_pU_self oo rfl ⟨by decide, by decide⟩
              refine lv_aload_n hx hb dX5_readRule_91 rfl (lv_at hl 0 rfl) ?_
              refine q_call_i hA hK hw (va_runV (As := []) (rest := []) ⟨hx, hb, hml, hown, hts⟩ (c_X5_readWeekdays zo l D cy L0 f_25 a0 m_a0 o_a0 hg _) (cwV 0 hts (gT (inV (mr10 _ (List.mem_of_getElem? (i := 18) rfl)) (mr10 _ (List.mem_of_getElem? (i := 19) rfl)) (mr10 _ (List.mem_of_getElem? (i := 20) rfl)) (mr5 _ (List.mem_of_getElem? (i := 18) rfl)) (mr10 _ (List.mem_of_getElem? (i := 21) rfl)))) rfl rfl rfl (by decide +kernel) ⟨Nat.le_of_ble_eq_true rfl, Nat.le_of_ble_eq_true rfl⟩) (Wd.preV zo hA hZ hw hK m_a0 o_a0 rfl) rfl rfl hl.1 rfl (lv_room (Nat.le_of_ble_eq_true rfl)) dX5_readRule_92 ⟨Nat.le_of_ble_eq_true rfl, Nat.le_of_ble_eq_true rfl⟩) (fun x_26 L1 f_27 H locs lx_26 ux_26 ex_26 hw => ?_)
              obtain ⟨rfl, hg, hX, ex_26⟩ := ex_26
              have hE := hE.trans hX
              have o_a0 := hX.1.1 _ _ o_a0
              exact q_ret_z hx hb hr hlocks hK hAe hw (by omega) (Nat.le_of_ble_eq_true rfl) (Nat.le_of_ble_eq_true rfl) dX5_readRule_95 (by exact ⟨rfl, hg, hE, by first | trivial | omega⟩)
          · refine lv_aload_n hx hb dX5_readRule_69 rfl (lv_at hl 0 rfl) ?_
            refine q_bipush hx hb dX5_readRule_70 rfl ?_
            refine q_puti (ci := 4) (C := RX5) (T := TX5) (N := 10) hx hb hts (fun w h => List.mem_cons_of_mem _ (mfX50 w h)) hown hK hw m_a0 o_a0 rfl 6 (by decide) (hts _ (List.mem_cons_of_mem _ (mr6 _ (List.mem_of_getElem? (i := 7) rfl)))) (fun _ h => h) tyX5 tyX5_ok nmX5 rfl (ty := .int) (by decide +kernel) rfl rfl dX5_readRule_72 (fun H locs hw => ?_)
            have oo := o_a0
            obtain ⟨f_28, ef_28⟩ : ∃ g : Nat → va_E, g = pU f_16 a0 6 (.int (iI 7)) := ⟨_, rfl⟩
            have hX : Ex cy f_16 f_28 := by rw [ef_28]; exact Ex_pU oo rfl rfl (by decide)
            have hg : GI cy L0 f_28 := by rw [ef_28]; exact hg.putI oo rfl ⟨by decide, by decide⟩ trivial
            rw [← ef_28] at hw
            have hE := hE.trans hX
            have o_a0 := hX.1.1 _ _ o_a0
            have vf_28 : fI f_28 a0 6 = 7 := by rw [ef_28]; exact fI_pU_self oo rfl ⟨by decide, by decide⟩
            refine q_iconst hx hb dX5_readRule_75 ?_
            exact q_ret_z hx hb hr hlocks hK hAe hw (by omega) (Nat.le_of_ble_eq_true rfl) (Nat.le_of_ble_eq_true rfl) dX5_readRule_76 (by exact ⟨rfl, hg, hE, by first | trivial | omega⟩)
        · refine lv_aload_n hx hb dX5_readRule_53 rfl (lv_at hl 0 rfl) ?_
          refine q_iconst hx hb dX5_readRule_54 ?_
          refine q_puti (ci := 4) (C := RX5) (T := TX5) (N := 10) hx hb hts (fun w h => List.mem_cons_of_mem _ (mfX50 w h)) hown hK hw m_a0 o_a0 rfl 6 (by decide) (hts _ (List.mem_cons_of_mem _ (mr6 _ (List.mem_of_getElem? (i := 7) rfl)))) (fun _ h => h) tyX5 tyX5_ok nmX5 rfl (ty := .int) (by decide +kernel) rfl rfl dX5_readRule_55 (fun H locs hw => ?_)
          have oo := o_a0
          obtain ⟨f_29, ef_29⟩ : ∃ g : Nat → va_E, g = pU f_13 a0 6 (.int (iI 1)) := ⟨_, rfl⟩
          have hX : Ex cy f_13 f_29 := by rw [ef_29]; exact Ex_pU oo rfl rfl (by decide)
          have hg : GI cy L0 f_29 := by rw [ef_29]; exact hg.putI oo rfl ⟨by decide, by decide⟩ trivial
          rw [← ef_29] at hw
          have hE := hE.trans hX
          have o_a0 := hX.1.1 _ _ o_a0
          have vf_29 : fI f_29 a0 6 = 1 := by rw [ef_29]; exact fI_pU_self oo rfl ⟨by decide, by decide⟩
          refine q_iconst hx hb dX5_readRule_58 ?_
          exact q_ret_z hx hb hr hlocks hK hAe hw (by omega) (Nat.le_of_ble_eq_true rfl) (Nat.le_of_ble_eq_true rfl) dX5_readRule_59 (by exact ⟨rfl, hg, hE, by first | trivial | omega⟩)
      · refine q_iconst hx hb dX5_readRule_42 ?_
        exact q_ret_z hx hb hr hlocks hK hAe hw (by omega) (Nat.le_of_ble_eq_true rfl) (Nat.le_of_ble_eq_true rfl) dX5_readRule_43 (by exact ⟨rfl, hg, hE, by first | trivial | omega⟩)
    · refine q_iconst hx hb dX5_readRule_20 ?_
      exact q_ret_z hx hb hr hlocks hK hAe hw (by omega) (Nat.le_of_ble_eq_true rfl) (Nat.le_of_ble_eq_true rfl) dX5_readRule_21 (by exact ⟨rfl, hg, hE, by first | trivial | omega⟩)
  · refine q_iconst hx hb dX5_readRule_9 ?_
    exact q_ret_z hx hb hr hlocks hK hAe hw (by omega) (Nat.le_of_ble_eq_true rfl) (Nat.le_of_ble_eq_true rfl) dX5_readRule_10 (by exact ⟨rfl, hg, hE, by first | trivial | omega⟩)
set_option maxHeartbeats 4000000 in
set_option maxRecDepth 100000 in
theorem c_X5_readPlace {Z : Zt} (zo : Zok Z) (l : Launch) (D : va_G) (cy : Cy) (L0 : List Nat) (f0 : Nat → va_E) (a0 : Nat) (a1 : Nat) (m_a0 : a0 ∈ L0) (o_a0 : Ob f0 a0 4) (m_a1 : a1 ∈ L0) (o_a1 : Ob f0 a1 0) (hg : GI cy L0 f0) : Ci Z l yX5_readPlace (Cond.code yX5_readPlace cX5_readPlace 2 (some .boolean) :: TB) ({ frames := 7, cells := 0, slots := 0, locals := 151 } : Room) 0 0 D (tq cy) [.ref a0, .ref a1] L0 f0 (fun (r : Int) (L1 : List Nat) (f1 : Nat → va_E) => L0 = L1 ∧ GI cy L0 f1 ∧ Ex cy f0 f1 ∧ (0 ≤ r ∧ r ≤ 1)) := by
  refine Ci.enter (cc := cX5_readPlace) (n := 2) rfl (plainFor_of_name (by decide)) (Nat.le_of_ble_eq_true rfl) ?_
  intro p e s m below meth c ls A hx hb hr hts hown hlocks hnm hml hK hA hAe hw hZ hl
  have hown : s.vm.findClass RX5 = some m.cls := hown
  have hl : lv_has ls 2 [(0, .ref a0), (1, .ref a1)] := hl
  have hN : ZN s := (zo.2.2.2.2 _ _ _ hZ).2
  have hE : Ex cy f0 f0 := Ex.refl cy f0
  refine lv_aload_n hx hb dX5_readPlace_0 rfl (lv_at hl 0 rfl) ?_
  obtain ⟨t_1, v_t_1, h_t_1⟩ : ∃ q v : Nat, ∀ (A : Nat → Prop) (U : State) (H : Heap), Z A U H → vk_R RX5 72 "book" q U ∧ Tx [98, 111, 111, 107] q v A U H := ztx_1 zo
  obtain ⟨b_t_1, eb_t_1⟩ : ∃ b : List Int32, b = [98, 111, 111, 107] := ⟨_, rfl⟩
  have nb_t_1 : Asc b_t_1 := by rw [eb_t_1]; exact ⟨by decide, by decide +kernel⟩
  have tx_t_1 : ∀ (A : Nat → Prop) (U : State) (H : Heap), Z A U H → Tx b_t_1 t_1 v_t_1 A U H := fun A U H h => by rw [eb_t_1]; exact (h_t_1 A U H h).2
  refine va_ldcS hx hb hown (h_t_1 _ _ _ hZ).1 dX5_readPlace_1 ?_
  refine q_call_i hA hK hw (va_runV (As := [.ref t_1]) (rest := []) ⟨hx, hb, hml, hown, hts⟩ (c_X5_require zo l D cy L0 f0 a0 t_1 m_a0 o_a0 b_t_1 v_t_1 nb_t_1 tx_t_1 hg _) (cwV 1 hts (gT (inV (mr7 _ (List.mem_of_getElem? (i := 17) rfl)) (mr7 _ (List.mem_of_getElem? (i := 18) rfl)) (mr7 _ (List.mem_of_getElem? (i := 19) rfl)) (mr5 _ (List.mem_of_getElem? (i := 18) rfl)) (mr7 _ (List.mem_of_getElem? (i := 20) rfl)))) rfl rfl rfl (by decide +kernel) ⟨Nat.le_of_ble_eq_true rfl, Nat.le_of_ble_eq_true rfl⟩) (Wd.preV zo hA hZ hw hK m_a0 o_a0 rfl) rfl rfl hl.1 rfl (lv_room (Nat.le_of_ble_eq_true rfl)) dX5_readPlace_3 ⟨Nat.le_of_ble_eq_true rfl, Nat.le_of_ble_eq_true rfl⟩) (fun x_2 L1 f_3 H locs lx_2 ux_2 ex_2 hw => ?_)
  obtain ⟨rfl, hg, hX, ex_2⟩ := ex_2
  have hE := hE.trans hX
  have o_a0 := hX.1.1 _ _ o_a0
  have o_a1 := hX.1.1 _ _ o_a1
  refine q_if_ne (tgt := 11) hx hb dX5_readPlace_6 (by decide) ⟨lx_2, ux_2⟩ (fun c6 => ?_) (fun c6 => ?_)
  · refine lv_aload_n hx hb dX5_readPlace_11 rfl (lv_at hl 1 rfl) ?_
    refine lv_aload_n hx hb dX5_readPlace_12 rfl (lv_at hl 0 rfl) ?_
    refine q_iconst hx hb dX5_readPlace_13 ?_
    refine q_bipush hx hb dX5_readPlace_14 rfl ?_
    refine q_call_i hA hK hw (va_runV (As := [.int (iI 0), .int (iI 7)]) (rest := [.ref a1]) ⟨hx, hb, hml, hown, hts⟩ (c_X5_takeNumber zo l D cy L0 f_3 a0 0 (by decide) (by decide) 7 (by decide) (by decide) m_a0 o_a0 hg _) (cwV 2 hts (gT (inV (mr10 _ (List.mem_of_getElem? (i := 10) rfl)) (mr10 _ (List.mem_of_getElem? (i := 11) rfl)) (mr10 _ (List.mem_of_getElem? (i := 12) rfl)) (mr5 _ (List.mem_of_getElem? (i := 18) rfl)) (mr10 _ (List.mem_of_getElem? (i := 13) rfl)))) rfl rfl rfl (by decide +kernel) ⟨Nat.le_of_ble_eq_true rfl, Nat.le_of_ble_eq_true rfl⟩) (Wd.preV zo hA hZ hw hK m_a0 o_a0 rfl) rfl rfl hl.1 rfl (lv_room (Nat.le_of_ble_eq_true rfl)) dX5_readPlace_16 ⟨Nat.le_of_ble_eq_true rfl, Nat.le_of_ble_eq_true rfl⟩) (fun x_4 L1 f_5 H locs lx_4 ux_4 ex_4 hw => ?_)
    obtain ⟨rfl, hg, hX, ex_4⟩ := ex_4
    have hE := hE.trans hX
    have o_a0 := hX.1.1 _ _ o_a0
    have o_a1 := hX.1.1 _ _ o_a1
    refine q_puti (ci := 0) (C := RX0) (T := TX0) (N := 15) hx hb hts (fun w h => List.mem_cons_of_mem _ (mfX00 w h)) hown hK hw m_a1 o_a1 rfl 0 (by decide) (hts _ (List.mem_cons_of_mem _ (mr7 _ (List.mem_of_getElem? (i := 14) rfl)))) (fun _ h => h) tyX0 tyX0_ok nmX0 rfl (ty := .int) (by decide +kernel) rfl rfl dX5_readPlace_19 (fun H locs hw => ?_)
    have oo := o_a1
    obtain ⟨f_6, ef_6⟩ : ∃ g : Nat → va_E, g = pU f_5 a1 0 (.int (iI x_4)) := ⟨_, rfl⟩
    have hX : Ex cy f_5 f_6 := by rw [ef_6]; exact Ex_pU oo rfl rfl (by decide)
    have hg : GI cy L0 f_6 := by rw [ef_6]; exact hg.putI oo rfl ⟨lx_4, ux_4⟩ trivial
    rw [← ef_6] at hw
    have hE := hE.trans hX
    have o_a0 := hX.1.1 _ _ o_a0
    have o_a1 := hX.1.1 _ _ o_a1
    have vf_6 : fI f_6 a1 0 = x_4 := by rw [ef_6]; exact fI_pU_self oo rfl ⟨lx_4, ux_4⟩
    refine lv_aload_n hx hb dX5_readPlace_22 rfl (lv_at hl 1 rfl) ?_
    refine q_geti (ci := 0) (C := RX0) (T := TX0) (N := 15) hx hb hts (fun w h => List.mem_cons_of_mem _ (mfX00 w h)) hown hK hw m_a1 o_a1 rfl 0 (by decide) (hts _ (List.mem_cons_of_mem _ (mr7 _ (List.mem_of_getElem? (i := 14) rfl)))) (fun _ h => h) rfl dX5_readPlace_23 (fun x_7 lx_7 ux_7 ex_7 => ?_)
    refine q_iconst hx hb dX5_readPlace_26 ?_
    refine q_icmp_eq (tgt := 39) hx hb dX5_readPlace_27 (by decide) ⟨lx_7, ux_7⟩ ⟨by decide, by decide⟩ (fun c27 => ?_) (fun c27 => ?_)
    · refine q_iconst hx hb dX5_readPlace_39 ?_
      exact q_ret_z hx hb hr hlocks hK hAe hw (by omega) (Nat.le_of_ble_eq_true rfl) (Nat.le_of_ble_eq_true rfl) dX5_readPlace_40 (by exact ⟨rfl, hg, hE, by first | trivial | omega⟩)
    · refine lv_aload_n hx hb dX5_readPlace_30 rfl (lv_at hl 0 rfl) ?_
      obtain ⟨t_8, v_t_8, h_t_8⟩ : ∃ q v : Nat, ∀ (A : Nat → Prop) (U : State) (H : Heap), Z A U H → vk_R RX5 84 "at" q U ∧ Tx [97, 116] q v A U H := ztx_2 zo
      obtain ⟨b_t_8, eb_t_8⟩ : ∃ b : List Int32, b = [97, 116] := ⟨_, rfl⟩
      have nb_t_8 : Asc b_t_8 := by rw [eb_t_8]; exact ⟨by decide, by decide +kernel⟩
      have tx_t_8 : ∀ (A : Nat → Prop) (U : State) (H : Heap), Z A U H → Tx b_t_8 t_8 v_t_8 A U H := fun A U H h => by rw [eb_t_8]; exact (h_t_8 A U H h).2
      refine va_ldcS hx hb hown (h_t_8 _ _ _ hZ).1 dX5_readPlace_31 ?_
      refine q_call_i hA hK hw (va_runV (As := [.ref t_8]) (rest := []) ⟨hx, hb, hml, hown, hts⟩ (c_X5_require zo l D cy L0 f_6 a0 t_8 m_a0 o_a0 b_t_8 v_t_8 nb_t_8 tx_t_8 hg _) (cwV 1 hts (gT (inV (mr7 _ (List.mem_of_getElem? (i := 17) rfl)) (mr7 _ (List.mem_of_getElem? (i := 18) rfl)) (mr7 _ (List.mem_of_getElem? (i := 19) rfl)) (mr5 _ (List.mem_of_getElem? (i := 18) rfl)) (mr7 _ (List.mem_of_getElem? (i := 20) rfl)))) rfl rfl rfl (by decide +kernel) ⟨Nat.le_of_ble_eq_true rfl, Nat.le_of_ble_eq_true rfl⟩) (Wd.preV zo hA hZ hw hK m_a0 o_a0 rfl) rfl rfl hl.1 rfl (lv_room (Nat.le_of_ble_eq_true rfl)) dX5_readPlace_33 ⟨Nat.le_of_ble_eq_true rfl, Nat.le_of_ble_eq_true rfl⟩) (fun x_9 L1 f_10 H locs lx_9 ux_9 ex_9 hw => ?_)
      obtain ⟨rfl, hg, hX, ex_9⟩ := ex_9
      have hE := hE.trans hX
      have o_a0 := hX.1.1 _ _ o_a0
      have o_a1 := hX.1.1 _ _ o_a1
      refine q_if_ne (tgt := 41) hx hb dX5_readPlace_36 (by decide) ⟨lx_9, ux_9⟩ (fun c36 => ?_) (fun c36 => ?_)
      · refine lv_aload_n hx hb dX5_readPlace_41 rfl (lv_at hl 1 rfl) ?_
        refine lv_aload_n hx hb dX5_readPlace_42 rfl (lv_at hl 0 rfl) ?_
        refine q_iconst hx hb dX5_readPlace_43 ?_
        refine q_sipush hx hb dX5_readPlace_44 rfl ?_
        refine q_call_i hA hK hw (va_runV (As := [.int (iI 0), .int (iI 1439)]) (rest := [.ref a1]) ⟨hx, hb, hml, hown, hts⟩ (c_X5_takeNumber zo l D cy L0 f_10 a0 0 (by decide) (by decide) 1439 (by decide) (by decide) m_a0 o_a0 hg _) (cwV 2 hts (gT (inV (mr10 _ (List.mem_of_getElem? (i := 10) rfl)) (mr10 _ (List.mem_of_getElem? (i := 11) rfl)) (mr10 _ (List.mem_of_getElem? (i := 12) rfl)) (mr5 _ (List.mem_of_getElem? (i := 18) rfl)) (mr10 _ (List.mem_of_getElem? (i := 13) rfl)))) rfl rfl rfl (by decide +kernel) ⟨Nat.le_of_ble_eq_true rfl, Nat.le_of_ble_eq_true rfl⟩) (Wd.preV zo hA hZ hw hK m_a0 o_a0 rfl) rfl rfl hl.1 rfl (lv_room (Nat.le_of_ble_eq_true rfl)) dX5_readPlace_47 ⟨Nat.le_of_ble_eq_true rfl, Nat.le_of_ble_eq_true rfl⟩) (fun x_11 L1 f_12 H locs lx_11 ux_11 ex_11 hw => ?_)
        obtain ⟨rfl, hg, hX, ex_11⟩ := ex_11
        have hE := hE.trans hX
        have o_a0 := hX.1.1 _ _ o_a0
        have o_a1 := hX.1.1 _ _ o_a1
        refine q_puti (ci := 0) (C := RX0) (T := TX0) (N := 15) hx hb hts (fun w h => List.mem_cons_of_mem _ (mfX00 w h)) hown hK hw m_a1 o_a1 rfl 1 (by decide) (hts _ (List.mem_cons_of_mem _ (mr7 _ (List.mem_of_getElem? (i := 15) rfl)))) (fun _ h => h) tyX0 tyX0_ok nmX0 rfl (ty := .int) (by decide +kernel) rfl rfl dX5_readPlace_50 (fun H locs hw => ?_)
        have oo := o_a1
        obtain ⟨f_13, ef_13⟩ : ∃ g : Nat → va_E, g = pU f_12 a1 1 (.int (iI x_11)) := ⟨_, rfl⟩
        have hX : Ex cy f_12 f_13 := by rw [ef_13]; exact Ex_pU oo rfl rfl (by decide)
        have hg : GI cy L0 f_13 := by rw [ef_13]; exact hg.putI oo rfl ⟨lx_11, ux_11⟩ trivial
        rw [← ef_13] at hw
        have hE := hE.trans hX
        have o_a0 := hX.1.1 _ _ o_a0
        have o_a1 := hX.1.1 _ _ o_a1
        have vf_13 : fI f_13 a1 1 = x_11 := by rw [ef_13]; exact fI_pU_self oo rfl ⟨lx_11, ux_11⟩
        refine lv_aload_n hx hb dX5_readPlace_53 rfl (lv_at hl 1 rfl) ?_
        refine q_geti (ci := 0) (C := RX0) (T := TX0) (N := 15) hx hb hts (fun w h => List.mem_cons_of_mem _ (mfX00 w h)) hown hK hw m_a1 o_a1 rfl 1 (by decide) (hts _ (List.mem_cons_of_mem _ (mr7 _ (List.mem_of_getElem? (i := 15) rfl)))) (fun _ h => h) rfl dX5_readPlace_54 (fun x_14 lx_14 ux_14 ex_14 => ?_)
        refine q_iconst hx hb dX5_readPlace_57 ?_
        refine q_icmp_eq (tgt := 70) hx hb dX5_readPlace_58 (by decide) ⟨lx_14, ux_14⟩ ⟨by decide, by decide⟩ (fun c58 => ?_) (fun c58 => ?_)
        · refine q_iconst hx hb dX5_readPlace_70 ?_
          exact q_ret_z hx hb hr hlocks hK hAe hw (by omega) (Nat.le_of_ble_eq_true rfl) (Nat.le_of_ble_eq_true rfl) dX5_readPlace_71 (by exact ⟨rfl, hg, hE, by first | trivial | omega⟩)
        · refine lv_aload_n hx hb dX5_readPlace_61 rfl (lv_at hl 0 rfl) ?_
          obtain ⟨t_15, v_t_15, h_t_15⟩ : ∃ q v : Nat, ∀ (A : Nat → Prop) (U : State) (H : Heap), Z A U H → vk_R RX5 89 "for" q U ∧ Tx [102, 111, 114] q v A U H := ztx_3 zo
          obtain ⟨b_t_15, eb_t_15⟩ : ∃ b : List Int32, b = [102, 111, 114] := ⟨_, rfl⟩
          have nb_t_15 : Asc b_t_15 := by rw [eb_t_15]; exact ⟨by decide, by decide +kernel⟩
          have tx_t_15 : ∀ (A : Nat → Prop) (U : State) (H : Heap), Z A U H → Tx b_t_15 t_15 v_t_15 A U H := fun A U H h => by rw [eb_t_15]; exact (h_t_15 A U H h).2
          refine va_ldcS hx hb hown (h_t_15 _ _ _ hZ).1 dX5_readPlace_62 ?_
          refine q_call_i hA hK hw (va_runV (As := [.ref t_15]) (rest := []) ⟨hx, hb, hml, hown, hts⟩ (c_X5_require zo l D cy L0 f_13 a0 t_15 m_a0 o_a0 b_t_15 v_t_15 nb_t_15 tx_t_15 hg _) (cwV 1 hts (gT (inV (mr7 _ (List.mem_of_getElem? (i := 17) rfl)) (mr7 _ (List.mem_of_getElem? (i := 18) rfl)) (mr7 _ (List.mem_of_getElem? (i := 19) rfl)) (mr5 _ (List.mem_of_getElem? (i := 18) rfl)) (mr7 _ (List.mem_of_getElem? (i := 20) rfl)))) rfl rfl rfl (by decide +kernel) ⟨Nat.le_of_ble_eq_true rfl, Nat.le_of_ble_eq_true rfl⟩) (Wd.preV zo hA hZ hw hK m_a0 o_a0 rfl) rfl rfl hl.1 rfl (lv_room (Nat.le_of_ble_eq_true rfl)) dX5_readPlace_64 ⟨Nat.le_of_ble_eq_true rfl, Nat.le_of_ble_eq_true rfl⟩) (fun x_16 L1 f_17 H locs lx_16 ux_16 ex_16 hw => ?_)
          obtain ⟨rfl, hg, hX, ex_16⟩ := ex_16
          have hE := hE.trans hX
          have o_a0 := hX.1.1 _ _ o_a0
          have o_a1 := hX.1.1 _ _ o_a1
          refine q_if_ne (tgt := 72) hx hb dX5_readPlace_67 (by decide) ⟨lx_16, ux_16⟩ (fun c67 => ?_) (fun c67 => ?_)
          · refine lv_aload_n hx hb dX5_readPlace_72 rfl (lv_at hl 1 rfl) ?_
            refine lv_aload_n hx hb dX5_readPlace_73 rfl (lv_at hl 0 rfl) ?_
            refine q_iconst hx hb dX5_readPlace_74 ?_
            refine q_sipush hx hb dX5_readPlace_75 rfl ?_
            refine q_call_i hA hK hw (va_runV (As := [.int (iI 1), .int (iI 4320)]) (rest := [.ref a1]) ⟨hx, hb, hml, hown, hts⟩ (c_X5_takeNumber zo l D cy L0 f_17 a0 1 (by decide) (by decide) 4320 (by decide) (by decide) m_a0 o_a0 hg _) (cwV 2 hts (gT (inV (mr10 _ (List.mem_of_getElem? (i := 10) rfl)) (mr10 _ (List.mem_of_getElem? (i := 11) rfl)) (mr10 _ (List.mem_of_getElem? (i := 12) rfl)) (mr5 _ (List.mem_of_getElem? (i := 18) rfl)) (mr10 _ (List.mem_of_getElem? (i := 13) rfl)))) rfl rfl rfl (by decide +kernel) ⟨Nat.le_of_ble_eq_true rfl, Nat.le_of_ble_eq_true rfl⟩) (Wd.preV zo hA hZ hw hK m_a0 o_a0 rfl) rfl rfl hl.1 rfl (lv_room (Nat.le_of_ble_eq_true rfl)) dX5_readPlace_78 ⟨Nat.le_of_ble_eq_true rfl, Nat.le_of_ble_eq_true rfl⟩) (fun x_18 L1 f_19 H locs lx_18 ux_18 ex_18 hw => ?_)
            obtain ⟨rfl, hg, hX, ex_18⟩ := ex_18
            have hE := hE.trans hX
            have o_a0 := hX.1.1 _ _ o_a0
            have o_a1 := hX.1.1 _ _ o_a1
            refine q_puti (ci := 0) (C := RX0) (T := TX0) (N := 15) hx hb hts (fun w h => List.mem_cons_of_mem _ (mfX00 w h)) hown hK hw m_a1 o_a1 rfl 2 (by decide) (hts _ (List.mem_cons_of_mem _ (mr7 _ (List.mem_of_getElem? (i := 16) rfl)))) (fun _ h => h) tyX0 tyX0_ok nmX0 rfl (ty := .int) (by decide +kernel) rfl rfl dX5_readPlace_81 (fun H locs hw => ?_)
            have oo := o_a1
            obtain ⟨f_20, ef_20⟩ : ∃ g : Nat → va_E, g = pU f_19 a1 2 (.int (iI x_18)) := ⟨_, rfl⟩
            have hX : Ex cy f_19 f_20 := by rw [ef_20]; exact Ex_pU oo rfl rfl (by decide)
            have hg : GI cy L0 f_20 := by rw [ef_20]; exact hg.putI oo rfl ⟨lx_18, ux_18⟩ trivial
            rw [← ef_20] at hw
            have hE := hE.trans hX
            have o_a0 := hX.1.1 _ _ o_a0
            have o_a1 := hX.1.1 _ _ o_a1
            have vf_20 : fI f_20 a1 2 = x_18 := by rw [ef_20]; exact fI_pU_self oo rfl ⟨lx_18, ux_18⟩
            refine lv_aload_n hx hb dX5_readPlace_84 rfl (lv_at hl 1 rfl) ?_
            refine q_geti (ci := 0) (C := RX0) (T := TX0) (N := 15) hx hb hts (fun w h => List.mem_cons_of_mem _ (mfX00 w h)) hown hK hw m_a1 o_a1 rfl 2 (by decide) (hts _ (List.mem_cons_of_mem _ (mr7 _ (List.mem_of_getElem? (i := 16) rfl)))) (fun _ h => h) rfl dX5_readPlace_85 (fun x_21 lx_21 ux_21 ex_21 => ?_)
            refine q_iconst hx hb dX5_readPlace_88 ?_
            refine q_icmp_eq (tgt := 96) hx hb dX5_readPlace_89 (by decide) ⟨lx_21, ux_21⟩ ⟨by decide, by decide⟩ (fun c89 => ?_) (fun c89 => ?_)
            · refine q_iconst hx hb dX5_readPlace_96 ?_
              exact q_ret_z hx hb hr hlocks hK hAe hw (by omega) (Nat.le_of_ble_eq_true rfl) (Nat.le_of_ble_eq_true rfl) dX5_readPlace_97 (by exact ⟨rfl, hg, hE, by first | trivial | omega⟩)
            · refine q_iconst hx hb dX5_readPlace_92 ?_
              refine lv_goto (tgt := 97) hx hb dX5_readPlace_93 (by decide) ?_
              exact q_ret_z hx hb hr hlocks hK hAe hw (by omega) (Nat.le_of_ble_eq_true rfl) (Nat.le_of_ble_eq_true rfl) dX5_readPlace_97 (by exact ⟨rfl, hg, hE, by first | trivial | omega⟩)
          · refine q_iconst hx hb dX5_readPlace_70 ?_
            exact q_ret_z hx hb hr hlocks hK hAe hw (by omega) (Nat.le_of_ble_eq_true rfl) (Nat.le_of_ble_eq_true rfl) dX5_readPlace_71 (by exact ⟨rfl, hg, hE, by first | trivial | omega⟩)
      · refine q_iconst hx hb dX5_readPlace_39 ?_
        exact q_ret_z hx hb hr hlocks hK hAe hw (by omega) (Nat.le_of_ble_eq_true rfl) (Nat.le_of_ble_eq_true rfl) dX5_readPlace_40 (by exact ⟨rfl, hg, hE, by first | trivial | omega⟩)
  · refine q_iconst hx hb dX5_readPlace_9 ?_
    exact q_ret_z hx hb hr hlocks hK hAe hw (by omega) (Nat.le_of_ble_eq_true rfl) (Nat.le_of_ble_eq_true rfl) dX5_readPlace_10 (by exact ⟨rfl, hg, hE, by first | trivial | omega⟩)
set_option maxHeartbeats 4000000 in
set_option maxRecDepth 100000 in
theorem c_X5_readDate {Z : Zt} (zo : Zok Z) (l : Launch) (D : va_G) (cy : Cy) (L0 : List Nat) (f0 : Nat → va_E) (a0 : Nat) (m_a0 : a0 ∈ L0) (o_a0 : Ob f0 a0 4) (hg : GI cy L0 f0) : Ci Z l yX5_readDate (Cond.code yX5_readDate cX5_readDate 4 (some .int) :: TB) ({ frames := 3, cells := 0, slots := 0, locals := 66 } : Room) 0 0 D (tq cy) [.ref a0] L0 f0 (fun (r : Int) (L1 : List Nat) (f1 : Nat → va_E) => L0 = L1 ∧ GI cy L0 f1 ∧ Ex cy f0 f1 ∧ (True)) := by
  refine Ci.enter (cc := cX5_readDate) (n := 4) rfl (plainFor_of_name (by decide)) (Nat.le_of_ble_eq_true rfl) ?_
  intro p e s m below meth c ls A hx hb hr hts hown hlocks hnm hml hK hA hAe hw hZ hl
  have hown : s.vm.findClass RX5 = some m.cls := hown
  have hl : lv_has ls 4 [(0, .ref a0)] := hl
  have hN : ZN s := (zo.2.2.2.2 _ _ _ hZ).2
  have hE : Ex cy f0 f0 := Ex.refl cy f0
  refine lv_aload_n hx hb dX5_readDate_0 rfl (lv_at hl 0 rfl) ?_
  refine q_sipush hx hb dX5_readDate_1 rfl ?_
  refine q_sipush hx hb dX5_readDate_4 rfl ?_
  refine q_call_i hA hK hw (va_runV (As := [.int (iI 2000), .int (iI 2099)]) (rest := []) ⟨hx, hb, hml, hown, hts⟩ (c_X5_takeNumber zo l D cy L0 f0 a0 2000 (by decide) (by decide) 2099 (by decide) (by decide) m_a0 o_a0 hg _) (cwV 2 hts (gT (inV (mr10 _ (List.mem_of_getElem? (i := 10) rfl)) (mr10 _ (List.mem_of_getElem? (i := 11) rfl)) (mr10 _ (List.mem_of_getElem? (i := 12) rfl)) (mr5 _ (List.mem_of_getElem? (i := 18) rfl)) (mr10 _ (List.mem_of_getElem? (i := 13) rfl)))) rfl rfl rfl (by decide +kernel) ⟨Nat.le_of_ble_eq_true rfl, Nat.le_of_ble_eq_true rfl⟩) (Wd.preV zo hA hZ hw hK m_a0 o_a0 rfl) rfl rfl hl.1 rfl (lv_room (Nat.le_of_ble_eq_true rfl)) dX5_readDate_7 ⟨Nat.le_of_ble_eq_true rfl, Nat.le_of_ble_eq_true rfl⟩) (fun x_1 L1 f_2 H locs lx_1 ux_1 ex_1 hw => ?_)
  obtain ⟨rfl, hg, hX, ex_1⟩ := ex_1
  have hE := hE.trans hX
  have o_a0 := hX.1.1 _ _ o_a0
  refine lv_istore_n (lv' := [(1, .int (iI x_1)), (0, .ref a0)]) hx hb dX5_readDate_10 rfl hl (by decide) rfl (fun ls hl => ?_)
  refine lv_iload_n hx hb dX5_readDate_11 rfl (lv_at hl 0 rfl) ?_
  refine q_iconst hx hb dX5_readDate_12 ?_
  refine q_icmp_ne (tgt := 18) hx hb dX5_readDate_13 (by decide) ⟨lx_1, ux_1⟩ ⟨by decide, by decide⟩ (fun c13 => ?_) (fun c13 => ?_)
  · refine lv_aload_n hx hb dX5_readDate_18 rfl (lv_at hl 1 rfl) ?_
    refine q_iconst hx hb dX5_readDate_19 ?_
    refine q_bipush hx hb dX5_readDate_20 rfl ?_
    refine q_call_i hA hK hw (va_runV (As := [.int (iI 1), .int (iI 12)]) (rest := []) ⟨hx, hb, hml, hown, hts⟩ (c_X5_takeNumber zo l D cy L0 f_2 a0 1 (by decide) (by decide) 12 (by decide) (by decide) m_a0 o_a0 hg _) (cwV 2 hts (gT (inV (mr10 _ (List.mem_of_getElem? (i := 10) rfl)) (mr10 _ (List.mem_of_getElem? (i := 11) rfl)) (mr10 _ (List.mem_of_getElem? (i := 12) rfl)) (mr5 _ (List.mem_of_getElem? (i := 18) rfl)) (mr10 _ (List.mem_of_getElem? (i := 13) rfl)))) rfl rfl rfl (by decide +kernel) ⟨Nat.le_of_ble_eq_true rfl, Nat.le_of_ble_eq_true rfl⟩) (Wd.preV zo hA hZ hw hK m_a0 o_a0 rfl) rfl rfl hl.1 rfl (lv_room (Nat.le_of_ble_eq_true rfl)) dX5_readDate_22 ⟨Nat.le_of_ble_eq_true rfl, Nat.le_of_ble_eq_true rfl⟩) (fun x_3 L1 f_4 H locs lx_3 ux_3 ex_3 hw => ?_)
    obtain ⟨rfl, hg, hX, ex_3⟩ := ex_3
    have hE := hE.trans hX
    have o_a0 := hX.1.1 _ _ o_a0
    refine lv_istore_n (lv' := [(2, .int (iI x_3)), (1, .int (iI x_1)), (0, .ref a0)]) hx hb dX5_readDate_25 rfl hl (by decide) rfl (fun ls hl => ?_)
    refine lv_iload_n hx hb dX5_readDate_26 rfl (lv_at hl 0 rfl) ?_
    refine q_iconst hx hb dX5_readDate_27 ?_
    refine q_icmp_ne (tgt := 33) hx hb dX5_readDate_28 (by decide) ⟨lx_3, ux_3⟩ ⟨by decide, by decide⟩ (fun c28 => ?_) (fun c28 => ?_)
    · refine lv_aload_n hx hb dX5_readDate_33 rfl (lv_at hl 2 rfl) ?_
      refine q_iconst hx hb dX5_readDate_34 ?_
      refine lv_iload_n hx hb dX5_readDate_35 rfl (lv_at hl 1 rfl) ?_
      refine lv_iload_n hx hb dX5_readDate_36 rfl (lv_at hl 0 rfl) ?_
      refine q_call_i hA hK hw (va_runSN (As := [.int (iI x_1), .int (iI x_3)]) (rest := [.int (iI 1), .ref a0]) ⟨hx, hb, hml, hown, hts⟩ (c_X1_daysOfMonth zo l D cy L0 f_4 x_1 lx_1 ux_1 x_3 lx_3 ux_3 _) ⟨va_cnB 2 hts (gT (inC (mr11 _ (List.mem_of_getElem? (i := 21) rfl)))) rfl rfl rfl (hN _ (List.mem_of_getElem? (i := 1) rfl)) (hts _ (List.mem_cons_of_mem _ (mr11 _ (List.mem_of_getElem? (i := 20) rfl)))) (by decide +kernel) ⟨Nat.le_of_ble_eq_true rfl, Nat.le_of_ble_eq_true rfl⟩, (hts _ (List.mem_cons_of_mem _ (mr11 _ (List.mem_of_getElem? (i := 19) rfl)))), trivial⟩ (Wd.preS zo hA hZ hw hK) rfl rfl hl.1 rfl (lv_room (Nat.le_of_ble_eq_true rfl)) dX5_readDate_37 ⟨Nat.le_of_ble_eq_true rfl, Nat.le_of_ble_eq_true rfl⟩) (fun x_5 L1 f1 H locs lx_5 ux_5 ex_5 hw => ?_)
      obtain ⟨rfl, rfl, ex_5⟩ := ex_5
      refine q_call_i hA hK hw (va_runV (As := [.int (iI 1), .int (iI x_5)]) (rest := []) ⟨hx, hb, hml, hown, hts⟩ (c_X5_takeNumber zo l D cy L0 f_4 a0 1 (by decide) (by decide) x_5 lx_5 ux_5 m_a0 o_a0 hg _) (cwV 2 hts (gT (inV (mr10 _ (List.mem_of_getElem? (i := 10) rfl)) (mr10 _ (List.mem_of_getElem? (i := 11) rfl)) (mr10 _ (List.mem_of_getElem? (i := 12) rfl)) (mr5 _ (List.mem_of_getElem? (i := 18) rfl)) (mr10 _ (List.mem_of_getElem? (i := 13) rfl)))) rfl rfl rfl (by decide +kernel) ⟨Nat.le_of_ble_eq_true rfl, Nat.le_of_ble_eq_true rfl⟩) (Wd.preV zo hA hZ hw hK m_a0 o_a0 rfl) rfl rfl hl.1 rfl (lv_room (Nat.le_of_ble_eq_true rfl)) dX5_readDate_40 ⟨Nat.le_of_ble_eq_true rfl, Nat.le_of_ble_eq_true rfl⟩) (fun x_6 L1 f_7 H locs lx_6 ux_6 ex_6 hw => ?_)
      obtain ⟨rfl, hg, hX, ex_6⟩ := ex_6
      have hE := hE.trans hX
      have o_a0 := hX.1.1 _ _ o_a0
      refine lv_istore_n (lv' := [(3, .int (iI x_6)), (2, .int (iI x_3)), (1, .int (iI x_1)), (0, .ref a0)]) hx hb dX5_readDate_43 rfl hl (by decide) rfl (fun ls hl => ?_)
      refine lv_iload_n hx hb dX5_readDate_44 rfl (lv_at hl 0 rfl) ?_
      refine q_iconst hx hb dX5_readDate_45 ?_
      refine q_icmp_ne (tgt := 51) hx hb dX5_readDate_46 (by decide) ⟨lx_6, ux_6⟩ ⟨by decide, by decide⟩ (fun c46 => ?_) (fun c46 => ?_)
      · refine lv_iload_n hx hb dX5_readDate_51 rfl (lv_at hl 2 rfl) ?_
        refine lv_iload_n hx hb dX5_readDate_52 rfl (lv_at hl 1 rfl) ?_
        refine q_call_i hA hK hw (va_runSN (As := [.int (iI x_1), .int (iI x_3)]) (rest := []) ⟨hx, hb, hml, hown, hts⟩ (c_X1_monthNumber zo l D cy L0 f_7 x_1 lx_1 ux_1 x_3 lx_3 ux_3 _) ⟨va_cnB 2 hts (gT (inC (mr12 _ (List.mem_of_getElem? (i := 0) rfl)))) rfl rfl rfl (hN _ (List.mem_of_getElem? (i := 2) rfl)) (hts _ (List.mem_cons_of_mem _ (mr11 _ (List.mem_of_getElem? (i := 20) rfl)))) (by decide +kernel) ⟨Nat.le_of_ble_eq_true rfl, Nat.le_of_ble_eq_true rfl⟩, (hts _ (List.mem_cons_of_mem _ (mr11 _ (List.mem_of_getElem? (i := 23) rfl)))), trivial⟩ (Wd.preS zo hA hZ hw hK) rfl rfl hl.1 rfl (lv_room (Nat.le_of_ble_eq_true rfl)) dX5_readDate_53 ⟨Nat.le_of_ble_eq_true rfl, Nat.le_of_ble_eq_true rfl⟩) (fun x_8 L1 f1 H locs lx_8 ux_8 ex_8 hw => ?_)
        obtain ⟨rfl, rfl, ex_8⟩ := ex_8
        refine q_call_i hA hK hw (va_runSN (As := [.int (iI x_8)]) (rest := []) ⟨hx, hb, hml, hown, hts⟩ (c_X1_monthStart zo l D cy L0 f_7 x_8 lx_8 ux_8 _) ⟨va_cnB 1 hts (gT (inC (mr12 _ (List.mem_of_getElem? (i := 3) rfl)))) rfl rfl rfl (hN _ (List.mem_of_getElem? (i := 3) rfl)) (hts _ (List.mem_cons_of_mem _ (mr11 _ (List.mem_of_getElem? (i := 20) rfl)))) (by decide +kernel) ⟨Nat.le_of_ble_eq_true rfl, Nat.le_of_ble_eq_true rfl⟩, (hts _ (List.mem_cons_of_mem _ (mr12 _ (List.mem_of_getElem? (i := 2) rfl)))), trivial⟩ (Wd.preS zo hA hZ hw hK) rfl rfl hl.1 rfl (lv_room (Nat.le_of_ble_eq_true rfl)) dX5_readDate_56 ⟨Nat.le_of_ble_eq_true rfl, Nat.le_of_ble_eq_true rfl⟩) (fun x_9 L1 f1 H locs lx_9 ux_9 ex_9 hw => ?_)
        obtain ⟨rfl, rfl, ex_9⟩ := ex_9
        refine lv_iload_n hx hb dX5_readDate_59 rfl (lv_at hl 0 rfl) ?_
        first | refine q_iadd hx hb dX5_readDate_60 ⟨by omega, by omega⟩ (fun x_10 lx_10 ux_10 ex_10 => ?_) | refine q_iaddw hx hb dX5_readDate_60 (fun x_10 lx_10 ux_10 _ => ?_)
        refine q_iconst hx hb dX5_readDate_61 ?_
        first | refine q_isub hx hb dX5_readDate_62 ⟨by omega, by omega⟩ (fun x_11 lx_11 ux_11 ex_11 => ?_) | refine q_isubw hx hb dX5_readDate_62 (fun x_11 lx_11 ux_11 _ => ?_)
        exact q_ret_i hx hb hr hlocks hK hAe hw ⟨lx_11, ux_11⟩ (Nat.le_of_ble_eq_true rfl) (Nat.le_of_ble_eq_true rfl) dX5_readDate_63 (by exact ⟨rfl, hg, hE, by first | trivial | omega⟩)
      · refine q_iconst hx hb dX5_readDate_49 ?_
        exact q_ret_i hx hb hr hlocks hK hAe hw ⟨by decide, by decide⟩ (Nat.le_of_ble_eq_true rfl) (Nat.le_of_ble_eq_true rfl) dX5_readDate_50 (by exact ⟨rfl, hg, hE, by first | trivial | omega⟩)
    · refine q_iconst hx hb dX5_readDate_31 ?_
      exact q_ret_i hx hb hr hlocks hK hAe hw ⟨by decide, by decide⟩ (Nat.le_of_ble_eq_true rfl) (Nat.le_of_ble_eq_true rfl) dX5_readDate_32 (by exact ⟨rfl, hg, hE, by first | trivial | omega⟩)
  · refine q_iconst hx hb dX5_readDate_16 ?_
    exact q_ret_i hx hb hr hlocks hK hAe hw ⟨by decide, by decide⟩ (Nat.le_of_ble_eq_true rfl) (Nat.le_of_ble_eq_true rfl) dX5_readDate_17 (by exact ⟨rfl, hg, hE, by first | trivial | omega⟩)
set_option maxHeartbeats 4000000 in
set_option maxRecDepth 100000 in
theorem c_X5_readUntil {Z : Zt} (zo : Zok Z) (l : Launch) (D : va_G) (cy : Cy) (L0 : List Nat) (f0 : Nat → va_E) (a0 : Nat) (a1 : Nat) (x2 : Int) (lx2 : -2147483648 ≤ x2) (ux2 : x2 ≤ 2147483647) (m_a0 : a0 ∈ L0) (o_a0 : Ob f0 a0 4) (m_a1 : a1 ∈ L0) (o_a1 : Ob f0 a1 0) (hg : GI cy L0 f0) : Ci Z l yX5_readUntil (Cond.code yX5_readUntil cX5_readUntil 4 (some .boolean) :: TB) ({ frames := 4, cells := 0, slots := 0, locals := 89 } : Room) 0 0 D (tq cy) [.ref a0, .ref a1, .int (iI x2)] L0 f0 (fun (r : Int) (L1 : List Nat) (f1 : Nat → va_E) => L0 = L1 ∧ GI cy L0 f1 ∧ Ex cy f0 f1 ∧ (0 ≤ r ∧ r ≤ 1)) := by
  refine Ci.enter (cc := cX5_readUntil) (n := 4) rfl (plainFor_of_name (by decide)) (Nat.le_of_ble_eq_true rfl) ?_
  intro p e s m below meth c ls A hx hb hr hts hown hlocks hnm hml hK hA hAe hw hZ hl
  have hown : s.vm.findClass RX5 = some m.cls := hown
  have hl : lv_has ls 4 [(0, .ref a0), (1, .ref a1), (2, .int (iI x2))] := hl
  have hN : ZN s := (zo.2.2.2.2 _ _ _ hZ).2
  have hE : Ex cy f0 f0 := Ex.refl cy f0
  refine lv_aload_n hx hb dX5_readUntil_0 rfl (lv_at hl 0 rfl) ?_
  refine q_geti (ci := 4) (C := RX5) (T := TX5) (N := 10) hx hb hts (fun w h => List.mem_cons_of_mem _ (mfX50 w h)) hown hK hw m_a0 o_a0 rfl 3 (by decide) (hts _ (List.mem_cons_of_mem _ (mr6 _ (List.mem_of_getElem? (i := 4) rfl)))) (fun _ h => h) rfl dX5_readUntil_1 (fun x_1 lx_1 ux_1 ex_1 => ?_)
  have bx_1 : 0 ≤ x_1 ∧ x_1 ≤ 168 := by rw [ex_1]; exact hg.1 _ m_a0 4 3 o_a0
  refine lv_istore_n (lv' := [(3, .int (iI x_1)), (0, .ref a0), (1, .ref a1), (2, .int (iI x2))]) hx hb dX5_readUntil_4 rfl hl (by decide) rfl (fun ls hl => ?_)
  refine lv_aload_n hx hb dX5_readUntil_5 rfl (lv_at hl 2 rfl) ?_
  refine lv_aload_n hx hb dX5_readUntil_6 rfl (lv_at hl 1 rfl) ?_
  refine q_call_i hA hK hw (va_runV (As := []) (rest := [.ref a1]) ⟨hx, hb, hml, hown, hts⟩ (c_X5_readDate zo l D cy L0 f0 a0 m_a0 o_a0 hg _) (cwV 0 hts (gT (inV (mr11 _ (List.mem_of_getElem? (i := 15) rfl)) (mr11 _ (List.mem_of_getElem? (i := 16) rfl)) (mr11 _ (List.mem_of_getElem? (i := 17) rfl)) (mr5 _ (List.mem_of_getElem? (i := 18) rfl)) (mr11 _ (List.mem_of_getElem? (i := 18) rfl)))) rfl rfl rfl (by decide +kernel) ⟨Nat.le_of_ble_eq_true rfl, Nat.le_of_ble_eq_true rfl⟩) (Wd.preV zo hA hZ hw hK m_a0 o_a0 rfl) rfl rfl hl.1 rfl (lv_room (Nat.le_of_ble_eq_true rfl)) dX5_readUntil_7 ⟨Nat.le_of_ble_eq_true rfl, Nat.le_of_ble_eq_true rfl⟩) (fun x_2 L1 f_3 H locs lx_2 ux_2 ex_2 hw => ?_)
  obtain ⟨rfl, hg, hX, ex_2⟩ := ex_2
  have hE := hE.trans hX
  have o_a0 := hX.1.1 _ _ o_a0
  have o_a1 := hX.1.1 _ _ o_a1
  refine q_puti (ci := 0) (C := RX0) (T := TX0) (N := 15) hx hb hts (fun w h => List.mem_cons_of_mem _ (mfX00 w h)) hown hK hw m_a1 o_a1 rfl 4 (by decide) (hts _ (List.mem_cons_of_mem _ (mr14 _ (List.mem_of_getElem? (i := 14) rfl)))) (fun _ h => h) tyX0 tyX0_ok nmX0 rfl (ty := .int) (by decide +kernel) rfl rfl dX5_readUntil_10 (fun H locs hw => ?_)
  have oo := o_a1
  obtain ⟨f_4, ef_4⟩ : ∃ g : Nat → va_E, g = pU f_3 a1 4 (.int (iI x_2)) := ⟨_, rfl⟩
  have hX : Ex cy f_3 f_4 := by rw [ef_4]; exact Ex_pU oo rfl rfl (by decide)
  have hg : GI cy L0 f_4 := by rw [ef_4]; exact hg.putI oo rfl ⟨lx_2, ux_2⟩ trivial
  rw [← ef_4] at hw
  have hE := hE.trans hX
  have o_a0 := hX.1.1 _ _ o_a0
  have o_a1 := hX.1.1 _ _ o_a1
  have vf_4 : fI f_4 a1 4 = x_2 := by rw [ef_4]; exact fI_pU_self oo rfl ⟨lx_2, ux_2⟩
  refine lv_aload_n hx hb dX5_readUntil_13 rfl (lv_at hl 2 rfl) ?_
  refine q_geti (ci := 0) (C := RX0) (T := TX0) (N := 15) hx hb hts (fun w h => List.mem_cons_of_mem _ (mfX00 w h)) hown hK hw m_a1 o_a1 rfl 4 (by decide) (hts _ (List.mem_cons_of_mem _ (mr14 _ (List.mem_of_getElem? (i := 14) rfl)))) (fun _ h => h) rfl dX5_readUntil_14 (fun x_5 lx_5 ux_5 ex_5 => ?_)
  refine q_iconst hx hb dX5_readUntil_17 ?_
  refine q_icmp_ne (tgt := 23) hx hb dX5_readUntil_18 (by decide) ⟨lx_5, ux_5⟩ ⟨by decide, by decide⟩ (fun c18 => ?_) (fun c18 => ?_)
  · refine lv_aload_n hx hb dX5_readUntil_23 rfl (lv_at hl 2 rfl) ?_
    refine q_geti (ci := 0) (C := RX0) (T := TX0) (N := 15) hx hb hts (fun w h => List.mem_cons_of_mem _ (mfX00 w h)) hown hK hw m_a1 o_a1 rfl 4 (by decide) (hts _ (List.mem_cons_of_mem _ (mr14 _ (List.mem_of_getElem? (i := 14) rfl)))) (fun _ h => h) rfl dX5_readUntil_24 (fun x_6 lx_6 ux_6 ex_6 => ?_)
    refine lv_iload_n hx hb dX5_readUntil_27 rfl (lv_at hl 3 rfl) ?_
    refine q_icmp_ge (tgt := 43) hx hb dX5_readUntil_28 (by decide) ⟨lx_6, ux_6⟩ ⟨lx2, ux2⟩ (fun c28 => ?_) (fun c28 => ?_)
    · refine q_iconst hx hb dX5_readUntil_43 ?_
      exact q_ret_z hx hb hr hlocks hK hAe hw (by omega) (Nat.le_of_ble_eq_true rfl) (Nat.le_of_ble_eq_true rfl) dX5_readUntil_44 (by exact ⟨rfl, hg, hE, by first | trivial | omega⟩)
    · refine lv_aload_n hx hb dX5_readUntil_31 rfl (lv_at hl 1 rfl) ?_
      refine q_bipush hx hb dX5_readUntil_32 rfl ?_
      refine lv_iload_n hx hb dX5_readUntil_34 rfl (lv_at hl 0 rfl) ?_
      first | refine q_imul hx hb dX5_readUntil_35 ⟨by omega, by omega⟩ (fun x_7 lx_7 ux_7 ex_7 => ?_) | refine q_imulw hx hb dX5_readUntil_35 (fun x_7 lx_7 ux_7 _ => ?_)
      refine q_iconst hx hb dX5_readUntil_36 ?_
      first | refine q_iadd hx hb dX5_readUntil_37 ⟨by omega, by omega⟩ (fun x_8 lx_8 ux_8 ex_8 => ?_) | refine q_iaddw hx hb dX5_readUntil_37 (fun x_8 lx_8 ux_8 _ => ?_)
      refine q_puti (ci := 4) (C := RX5) (T := TX5) (N := 10) hx hb hts (fun w h => List.mem_cons_of_mem _ (mfX50 w h)) hown hK hw m_a0 o_a0 rfl 5 (by decide) (hts _ (List.mem_cons_of_mem _ (mr6 _ (List.mem_of_getElem? (i := 6) rfl)))) (fun _ h => h) tyX5 tyX5_ok nmX5 rfl (ty := .int) (by decide +kernel) rfl rfl dX5_readUntil_38 (fun H locs hw => ?_)
      have oo := o_a0
      obtain ⟨f_9, ef_9⟩ : ∃ g : Nat → va_E, g = pU f_4 a0 5 (.int (iI x_8)) := ⟨_, rfl⟩
      have hX : Ex cy f_4 f_9 := by rw [ef_9]; exact Ex_pU oo rfl rfl (by decide)
      have hg : GI cy L0 f_9 := by rw [ef_9]; exact hg.putI oo rfl ⟨lx_8, ux_8⟩ trivial
      rw [← ef_9] at hw
      have hE := hE.trans hX
      have o_a0 := hX.1.1 _ _ o_a0
      have o_a1 := hX.1.1 _ _ o_a1
      have vf_9 : fI f_9 a0 5 = x_8 := by rw [ef_9]; exact fI_pU_self oo rfl ⟨lx_8, ux_8⟩
      refine q_iconst hx hb dX5_readUntil_41 ?_
      exact q_ret_z hx hb hr hlocks hK hAe hw (by omega) (Nat.le_of_ble_eq_true rfl) (Nat.le_of_ble_eq_true rfl) dX5_readUntil_42 (by exact ⟨rfl, hg, hE, by first | trivial | omega⟩)
  · refine q_iconst hx hb dX5_readUntil_21 ?_
    exact q_ret_z hx hb hr hlocks hK hAe hw (by omega) (Nat.le_of_ble_eq_true rfl) (Nat.le_of_ble_eq_true rfl) dX5_readUntil_22 (by exact ⟨rfl, hg, hE, by first | trivial | omega⟩)
set_option maxHeartbeats 4000000 in
set_option maxRecDepth 100000 in
theorem c_X5_readSpan {Z : Zt} (zo : Zok Z) (l : Launch) (D : va_G) (cy : Cy) (L0 : List Nat) (f0 : Nat → va_E) (a0 : Nat) (a1 : Nat) (m_a0 : a0 ∈ L0) (o_a0 : Ob f0 a0 4) (m_a1 : a1 ∈ L0) (o_a1 : Ob f0 a1 0) (hg : GI cy L0 f0) : Ci Z l yX5_readSpan (Cond.code yX5_readSpan cX5_readSpan 3 (some .boolean) :: TB) ({ frames := 7, cells := 1, slots := 7, locals := 151 } : Room) 1 7 D (tq cy) [.ref a0, .ref a1] L0 f0 (fun (r : Int) (L1 : List Nat) (f1 : Nat → va_E) => (∀ x ∈ L0, x ∈ L1) ∧ GI cy L1 f1 ∧ Al cy L0 f0 f1 ∧ (0 ≤ r ∧ r ≤ 1)) := by
  refine Ci.enter (cc := cX5_readSpan) (n := 3) rfl (plainFor_of_name (by decide)) (Nat.le_of_ble_eq_true rfl) ?_
  intro p e s m below meth c ls A hx hb hr hts hown hlocks hnm hml hK hA hAe hw hZ hl
  have hown : s.vm.findClass RX5 = some m.cls := hown
  have hl : lv_has ls 3 [(0, .ref a0), (1, .ref a1)] := hl
  have hN : ZN s := (zo.2.2.2.2 _ _ _ hZ).2
  have hs : ∀ x ∈ L0, x ∈ L0 := fun _ h => h
  have hE : Al cy L0 f0 f0 := Al.refl cy L0 f0
  refine lv_aload_n hx hb dX5_readSpan_0 rfl (lv_at hl 0 rfl) ?_
  obtain ⟨t_1, v_t_1, h_t_1⟩ : ∃ q v : Nat, ∀ (A : Nat → Prop) (U : State) (H : Heap), Z A U H → vk_R RX5 127 "from" q U ∧ Tx [102, 114, 111, 109] q v A U H := ztx_14 zo
  obtain ⟨b_t_1, eb_t_1⟩ : ∃ b : List Int32, b = [102, 114, 111, 109] := ⟨_, rfl⟩
  have nb_t_1 : Asc b_t_1 := by rw [eb_t_1]; exact ⟨by decide, by decide +kernel⟩
  have tx_t_1 : ∀ (A : Nat → Prop) (U : State) (H : Heap), Z A U H → Tx b_t_1 t_1 v_t_1 A U H := fun A U H h => by rw [eb_t_1]; exact (h_t_1 A U H h).2
  refine va_ldcS hx hb hown (h_t_1 _ _ _ hZ).1 dX5_readSpan_1 ?_
  refine q_call_i hA hK hw (va_runV (As := [.ref t_1]) (rest := []) ⟨hx, hb, hml, hown, hts⟩ (c_X5_require zo l D cy L0 f0 a0 t_1 m_a0 o_a0 b_t_1 v_t_1 nb_t_1 tx_t_1 hg _) (cwV 1 hts (gT (inV (mr7 _ (List.mem_of_getElem? (i := 17) rfl)) (mr7 _ (List.mem_of_getElem? (i := 18) rfl)) (mr7 _ (List.mem_of_getElem? (i := 19) rfl)) (mr5 _ (List.mem_of_getElem? (i := 18) rfl)) (mr7 _ (List.mem_of_getElem? (i := 20) rfl)))) rfl rfl rfl (by decide +kernel) ⟨Nat.le_of_ble_eq_true rfl, Nat.le_of_ble_eq_true rfl⟩) (Wd.preV zo hA hZ hw hK m_a0 o_a0 rfl) rfl rfl hl.1 rfl (lv_room (Nat.le_of_ble_eq_true rfl)) dX5_readSpan_3 ⟨Nat.le_of_ble_eq_true rfl, Nat.le_of_ble_eq_true rfl⟩) (fun x_2 L1 f_3 H locs lx_2 ux_2 ex_2 hw => ?_)
  obtain ⟨rfl, hg, hX, ex_2⟩ := ex_2
  have hE := hE.trans hs (hX.ey.al _)
  have o_a0 := hX.1.1 _ _ o_a0
  have o_a1 := hX.1.1 _ _ o_a1
  refine q_if_ne (tgt := 11) hx hb dX5_readSpan_6 (by decide) ⟨lx_2, ux_2⟩ (fun c6 => ?_) (fun c6 => ?_)
  · refine lv_aload_n hx hb dX5_readSpan_11 rfl (lv_at hl 0 rfl) ?_
    refine q_call_i hA hK hw (va_runV (As := []) (rest := []) ⟨hx, hb, hml, hown, hts⟩ (c_X5_readDate zo l D cy L0 f_3 a0 m_a0 o_a0 hg _) (cwV 0 hts (gT (inV (mr11 _ (List.mem_of_getElem? (i := 15) rfl)) (mr11 _ (List.mem_of_getElem? (i := 16) rfl)) (mr11 _ (List.mem_of_getElem? (i := 17) rfl)) (mr5 _ (List.mem_of_getElem? (i := 18) rfl)) (mr11 _ (List.mem_of_getElem? (i := 18) rfl)))) rfl rfl rfl (by decide +kernel) ⟨Nat.le_of_ble_eq_true rfl, Nat.le_of_ble_eq_true rfl⟩) (Wd.preV zo hA hZ hw hK m_a0 o_a0 rfl) rfl rfl hl.1 rfl (lv_room (Nat.le_of_ble_eq_true rfl)) dX5_readSpan_12 ⟨Nat.le_of_ble_eq_true rfl, Nat.le_of_ble_eq_true rfl⟩) (fun x_4 L1 f_5 H locs lx_4 ux_4 ex_4 hw => ?_)
    obtain ⟨rfl, hg, hX, ex_4⟩ := ex_4
    have hE := hE.trans hs (hX.ey.al _)
    have o_a0 := hX.1.1 _ _ o_a0
    have o_a1 := hX.1.1 _ _ o_a1
    refine lv_istore_n (lv' := [(2, .int (iI x_4)), (0, .ref a0), (1, .ref a1)]) hx hb dX5_readSpan_15 rfl hl (by decide) rfl (fun ls hl => ?_)
    refine lv_iload_n hx hb dX5_readSpan_16 rfl (lv_at hl 0 rfl) ?_
    refine q_iconst hx hb dX5_readSpan_17 ?_
    refine q_icmp_ne (tgt := 23) hx hb dX5_readSpan_18 (by decide) ⟨lx_4, ux_4⟩ ⟨by decide, by decide⟩ (fun c18 => ?_) (fun c18 => ?_)
    · refine lv_aload_n hx hb dX5_readSpan_23 rfl (lv_at hl 2 rfl) ?_
      refine lv_aload_n hx hb dX5_readSpan_24 rfl (lv_at hl 1 rfl) ?_
      refine lv_iload_n hx hb dX5_readSpan_25 rfl (lv_at hl 0 rfl) ?_
      refine q_call_r hA hK hw (va_runV (As := [.int (iI x_4)]) (rest := [.ref a1]) ⟨hx, hb, hml, hown, hts⟩ (c_X5_makeRule zo l D cy L0 f_5 a0 x_4 lx_4 ux_4 m_a0 o_a0 hg _) (cwV 1 hts (gT (inV (mr12 _ (List.mem_of_getElem? (i := 5) rfl)) (mr12 _ (List.mem_of_getElem? (i := 6) rfl)) (mr12 _ (List.mem_of_getElem? (i := 7) rfl)) (mr5 _ (List.mem_of_getElem? (i := 18) rfl)) (mr12 _ (List.mem_of_getElem? (i := 8) rfl)))) rfl rfl rfl (by decide +kernel) ⟨Nat.le_of_ble_eq_true rfl, Nat.le_of_ble_eq_true rfl⟩) (Wd.preV zo hA hZ hw hK m_a0 o_a0 rfl) rfl rfl hl.1 rfl (lv_room (Nat.le_of_ble_eq_true rfl)) dX5_readSpan_26 ⟨Nat.le_of_ble_eq_true rfl, Nat.le_of_ble_eq_true rfl⟩) (fun x_6 L_8 f_7 H locs ex_6 hw => ?_)
      obtain ⟨hs1, hg, hX, ex_6⟩ := ex_6
      have hE := hE.trans hs (hX)
      have o_a0 := hX.1 _ m_a0 _ o_a0
      have o_a1 := hX.1 _ m_a1 _ o_a1
      have m_a0 := hs1 _ m_a0
      have m_a1 := hs1 _ m_a1
      have hs : ∀ x ∈ L0, x ∈ L_8 := fun x h => hs1 x (hs x h)
      obtain ⟨m_x_6, o_x_6⟩ := ex_6
      refine q_call_v hA hK hw (va_runV (As := [.ref x_6]) (rest := []) ⟨hx, hb, hml, hown, hts⟩ (c_X0_begin zo l D cy L_8 f_7 a1 x_6 m_a1 o_a1 m_x_6 o_x_6 hg _) (cwV 1 hts (gT (inV (mr14 _ (List.mem_of_getElem? (i := 1) rfl)) (mr14 _ (List.mem_of_getElem? (i := 2) rfl)) (mr14 _ (List.mem_of_getElem? (i := 3) rfl)) (mr2 _ (List.mem_of_getElem? (i := 9) rfl)) (mr14 _ (List.mem_of_getElem? (i := 4) rfl)))) rfl rfl rfl (by decide +kernel) ⟨Nat.le_of_ble_eq_true rfl, Nat.le_of_ble_eq_true rfl⟩) (Wd.preV zo hA hZ hw hK m_a1 o_a1 rfl) rfl rfl hl.1 rfl (lv_room (Nat.le_of_ble_eq_true rfl)) dX5_readSpan_29 ⟨Nat.le_of_ble_eq_true rfl, Nat.le_of_ble_eq_true rfl⟩) (fun L1 f_10 H locs ex_9 hw => ?_)
      obtain ⟨rfl, hg, hX, ex_9⟩ := ex_9
      have hE := hE.trans hs (hX.ey.al _)
      have o_a0 := hX.1.1 _ _ o_a0
      have o_a1 := hX.1.1 _ _ o_a1
      refine lv_aload_n hx hb dX5_readSpan_32 rfl (lv_at hl 1 rfl) ?_
      obtain ⟨t_11, v_t_11, h_t_11⟩ : ∃ q v : Nat, ∀ (A : Nat → Prop) (U : State) (H : Heap), Z A U H → vk_R RX5 140 "times" q U ∧ Tx [116, 105, 109, 101, 115] q v A U H := ztx_15 zo
      obtain ⟨b_t_11, eb_t_11⟩ : ∃ b : List Int32, b = [116, 105, 109, 101, 115] := ⟨_, rfl⟩
      have nb_t_11 : Asc b_t_11 := by rw [eb_t_11]; exact ⟨by decide, by decide +kernel⟩
      have tx_t_11 : ∀ (A : Nat → Prop) (U : State) (H : Heap), Z A U H → Tx b_t_11 t_11 v_t_11 A U H := fun A U H h => by rw [eb_t_11]; exact (h_t_11 A U H h).2
      refine va_ldcS hx hb hown (h_t_11 _ _ _ hZ).1 dX5_readSpan_33 ?_
      refine q_call_i hA hK hw (va_runV (As := [.ref t_11]) (rest := []) ⟨hx, hb, hml, hown, hts⟩ (c_X5_take zo l D cy L_8 f_10 a0 t_11 m_a0 o_a0 b_t_11 v_t_11 nb_t_11 tx_t_11 hg _) (cwV 1 hts (gT (inV (mr7 _ (List.mem_of_getElem? (i := 21) rfl)) (mr7 _ (List.mem_of_getElem? (i := 22) rfl)) (mr7 _ (List.mem_of_getElem? (i := 23) rfl)) (mr5 _ (List.mem_of_getElem? (i := 18) rfl)) (mr8 _ (List.mem_of_getElem? (i := 0) rfl)))) rfl rfl rfl (by decide +kernel) ⟨Nat.le_of_ble_eq_true rfl, Nat.le_of_ble_eq_true rfl⟩) (Wd.preV zo hA hZ hw hK m_a0 o_a0 rfl) rfl rfl hl.1 rfl (lv_room (Nat.le_of_ble_eq_true rfl)) dX5_readSpan_35 ⟨Nat.le_of_ble_eq_true rfl, Nat.le_of_ble_eq_true rfl⟩) (fun x_12 L1 f_13 H locs lx_12 ux_12 ex_12 hw => ?_)
      obtain ⟨rfl, hg, hX, ex_12⟩ := ex_12
      have hE := hE.trans hs (hX.ey.al _)
      have o_a0 := hX.1.1 _ _ o_a0
      have o_a1 := hX.1.1 _ _ o_a1
      refine q_if_eq (tgt := 67) hx hb dX5_readSpan_38 (by decide) ⟨lx_12, ux_12⟩ (fun c38 => ?_) (fun c38 => ?_)
      · refine lv_aload_n hx hb dX5_readSpan_67 rfl (lv_at hl 1 rfl) ?_
        obtain ⟨t_14, v_t_14, h_t_14⟩ : ∃ q v : Nat, ∀ (A : Nat → Prop) (U : State) (H : Heap), Z A U H → vk_R RX5 144 "until" q U ∧ Tx [117, 110, 116, 105, 108] q v A U H := ztx_16 zo
        obtain ⟨b_t_14, eb_t_14⟩ : ∃ b : List Int32, b = [117, 110, 116, 105, 108] := ⟨_, rfl⟩
        have nb_t_14 : Asc b_t_14 := by rw [eb_t_14]; exact ⟨by decide, by decide +kernel⟩
        have tx_t_14 : ∀ (A : Nat → Prop) (U : State) (H : Heap), Z A U H → Tx b_t_14 t_14 v_t_14 A U H := fun A U H h => by rw [eb_t_14]; exact (h_t_14 A U H h).2
        refine va_ldcS hx hb hown (h_t_14 _ _ _ hZ).1 dX5_readSpan_68 ?_
        refine q_call_i hA hK hw (va_runV (As := [.ref t_14]) (rest := []) ⟨hx, hb, hml, hown, hts⟩ (c_X5_take zo l D cy L_8 f_13 a0 t_14 m_a0 o_a0 b_t_14 v_t_14 nb_t_14 tx_t_14 hg _) (cwV 1 hts (gT (inV (mr7 _ (List.mem_of_getElem? (i := 21) rfl)) (mr7 _ (List.mem_of_getElem? (i := 22) rfl)) (mr7 _ (List.mem_of_getElem? (i := 23) rfl)) (mr5 _ (List.mem_of_getElem? (i := 18) rfl)) (mr8 _ (List.mem_of_getElem? (i := 0) rfl)))) rfl rfl rfl (by decide +kernel) ⟨Nat.le_of_ble_eq_true rfl, Nat.le_of_ble_eq_true rfl⟩) (Wd.preV zo hA hZ hw hK m_a0 o_a0 rfl) rfl rfl hl.1 rfl (lv_room (Nat.le_of_ble_eq_true rfl)) dX5_readSpan_70 ⟨Nat.le_of_ble_eq_true rfl, Nat.le_of_ble_eq_true rfl⟩) (fun x_15 L1 f_16 H locs lx_15 ux_15 ex_15 hw => ?_)
        obtain ⟨rfl, hg, hX, ex_15⟩ := ex_15
        have hE := hE.trans hs (hX.ey.al _)
        have o_a0 := hX.1.1 _ _ o_a0
        have o_a1 := hX.1.1 _ _ o_a1
        refine q_if_eq (tgt := 85) hx hb dX5_readSpan_73 (by decide) ⟨lx_15, ux_15⟩ (fun c73 => ?_) (fun c73 => ?_)
        · refine q_iconst hx hb dX5_readSpan_85 ?_
          refine lv_goto (tgt := 90) hx hb dX5_readSpan_86 (by decide) ?_
          exact q_ret_z hx hb hr hlocks hK hAe hw (by omega) (Nat.le_of_ble_eq_true rfl) (Nat.le_of_ble_eq_true rfl) dX5_readSpan_90 (by exact ⟨hs, hg, hE, by first | trivial | omega⟩)
        · refine lv_aload_n hx hb dX5_readSpan_76 rfl (lv_at hl 1 rfl) ?_
          refine lv_aload_n hx hb dX5_readSpan_77 rfl (lv_at hl 2 rfl) ?_
          refine lv_iload_n hx hb dX5_readSpan_78 rfl (lv_at hl 0 rfl) ?_
          refine q_call_i hA hK hw (va_runV (As := [.ref a1, .int (iI x_4)]) (rest := []) ⟨hx, hb, hml, hown, hts⟩ (c_X5_readUntil zo l D cy L_8 f_16 a0 a1 x_4 lx_4 ux_4 m_a0 o_a0 m_a1 o_a1 hg _) (cwV 2 hts (gT (inV (mr14 _ (List.mem_of_getElem? (i := 10) rfl)) (mr14 _ (List.mem_of_getElem? (i := 11) rfl)) (mr14 _ (List.mem_of_getElem? (i := 12) rfl)) (mr5 _ (List.mem_of_getElem? (i := 18) rfl)) (mr14 _ (List.mem_of_getElem? (i := 13) rfl)))) rfl rfl rfl (by decide +kernel) ⟨Nat.le_of_ble_eq_true rfl, Nat.le_of_ble_eq_true rfl⟩) (Wd.preV zo hA hZ hw hK m_a0 o_a0 rfl) rfl rfl hl.1 rfl (lv_room (Nat.le_of_ble_eq_true rfl)) dX5_readSpan_79 ⟨Nat.le_of_ble_eq_true rfl, Nat.le_of_ble_eq_true rfl⟩) (fun x_17 L1 f_18 H locs lx_17 ux_17 ex_17 hw => ?_)
          obtain ⟨rfl, hg, hX, ex_17⟩ := ex_17
          have hE := hE.trans hs (hX.ey.al _)
          have o_a0 := hX.1.1 _ _ o_a0
          have o_a1 := hX.1.1 _ _ o_a1
          refine q_if_eq (tgt := 89) hx hb dX5_readSpan_82 (by decide) ⟨lx_17, ux_17⟩ (fun c82 => ?_) (fun c82 => ?_)
          · refine q_iconst hx hb dX5_readSpan_89 ?_
            exact q_ret_z hx hb hr hlocks hK hAe hw (by omega) (Nat.le_of_ble_eq_true rfl) (Nat.le_of_ble_eq_true rfl) dX5_readSpan_90 (by exact ⟨hs, hg, hE, by first | trivial | omega⟩)
          · refine q_iconst hx hb dX5_readSpan_85 ?_
            refine lv_goto (tgt := 90) hx hb dX5_readSpan_86 (by decide) ?_
            exact q_ret_z hx hb hr hlocks hK hAe hw (by omega) (Nat.le_of_ble_eq_true rfl) (Nat.le_of_ble_eq_true rfl) dX5_readSpan_90 (by exact ⟨hs, hg, hE, by first | trivial | omega⟩)
      · refine lv_aload_n hx hb dX5_readSpan_41 rfl (lv_at hl 2 rfl) ?_
        refine lv_aload_n hx hb dX5_readSpan_42 rfl (lv_at hl 1 rfl) ?_
        refine q_iconst hx hb dX5_readSpan_43 ?_
        refine q_sipush hx hb dX5_readSpan_44 rfl ?_
        refine q_call_i hA hK hw (va_runV (As := [.int (iI 1), .int (iI 999)]) (rest := [.ref a1]) ⟨hx, hb, hml, hown, hts⟩ (c_X5_takeNumber zo l D cy L_8 f_13 a0 1 (by decide) (by decide) 999 (by decide) (by decide) m_a0 o_a0 hg _) (cwV 2 hts (gT (inV (mr10 _ (List.mem_of_getElem? (i := 10) rfl)) (mr10 _ (List.mem_of_getElem? (i := 11) rfl)) (mr10 _ (List.mem_of_getElem? (i := 12) rfl)) (mr5 _ (List.mem_of_getElem? (i := 18) rfl)) (mr10 _ (List.mem_of_getElem? (i := 13) rfl)))) rfl rfl rfl (by decide +kernel) ⟨Nat.le_of_ble_eq_true rfl, Nat.le_of_ble_eq_true rfl⟩) (Wd.preV zo hA hZ hw hK m_a0 o_a0 rfl) rfl rfl hl.1 rfl (lv_room (Nat.le_of_ble_eq_true rfl)) dX5_readSpan_47 ⟨Nat.le_of_ble_eq_true rfl, Nat.le_of_ble_eq_true rfl⟩) (fun x_19 L1 f_20 H locs lx_19 ux_19 ex_19 hw => ?_)
        obtain ⟨rfl, hg, hX, ex_19⟩ := ex_19
        have hE := hE.trans hs (hX.ey.al _)
        have o_a0 := hX.1.1 _ _ o_a0
        have o_a1 := hX.1.1 _ _ o_a1
        refine q_puti (ci := 0) (C := RX0) (T := TX0) (N := 15) hx hb hts (fun w h => List.mem_cons_of_mem _ (mfX00 w h)) hown hK hw m_a1 o_a1 rfl 5 (by decide) (hts _ (List.mem_cons_of_mem _ (mr11 _ (List.mem_of_getElem? (i := 14) rfl)))) (fun _ h => h) tyX0 tyX0_ok nmX0 rfl (ty := .int) (by decide +kernel) rfl rfl dX5_readSpan_50 (fun H locs hw => ?_)
        have oo := o_a1
        obtain ⟨f_21, ef_21⟩ : ∃ g : Nat → va_E, g = pU f_20 a1 5 (.int (iI x_19)) := ⟨_, rfl⟩
        have hX : Ex cy f_20 f_21 := by rw [ef_21]; exact Ex_pU oo rfl rfl (by decide)
        have hg : GI cy L_8 f_21 := by rw [ef_21]; exact hg.putI oo rfl ⟨lx_19, ux_19⟩ trivial
        rw [← ef_21] at hw
        have hE := hE.trans hs (hX.ey.al _)
        have o_a0 := hX.1.1 _ _ o_a0
        have o_a1 := hX.1.1 _ _ o_a1
        have vf_21 : fI f_21 a1 5 = x_19 := by rw [ef_21]; exact fI_pU_self oo rfl ⟨lx_19, ux_19⟩
        refine lv_aload_n hx hb dX5_readSpan_53 rfl (lv_at hl 2 rfl) ?_
        refine q_geti (ci := 0) (C := RX0) (T := TX0) (N := 15) hx hb hts (fun w h => List.mem_cons_of_mem _ (mfX00 w h)) hown hK hw m_a1 o_a1 rfl 5 (by decide) (hts _ (List.mem_cons_of_mem _ (mr11 _ (List.mem_of_getElem? (i := 14) rfl)))) (fun _ h => h) rfl dX5_readSpan_54 (fun x_22 lx_22 ux_22 ex_22 => ?_)
        refine q_iconst hx hb dX5_readSpan_57 ?_
        refine q_icmp_eq (tgt := 65) hx hb dX5_readSpan_58 (by decide) ⟨lx_22, ux_22⟩ ⟨by decide, by decide⟩ (fun c58 => ?_) (fun c58 => ?_)
        · refine q_iconst hx hb dX5_readSpan_65 ?_
          exact q_ret_z hx hb hr hlocks hK hAe hw (by omega) (Nat.le_of_ble_eq_true rfl) (Nat.le_of_ble_eq_true rfl) dX5_readSpan_66 (by exact ⟨hs, hg, hE, by first | trivial | omega⟩)
        · refine q_iconst hx hb dX5_readSpan_61 ?_
          refine lv_goto (tgt := 66) hx hb dX5_readSpan_62 (by decide) ?_
          exact q_ret_z hx hb hr hlocks hK hAe hw (by omega) (Nat.le_of_ble_eq_true rfl) (Nat.le_of_ble_eq_true rfl) dX5_readSpan_66 (by exact ⟨hs, hg, hE, by first | trivial | omega⟩)
    · refine q_iconst hx hb dX5_readSpan_21 ?_
      exact q_ret_z hx hb hr hlocks hK hAe hw (by omega) (Nat.le_of_ble_eq_true rfl) (Nat.le_of_ble_eq_true rfl) dX5_readSpan_22 (by exact ⟨hs, hg, hE, by first | trivial | omega⟩)
  · refine q_iconst hx hb dX5_readSpan_9 ?_
    exact q_ret_z hx hb hr hlocks hK hAe hw (by omega) (Nat.le_of_ble_eq_true rfl) (Nat.le_of_ble_eq_true rfl) dX5_readSpan_10 (by exact ⟨hs, hg, hE, by first | trivial | omega⟩)
set_option maxHeartbeats 4000000 in
set_option maxRecDepth 100000 in
theorem c_X5_read {Z : Zt} (zo : Zok Z) (l : Launch) (D : va_G) (cy : Cy) (L0 : List Nat) (f0 : Nat → va_E) (a0 : Nat) (a1 : Nat) (m_a0 : a0 ∈ L0) (o_a0 : Ob f0 a0 4) (m_a1 : a1 ∈ L0) (o_a1 : Ob f0 a1 0) (hg : GI cy L0 f0) : Ci Z l yX5_read (Cond.code yX5_read cX5_read 2 (some .int) :: TB) ({ frames := 9, cells := 1, slots := 7, locals := 191 } : Room) 1 7 D (tq cy) [.ref a0, .ref a1] L0 f0 (fun (r : Int) (L1 : List Nat) (f1 : Nat → va_E) => (∀ x ∈ L0, x ∈ L1) ∧ GI cy L1 f1 ∧ Al cy L0 f0 f1 ∧ (True)) := by
  refine Ci.enter (cc := cX5_read) (n := 2) rfl (plainFor_of_name (by decide)) (Nat.le_of_ble_eq_true rfl) ?_
  intro p e s m below meth c ls A hx hb hr hts hown hlocks hnm hml hK hA hAe hw hZ hl
  have hown : s.vm.findClass RX5 = some m.cls := hown
  have hl : lv_has ls 2 [(0, .ref a0), (1, .ref a1)] := hl
  have hN : ZN s := (zo.2.2.2.2 _ _ _ hZ).2
  have hs : ∀ x ∈ L0, x ∈ L0 := fun _ h => h
  have hE : Al cy L0 f0 f0 := Al.refl cy L0 f0
  refine lv_aload_n hx hb dX5_read_0 rfl (lv_at hl 0 rfl) ?_
  refine q_call_v hA hK hw (va_runV (As := []) (rest := []) ⟨hx, hb, hml, hown, hts⟩ (c_X5_step zo l D cy L0 f0 a0 m_a0 o_a0 hg _) (cwV 0 hts (gT (inV (mr7 _ (List.mem_of_getElem? (i := 2) rfl)) (mr7 _ (List.mem_of_getElem? (i := 3) rfl)) (mr7 _ (List.mem_of_getElem? (i := 4) rfl)) (mr5 _ (List.mem_of_getElem? (i := 18) rfl)) (mr7 _ (List.mem_of_getElem? (i := 5) rfl)))) rfl rfl rfl (by decide +kernel) ⟨Nat.le_of_ble_eq_true rfl, Nat.le_of_ble_eq_true rfl⟩) (Wd.preV zo hA hZ hw hK m_a0 o_a0 rfl) rfl rfl hl.1 rfl (lv_room (Nat.le_of_ble_eq_true rfl)) dX5_read_1 ⟨Nat.le_of_ble_eq_true rfl, Nat.le_of_ble_eq_true rfl⟩) (fun L1 f_2 H locs ex_1 hw => ?_)
  obtain ⟨rfl, hg, hX, ex_1⟩ := ex_1
  have hE := hE.trans hs (hX.ey.al _)
  have o_a0 := hX.1.1 _ _ o_a0
  have o_a1 := hX.1.1 _ _ o_a1
  refine lv_aload_n hx hb dX5_read_4 rfl (lv_at hl 0 rfl) ?_
  refine lv_aload_n hx hb dX5_read_5 rfl (lv_at hl 1 rfl) ?_
  refine q_call_i hA hK hw (va_runV (As := [.ref a1]) (rest := []) ⟨hx, hb, hml, hown, hts⟩ (c_X5_readPlace zo l D cy L0 f_2 a0 a1 m_a0 o_a0 m_a1 o_a1 hg _) (cwV 1 hts (gT (inV (mr7 _ (List.mem_of_getElem? (i := 10) rfl)) (mr7 _ (List.mem_of_getElem? (i := 11) rfl)) (mr7 _ (List.mem_of_getElem? (i := 12) rfl)) (mr5 _ (List.mem_of_getElem? (i := 18) rfl)) (mr7 _ (List.mem_of_getElem? (i := 13) rfl)))) rfl rfl rfl (by decide +kernel) ⟨Nat.le_of_ble_eq_true rfl, Nat.le_of_ble_eq_true rfl⟩) (Wd.preV zo hA hZ hw hK m_a0 o_a0 rfl) rfl rfl hl.1 rfl (lv_room (Nat.le_of_ble_eq_true rfl)) dX5_read_6 ⟨Nat.le_of_ble_eq_true rfl, Nat.le_of_ble_eq_true rfl⟩) (fun x_3 L1 f_4 H locs lx_3 ux_3 ex_3 hw => ?_)
  obtain ⟨rfl, hg, hX, ex_3⟩ := ex_3
  have hE := hE.trans hs (hX.ey.al _)
  have o_a0 := hX.1.1 _ _ o_a0
  have o_a1 := hX.1.1 _ _ o_a1
  refine q_if_eq (tgt := 47) hx hb dX5_read_9 (by decide) ⟨lx_3, ux_3⟩ (fun c9 => ?_) (fun c9 => ?_)
  · refine lv_aload_n hx hb dX5_read_47 rfl (lv_at hl 0 rfl) ?_
    refine q_geti (ci := 4) (C := RX5) (T := TX5) (N := 10) hx hb hts (fun w h => List.mem_cons_of_mem _ (mfX50 w h)) hown hK hw m_a0 o_a0 rfl 5 (by decide) (hts _ (List.mem_cons_of_mem _ (mr6 _ (List.mem_of_getElem? (i := 6) rfl)))) (fun _ h => h) rfl dX5_read_48 (fun x_5 lx_5 ux_5 ex_5 => ?_)
    exact q_ret_i hx hb hr hlocks hK hAe hw ⟨lx_5, ux_5⟩ (Nat.le_of_ble_eq_true rfl) (Nat.le_of_ble_eq_true rfl) dX5_read_51 (by exact ⟨hs, hg, hE, by first | trivial | omega⟩)
  · refine lv_aload_n hx hb dX5_read_12 rfl (lv_at hl 0 rfl) ?_
    refine q_call_i hA hK hw (va_runV (As := []) (rest := []) ⟨hx, hb, hml, hown, hts⟩ (c_X5_readRule zo l D cy L0 f_4 a0 m_a0 o_a0 hg _) (cwV 0 hts (gT (inV (mr10 _ (List.mem_of_getElem? (i := 14) rfl)) (mr10 _ (List.mem_of_getElem? (i := 15) rfl)) (mr10 _ (List.mem_of_getElem? (i := 16) rfl)) (mr5 _ (List.mem_of_getElem? (i := 18) rfl)) (mr10 _ (List.mem_of_getElem? (i := 17) rfl)))) rfl rfl rfl (by decide +kernel) ⟨Nat.le_of_ble_eq_true rfl, Nat.le_of_ble_eq_true rfl⟩) (Wd.preV zo hA hZ hw hK m_a0 o_a0 rfl) rfl rfl hl.1 rfl (lv_room (Nat.le_of_ble_eq_true rfl)) dX5_read_13 ⟨Nat.le_of_ble_eq_true rfl, Nat.le_of_ble_eq_true rfl⟩) (fun x_6 L1 f_7 H locs lx_6 ux_6 ex_6 hw => ?_)
    obtain ⟨rfl, hg, hX, ex_6⟩ := ex_6
    have hE := hE.trans hs (hX.ey.al _)
    have o_a0 := hX.1.1 _ _ o_a0
    have o_a1 := hX.1.1 _ _ o_a1
    refine q_if_eq (tgt := 47) hx hb dX5_read_16 (by decide) ⟨lx_6, ux_6⟩ (fun c16 => ?_) (fun c16 => ?_)
    · refine lv_aload_n hx hb dX5_read_47 rfl (lv_at hl 0 rfl) ?_
      refine q_geti (ci := 4) (C := RX5) (T := TX5) (N := 10) hx hb hts (fun w h => List.mem_cons_of_mem _ (mfX50 w h)) hown hK hw m_a0 o_a0 rfl 5 (by decide) (hts _ (List.mem_cons_of_mem _ (mr6 _ (List.mem_of_getElem? (i := 6) rfl)))) (fun _ h => h) rfl dX5_read_48 (fun x_8 lx_8 ux_8 ex_8 => ?_)
      exact q_ret_i hx hb hr hlocks hK hAe hw ⟨lx_8, ux_8⟩ (Nat.le_of_ble_eq_true rfl) (Nat.le_of_ble_eq_true rfl) dX5_read_51 (by exact ⟨hs, hg, hE, by first | trivial | omega⟩)
    · refine lv_aload_n hx hb dX5_read_19 rfl (lv_at hl 0 rfl) ?_
      refine lv_aload_n hx hb dX5_read_20 rfl (lv_at hl 1 rfl) ?_
      refine q_call_i hA hK hw (va_runV (As := [.ref a1]) (rest := []) ⟨hx, hb, hml, hown, hts⟩ (c_X5_readSpan zo l D cy L0 f_7 a0 a1 m_a0 o_a0 m_a1 o_a1 hg _) (cwV 1 hts (gT (inV (mr11 _ (List.mem_of_getElem? (i := 10) rfl)) (mr11 _ (List.mem_of_getElem? (i := 11) rfl)) (mr11 _ (List.mem_of_getElem? (i := 12) rfl)) (mr5 _ (List.mem_of_getElem? (i := 18) rfl)) (mr11 _ (List.mem_of_getElem? (i := 13) rfl)))) rfl rfl rfl (by decide +kernel) ⟨Nat.le_of_ble_eq_true rfl, Nat.le_of_ble_eq_true rfl⟩) (Wd.preV zo hA hZ hw hK m_a0 o_a0 rfl) rfl rfl hl.1 rfl (lv_room (Nat.le_of_ble_eq_true rfl)) dX5_read_21 ⟨Nat.le_of_ble_eq_true rfl, Nat.le_of_ble_eq_true rfl⟩) (fun x_9 L_11 f_10 H locs lx_9 ux_9 ex_9 hw => ?_)
      obtain ⟨hs1, hg, hX, ex_9⟩ := ex_9
      have hE := hE.trans hs (hX)
      have o_a0 := hX.1 _ m_a0 _ o_a0
      have o_a1 := hX.1 _ m_a1 _ o_a1
      have m_a0 := hs1 _ m_a0
      have m_a1 := hs1 _ m_a1
      have hs : ∀ x ∈ L0, x ∈ L_11 := fun x h => hs1 x (hs x h)
      refine q_if_eq (tgt := 47) hx hb dX5_read_24 (by decide) ⟨lx_9, ux_9⟩ (fun c24 => ?_) (fun c24 => ?_)
      · refine lv_aload_n hx hb dX5_read_47 rfl (lv_at hl 0 rfl) ?_
        refine q_geti (ci := 4) (C := RX5) (T := TX5) (N := 10) hx hb hts (fun w h => List.mem_cons_of_mem _ (mfX50 w h)) hown hK hw m_a0 o_a0 rfl 5 (by decide) (hts _ (List.mem_cons_of_mem _ (mr6 _ (List.mem_of_getElem? (i := 6) rfl)))) (fun _ h => h) rfl dX5_read_48 (fun x_12 lx_12 ux_12 ex_12 => ?_)
        exact q_ret_i hx hb hr hlocks hK hAe hw ⟨lx_12, ux_12⟩ (Nat.le_of_ble_eq_true rfl) (Nat.le_of_ble_eq_true rfl) dX5_read_51 (by exact ⟨hs, hg, hE, by first | trivial | omega⟩)
      · refine lv_aload_n hx hb dX5_read_27 rfl (lv_at hl 0 rfl) ?_
        refine q_geti (ci := 4) (C := RX5) (T := TX5) (N := 10) hx hb hts (fun w h => List.mem_cons_of_mem _ (mfX50 w h)) hown hK hw m_a0 o_a0 rfl 2 (by decide) (hts _ (List.mem_cons_of_mem _ (mr6 _ (List.mem_of_getElem? (i := 3) rfl)))) (fun _ h => h) rfl dX5_read_28 (fun x_13 lx_13 ux_13 ex_13 => ?_)
        refine q_if_ne (tgt := 41) hx hb dX5_read_31 (by decide) ⟨lx_13, ux_13⟩ (fun c31 => ?_) (fun c31 => ?_)
        · refine lv_aload_n hx hb dX5_read_41 rfl (lv_at hl 0 rfl) ?_
          refine q_iconst hx hb dX5_read_42 ?_
          refine q_call_i hA hK hw (va_runV (As := [.int (iI 1)]) (rest := []) ⟨hx, hb, hml, hown, hts⟩ (c_X5_refuse zo l D cy L_11 f_10 a0 1 (by decide) (by decide) m_a0 o_a0 hg _) (cwV 1 hts (gT (inV (mr10 _ (List.mem_of_getElem? (i := 6) rfl)) (mr10 _ (List.mem_of_getElem? (i := 7) rfl)) (mr10 _ (List.mem_of_getElem? (i := 8) rfl)) (mr5 _ (List.mem_of_getElem? (i := 18) rfl)) (mr10 _ (List.mem_of_getElem? (i := 9) rfl)))) rfl rfl rfl (by decide +kernel) ⟨Nat.le_of_ble_eq_true rfl, Nat.le_of_ble_eq_true rfl⟩) (Wd.preV zo hA hZ hw hK m_a0 o_a0 rfl) rfl rfl hl.1 rfl (lv_room (Nat.le_of_ble_eq_true rfl)) dX5_read_43 ⟨Nat.le_of_ble_eq_true rfl, Nat.le_of_ble_eq_true rfl⟩) (fun x_14 L1 f_15 H locs lx_14 ux_14 ex_14 hw => ?_)
          obtain ⟨rfl, hg, hX, ex_14⟩ := ex_14
          have hE := hE.trans hs (hX.ey.al _)
          have o_a0 := hX.1.1 _ _ o_a0
          have o_a1 := hX.1.1 _ _ o_a1
          refine lv_pop hx hb dX5_read_46 rfl ?_
          refine lv_aload_n hx hb dX5_read_47 rfl (lv_at hl 0 rfl) ?_
          refine q_geti (ci := 4) (C := RX5) (T := TX5) (N := 10) hx hb hts (fun w h => List.mem_cons_of_mem _ (mfX50 w h)) hown hK hw m_a0 o_a0 rfl 5 (by decide) (hts _ (List.mem_cons_of_mem _ (mr6 _ (List.mem_of_getElem? (i := 6) rfl)))) (fun _ h => h) rfl dX5_read_48 (fun x_16 lx_16 ux_16 ex_16 => ?_)
          exact q_ret_i hx hb hr hlocks hK hAe hw ⟨lx_16, ux_16⟩ (Nat.le_of_ble_eq_true rfl) (Nat.le_of_ble_eq_true rfl) dX5_read_51 (by exact ⟨hs, hg, hE, by first | trivial | omega⟩)
        · refine lv_aload_n hx hb dX5_read_34 rfl (lv_at hl 1 rfl) ?_
          refine q_call_v hA hK hw (va_runV (As := []) (rest := []) ⟨hx, hb, hml, hown, hts⟩ (c_X0_settle zo l D cy L_11 f_10 a1 m_a1 o_a1 hg _) (cwV 0 hts (gT (inV (mr14 _ (List.mem_of_getElem? (i := 15) rfl)) (mr14 _ (List.mem_of_getElem? (i := 16) rfl)) (mr14 _ (List.mem_of_getElem? (i := 17) rfl)) (mr2 _ (List.mem_of_getElem? (i := 9) rfl)) (mr14 _ (List.mem_of_getElem? (i := 18) rfl)))) rfl rfl rfl (by decide +kernel) ⟨Nat.le_of_ble_eq_true rfl, Nat.le_of_ble_eq_true rfl⟩) (Wd.preV zo hA hZ hw hK m_a1 o_a1 rfl) rfl rfl hl.1 rfl (lv_room (Nat.le_of_ble_eq_true rfl)) dX5_read_35 ⟨Nat.le_of_ble_eq_true rfl, Nat.le_of_ble_eq_true rfl⟩) (fun L1 f_18 H locs ex_17 hw => ?_)
          obtain ⟨rfl, hg, hX, ex_17⟩ := ex_17
          have hE := hE.trans hs (hX.ey.al _)
          have o_a0 := hX.1.1 _ _ o_a0
          have o_a1 := hX.1.1 _ _ o_a1
          refine lv_goto (tgt := 47) hx hb dX5_read_38 (by decide) ?_
          refine lv_aload_n hx hb dX5_read_47 rfl (lv_at hl 0 rfl) ?_
          refine q_geti (ci := 4) (C := RX5) (T := TX5) (N := 10) hx hb hts (fun w h => List.mem_cons_of_mem _ (mfX50 w h)) hown hK hw m_a0 o_a0 rfl 5 (by decide) (hts _ (List.mem_cons_of_mem _ (mr6 _ (List.mem_of_getElem? (i := 6) rfl)))) (fun _ h => h) rfl dX5_read_48 (fun x_19 lx_19 ux_19 ex_19 => ?_)
          exact q_ret_i hx hb hr hlocks hK hAe hw ⟨lx_19, ux_19⟩ (Nat.le_of_ble_eq_true rfl) (Nat.le_of_ble_eq_true rfl) dX5_read_51 (by exact ⟨hs, hg, hE, by first | trivial | omega⟩)
set_option maxHeartbeats 4000000 in
set_option maxRecDepth 100000 in
theorem c_X9_book {Z : Zt} (zo : Zok Z) (l : Launch) (D : va_G) (cy : Cy) (L0 : List Nat) (f0 : Nat → va_E) (a0 : Nat) (m_a0 : a0 ∈ L0) (o_a0 : Ob f0 a0 7) (hg : GI cy L0 f0) : Ci Z l yX9_book (Cond.code yX9_book cX9_book 4 (some .int) :: TB) ({ frames := 10, cells := 2, slots := 17, locals := 212 } : Room) 2 17 D (tq cy) [.ref a0] L0 f0 (fun (r : Int) (L1 : List Nat) (f1 : Nat → va_E) => (∀ x ∈ L0, x ∈ L1) ∧ GI cy L1 f1 ∧ Al cy L0 f0 f1 ∧ (True)) := by
  refine Ci.enter (cc := cX9_book) (n := 4) rfl (plainFor_of_name (by decide)) (Nat.le_of_ble_eq_true rfl) ?_
  intro p e s m below meth c ls A hx hb hr hts hown hlocks hnm hml hK hA hAe hw hZ hl
  have hown : s.vm.findClass RX9 = some m.cls := hown
  have hl : lv_has ls 4 [(0, .ref a0)] := hl
  have hN : ZN s := (zo.2.2.2.2 _ _ _ hZ).2
  have hs : ∀ x ∈ L0, x ∈ L0 := fun _ h => h
  have hE : Al cy L0 f0 f0 := Al.refl cy L0 f0
  refine lv_aload_n hx hb dX9_book_0 rfl (lv_at hl 0 rfl) ?_
  refine q_geti (ci := 7) (C := RX9) (T := TX9) (N := 4) hx hb hts (fun w h => List.mem_cons_of_mem _ (mfX90 w h)) hown hK hw m_a0 o_a0 rfl 1 (by decide) (hts _ (List.mem_cons_of_mem _ (mr1 _ (List.mem_of_getElem? (i := 16) rfl)))) (fun _ h => h) rfl dX9_book_1 (fun x_1 lx_1 ux_1 ex_1 => ?_)
  have bx_1 : 0 ≤ x_1 ∧ x_1 ≤ 168 := by rw [ex_1]; exact hg.1 _ m_a0 7 1 o_a0
  refine lv_istore_n (lv' := [(1, .int (iI x_1)), (0, .ref a0)]) hx hb dX9_book_4 rfl hl (by decide) rfl (fun ls hl => ?_)
  refine lv_aload_n hx hb dX9_book_5 rfl (lv_at hl 1 rfl) ?_
  refine q_iconst hx hb dX9_book_6 ?_
  refine q_puti (ci := 7) (C := RX9) (T := TX9) (N := 4) hx hb hts (fun w h => List.mem_cons_of_mem _ (mfX90 w h)) hown hK hw m_a0 o_a0 rfl 1 (by decide) (hts _ (List.mem_cons_of_mem _ (mr1 _ (List.mem_of_getElem? (i := 16) rfl)))) (fun _ h => h) tyX9 tyX9_ok nmX9 rfl (ty := .int) (by decide +kernel) rfl rfl dX9_book_7 (fun H locs hw => ?_)
  have oo := o_a0
  obtain ⟨f_2, ef_2⟩ : ∃ g : Nat → va_E, g = pU f0 a0 1 (.int (iI 0)) := ⟨_, rfl⟩
  have hX : Ey cy f0 f_2 := by rw [ef_2]; exact Ey_pU oo rfl
  have hg : GI cy L0 f_2 := by rw [ef_2]; exact hg.putI oo rfl ⟨by decide, by decide⟩ (by show 0 ≤ 0 ∧ 0 ≤ 168; omega)
  rw [← ef_2] at hw
  have hE := hE.trans hs (hX.al _)
  have o_a0 := hX.1.1 _ _ o_a0
  have vf_2 : fI f_2 a0 1 = 0 := by rw [ef_2]; exact fI_pU_self oo rfl ⟨by decide, by decide⟩
  refine lv_iload_n hx hb dX9_book_10 rfl (lv_at hl 0 rfl) ?_
  refine q_sipush hx hb dX9_book_11 rfl ?_
  refine q_icmp_gt (tgt := 27) hx hb dX9_book_14 (by decide) ⟨lx_1, ux_1⟩ ⟨by decide, by decide⟩ (fun c14 => ?_) (fun c14 => ?_)
  · refine q_iconst hx hb dX9_book_27 ?_
    exact q_ret_i hx hb hr hlocks hK hAe hw ⟨by decide, by decide⟩ (Nat.le_of_ble_eq_true rfl) (Nat.le_of_ble_eq_true rfl) dX9_book_28 (by exact ⟨hs, hg, hE, by first | trivial | omega⟩)
  · refine lv_aload_n hx hb dX9_book_17 rfl (lv_at hl 1 rfl) ?_
    obtain ⟨r_3, er_3, m_r_3, o_r_3⟩ := (show ∃ r, fR f_2 a0 2 = some r ∧ r ∈ L0 ∧ Ob f_2 r 5 from hg.2.1 _ m_a0 7 2 o_a0)
    refine q_getr (ci := 7) (C := RX9) (T := TX9) (N := 4) hx hb hts (fun w h => List.mem_cons_of_mem _ (mfX90 w h)) hown hK hw m_a0 o_a0 rfl 2 (by decide) (hts _ (List.mem_cons_of_mem _ (mr1 _ (List.mem_of_getElem? (i := 20) rfl)))) (fun _ h => h) rfl er_3 dX9_book_18 ?_
    refine q_call_i hA hK hw (va_runV (As := []) (rest := []) ⟨hx, hb, hml, hown, hts⟩ (c_X7_isFull zo l D cy L0 f_2 r_3 m_r_3 o_r_3 hg _) (cwV 0 hts (gT (inV (mr5 _ (List.mem_of_getElem? (i := 19) rfl)) (mr5 _ (List.mem_of_getElem? (i := 20) rfl)) (mr5 _ (List.mem_of_getElem? (i := 21) rfl)) (mr1 _ (List.mem_of_getElem? (i := 19) rfl)) (mr5 _ (List.mem_of_getElem? (i := 22) rfl)))) rfl rfl rfl (by decide +kernel) ⟨Nat.le_of_ble_eq_true rfl, Nat.le_of_ble_eq_true rfl⟩) (Wd.preV zo hA hZ hw hK m_r_3 o_r_3 rfl) rfl rfl hl.1 rfl (lv_room (Nat.le_of_ble_eq_true rfl)) dX9_book_21 ⟨Nat.le_of_ble_eq_true rfl, Nat.le_of_ble_eq_true rfl⟩) (fun x_4 L1 f1 H locs lx_4 ux_4 ex_4 hw => ?_)
    obtain ⟨rfl, rfl, ex_4⟩ := ex_4
    refine q_if_eq (tgt := 29) hx hb dX9_book_24 (by decide) ⟨lx_4, ux_4⟩ (fun c24 => ?_) (fun c24 => ?_)
    · refine q_new (ci := 4) (C := RX5) (T := TX5) (N := 10) (fs := [.null, .int 0, .int 0, .int 0, .int 0, .int 0, .int 0, .int 0, .int 0, .int 0]) hx hb hts (fun w h => List.mem_cons_of_mem _ (mfX50 w h)) tyX5 tyX5_ok hown (hts _ (List.mem_cons_of_mem _ (mr5 _ (List.mem_of_getElem? (i := 16) rfl)))) (hts _ (List.mem_cons_of_mem _ (mr5 _ (List.mem_of_getElem? (i := 17) rfl)))) (hts _ (List.mem_cons_of_mem _ (mr5 _ (List.mem_of_getElem? (i := 18) rfl)))) hK hw hA rfl (by decide) (Nat.le_of_ble_eq_true rfl) (Nat.le_of_ble_eq_true rfl) dX9_book_29 (fun q_5 H n_q_5 hw => ?_)
      obtain ⟨f_6, ef_6⟩ : ∃ g : Nat → va_E, g = va_up f_2 q_5 (.inr (4, [.null, .int 0, .int 0, .int 0, .int 0, .int 0, .int 0, .int 0, .int 0, .int 0])) := ⟨_, rfl⟩
      rw [← ef_6] at hw
      have hX : Al cy L0 f_2 f_6 := by rw [ef_6]; exact Al.push n_q_5
      have hg : GI cy L0 f_6 := by rw [ef_6]; exact hg.push n_q_5
      have hM : ∀ x ∈ L0, x ∈ L0 ++ [q_5] := fun x h => List.mem_append_left _ h
      have hs0 := hs
      have hE := hE.trans hs (hX)
      have o_a0 := hX.1 _ m_a0 _ o_a0
      have mg_a0 := m_a0
      have m_a0 := hM _ m_a0
      have hs : ∀ x ∈ L0, x ∈ L0 ++ [q_5] := fun x h => hM x (hs x h)
      have m_q_5 : q_5 ∈ L0 ++ [q_5] := List.mem_append_right _ (List.mem_singleton.mpr rfl)
      have o_q_5 : Ob f_6 q_5 4 := by rw [ef_6]; exact ⟨_, va_up_self _ _ _, rfl⟩
      refine lv_dup hx hb dX9_book_32 rfl ?_
      refine lv_aload_n hx hb dX9_book_33 rfl (lv_at hl 1 rfl) ?_
      obtain ⟨r_7, er_7, mg_r_7, o_r_7⟩ := (show ∃ r, fR f_6 a0 0 = some r ∧ r ∈ L0 ∧ ArI f_6 r cy.1 168 from hg.2.1 _ mg_a0 7 0 o_a0)
      have m_r_7 := hM _ mg_r_7
      refine q_getr (ci := 7) (C := RX9) (T := TX9) (N := 4) hx hb hts (fun w h => List.mem_cons_of_mem _ (mfX90 w h)) hown hK hw m_a0 o_a0 rfl 0 (by decide) (hts _ (List.mem_cons_of_mem _ (mr1 _ (List.mem_of_getElem? (i := 15) rfl)))) (fun _ h => h) rfl er_7 dX9_book_34 ?_
      refine lv_iload_n hx hb dX9_book_37 rfl (lv_at hl 0 rfl) ?_
      refine q_call_v hA hK hw (va_runI (As := [.ref r_7, .int (iI x_1)]) (rest := [.ref q_5]) ⟨hx, hb, hml, hown, hts⟩ (c_X5_init zo l D cy (L0 ++ [q_5]) f_6 q_5 r_7 x_1 lx_1 ux_1 m_q_5 o_q_5 m_r_7 o_r_7 (L0) hM hg mg_r_7 (by omega) (by omega) _) (cwI 2 hts (gT (inC (mr6 _ (List.mem_of_getElem? (i := 1) rfl)))) rfl rfl rfl (hts _ (List.mem_cons_of_mem _ (mr5 _ (List.mem_of_getElem? (i := 18) rfl)))) (hts _ (List.mem_cons_of_mem _ (mr5 _ (List.mem_of_getElem? (i := 23) rfl)))) (hts _ (List.mem_cons_of_mem _ (mr6 _ (List.mem_of_getElem? (i := 0) rfl)))) rfl (by decide +kernel) ⟨Nat.le_of_ble_eq_true rfl, Nat.le_of_ble_eq_true rfl⟩) (Wd.preS zo hA hZ hw hK) rfl rfl hl.1 rfl (lv_room (Nat.le_of_ble_eq_true rfl)) dX9_book_38 ⟨Nat.le_of_ble_eq_true rfl, Nat.le_of_ble_eq_true rfl⟩) (fun L1 f_9 H locs ex_8 hw => ?_)
      obtain ⟨rfl, hg, hX, ex_8⟩ := ex_8
      have hE := hE.trans hs (hX.ey.al _)
      have o_a0 := hX.1.1 _ _ o_a0
      have o_q_5 := hX.1.1 _ _ o_q_5
      have o_r_7 := hX.1.2.1 _ _ _ o_r_7
      have ex_8 := ex_8.2
      have hg := hg.addOb o_q_5 (fcond_4 ex_8.1) (rcond_4 ⟨ex_8.2, List.mem_append_left _ mg_r_7, o_r_7⟩)
      refine lv_astore_n (lv' := [(2, .ref q_5), (1, .int (iI x_1)), (0, .ref a0)]) hx hb dX9_book_41 rfl hl (by decide) rfl (fun ls hl => ?_)
      refine lv_aload_n hx hb dX9_book_42 rfl (lv_at hl 0 rfl) ?_
      refine lv_aload_n hx hb dX9_book_43 rfl (lv_at hl 2 rfl) ?_
      obtain ⟨r_10, er_10, m_r_10, o_r_10⟩ := (show ∃ r, fR f_9 a0 2 = some r ∧ r ∈ (L0 ++ [q_5]) ∧ Ob f_9 r 5 from hg.2.1 _ m_a0 7 2 o_a0)
      refine q_getr (ci := 7) (C := RX9) (T := TX9) (N := 4) hx hb hts (fun w h => List.mem_cons_of_mem _ (mfX90 w h)) hown hK hw m_a0 o_a0 rfl 2 (by decide) (hts _ (List.mem_cons_of_mem _ (mr1 _ (List.mem_of_getElem? (i := 20) rfl)))) (fun _ h => h) rfl er_10 dX9_book_44 ?_
      refine q_call_r hA hK hw (va_runV (As := []) (rest := [.ref q_5]) ⟨hx, hb, hml, hown, hts⟩ (c_X7_spare zo l D cy (L0 ++ [q_5]) f_9 r_10 m_r_10 o_r_10 hg _) (cwV 0 hts (gT (inV (mr6 _ (List.mem_of_getElem? (i := 17) rfl)) (mr6 _ (List.mem_of_getElem? (i := 18) rfl)) (mr6 _ (List.mem_of_getElem? (i := 19) rfl)) (mr1 _ (List.mem_of_getElem? (i := 19) rfl)) (mr6 _ (List.mem_of_getElem? (i := 20) rfl)))) rfl rfl rfl (by decide +kernel) ⟨Nat.le_of_ble_eq_true rfl, Nat.le_of_ble_eq_true rfl⟩) (Wd.preV zo hA hZ hw hK m_r_10 o_r_10 rfl) rfl rfl hl.1 rfl (lv_room (Nat.le_of_ble_eq_true rfl)) dX9_book_47 ⟨Nat.le_of_ble_eq_true rfl, Nat.le_of_ble_eq_true rfl⟩) (fun x_11 L1 f1 H locs ex_11 hw => ?_)
      obtain ⟨rfl, rfl, ex_11⟩ := ex_11
      obtain ⟨m_x_11, o_x_11⟩ := ex_11
      refine q_call_i hA hK hw (va_runV (As := [.ref x_11]) (rest := []) ⟨hx, hb, hml, hown, hts⟩ (c_X5_read zo l D cy (L0 ++ [q_5]) f_9 q_5 x_11 m_q_5 o_q_5 m_x_11 o_x_11 hg _) (cwV 1 hts (gT (inV (mr6 _ (List.mem_of_getElem? (i := 22) rfl)) (mr6 _ (List.mem_of_getElem? (i := 23) rfl)) (mr7 _ (List.mem_of_getElem? (i := 0) rfl)) (mr5 _ (List.mem_of_getElem? (i := 18) rfl)) (mr7 _ (List.mem_of_getElem? (i := 1) rfl)))) rfl rfl rfl (by decide +kernel) ⟨Nat.le_of_ble_eq_true rfl, Nat.le_of_ble_eq_true rfl⟩) (Wd.preV zo hA hZ hw hK m_q_5 o_q_5 rfl) rfl rfl hl.1 rfl (lv_room (Nat.le_of_ble_eq_true rfl)) dX9_book_50 ⟨Nat.le_of_ble_eq_true rfl, Nat.le_of_ble_eq_true rfl⟩) (fun x_12 L_14 f_13 H locs lx_12 ux_12 ex_12 hw => ?_)
      obtain ⟨hs1, hg, hX, ex_12⟩ := ex_12
      have hE := hE.trans hs (hX)
      have o_q_5 := hX.1 _ m_q_5 _ o_q_5
      have o_a0 := hX.1 _ m_a0 _ o_a0
      have m_q_5 := hs1 _ m_q_5
      have m_a0 := hs1 _ m_a0
      have hs : ∀ x ∈ L0, x ∈ L_14 := fun x h => hs1 x (hs x h)
      refine lv_istore_n (lv' := [(3, .int (iI x_12)), (2, .ref q_5), (1, .int (iI x_1)), (0, .ref a0)]) hx hb dX9_book_53 rfl hl (by decide) rfl (fun ls hl => ?_)
      refine lv_iload_n hx hb dX9_book_54 rfl (lv_at hl 0 rfl) ?_
      refine q_if_eq (tgt := 63) hx hb dX9_book_55 (by decide) ⟨lx_12, ux_12⟩ (fun c55 => ?_) (fun c55 => ?_)
      · refine lv_aload_n hx hb dX9_book_63 rfl (lv_at hl 3 rfl) ?_
        obtain ⟨r_15, er_15, m_r_15, o_r_15⟩ := (show ∃ r, fR f_13 a0 2 = some r ∧ r ∈ L_14 ∧ Ob f_13 r 5 from hg.2.1 _ m_a0 7 2 o_a0)
        refine q_getr (ci := 7) (C := RX9) (T := TX9) (N := 4) hx hb hts (fun w h => List.mem_cons_of_mem _ (mfX90 w h)) hown hK hw m_a0 o_a0 rfl 2 (by decide) (hts _ (List.mem_cons_of_mem _ (mr1 _ (List.mem_of_getElem? (i := 20) rfl)))) (fun _ h => h) rfl er_15 dX9_book_64 ?_
        refine q_call_i hA hK hw (va_runV (As := []) (rest := []) ⟨hx, hb, hml, hown, hts⟩ (c_X7_keepSpare zo l D cy L_14 f_13 r_15 m_r_15 o_r_15 hg _) (cwV 0 hts (gT (inV (mr18 _ (List.mem_of_getElem? (i := 16) rfl)) (mr18 _ (List.mem_of_getElem? (i := 17) rfl)) (mr18 _ (List.mem_of_getElem? (i := 18) rfl)) (mr1 _ (List.mem_of_getElem? (i := 19) rfl)) (mr18 _ (List.mem_of_getElem? (i := 19) rfl)))) rfl rfl rfl (by decide +kernel) ⟨Nat.le_of_ble_eq_true rfl, Nat.le_of_ble_eq_true rfl⟩) (Wd.preV zo hA hZ hw hK m_r_15 o_r_15 rfl) rfl rfl hl.1 rfl (lv_room (Nat.le_of_ble_eq_true rfl)) dX9_book_67 ⟨Nat.le_of_ble_eq_true rfl, Nat.le_of_ble_eq_true rfl⟩) (fun x_16 L1 f_17 H locs lx_16 ux_16 ex_16 hw => ?_)
        obtain ⟨rfl, hg, hX, ex_16⟩ := ex_16
        have hE := hE.trans hs (hX.ey.al _)
        have o_q_5 := hX.1.1 _ _ o_q_5
        have o_a0 := hX.1.1 _ _ o_a0
        exact q_ret_i hx hb hr hlocks hK hAe hw ⟨lx_16, ux_16⟩ (Nat.le_of_ble_eq_true rfl) (Nat.le_of_ble_eq_true rfl) dX9_book_70 (by exact ⟨hs, hg, hE, by first | trivial | omega⟩)
      · refine q_bipush hx hb dX9_book_58 rfl ?_
        refine lv_iload_n hx hb dX9_book_60 rfl (lv_at hl 0 rfl) ?_
        first | refine q_isub hx hb dX9_book_61 ⟨by omega, by omega⟩ (fun x_18 lx_18 ux_18 ex_18 => ?_) | refine q_isubw hx hb dX9_book_61 (fun x_18 lx_18 ux_18 _ => ?_)
        exact q_ret_i hx hb hr hlocks hK hAe hw ⟨lx_18, ux_18⟩ (Nat.le_of_ble_eq_true rfl) (Nat.le_of_ble_eq_true rfl) dX9_book_62 (by exact ⟨hs, hg, hE, by first | trivial | omega⟩)
    · refine q_iconst hx hb dX9_book_27 ?_
      exact q_ret_i hx hb hr hlocks hK hAe hw ⟨by decide, by decide⟩ (Nat.le_of_ble_eq_true rfl) (Nat.le_of_ble_eq_true rfl) dX9_book_28 (by exact ⟨hs, hg, hE, by first | trivial | omega⟩)
