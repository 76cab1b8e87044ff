set_option maxHeartbeats 4000000 in
set_option maxRecDepth 100000 in
theorem c_J0_coder_7d493 {Z : Zt} (zo : Zok Z) (l : Launch) (D : va_G) (cy : Cy) (L0 : List Nat) (f0 : Nat → va_E) (a0 : Nat) (b_a0 : List Int32) (v_a0 : Nat) (nb_a0 : Asc b_a0) (tx_a0 : ∀ (A : Nat → Prop) (U : State) (H : Heap), Z A U H → Tx b_a0 a0 v_a0 A U H) : Ci Z l yJ0_coder_7d493 (Cond.code yJ0_coder_7d493 cJ0_coder_7d493 1 (some .byte) :: TB) ({ frames := 0, cells := 0, slots := 0, locals := 0 } : Room) 0 0 D (tq cy) [.ref a0] L0 f0 (fun (r : Int) (L1 : List Nat) (f1 : Nat → va_E) => L0 = L1 ∧ f0 = f1 ∧ (r = 0)) := by
  refine Ci.enter (cc := cJ0_coder_7d493) (n := 1) rfl (by decide +kernel) (Nat.le_of_ble_eq_true rfl) ?_
  intro p e s m below meth c ls A hx hb hr hts hown hlocks hnm hml hK hA hAe hw hZ hl
  have hown : s.vm.findClass RJ0 = some m.cls := hown
  have hl : lv_has ls 1 [(0, .ref a0)] := hl
  have hN : ZN s := (zo.2.2.2.2 _ _ _ hZ).2
  refine va_gets hx hb (zo.1.2.2 _ _ _ hZ).1 hw.2.2 hown (hts _ (List.mem_cons_of_mem _ (mr8 _ (List.mem_of_getElem? (i := 11) rfl)))) (fun _ h => h) dJ0_coder_7d493_0 ?_
  refine W.eq (g2 := F0 m 3 ls [.int (iI 1)]) rfl ?_
  refine q_if_eq (tgt := 13) hx hb dJ0_coder_7d493_3 (by decide) ⟨by decide, by decide⟩ (fun c3 => ?_) (fun c3 => ?_)
  · exfalso; omega
  · refine lv_aload_n hx hb dJ0_coder_7d493_6 rfl (lv_at hl 0 rfl) ?_
    refine vk_getf hx hb (tx_a0 _ _ _ hZ).2.1 hw.2.2 hown (hts _ (List.mem_cons_of_mem _ (mr8 _ (List.mem_of_getElem? (i := 12) rfl)))) (fun _ h => h) dJ0_coder_7d493_7 ?_
    refine W.eq (g2 := F0 m 10 ls [.int (iI 0)]) rfl ?_
    refine lv_goto (tgt := 14) hx hb dJ0_coder_7d493_10 (by decide) ?_
    exact q_ret_n hx hb hr hlocks hK hAe hw rfl ⟨by decide, by decide⟩ (Nat.le_of_ble_eq_true rfl) (Nat.le_of_ble_eq_true rfl) dJ0_coder_7d493_14 ⟨rfl, rfl, by omega⟩
set_option maxHeartbeats 4000000 in
set_option maxRecDepth 100000 in
theorem c_J0_isLatin1_aae02 {Z : Zt} (zo : Zok Z) (l : Launch) (D : va_G) (cy : Cy) (L0 : List Nat) (f0 : Nat → va_E) (a0 : Nat) (b_a0 : List Int32) (v_a0 : Nat) (nb_a0 : Asc b_a0) (tx_a0 : ∀ (A : Nat → Prop) (U : State) (H : Heap), Z A U H → Tx b_a0 a0 v_a0 A U H) : Ci Z l yJ0_isLatin1_aae02 (Cond.code yJ0_isLatin1_aae02 cJ0_isLatin1_aae02 1 (some .boolean) :: TB) ({ frames := 0, cells := 0, slots := 0, locals := 0 } : Room) 0 0 D (tq cy) [.ref a0] L0 f0 (fun (r : Int) (L1 : List Nat) (f1 : Nat → va_E) => L0 = L1 ∧ f0 = f1 ∧ (r = 1)) := by
  refine Ci.enter (cc := cJ0_isLatin1_aae02) (n := 1) rfl (by decide +kernel) (Nat.le_of_ble_eq_true rfl) ?_
  intro p e s m below meth c ls A hx hb hr hts hown hlocks hnm hml hK hA hAe hw hZ hl
  have hown : s.vm.findClass RJ0 = some m.cls := hown
  have hl : lv_has ls 1 [(0, .ref a0)] := hl
  have hN : ZN s := (zo.2.2.2.2 _ _ _ hZ).2
  refine va_gets hx hb (zo.1.2.2 _ _ _ hZ).1 hw.2.2 hown (hts _ (List.mem_cons_of_mem _ (mr8 _ (List.mem_of_getElem? (i := 11) rfl)))) (fun _ h => h) dJ0_isLatin1_aae02_0 ?_
  refine W.eq (g2 := F0 m 3 ls [.int (iI 1)]) rfl ?_
  refine q_if_eq (tgt := 17) hx hb dJ0_isLatin1_aae02_3 (by decide) ⟨by decide, by decide⟩ (fun c3 => ?_) (fun c3 => ?_)
  · exfalso; omega
  · refine lv_aload_n hx hb dJ0_isLatin1_aae02_6 rfl (lv_at hl 0 rfl) ?_
    refine vk_getf hx hb (tx_a0 _ _ _ hZ).2.1 hw.2.2 hown (hts _ (List.mem_cons_of_mem _ (mr8 _ (List.mem_of_getElem? (i := 12) rfl)))) (fun _ h => h) dJ0_isLatin1_aae02_7 ?_
    refine W.eq (g2 := F0 m 10 ls [.int (iI 0)]) rfl ?_
    refine q_if_ne (tgt := 17) hx hb dJ0_isLatin1_aae02_10 (by decide) ⟨by decide, by decide⟩ (fun c10 => ?_) (fun c10 => ?_)
    · exfalso; omega
    · refine q_iconst hx hb dJ0_isLatin1_aae02_13 ?_
      refine lv_goto (tgt := 18) hx hb dJ0_isLatin1_aae02_14 (by decide) ?_
      exact q_ret_z hx hb hr hlocks hK hAe hw (by omega) (Nat.le_of_ble_eq_true rfl) (Nat.le_of_ble_eq_true rfl) dJ0_isLatin1_aae02_18 ⟨rfl, rfl, by omega⟩
set_option maxHeartbeats 4000000 in
set_option maxRecDepth 100000 in
theorem c_J0_length_8abf5 {Z : Zt} (zo : Zok Z) (l : Launch) (D : va_G) (cy : Cy) (L0 : List Nat) (f0 : Nat → va_E) (a0 : Nat) (b_a0 : List Int32) (v_a0 : Nat) (nb_a0 : Asc b_a0) (tx_a0 : ∀ (A : Nat → Prop) (U : State) (H : Heap), Z A U H → Tx b_a0 a0 v_a0 A U H) : Ci Z l yJ0_length_8abf5 (Cond.code yJ0_length_8abf5 cJ0_length_8abf5 1 (some .int) :: TB) ({ frames := 1, cells := 0, slots := 0, locals := 20 } : Room) 0 0 D (tq cy) [.ref a0] L0 f0 (fun (r : Int) (L1 : List Nat) (f1 : Nat → va_E) => L0 = L1 ∧ f0 = f1 ∧ (r = (b_a0.length : Int))) := by
  refine Ci.enter (cc := cJ0_length_8abf5) (n := 1) rfl (by decide +kernel) (Nat.le_of_ble_eq_true rfl) ?_
  intro p e s m below meth c ls A hx hb hr hts hown hlocks hnm hml hK hA hAe hw hZ hl
  have hown : s.vm.findClass RJ0 = some m.cls := hown
  have hl : lv_has ls 1 [(0, .ref a0)] := hl
  have hN : ZN s := (zo.2.2.2.2 _ _ _ hZ).2
  refine lv_aload_n hx hb dJ0_length_8abf5_0 rfl (lv_at hl 0 rfl) ?_
  refine vk_getf hx hb (tx_a0 _ _ _ hZ).2.2.1 hw.2.2 hown (hts _ (List.mem_cons_of_mem _ (mr8 _ (List.mem_of_getElem? (i := 6) rfl)))) (fun _ h => h) dJ0_length_8abf5_1 ?_
  refine q_tlen hx hb (tx_a0 _ _ _ hZ).2.2.2 hw.2.2 nb_a0 dJ0_length_8abf5_4 (fun x_1 lx_1 ux_1 ex_1 => ?_)
  have nx_1 := nb_a0.1
  refine lv_aload_n hx hb dJ0_length_8abf5_5 rfl (lv_at hl 0 rfl) ?_
  refine q_call_i hA hK hw (va_runV (As := []) (rest := [.int (iI x_1)]) ⟨hx, hb, hml, hown, hts⟩ (c_J0_coder_7d493 zo l D cy L0 f0 a0 b_a0 v_a0 nb_a0 tx_a0 _) (cwV 0 hts (gT (inV (mr8 _ (List.mem_of_getElem? (i := 7) rfl)) (mr8 _ (List.mem_of_getElem? (i := 8) rfl)) (mr8 _ (List.mem_of_getElem? (i := 9) rfl)) (mr8 _ (List.mem_of_getElem? (i := 4) rfl)) (mr8 _ (List.mem_of_getElem? (i := 10) rfl)))) rfl rfl rfl (by decide +kernel) ⟨Nat.le_of_ble_eq_true rfl, Nat.le_of_ble_eq_true rfl⟩) (Wd.preVT zo hA hZ hw hK tx_a0) rfl rfl hl.1 rfl (lv_room (Nat.le_of_ble_eq_true rfl)) dJ0_length_8abf5_6 ⟨Nat.le_of_ble_eq_true rfl, Nat.le_of_ble_eq_true rfl⟩) (fun x_2 L1 f1 H locs lx_2 ux_2 ex_2 hw => ?_)
  obtain ⟨rfl, rfl, ex_2⟩ := ex_2
  refine lv_ishr hx hb dJ0_length_8abf5_9 ?_
  refine q_num (fun x_3 lx_3 ux_3 ex_3 => ?_)
  have n9 := nb_a0.1
  have s9 := shr0 (x := x_1) (by omega) (by omega)
  have e9 : x_3 = x_1 := by rw [ex_3, ex_2]; exact s9
  exact q_ret_i hx hb hr hlocks hK hAe hw ⟨lx_3, ux_3⟩ (Nat.le_of_ble_eq_true rfl) (Nat.le_of_ble_eq_true rfl) dJ0_length_8abf5_10 ⟨rfl, rfl, by omega⟩
set_option maxHeartbeats 4000000 in
set_option maxRecDepth 100000 in
theorem c_J3_checkIndex_8e157 {Z : Zt} (zo : Zok Z) (l : Launch) (D : va_G) (cy : Cy) (L0 : List Nat) (f0 : Nat → va_E) (x0 : Int) (lx0 : -2147483648 ≤ x0) (ux0 : x0 ≤ 2147483647) (x1 : Int) (lx1 : -2147483648 ≤ x1) (ux1 : x1 ≤ 2147483647) (a2 : Nat) (h0 : 0 ≤ x0) (h1 : x0 < x1) : Ci Z l yJ3_checkIndex_8e157 (Cond.code yJ3_checkIndex_8e157 cJ3_checkIndex_8e157 3 (some .int) :: TB) ({ frames := 0, cells := 0, slots := 0, locals := 0 } : Room) 0 0 D (tq cy) [.int (iI x0), .int (iI x1), .ref a2] L0 f0 (fun (r : Int) (L1 : List Nat) (f1 : Nat → va_E) => L0 = L1 ∧ f0 = f1 ∧ (r = x0)) := by
  refine Ci.enter (cc := cJ3_checkIndex_8e157) (n := 3) rfl (by decide +kernel) (Nat.le_of_ble_eq_true rfl) ?_
  intro p e s m below meth c ls A hx hb hr hts hown hlocks hnm hml hK hA hAe hw hZ hl
  have hown : s.vm.findClass RJ3 = some m.cls := hown
  have hl : lv_has ls 3 [(0, .int (iI x0)), (1, .int (iI x1)), (2, .ref a2)] := hl
  have hN : ZN s := (zo.2.2.2.2 _ _ _ hZ).2
  refine lv_iload_n hx hb dJ3_checkIndex_8e157_0 rfl (lv_at hl 0 rfl) ?_
  refine q_if_lt (tgt := 9) hx hb dJ3_checkIndex_8e157_1 (by decide) ⟨lx0, ux0⟩ (fun c1 => ?_) (fun c1 => ?_)
  · exfalso; omega
  · refine lv_iload_n hx hb dJ3_checkIndex_8e157_4 rfl (lv_at hl 0 rfl) ?_
    refine lv_iload_n hx hb dJ3_checkIndex_8e157_5 rfl (lv_at hl 1 rfl) ?_
    refine q_icmp_lt (tgt := 16) hx hb dJ3_checkIndex_8e157_6 (by decide) ⟨lx0, ux0⟩ ⟨lx1, ux1⟩ (fun c6 => ?_) (fun c6 => ?_)
    · refine lv_iload_n hx hb dJ3_checkIndex_8e157_16 rfl (lv_at hl 0 rfl) ?_
      exact q_ret_i hx hb hr hlocks hK hAe hw ⟨lx0, ux0⟩ (Nat.le_of_ble_eq_true rfl) (Nat.le_of_ble_eq_true rfl) dJ3_checkIndex_8e157_17 ⟨rfl, rfl, by omega⟩
    · exfalso; omega
set_option maxHeartbeats 4000000 in
set_option maxRecDepth 100000 in
theorem c_J3_checkIndex_8e157_n {Z : Zt} (zo : Zok Z) (l : Launch) (D : va_G) (cy : Cy) (L0 : List Nat) (f0 : Nat → va_E) (x0 : Int) (lx0 : -2147483648 ≤ x0) (ux0 : x0 ≤ 2147483647) (x1 : Int) (lx1 : -2147483648 ≤ x1) (ux1 : x1 ≤ 2147483647) (h0 : 0 ≤ x0) (h1 : x0 < x1) : Ci Z l yJ3_checkIndex_8e157 (Cond.code yJ3_checkIndex_8e157 cJ3_checkIndex_8e157 3 (some .int) :: TB) ({ frames := 0, cells := 0, slots := 0, locals := 0 } : Room) 0 0 D (tq cy) [.int (iI x0), .int (iI x1), .null] L0 f0 (fun (r : Int) (L1 : List Nat) (f1 : Nat → va_E) => L0 = L1 ∧ f0 = f1 ∧ (r = x0)) := by
  refine Ci.enter (cc := cJ3_checkIndex_8e157) (n := 3) rfl (by decide +kernel) (Nat.le_of_ble_eq_true rfl) ?_
  intro p e s m below meth c ls A hx hb hr hts hown hlocks hnm hml hK hA hAe hw hZ hl
  have hown : s.vm.findClass RJ3 = some m.cls := hown
  have hl : lv_has ls 3 [(0, .int (iI x0)), (1, .int (iI x1)), (2, .null)] := hl
  have hN : ZN s := (zo.2.2.2.2 _ _ _ hZ).2
  refine lv_iload_n hx hb dJ3_checkIndex_8e157_0 rfl (lv_at hl 0 rfl) ?_
  refine q_if_lt (tgt := 9) hx hb dJ3_checkIndex_8e157_1 (by decide) ⟨lx0, ux0⟩ (fun c1 => ?_) (fun c1 => ?_)
  · exfalso; omega
  · refine lv_iload_n hx hb dJ3_checkIndex_8e157_4 rfl (lv_at hl 0 rfl) ?_
    refine lv_iload_n hx hb dJ3_checkIndex_8e157_5 rfl (lv_at hl 1 rfl) ?_
    refine q_icmp_lt (tgt := 16) hx hb dJ3_checkIndex_8e157_6 (by decide) ⟨lx0, ux0⟩ ⟨lx1, ux1⟩ (fun c6 => ?_) (fun c6 => ?_)
    · refine lv_iload_n hx hb dJ3_checkIndex_8e157_16 rfl (lv_at hl 0 rfl) ?_
      exact q_ret_i hx hb hr hlocks hK hAe hw ⟨lx0, ux0⟩ (Nat.le_of_ble_eq_true rfl) (Nat.le_of_ble_eq_true rfl) dJ3_checkIndex_8e157_17 ⟨rfl, rfl, by omega⟩
    · exfalso; omega
set_option maxHeartbeats 4000000 in
set_option maxRecDepth 100000 in
theorem c_J0_checkIndex_df160 {Z : Zt} (zo : Zok Z) (l : Launch) (D : va_G) (cy : Cy) (L0 : List Nat) (f0 : Nat → va_E) (x0 : Int) (lx0 : -2147483648 ≤ x0) (ux0 : x0 ≤ 2147483647) (x1 : Int) (lx1 : -2147483648 ≤ x1) (ux1 : x1 ≤ 2147483647) (h0 : 0 ≤ x0) (h1 : x0 < x1) : Cv Z l yJ0_checkIndex_df160 (Cond.code yJ0_checkIndex_df160 cJ0_checkIndex_df160 2 none :: TB) ({ frames := 1, cells := 0, slots := 0, locals := 22 } : Room) 0 0 D (tq cy) [.int (iI x0), .int (iI x1)] L0 f0 (fun (L1 : List Nat) (f1 : Nat → va_E) => L0 = L1 ∧ f0 = f1 ∧ (True)) := by
  refine Cv.enter (cc := cJ0_checkIndex_df160) (n := 2) rfl (by decide +kernel) (Nat.le_of_ble_eq_true rfl) ?_
  intro p e s m below meth c ls A hx hb hr hts hown hlocks hnm hml hK hA hAe hw hZ hl
  have hown : s.vm.findClass RJ0 = some m.cls := hown
  have hl : lv_has ls 2 [(0, .int (iI x0)), (1, .int (iI x1))] := hl
  have hN : ZN s := (zo.2.2.2.2 _ _ _ hZ).2
  refine lv_iload_n hx hb dJ0_checkIndex_df160_0 rfl (lv_at hl 0 rfl) ?_
  refine lv_iload_n hx hb dJ0_checkIndex_df160_1 rfl (lv_at hl 1 rfl) ?_
  rcases (zo.1.2.2 _ _ _ hZ).2.1 with hz9 | ⟨t9, hz9⟩
  · refine va_gets hx hb hz9 hw.2.2 hown (hts _ (List.mem_cons_of_mem _ (mr9 _ (List.mem_of_getElem? (i := 8) rfl)))) (fun _ h => h) dJ0_checkIndex_df160_2 ?_
    refine q_call_i hA hK hw (va_runS (As := [.int (iI x0), .int (iI x1), .null]) (rest := []) ⟨hx, hb, hml, hown, hts⟩ (c_J3_checkIndex_8e157_n zo l D cy L0 f0 x0 lx0 ux0 x1 lx1 ux1 (by omega) (by omega) _) (va_cwS 3 hts (gT (inS (mr9 _ (List.mem_of_getElem? (i := 9) rfl)) (mr9 _ (List.mem_of_getElem? (i := 10) rfl)) (mr9 _ (List.mem_of_getElem? (i := 11) rfl)) (mr9 _ (List.mem_of_getElem? (i := 12) rfl)))) rfl rfl rfl (by decide +kernel) ⟨Nat.le_of_ble_eq_true rfl, Nat.le_of_ble_eq_true rfl⟩) (Wd.preS zo hA hZ hw hK) rfl rfl hl.1 rfl (lv_room (Nat.le_of_ble_eq_true rfl)) dJ0_checkIndex_df160_5 ⟨Nat.le_of_ble_eq_true rfl, Nat.le_of_ble_eq_true rfl⟩) (fun x_1 L1 f1 H locs lx_1 ux_1 ex_1 hw => ?_)
    obtain ⟨rfl, rfl, ex_1⟩ := ex_1
    refine lv_pop hx hb dJ0_checkIndex_df160_8 rfl ?_
    exact q_ret_v hx hb hr hlocks hK hAe hw (Nat.le_of_ble_eq_true rfl) (Nat.le_of_ble_eq_true rfl) dJ0_checkIndex_df160_9 ⟨rfl, rfl, by trivial⟩
  · refine va_gets hx hb hz9 hw.2.2 hown (hts _ (List.mem_cons_of_mem _ (mr9 _ (List.mem_of_getElem? (i := 8) rfl)))) (fun _ h => h) dJ0_checkIndex_df160_2 ?_
    refine q_call_i hA hK hw (va_runS (As := [.int (iI x0), .int (iI x1), .ref t9]) (rest := []) ⟨hx, hb, hml, hown, hts⟩ (c_J3_checkIndex_8e157 zo l D cy L0 f0 x0 lx0 ux0 x1 lx1 ux1 t9 (by omega) (by omega) _) (va_cwS 3 hts (gT (inS (mr9 _ (List.mem_of_getElem? (i := 9) rfl)) (mr9 _ (List.mem_of_getElem? (i := 10) rfl)) (mr9 _ (List.mem_of_getElem? (i := 11) rfl)) (mr9 _ (List.mem_of_getElem? (i := 12) rfl)))) rfl rfl rfl (by decide +kernel) ⟨Nat.le_of_ble_eq_true rfl, Nat.le_of_ble_eq_true rfl⟩) (Wd.preS zo hA hZ hw hK) rfl rfl hl.1 rfl (lv_room (Nat.le_of_ble_eq_true rfl)) dJ0_checkIndex_df160_5 ⟨Nat.le_of_ble_eq_true rfl, Nat.le_of_ble_eq_true rfl⟩) (fun x_2 L1 f1 H locs lx_2 ux_2 ex_2 hw => ?_)
    obtain ⟨rfl, rfl, ex_2⟩ := ex_2
    refine lv_pop hx hb dJ0_checkIndex_df160_8 rfl ?_
    exact q_ret_v hx hb hr hlocks hK hAe hw (Nat.le_of_ble_eq_true rfl) (Nat.le_of_ble_eq_true rfl) dJ0_checkIndex_df160_9 ⟨rfl, rfl, by trivial⟩
set_option maxHeartbeats 4000000 in
set_option maxRecDepth 100000 in
theorem c_J1_charAt_3b067 {Z : Zt} (zo : Zok Z) (l : Launch) (D : va_G) (cy : Cy) (L0 : List Nat) (f0 : Nat → va_E) (a0 : Nat) (x1 : Int) (lx1 : -2147483648 ≤ x1) (ux1 : x1 ≤ 2147483647) (b_a0 : List Int32) (nb_a0 : Asc b_a0) (tb_a0 : ∀ (A : Nat → Prop) (U : State) (H : Heap), Z A U H → va_T .byte a0 b_a0.length (fun j => .int (b_a0.getD j 0)) A U H) (h0 : 0 ≤ x1) (h1 : x1 < (b_a0.length : Int)) : Ci Z l yJ1_charAt_3b067 (Cond.code yJ1_charAt_3b067 cJ1_charAt_3b067 2 (some .char) :: TB) ({ frames := 2, cells := 0, slots := 0, locals := 43 } : Room) 0 0 D (tq cy) [.ref a0, .int (iI x1)] L0 f0 (fun (r : Int) (L1 : List Nat) (f1 : Nat → va_E) => L0 = L1 ∧ f0 = f1 ∧ (r = (b_a0.getD x1.toNat 0).toInt ∧ 0 ≤ r ∧ r ≤ 127)) := by
  refine Ci.enter (cc := cJ1_charAt_3b067) (n := 2) rfl (by decide +kernel) (Nat.le_of_ble_eq_true rfl) ?_
  intro p e s m below meth c ls A hx hb hr hts hown hlocks hnm hml hK hA hAe hw hZ hl
  have hown : s.vm.findClass RJ1 = some m.cls := hown
  have hl : lv_has ls 2 [(0, .ref a0), (1, .int (iI x1))] := hl
  have hN : ZN s := (zo.2.2.2.2 _ _ _ hZ).2
  refine lv_iload_n hx hb dJ1_charAt_3b067_0 rfl (lv_at hl 1 rfl) ?_
  refine lv_aload_n hx hb dJ1_charAt_3b067_1 rfl (lv_at hl 0 rfl) ?_
  refine q_tlen hx hb (tb_a0 _ _ _ hZ) hw.2.2 nb_a0 dJ1_charAt_3b067_2 (fun x_1 lx_1 ux_1 ex_1 => ?_)
  have nx_1 := nb_a0.1
  refine q_call_v hA hK hw (va_runS (As := [.int (iI x1), .int (iI x_1)]) (rest := []) ⟨hx, hb, hml, hown, hts⟩ (c_J0_checkIndex_df160 zo l D cy L0 f0 x1 lx1 ux1 x_1 lx_1 ux_1 (by omega) (by omega) _) (va_cwS 2 hts (gT (inS (mr9 _ (List.mem_of_getElem? (i := 5) rfl)) (mr9 _ (List.mem_of_getElem? (i := 6) rfl)) (mr8 _ (List.mem_of_getElem? (i := 4) rfl)) (mr9 _ (List.mem_of_getElem? (i := 7) rfl)))) rfl rfl rfl (by decide +kernel) ⟨Nat.le_of_ble_eq_true rfl, Nat.le_of_ble_eq_true rfl⟩) (Wd.preS zo hA hZ hw hK) rfl rfl hl.1 rfl (lv_room (Nat.le_of_ble_eq_true rfl)) dJ1_charAt_3b067_3 ⟨Nat.le_of_ble_eq_true rfl, Nat.le_of_ble_eq_true rfl⟩) (fun L1 f1 H locs ex_2 hw => ?_)
  obtain ⟨rfl, rfl, ex_2⟩ := ex_2
  refine lv_aload_n hx hb dJ1_charAt_3b067_6 rfl (lv_at hl 0 rfl) ?_
  refine lv_iload_n hx hb dJ1_charAt_3b067_7 rfl (lv_at hl 1 rfl) ?_
  refine q_tb hx hb (tb_a0 _ _ _ hZ) hw.2.2 nb_a0 ⟨lx1, ux1⟩ (by omega) (by omega) dJ1_charAt_3b067_8 (fun x_3 lx_3 ux_3 ex_3 => ?_)
  refine q_sipush hx hb dJ1_charAt_3b067_9 rfl ?_
  refine lv_iand hx hb dJ1_charAt_3b067_12 ?_
  refine q_num (fun x_4 lx_4 ux_4 ex_4 => ?_)
  have s12 := and255 (x := x_3) (by omega) (by omega)
  have e12 : x_4 = x_3 := ex_4.trans s12
  refine lv_i2c hx hb dJ1_charAt_3b067_13 rfl ?_
  refine q_num (fun x_5 lx_5 ux_5 ex_5 => ?_)
  have s13 := i2c_small (x := x_4) (by omega) (by omega)
  have e13 : x_5 = x_4 := ex_5.trans s13
  exact q_ret_n hx hb hr hlocks hK hAe hw (nar_char (by omega) (by omega)) ⟨lx_5, ux_5⟩ (Nat.le_of_ble_eq_true rfl) (Nat.le_of_ble_eq_true rfl) dJ1_charAt_3b067_14 ⟨rfl, rfl, by omega⟩
set_option maxHeartbeats 4000000 in
set_option maxRecDepth 100000 in
theorem c_J0_charAt_5068e {Z : Zt} (zo : Zok Z) (l : Launch) (D : va_G) (cy : Cy) (L0 : List Nat) (f0 : Nat → va_E) (a0 : Nat) (x1 : Int) (lx1 : -2147483648 ≤ x1) (ux1 : x1 ≤ 2147483647) (b_a0 : List Int32) (v_a0 : Nat) (nb_a0 : Asc b_a0) (tx_a0 : ∀ (A : Nat → Prop) (U : State) (H : Heap), Z A U H → Tx b_a0 a0 v_a0 A U H) (h0 : 0 ≤ x1) (h1 : x1 < (b_a0.length : Int)) : Ci Z l yJ0_charAt_5068e (Cond.code yJ0_charAt_5068e cJ0_charAt_5068e 2 (some .char) :: TB) ({ frames := 3, cells := 0, slots := 0, locals := 64 } : Room) 0 0 D (tq cy) [.ref a0, .int (iI x1)] L0 f0 (fun (r : Int) (L1 : List Nat) (f1 : Nat → va_E) => L0 = L1 ∧ f0 = f1 ∧ (r = (b_a0.getD x1.toNat 0).toInt ∧ 0 ≤ r ∧ r ≤ 127)) := by
  refine Ci.enter (cc := cJ0_charAt_5068e) (n := 2) rfl (by decide +kernel) (Nat.le_of_ble_eq_true rfl) ?_
  intro p e s m below meth c ls A hx hb hr hts hown hlocks hnm hml hK hA hAe hw hZ hl
  have hown : s.vm.findClass RJ0 = some m.cls := hown
  have hl : lv_has ls 2 [(0, .ref a0), (1, .int (iI x1))] := hl
  have hN : ZN s := (zo.2.2.2.2 _ _ _ hZ).2
  refine lv_aload_n hx hb dJ0_charAt_5068e_0 rfl (lv_at hl 0 rfl) ?_
  refine q_call_i hA hK hw (va_runV (As := []) (rest := []) ⟨hx, hb, hml, hown, hts⟩ (c_J0_isLatin1_aae02 zo l D cy L0 f0 a0 b_a0 v_a0 nb_a0 tx_a0 _) (cwV 0 hts (gT (inV (mr8 _ (List.mem_of_getElem? (i := 21) rfl)) (mr8 _ (List.mem_of_getElem? (i := 22) rfl)) (mr8 _ (List.mem_of_getElem? (i := 23) rfl)) (mr8 _ (List.mem_of_getElem? (i := 4) rfl)) (mr9 _ (List.mem_of_getElem? (i := 0) rfl)))) rfl rfl rfl (by decide +kernel) ⟨Nat.le_of_ble_eq_true rfl, Nat.le_of_ble_eq_true rfl⟩) (Wd.preVT zo hA hZ hw hK tx_a0) rfl rfl hl.1 rfl (lv_room (Nat.le_of_ble_eq_true rfl)) dJ0_charAt_5068e_1 ⟨Nat.le_of_ble_eq_true rfl, Nat.le_of_ble_eq_true rfl⟩) (fun x_1 L1 f1 H locs lx_1 ux_1 ex_1 hw => ?_)
  obtain ⟨rfl, rfl, ex_1⟩ := ex_1
  refine q_if_eq (tgt := 16) hx hb dJ0_charAt_5068e_4 (by decide) ⟨lx_1, ux_1⟩ (fun c4 => ?_) (fun c4 => ?_)
  · exfalso; omega
  · refine lv_aload_n hx hb dJ0_charAt_5068e_7 rfl (lv_at hl 0 rfl) ?_
    refine vk_getf hx hb (tx_a0 _ _ _ hZ).2.2.1 hw.2.2 hown (hts _ (List.mem_cons_of_mem _ (mr8 _ (List.mem_of_getElem? (i := 6) rfl)))) (fun _ h => h) dJ0_charAt_5068e_8 ?_
    refine lv_iload_n hx hb dJ0_charAt_5068e_11 rfl (lv_at hl 1 rfl) ?_
    refine q_call_i hA hK hw (va_runS (As := [.ref v_a0, .int (iI x1)]) (rest := []) ⟨hx, hb, hml, hown, hts⟩ (c_J1_charAt_3b067 zo l D cy L0 f0 v_a0 x1 lx1 ux1 b_a0 nb_a0 (fun A U H h => (tx_a0 A U H h).2.2.2) (by omega) (by omega) _) (va_cwS 2 hts (gT (inS (mr9 _ (List.mem_of_getElem? (i := 1) rfl)) (mr9 _ (List.mem_of_getElem? (i := 2) rfl)) (mr9 _ (List.mem_of_getElem? (i := 3) rfl)) (mr9 _ (List.mem_of_getElem? (i := 4) rfl)))) rfl rfl rfl (by decide +kernel) ⟨Nat.le_of_ble_eq_true rfl, Nat.le_of_ble_eq_true rfl⟩) (Wd.preS zo hA hZ hw hK) rfl rfl hl.1 rfl (lv_room (Nat.le_of_ble_eq_true rfl)) dJ0_charAt_5068e_12 ⟨Nat.le_of_ble_eq_true rfl, Nat.le_of_ble_eq_true rfl⟩) (fun x_2 L1 f1 H locs lx_2 ux_2 ex_2 hw => ?_)
    obtain ⟨rfl, rfl, ex_2⟩ := ex_2
    exact q_ret_n hx hb hr hlocks hK hAe hw (nar_char (by omega) (by omega)) ⟨lx_2, ux_2⟩ (Nat.le_of_ble_eq_true rfl) (Nat.le_of_ble_eq_true rfl) dJ0_charAt_5068e_15 ⟨rfl, rfl, by omega⟩
