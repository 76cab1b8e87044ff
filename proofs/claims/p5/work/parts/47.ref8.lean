set_option maxHeartbeats 4000000 in
set_option maxRecDepth 100000 in
theorem c_X10_packed {Z : Zt} (zo : Zok Z) (l : Launch) (D : va_G) (cy : Cy) (L0 : List Nat) (f0 : Nat → va_E) (a0 : Nat) (b_a0 : List Int32) (v_a0 : Nat) (nb_a0 : Asc b_a0) (tx_a0 : ∀ (A : Nat → Prop) (U : State) (H : Heap), Z A U H → Tx b_a0 a0 v_a0 A U H) : Cl Z l yX10_packed (Cond.code yX10_packed cX10_packed 4 (some .long) :: TB) ({ frames := 4, cells := 0, slots := 0, locals := 85 } : Room) 0 0 D (tq cy) [.ref a0] L0 f0 (fun (r : Int) (L1 : List Nat) (f1 : Nat → va_E) => L0 = L1 ∧ f0 = f1 ∧ (True)) := by
  refine Cl.enter (cc := cX10_packed) (n := 4) rfl (plainFor_of_name (by decide)) (Nat.le_of_ble_eq_true rfl) ?_
  intro p e s m below meth c ls A hx hb hr hts hown hlocks hnm hml hK hA hAe hw hZ hl
  have hown : s.vm.findClass RX10 = some m.cls := hown
  have hl : lv_has ls 4 [(0, .ref a0)] := hl
  have hN : ZN s := (zo.2.2.2.2 _ _ _ hZ).2
  refine q_lconst0 hx hb dX10_packed_0 ?_
  refine lv_lstore_n (lv' := [(1, .long (lJ 0)), (0, .ref a0)]) hx hb dX10_packed_1 rfl hl (by decide) rfl (fun ls hl => ?_)
  refine q_iconst hx hb dX10_packed_2 ?_
  refine lv_istore_n (lv' := [(3, .int (iI 0)), (1, .long (lJ 0)), (0, .ref a0)]) hx hb dX10_packed_3 rfl hl (by decide) rfl (fun ls hl => ?_)
  have J4 : ∀ (n4 : Nat) (y1_4 : Int) (ly1_4 : -9223372036854775808 ≤ y1_4) (uy1_4 : y1_4 ≤ 9223372036854775807) (y3_4 : Int) (ly3_4 : -2147483648 ≤ y3_4) (uy3_4 : y3_4 ≤ 2147483647) (i1 : 0 ≤ y3_4) (hn4 : ((2147483647 : Int) - y3_4).toNat < n4) (H : Heap) (locs : List Loc) (ls : Array Slot) (hw : Wd D A s.heap L0 f0 H locs) (hl : lv_has ls 4 [(0, .ref a0), (1, .long (lJ y1_4)), (3, .int (iI y3_4))]), W p l e ({ frames := 4, cells := 0, slots := 0, locals := 85 } : Room) s m ([.ref a0] : List Value).toArray below meth c H locs (0) (0) (MQ below (Ql D (tq cy) L0 f0 s.heap.size (fun (r : Int) (L1 : List Nat) (f1 : Nat → va_E) => L0 = L1 ∧ f0 = f1 ∧ (True))) ([.ref a0] : List Value).toArray s 0 0 A) (F0 m 4 ls []) := by
    intro n4
    induction n4 with
    | zero => intro y1_4 ly1_4 uy1_4 y3_4 ly3_4 uy3_4 i1 hn4; exact absurd hn4 (Nat.not_lt_zero _)
    | succ n4 ih4 =>
      intro y1_4 ly1_4 uy1_4 y3_4 ly3_4 uy3_4 i1 hn4 H locs ls hw hl
      refine lv_iload_n hx hb dX10_packed_4 rfl (lv_at hl 2 rfl) ?_
      refine lv_aload_n hx hb dX10_packed_5 rfl (lv_at hl 0 rfl) ?_
      refine q_call_i hA hK hw (va_runV (As := []) (rest := [.int (iI y3_4)]) ⟨hx, hb, hml, hown, hts⟩ (c_J0_length_8abf5 zo l D cy L0 f0 a0 b_a0 v_a0 nb_a0 tx_a0 _) (cwV 0 hts (gT (inV (mr20 _ (List.mem_of_getElem? (i := 10) rfl)) (mr8 _ (List.mem_of_getElem? (i := 2) rfl)) (mr8 _ (List.mem_of_getElem? (i := 3) rfl)) (mr8 _ (List.mem_of_getElem? (i := 4) rfl)) (mr8 _ (List.mem_of_getElem? (i := 5) rfl)))) rfl rfl rfl (by decide +kernel) ⟨Nat.le_of_ble_eq_true rfl, Nat.le_of_ble_eq_true rfl⟩) (Wd.preVT zo hA hZ hw hK tx_a0) rfl rfl hl.1 rfl (lv_room (Nat.le_of_ble_eq_true rfl)) dX10_packed_6 ⟨Nat.le_of_ble_eq_true rfl, Nat.le_of_ble_eq_true rfl⟩) (fun x_1 L1 f1 H locs lx_1 ux_1 ex_1 hw => ?_)
      obtain ⟨rfl, rfl, ex_1⟩ := ex_1
      refine q_icmp_ge (tgt := 31) hx hb dX10_packed_9 (by decide) ⟨ly3_4, uy3_4⟩ ⟨lx_1, ux_1⟩ (fun c9 => ?_) (fun c9 => ?_)
      · refine lv_lload_n hx hb dX10_packed_31 rfl (lv_at hl 1 rfl) ?_
        exact q_ret_l hx hb hr hlocks hK hAe hw ⟨ly1_4, uy1_4⟩ (Nat.le_of_ble_eq_true rfl) (Nat.le_of_ble_eq_true rfl) dX10_packed_32 ⟨rfl, rfl, by trivial⟩
      · refine q_ldc2 (n := 256) hx hb hown (hts _ (List.mem_cons_of_mem _ (mr19 _ (List.mem_of_getElem? (i := 12) rfl)))) rfl dX10_packed_12 ?_
        refine lv_lload_n hx hb dX10_packed_15 rfl (lv_at hl 1 rfl) ?_
        first | refine q_lmul hx hb dX10_packed_16 ⟨by omega, by omega⟩ (fun j_2 lj_2 uj_2 ej_2 => ?_) | refine q_lmulw hx hb dX10_packed_16 (fun j_2 lj_2 uj_2 ej_2 => ?_)
        refine lv_aload_n hx hb dX10_packed_17 rfl (lv_at hl 0 rfl) ?_
        refine lv_iload_n hx hb dX10_packed_18 rfl (lv_at hl 2 rfl) ?_
        refine q_call_i hA hK hw (va_runV (As := [.int (iI y3_4)]) (rest := [.long (lJ j_2)]) ⟨hx, hb, hml, hown, hts⟩ (c_J0_charAt_5068e zo l D cy L0 f0 a0 y3_4 ly3_4 uy3_4 b_a0 v_a0 nb_a0 tx_a0 (by omega) (by omega) _) (cwV 1 hts (gT (inV (mr20 _ (List.mem_of_getElem? (i := 11) rfl)) (mr8 _ (List.mem_of_getElem? (i := 18) rfl)) (mr8 _ (List.mem_of_getElem? (i := 19) rfl)) (mr8 _ (List.mem_of_getElem? (i := 4) rfl)) (mr8 _ (List.mem_of_getElem? (i := 20) rfl)))) rfl rfl rfl (by decide +kernel) ⟨Nat.le_of_ble_eq_true rfl, Nat.le_of_ble_eq_true rfl⟩) (Wd.preVT zo hA hZ hw hK tx_a0) rfl rfl hl.1 rfl (lv_room (Nat.le_of_ble_eq_true rfl)) dX10_packed_19 ⟨Nat.le_of_ble_eq_true rfl, Nat.le_of_ble_eq_true rfl⟩) (fun x_3 L1 f1 H locs lx_3 ux_3 ex_3 hw => ?_)
        obtain ⟨rfl, rfl, ex_3⟩ := ex_3
        refine q_i2l hx hb dX10_packed_22 ⟨lx_3, ux_3⟩ ?_
        obtain ⟨j_4, lj_4, uj_4, ej_4⟩ : ∃ z : Int, -9223372036854775808 ≤ z ∧ z ≤ 9223372036854775807 ∧ x_3 = z := ⟨x_3, by omega, by omega, rfl⟩
        rw [show (lJ x_3) = lJ j_4 from by rw [ej_4]]
        first | refine q_ladd hx hb dX10_packed_23 ⟨by omega, by omega⟩ (fun j_5 lj_5 uj_5 ej_5 => ?_) | refine q_laddw hx hb dX10_packed_23 (fun j_5 lj_5 uj_5 ej_5 => ?_)
        refine lv_lstore_n (lv' := [(1, .long (lJ j_5)), (0, .ref a0), (3, .int (iI y3_4))]) hx hb dX10_packed_24 rfl hl (by decide) rfl (fun ls hl => ?_)
        obtain ⟨x_6, lx_6, ux_6, hx_6, ex_6⟩ := q_inc y3_4 (1)
        try (replace ex_6 : x_6 = y3_4 + (1) := by omega)
        refine lv_iinc (v := iI x_6) (lv' := [(3, .int (iI x_6)), (1, .long (lJ j_5)), (0, .ref a0)]) hx hb dX10_packed_25 hl (k := 2) rfl hx_6 (by decide) rfl (fun ls hl => ?_)
        refine lv_goto (tgt := 4) hx hb dX10_packed_28 (by decide) ?_
        exact ih4 j_5 lj_5 uj_5 x_6 lx_6 ux_6 (by omega) (by omega) _ _ _ hw (lv_sub hl [2, 1, 0] rfl)
  exact J4 ((((2147483647 : Int) - 0).toNat) + 1) 0 (by decide) (by decide) 0 (by decide) (by decide) (by omega) (by omega) _ _ _ hw (lv_sub hl [2, 1, 0] rfl)
set_option maxHeartbeats 4000000 in
set_option maxRecDepth 100000 in
theorem c_X10_isWord {Z : Zt} (zo : Zok Z) (l : Launch) (D : va_G) (cy : Cy) (L0 : List Nat) (f0 : Nat → va_E) (a0 : Nat) (a1 : Nat) (b_a1 : List Int32) (v_a1 : Nat) (nb_a1 : Asc b_a1) (tx_a1 : ∀ (A : Nat → Prop) (U : State) (H : Heap), Z A U H → Tx b_a1 a1 v_a1 A U H) (ad : Nat → Nat) (hs : MS cy L0 f0 a0 ad) : Ci Z l yX10_isWord (Cond.code yX10_isWord cX10_isWord 2 (some .boolean) :: TB) ({ frames := 5, cells := 0, slots := 0, locals := 108 } : Room) 0 0 D (tq cy) [.ref a0, .ref a1] L0 f0 (fun (r : Int) (L1 : List Nat) (f1 : Nat → va_E) => L0 = L1 ∧ f0 = f1 ∧ (0 ≤ r ∧ r ≤ 1 ∧ (r = 1 → fI f0 a0 20 = 0 ∧ fI f0 a0 17 = 1))) := by
  refine Ci.enter (cc := cX10_isWord) (n := 2) rfl (plainFor_of_name (by decide)) (Nat.le_of_ble_eq_true rfl) ?_
  intro p e s m below meth c ls A hx hb hr hts hown hlocks hnm hml hK hA hAe hw hZ hl
  have hown : s.vm.findClass RX10 = some m.cls := hown
  have hl : lv_has ls 2 [(0, .ref a0), (1, .ref a1)] := hl
  have hN : ZN s := (zo.2.2.2.2 _ _ _ hZ).2
  refine lv_aload_n hx hb dX10_isWord_0 rfl (lv_at hl 0 rfl) ?_
  refine q_geti (ci := 8) (C := RX10) (T := TX10) (N := 26) hx hb hts (fun w h => List.mem_cons_of_mem _ (mfX100 w h)) hown hK hw hs.1 hs.2.1 rfl 20 (by decide) (hts _ (List.mem_cons_of_mem _ (mr19 _ (List.mem_of_getElem? (i := 2) rfl)))) (fun _ h => h) rfl dX10_isWord_1 (fun x_1 lx_1 ux_1 ex_1 => ?_)
  refine q_if_ne (tgt := 31) hx hb dX10_isWord_4 (by decide) ⟨lx_1, ux_1⟩ (fun c4 => ?_) (fun c4 => ?_)
  · refine q_iconst hx hb dX10_isWord_31 ?_
    exact q_ret_z hx hb hr hlocks hK hAe hw (by omega) (Nat.le_of_ble_eq_true rfl) (Nat.le_of_ble_eq_true rfl) dX10_isWord_32 ⟨rfl, rfl, by omega⟩
  · refine lv_aload_n hx hb dX10_isWord_7 rfl (lv_at hl 0 rfl) ?_
    refine q_geti (ci := 8) (C := RX10) (T := TX10) (N := 26) hx hb hts (fun w h => List.mem_cons_of_mem _ (mfX100 w h)) hown hK hw hs.1 hs.2.1 rfl 17 (by decide) (hts _ (List.mem_cons_of_mem _ (mr19 _ (List.mem_of_getElem? (i := 9) rfl)))) (fun _ h => h) rfl dX10_isWord_8 (fun x_2 lx_2 ux_2 ex_2 => ?_)
    refine q_iconst hx hb dX10_isWord_11 ?_
    refine q_icmp_ne (tgt := 31) hx hb dX10_isWord_12 (by decide) ⟨lx_2, ux_2⟩ ⟨by decide, by decide⟩ (fun c12 => ?_) (fun c12 => ?_)
    · refine q_iconst hx hb dX10_isWord_31 ?_
      exact q_ret_z hx hb hr hlocks hK hAe hw (by omega) (Nat.le_of_ble_eq_true rfl) (Nat.le_of_ble_eq_true rfl) dX10_isWord_32 ⟨rfl, rfl, by omega⟩
    · refine lv_aload_n hx hb dX10_isWord_15 rfl (lv_at hl 0 rfl) ?_
      refine q_getl (ci := 8) (C := RX10) (T := TX10) (N := 26) hx hb hts (fun w h => List.mem_cons_of_mem _ (mfX100 w h)) hown hK hw hs.1 hs.2.1 rfl 18 (by decide) (hts _ (List.mem_cons_of_mem _ (mr19 _ (List.mem_of_getElem? (i := 10) rfl)))) (fun _ h => h) rfl dX10_isWord_16 (fun j_3 lj_3 uj_3 ej_3 => ?_)
      refine lv_aload_n hx hb dX10_isWord_19 rfl (lv_at hl 1 rfl) ?_
      refine q_call_l hA hK hw (va_runS (As := [.ref a1]) (rest := [.long (lJ j_3)]) ⟨hx, hb, hml, hown, hts⟩ (c_X10_packed zo l D cy L0 f0 a1 b_a1 v_a1 nb_a1 tx_a1 _) (va_cwS 1 hts (gT (inS (mr20 _ (List.mem_of_getElem? (i := 7) rfl)) (mr20 _ (List.mem_of_getElem? (i := 8) rfl)) (mr1 _ (List.mem_of_getElem? (i := 5) rfl)) (mr20 _ (List.mem_of_getElem? (i := 9) rfl)))) rfl rfl rfl (by decide +kernel) ⟨Nat.le_of_ble_eq_true rfl, Nat.le_of_ble_eq_true rfl⟩) (Wd.preS zo hA hZ hw hK) rfl rfl hl.1 rfl (lv_room (Nat.le_of_ble_eq_true rfl)) dX10_isWord_20 ⟨Nat.le_of_ble_eq_true rfl, Nat.le_of_ble_eq_true rfl⟩) (fun x_4 L1 f1 H locs lx_4 ux_4 ex_4 hw => ?_)
      obtain ⟨rfl, rfl, ex_4⟩ := ex_4
      refine q_lcmp hx hb dX10_isWord_23 ⟨lj_3, uj_3⟩ ⟨lx_4, ux_4⟩ (fun x_5 lx_5 ux_5 ex_5 => ?_)
      refine q_if_ne (tgt := 31) hx hb dX10_isWord_24 (by decide) ⟨lx_5, ux_5⟩ (fun c24 => ?_) (fun c24 => ?_)
      · refine q_iconst hx hb dX10_isWord_31 ?_
        exact q_ret_z hx hb hr hlocks hK hAe hw (by omega) (Nat.le_of_ble_eq_true rfl) (Nat.le_of_ble_eq_true rfl) dX10_isWord_32 ⟨rfl, rfl, by omega⟩
      · refine q_iconst hx hb dX10_isWord_27 ?_
        refine lv_goto (tgt := 32) hx hb dX10_isWord_28 (by decide) ?_
        exact q_ret_z hx hb hr hlocks hK hAe hw (by omega) (Nat.le_of_ble_eq_true rfl) (Nat.le_of_ble_eq_true rfl) dX10_isWord_32 ⟨rfl, rfl, by omega⟩
set_option maxHeartbeats 4000000 in
set_option maxRecDepth 100000 in
theorem c_X10_must {Z : Zt} (zo : Zok Z) (l : Launch) (D : va_G) (cy : Cy) (L0 : List Nat) (f0 : Nat → va_E) (a0 : Nat) (a1 : Nat) (b_a1 : List Int32) (v_a1 : Nat) (nb_a1 : Asc b_a1) (tx_a1 : ∀ (A : Nat → Prop) (U : State) (H : Heap), Z A U H → Tx b_a1 a1 v_a1 A U H) (ad : Nat → Nat) (hs : MS cy L0 f0 a0 ad) (p1 : 0 ≤ fI f0 a0 15) (p2 : fI f0 a0 15 ≤ 168) (p3 : 0 ≤ fI f0 a0 16) (p4 : fI f0 a0 16 ≤ 168) (p5 : fI f0 a0 14 ≤ 168) (p6 : 0 ≤ fI f0 a0 20) : Cv Z l yX10_must (Cond.code yX10_must cX10_must 2 none :: TB) ({ frames := 6, cells := 0, slots := 0, locals := 129 } : Room) 0 0 D (tq cy) [.ref a0, .ref a1] L0 f0 (fun (L1 : List Nat) (f1 : Nat → va_E) => L0 = L1 ∧ MS cy L0 f1 a0 ad ∧ Kp a0 ad [] [15, 16, 17, 18, 19, 20] f0 f1 ∧ (0 ≤ fI f1 a0 15 ∧ fI f1 a0 15 ≤ 168 ∧ 0 ≤ fI f1 a0 16 ∧ fI f1 a0 16 ≤ 168 ∧ 0 ≤ fI f1 a0 20 ∧ (fI f1 a0 20 = 0 → fI f0 a0 20 = 0))) := by
  refine Cv.enter (cc := cX10_must) (n := 2) rfl (plainFor_of_name (by decide)) (Nat.le_of_ble_eq_true rfl) ?_
  intro p e s m below meth c ls A hx hb hr hts hown hlocks hnm hml hK hA hAe hw hZ hl
  have hown : s.vm.findClass RX10 = some m.cls := hown
  have hl : lv_has ls 2 [(0, .ref a0), (1, .ref a1)] := hl
  have hN : ZN s := (zo.2.2.2.2 _ _ _ hZ).2
  have hE : Kp a0 ad [] [15, 16, 17, 18, 19, 20] f0 f0 := Kp.refl _ _ _ _ _
  refine lv_aload_n hx hb dX10_must_0 rfl (lv_at hl 0 rfl) ?_
  refine q_geti (ci := 8) (C := RX10) (T := TX10) (N := 26) hx hb hts (fun w h => List.mem_cons_of_mem _ (mfX100 w h)) hown hK hw hs.1 hs.2.1 rfl 20 (by decide) (hts _ (List.mem_cons_of_mem _ (mr19 _ (List.mem_of_getElem? (i := 2) rfl)))) (fun _ h => h) rfl dX10_must_1 (fun x_1 lx_1 ux_1 ex_1 => ?_)
  refine q_if_ne (tgt := 20) hx hb dX10_must_4 (by decide) ⟨lx_1, ux_1⟩ (fun c4 => ?_) (fun c4 => ?_)
  · refine lv_aload_n hx hb dX10_must_20 rfl (lv_at hl 0 rfl) ?_
    refine q_call_v hA hK hw (va_runV (As := []) (rest := []) ⟨hx, hb, hml, hown, hts⟩ (c_X10_next zo l D cy L0 f0 a0 ad hs (by omega) (by omega) (by omega) (by omega) (by omega) _) (cwV 0 hts (gT (inV (mr19 _ (List.mem_of_getElem? (i := 4) rfl)) (mr19 _ (List.mem_of_getElem? (i := 5) rfl)) (mr19 _ (List.mem_of_getElem? (i := 6) rfl)) (mr1 _ (List.mem_of_getElem? (i := 5) rfl)) (mr19 _ (List.mem_of_getElem? (i := 7) rfl)))) rfl rfl rfl (by decide +kernel) ⟨Nat.le_of_ble_eq_true rfl, Nat.le_of_ble_eq_true rfl⟩) (Wd.preV zo hA hZ hw hK hs.1 hs.2.1 rfl) rfl rfl hl.1 rfl (lv_room (Nat.le_of_ble_eq_true rfl)) dX10_must_21 ⟨Nat.le_of_ble_eq_true rfl, Nat.le_of_ble_eq_true rfl⟩) (fun L1 f_3 H locs ex_2 hw => ?_)
    obtain ⟨rfl, hs, hX, ex_2⟩ := ex_2
    have hE := hE.trans (hX.mono (rs' := []) (fs' := [15, 16, 17, 18, 19, 20]) (by decide) (by decide))
    have t14_f_3 : fI f_3 a0 14 = fI f0 a0 14 := hX.2 14 (by decide)
    have t20_f_3 : fI f_3 a0 20 = fI f0 a0 20 := hX.2 20 (by decide)
    exact q_ret_v hx hb hr hlocks hK hAe hw (Nat.le_of_ble_eq_true rfl) (Nat.le_of_ble_eq_true rfl) dX10_must_24 (by exact ⟨rfl, hs, hE, by first | trivial | omega⟩)
  · refine lv_aload_n hx hb dX10_must_7 rfl (lv_at hl 0 rfl) ?_
    refine lv_aload_n hx hb dX10_must_8 rfl (lv_at hl 1 rfl) ?_
    refine q_call_i hA hK hw (va_runV (As := [.ref a1]) (rest := []) ⟨hx, hb, hml, hown, hts⟩ (c_X10_isWord zo l D cy L0 f0 a0 a1 b_a1 v_a1 nb_a1 tx_a1 ad hs _) (cwV 1 hts (gT (inV (mr20 _ (List.mem_of_getElem? (i := 3) rfl)) (mr20 _ (List.mem_of_getElem? (i := 4) rfl)) (mr20 _ (List.mem_of_getElem? (i := 5) rfl)) (mr1 _ (List.mem_of_getElem? (i := 5) rfl)) (mr20 _ (List.mem_of_getElem? (i := 6) rfl)))) rfl rfl rfl (by decide +kernel) ⟨Nat.le_of_ble_eq_true rfl, Nat.le_of_ble_eq_true rfl⟩) (Wd.preV zo hA hZ hw hK hs.1 hs.2.1 rfl) rfl rfl hl.1 rfl (lv_room (Nat.le_of_ble_eq_true rfl)) dX10_must_9 ⟨Nat.le_of_ble_eq_true rfl, Nat.le_of_ble_eq_true rfl⟩) (fun x_4 L1 f1 H locs lx_4 ux_4 ex_4 hw => ?_)
    obtain ⟨rfl, rfl, ex_4⟩ := ex_4
    refine q_if_ne (tgt := 20) hx hb dX10_must_12 (by decide) ⟨lx_4, ux_4⟩ (fun c12 => ?_) (fun c12 => ?_)
    · refine lv_aload_n hx hb dX10_must_20 rfl (lv_at hl 0 rfl) ?_
      refine q_call_v hA hK hw (va_runV (As := []) (rest := []) ⟨hx, hb, hml, hown, hts⟩ (c_X10_next zo l D cy L0 f0 a0 ad hs (by omega) (by omega) (by omega) (by omega) (by omega) _) (cwV 0 hts (gT (inV (mr19 _ (List.mem_of_getElem? (i := 4) rfl)) (mr19 _ (List.mem_of_getElem? (i := 5) rfl)) (mr19 _ (List.mem_of_getElem? (i := 6) rfl)) (mr1 _ (List.mem_of_getElem? (i := 5) rfl)) (mr19 _ (List.mem_of_getElem? (i := 7) rfl)))) rfl rfl rfl (by decide +kernel) ⟨Nat.le_of_ble_eq_true rfl, Nat.le_of_ble_eq_true rfl⟩) (Wd.preV zo hA hZ hw hK hs.1 hs.2.1 rfl) rfl rfl hl.1 rfl (lv_room (Nat.le_of_ble_eq_true rfl)) dX10_must_21 ⟨Nat.le_of_ble_eq_true rfl, Nat.le_of_ble_eq_true rfl⟩) (fun L1 f_6 H locs ex_5 hw => ?_)
      obtain ⟨rfl, hs, hX, ex_5⟩ := ex_5
      have hE := hE.trans (hX.mono (rs' := []) (fs' := [15, 16, 17, 18, 19, 20]) (by decide) (by decide))
      have t14_f_6 : fI f_6 a0 14 = fI f0 a0 14 := hX.2 14 (by decide)
      have t20_f_6 : fI f_6 a0 20 = fI f0 a0 20 := hX.2 20 (by decide)
      exact q_ret_v hx hb hr hlocks hK hAe hw (Nat.le_of_ble_eq_true rfl) (Nat.le_of_ble_eq_true rfl) dX10_must_24 (by exact ⟨rfl, hs, hE, by first | trivial | omega⟩)
    · refine lv_aload_n hx hb dX10_must_15 rfl (lv_at hl 0 rfl) ?_
      refine q_iconst hx hb dX10_must_16 ?_
      refine q_call_v hA hK hw (va_runV (As := [.int (iI 1)]) (rest := []) ⟨hx, hb, hml, hown, hts⟩ (c_X10_wrong zo l D cy L0 f0 a0 1 (by decide) (by decide) ad hs (by omega) (by omega) (by omega) (by omega) _) (cwV 1 hts (gT (inV (mr20 _ (List.mem_of_getElem? (i := 12) rfl)) (mr20 _ (List.mem_of_getElem? (i := 13) rfl)) (mr20 _ (List.mem_of_getElem? (i := 14) rfl)) (mr1 _ (List.mem_of_getElem? (i := 5) rfl)) (mr20 _ (List.mem_of_getElem? (i := 15) rfl)))) rfl rfl rfl (by decide +kernel) ⟨Nat.le_of_ble_eq_true rfl, Nat.le_of_ble_eq_true rfl⟩) (Wd.preV zo hA hZ hw hK hs.1 hs.2.1 rfl) rfl rfl hl.1 rfl (lv_room (Nat.le_of_ble_eq_true rfl)) dX10_must_17 ⟨Nat.le_of_ble_eq_true rfl, Nat.le_of_ble_eq_true rfl⟩) (fun L1 f_8 H locs ex_7 hw => ?_)
      obtain ⟨rfl, hs, hX, ex_7⟩ := ex_7
      have hE := hE.trans (hX.mono (rs' := []) (fs' := [15, 16, 17, 18, 19, 20]) (by decide) (by decide))
      have t14_f_8 : fI f_8 a0 14 = fI f0 a0 14 := hX.2 14 (by decide)
      have t15_f_8 : fI f_8 a0 15 = fI f0 a0 15 := hX.2 15 (by decide)
      have t16_f_8 : fI f_8 a0 16 = fI f0 a0 16 := hX.2 16 (by decide)
      have t17_f_8 : fI f_8 a0 17 = fI f0 a0 17 := hX.2 17 (by decide)
      refine lv_aload_n hx hb dX10_must_20 rfl (lv_at hl 0 rfl) ?_
      refine q_call_v hA hK hw (va_runV (As := []) (rest := []) ⟨hx, hb, hml, hown, hts⟩ (c_X10_next zo l D cy L0 f_8 a0 ad hs (by omega) (by omega) (by omega) (by omega) (by omega) _) (cwV 0 hts (gT (inV (mr19 _ (List.mem_of_getElem? (i := 4) rfl)) (mr19 _ (List.mem_of_getElem? (i := 5) rfl)) (mr19 _ (List.mem_of_getElem? (i := 6) rfl)) (mr1 _ (List.mem_of_getElem? (i := 5) rfl)) (mr19 _ (List.mem_of_getElem? (i := 7) rfl)))) rfl rfl rfl (by decide +kernel) ⟨Nat.le_of_ble_eq_true rfl, Nat.le_of_ble_eq_true rfl⟩) (Wd.preV zo hA hZ hw hK hs.1 hs.2.1 rfl) rfl rfl hl.1 rfl (lv_room (Nat.le_of_ble_eq_true rfl)) dX10_must_21 ⟨Nat.le_of_ble_eq_true rfl, Nat.le_of_ble_eq_true rfl⟩) (fun L1 f_10 H locs ex_9 hw => ?_)
      obtain ⟨rfl, hs, hX, ex_9⟩ := ex_9
      have hE := hE.trans (hX.mono (rs' := []) (fs' := [15, 16, 17, 18, 19, 20]) (by decide) (by decide))
      have t14_f_10 : fI f_10 a0 14 = fI f_8 a0 14 := hX.2 14 (by decide)
      have t20_f_10 : fI f_10 a0 20 = fI f_8 a0 20 := hX.2 20 (by decide)
      exact q_ret_v hx hb hr hlocks hK hAe hw (Nat.le_of_ble_eq_true rfl) (Nat.le_of_ble_eq_true rfl) dX10_must_24 (by exact ⟨rfl, hs, hE, by first | trivial | omega⟩)
set_option maxHeartbeats 4000000 in
set_option maxRecDepth 100000 in
theorem c_X10_numberTold {Z : Zt} (zo : Zok Z) (l : Launch) (D : va_G) (cy : Cy) (L0 : List Nat) (f0 : Nat → va_E) (a0 : Nat) (x1 : Int) (lx1 : -2147483648 ≤ x1) (ux1 : x1 ≤ 2147483647) (x2 : Int) (lx2 : -2147483648 ≤ x2) (ux2 : x2 ≤ 2147483647) (ad : Nat → Nat) (hs : MS cy L0 f0 a0 ad) (p1 : 0 ≤ fI f0 a0 15) (p2 : fI f0 a0 15 ≤ 168) (p3 : 0 ≤ fI f0 a0 16) (p4 : fI f0 a0 16 ≤ 168) (p5 : fI f0 a0 14 ≤ 168) (p6 : 0 ≤ fI f0 a0 20) : Ci Z l yX10_numberTold (Cond.code yX10_numberTold cX10_numberTold 4 (some .int) :: TB) ({ frames := 2, cells := 0, slots := 0, locals := 43 } : Room) 0 0 D (tq cy) [.ref a0, .int (iI x1), .int (iI x2)] L0 f0 (fun (r : Int) (L1 : List Nat) (f1 : Nat → va_E) => L0 = L1 ∧ MS cy L0 f1 a0 ad ∧ Kp a0 ad [] [15, 16, 17, 18, 19, 20] f0 f1 ∧ (0 ≤ fI f1 a0 15 ∧ fI f1 a0 15 ≤ 168 ∧ 0 ≤ fI f1 a0 16 ∧ fI f1 a0 16 ≤ 168 ∧ 0 ≤ fI f1 a0 20 ∧ (fI f1 a0 20 = 0 → fI f0 a0 20 = 0) ∧ (fI f1 a0 20 = 0 → x1 ≤ r ∧ r ≤ x2))) := by
  refine Ci.enter (cc := cX10_numberTold) (n := 4) rfl (plainFor_of_name (by decide)) (Nat.le_of_ble_eq_true rfl) ?_
  intro p e s m below meth c ls A hx hb hr hts hown hlocks hnm hml hK hA hAe hw hZ hl
  have hown : s.vm.findClass RX10 = some m.cls := hown
  have hl : lv_has ls 4 [(0, .ref a0), (1, .int (iI x1)), (2, .int (iI x2))] := hl
  have hN : ZN s := (zo.2.2.2.2 _ _ _ hZ).2
  have hE : Kp a0 ad [] [15, 16, 17, 18, 19, 20] f0 f0 := Kp.refl _ _ _ _ _
  refine lv_aload_n hx hb dX10_numberTold_0 rfl (lv_at hl 0 rfl) ?_
  refine q_geti (ci := 8) (C := RX10) (T := TX10) (N := 26) hx hb hts (fun w h => List.mem_cons_of_mem _ (mfX100 w h)) hown hK hw hs.1 hs.2.1 rfl 20 (by decide) (hts _ (List.mem_cons_of_mem _ (mr19 _ (List.mem_of_getElem? (i := 2) rfl)))) (fun _ h => h) rfl dX10_numberTold_1 (fun x_1 lx_1 ux_1 ex_1 => ?_)
  have J20 : ∀ (L : List Nat) (fw20 : Nat → va_E) (hs : MS cy L0 fw20 a0 ad) (hE : Kp a0 ad [] [15, 16, 17, 18, 19, 20] f0 fw20) (j1 : 0 ≤ fI fw20 a0 16) (j2 : fI fw20 a0 16 ≤ 168) (j3 : 0 ≤ fI fw20 a0 15) (j4 : fI fw20 a0 15 ≤ 168) (j5 : fI fw20 a0 14 ≤ 168) (k1 : 0 ≤ fI fw20 a0 20) (k2 : fI fw20 a0 20 = 0 → fI f0 a0 20 = 0) (H : Heap) (locs : List Loc) (ls : Array Slot) (hw : Wd D A s.heap L0 fw20 H locs) (hl : lv_has ls 4 [(0, .ref a0), (1, .int (iI x1)), (2, .int (iI x2))]), W p l e ({ frames := 2, cells := 0, slots := 0, locals := 43 } : Room) s m ([.ref a0, .int (iI x1), .int (iI x2)] : List Value).toArray below meth c H locs (0) (0) (MQ below (Qi D (tq cy) L0 f0 s.heap.size (fun (r : Int) (L1 : List Nat) (f1 : Nat → va_E) => L0 = L1 ∧ MS cy L0 f1 a0 ad ∧ Kp a0 ad [] [15, 16, 17, 18, 19, 20] f0 f1 ∧ (0 ≤ fI f1 a0 15 ∧ fI f1 a0 15 ≤ 168 ∧ 0 ≤ fI f1 a0 16 ∧ fI f1 a0 16 ≤ 168 ∧ 0 ≤ fI f1 a0 20 ∧ (fI f1 a0 20 = 0 → fI f0 a0 20 = 0) ∧ (fI f1 a0 20 = 0 → x1 ≤ r ∧ r ≤ x2)))) ([.ref a0, .int (iI x1), .int (iI x2)] : List Value).toArray s 0 0 A) (F0 m 20 ls []) := by
    intro L fw20 hs hE j1 j2 j3 j4 j5 k1 k2 H locs ls hw hl
    refine lv_aload_n hx hb dX10_numberTold_20 rfl (lv_at hl 0 rfl) ?_
    refine q_geti (ci := 8) (C := RX10) (T := TX10) (N := 26) hx hb hts (fun w h => List.mem_cons_of_mem _ (mfX100 w h)) hown hK hw hs.1 hs.2.1 rfl 20 (by decide) (hts _ (List.mem_cons_of_mem _ (mr19 _ (List.mem_of_getElem? (i := 2) rfl)))) (fun _ h => h) rfl dX10_numberTold_21 (fun x_2 lx_2 ux_2 ex_2 => ?_)
    have J44 : ∀ (L : List Nat) (fw44 : Nat → va_E) (hs : MS cy L0 fw44 a0 ad) (hE : Kp a0 ad [] [15, 16, 17, 18, 19, 20] f0 fw44) (j1 : 0 ≤ fI fw44 a0 16) (j2 : fI fw44 a0 16 ≤ 168) (j3 : 0 ≤ fI fw44 a0 15) (j4 : fI fw44 a0 15 ≤ 168) (j5 : fI fw44 a0 14 ≤ 168) (k1 : 0 ≤ fI fw44 a0 20) (k2 : fI fw44 a0 20 = 0 → fI f0 a0 20 = 0) (k3 : fI fw44 a0 20 = 0 → x1 ≤ fI fw44 a0 19 ∧ fI fw44 a0 19 ≤ x2) (H : Heap) (locs : List Loc) (ls : Array Slot) (hw : Wd D A s.heap L0 fw44 H locs) (hl : lv_has ls 4 [(0, .ref a0)]), W p l e ({ frames := 2, cells := 0, slots := 0, locals := 43 } : Room) s m ([.ref a0, .int (iI x1), .int (iI x2)] : List Value).toArray below meth c H locs (0) (0) (MQ below (Qi D (tq cy) L0 f0 s.heap.size (fun (r : Int) (L1 : List Nat) (f1 : Nat → va_E) => L0 = L1 ∧ MS cy L0 f1 a0 ad ∧ Kp a0 ad [] [15, 16, 17, 18, 19, 20] f0 f1 ∧ (0 ≤ fI f1 a0 15 ∧ fI f1 a0 15 ≤ 168 ∧ 0 ≤ fI f1 a0 16 ∧ fI f1 a0 16 ≤ 168 ∧ 0 ≤ fI f1 a0 20 ∧ (fI f1 a0 20 = 0 → fI f0 a0 20 = 0) ∧ (fI f1 a0 20 = 0 → x1 ≤ r ∧ r ≤ x2)))) ([.ref a0, .int (iI x1), .int (iI x2)] : List Value).toArray s 0 0 A) (F0 m 44 ls []) := by
      intro L fw44 hs hE j1 j2 j3 j4 j5 k1 k2 k3 H locs ls hw hl
      refine lv_aload_n hx hb dX10_numberTold_44 rfl (lv_at hl 0 rfl) ?_
      refine q_geti (ci := 8) (C := RX10) (T := TX10) (N := 26) hx hb hts (fun w h => List.mem_cons_of_mem _ (mfX100 w h)) hown hK hw hs.1 hs.2.1 rfl 19 (by decide) (hts _ (List.mem_cons_of_mem _ (mr19 _ (List.mem_of_getElem? (i := 11) rfl)))) (fun _ h => h) rfl dX10_numberTold_45 (fun x_3 lx_3 ux_3 ex_3 => ?_)
      refine lv_istore_n (lv' := [(3, .int (iI x_3)), (0, .ref a0)]) hx hb dX10_numberTold_48 rfl hl (by decide) rfl (fun ls hl => ?_)
      refine lv_aload_n hx hb dX10_numberTold_49 rfl (lv_at hl 1 rfl) ?_
      refine q_call_v hA hK hw (va_runV (As := []) (rest := []) ⟨hx, hb, hml, hown, hts⟩ (c_X10_next zo l D cy L0 fw44 a0 ad hs (by omega) (by omega) (by omega) (by omega) (by omega) _) (cwV 0 hts (gT (inV (mr19 _ (List.mem_of_getElem? (i := 4) rfl)) (mr19 _ (List.mem_of_getElem? (i := 5) rfl)) (mr19 _ (List.mem_of_getElem? (i := 6) rfl)) (mr1 _ (List.mem_of_getElem? (i := 5) rfl)) (mr19 _ (List.mem_of_getElem? (i := 7) rfl)))) rfl rfl rfl (by decide +kernel) ⟨Nat.le_of_ble_eq_true rfl, Nat.le_of_ble_eq_true rfl⟩) (Wd.preV zo hA hZ hw hK hs.1 hs.2.1 rfl) rfl rfl hl.1 rfl (lv_room (Nat.le_of_ble_eq_true rfl)) dX10_numberTold_50 ⟨Nat.le_of_ble_eq_true rfl, Nat.le_of_ble_eq_true rfl⟩) (fun L1 f_5 H locs ex_4 hw => ?_)
      obtain ⟨rfl, hs, hX, ex_4⟩ := ex_4
      have hE := hE.trans (hX.mono (rs' := []) (fs' := [15, 16, 17, 18, 19, 20]) (by decide) (by decide))
      have t14_f_5 : fI f_5 a0 14 = fI fw44 a0 14 := hX.2 14 (by decide)
      have t20_f_5 : fI f_5 a0 20 = fI fw44 a0 20 := hX.2 20 (by decide)
      refine lv_iload_n hx hb dX10_numberTold_53 rfl (lv_at hl 0 rfl) ?_
      exact q_ret_i hx hb hr hlocks hK hAe hw ⟨lx_3, ux_3⟩ (Nat.le_of_ble_eq_true rfl) (Nat.le_of_ble_eq_true rfl) dX10_numberTold_54 (by exact ⟨rfl, hs, hE, by first | trivial | omega⟩)
    refine q_if_ne (tgt := 44) hx hb dX10_numberTold_24 (by decide) ⟨lx_2, ux_2⟩ (fun c24 => ?_) (fun c24 => ?_)
    · exact J44 L0 fw20 hs hE (by omega) (by omega) (by omega) (by omega) (by omega) (by omega) (by omega) (by omega) _ _ _ hw (lv_sub hl [0] rfl)
    · refine lv_aload_n hx hb dX10_numberTold_27 rfl (lv_at hl 0 rfl) ?_
      refine q_geti (ci := 8) (C := RX10) (T := TX10) (N := 26) hx hb hts (fun w h => List.mem_cons_of_mem _ (mfX100 w h)) hown hK hw hs.1 hs.2.1 rfl 19 (by decide) (hts _ (List.mem_cons_of_mem _ (mr19 _ (List.mem_of_getElem? (i := 11) rfl)))) (fun _ h => h) rfl dX10_numberTold_28 (fun x_6 lx_6 ux_6 ex_6 => ?_)
      refine lv_iload_n hx hb dX10_numberTold_31 rfl (lv_at hl 1 rfl) ?_
      refine lv_iload_n hx hb dX10_numberTold_32 rfl (lv_at hl 2 rfl) ?_
      refine q_call_i hA hK hw (va_runS (As := [.int (iI x_6), .int (iI x1), .int (iI x2)]) (rest := []) ⟨hx, hb, hml, hown, hts⟩ (c_X10_within zo l D cy L0 fw20 x_6 lx_6 ux_6 x1 lx1 ux1 x2 lx2 ux2 _) (va_cwS 3 hts (gT (inS (mr5 _ (List.mem_of_getElem? (i := 9) rfl)) (mr5 _ (List.mem_of_getElem? (i := 10) rfl)) (mr1 _ (List.mem_of_getElem? (i := 5) rfl)) (mr5 _ (List.mem_of_getElem? (i := 11) rfl)))) rfl rfl rfl (by decide +kernel) ⟨Nat.le_of_ble_eq_true rfl, Nat.le_of_ble_eq_true rfl⟩) (Wd.preS zo hA hZ hw hK) rfl rfl hl.1 rfl (lv_room (Nat.le_of_ble_eq_true rfl)) dX10_numberTold_33 ⟨Nat.le_of_ble_eq_true rfl, Nat.le_of_ble_eq_true rfl⟩) (fun x_7 L1 f1 H locs lx_7 ux_7 ex_7 hw => ?_)
      obtain ⟨rfl, rfl, ex_7⟩ := ex_7
      refine q_if_ne (tgt := 44) hx hb dX10_numberTold_36 (by decide) ⟨lx_7, ux_7⟩ (fun c36 => ?_) (fun c36 => ?_)
      · exact J44 L0 fw20 hs hE (by omega) (by omega) (by omega) (by omega) (by omega) (by omega) (by omega) (by omega) _ _ _ hw (lv_sub hl [0] rfl)
      · refine lv_aload_n hx hb dX10_numberTold_39 rfl (lv_at hl 0 rfl) ?_
        refine q_iconst hx hb dX10_numberTold_40 ?_
        refine q_call_v hA hK hw (va_runV (As := [.int (iI 2)]) (rest := []) ⟨hx, hb, hml, hown, hts⟩ (c_X10_wrong zo l D cy L0 fw20 a0 2 (by decide) (by decide) ad hs (by omega) (by omega) (by omega) (by omega) _) (cwV 1 hts (gT (inV (mr20 _ (List.mem_of_getElem? (i := 12) rfl)) (mr20 _ (List.mem_of_getElem? (i := 13) rfl)) (mr20 _ (List.mem_of_getElem? (i := 14) rfl)) (mr1 _ (List.mem_of_getElem? (i := 5) rfl)) (mr20 _ (List.mem_of_getElem? (i := 15) rfl)))) rfl rfl rfl (by decide +kernel) ⟨Nat.le_of_ble_eq_true rfl, Nat.le_of_ble_eq_true rfl⟩) (Wd.preV zo hA hZ hw hK hs.1 hs.2.1 rfl) rfl rfl hl.1 rfl (lv_room (Nat.le_of_ble_eq_true rfl)) dX10_numberTold_41 ⟨Nat.le_of_ble_eq_true rfl, Nat.le_of_ble_eq_true rfl⟩) (fun L1 f_9 H locs ex_8 hw => ?_)
        obtain ⟨rfl, hs, hX, ex_8⟩ := ex_8
        have hE := hE.trans (hX.mono (rs' := []) (fs' := [15, 16, 17, 18, 19, 20]) (by decide) (by decide))
        have t14_f_9 : fI f_9 a0 14 = fI fw20 a0 14 := hX.2 14 (by decide)
        have t15_f_9 : fI f_9 a0 15 = fI fw20 a0 15 := hX.2 15 (by decide)
        have t16_f_9 : fI f_9 a0 16 = fI fw20 a0 16 := hX.2 16 (by decide)
        have t17_f_9 : fI f_9 a0 17 = fI fw20 a0 17 := hX.2 17 (by decide)
        have t19_f_9 : fI f_9 a0 19 = fI fw20 a0 19 := hX.2 19 (by decide)
        exact J44 L0 f_9 hs hE (by omega) (by omega) (by omega) (by omega) (by omega) (by omega) (by omega) (by omega) _ _ _ hw (lv_sub hl [0] rfl)
  refine q_if_ne (tgt := 20) hx hb dX10_numberTold_4 (by decide) ⟨lx_1, ux_1⟩ (fun c4 => ?_) (fun c4 => ?_)
  · exact J20 L0 f0 hs hE (by omega) (by omega) (by omega) (by omega) (by omega) (by omega) (by omega) _ _ _ hw (lv_sub hl [0, 1, 2] rfl)
  · refine lv_aload_n hx hb dX10_numberTold_7 rfl (lv_at hl 0 rfl) ?_
    refine q_geti (ci := 8) (C := RX10) (T := TX10) (N := 26) hx hb hts (fun w h => List.mem_cons_of_mem _ (mfX100 w h)) hown hK hw hs.1 hs.2.1 rfl 17 (by decide) (hts _ (List.mem_cons_of_mem _ (mr19 _ (List.mem_of_getElem? (i := 9) rfl)))) (fun _ h => h) rfl dX10_numberTold_8 (fun x_10 lx_10 ux_10 ex_10 => ?_)
    refine q_iconst hx hb dX10_numberTold_11 ?_
    refine q_icmp_eq (tgt := 20) hx hb dX10_numberTold_12 (by decide) ⟨lx_10, ux_10⟩ ⟨by decide, by decide⟩ (fun c12 => ?_) (fun c12 => ?_)
    · exact J20 L0 f0 hs hE (by omega) (by omega) (by omega) (by omega) (by omega) (by omega) (by omega) _ _ _ hw (lv_sub hl [0, 1, 2] rfl)
    · refine lv_aload_n hx hb dX10_numberTold_15 rfl (lv_at hl 0 rfl) ?_
      refine q_iconst hx hb dX10_numberTold_16 ?_
      refine q_call_v hA hK hw (va_runV (As := [.int (iI 1)]) (rest := []) ⟨hx, hb, hml, hown, hts⟩ (c_X10_wrong zo l D cy L0 f0 a0 1 (by decide) (by decide) ad hs (by omega) (by omega) (by omega) (by omega) _) (cwV 1 hts (gT (inV (mr20 _ (List.mem_of_getElem? (i := 12) rfl)) (mr20 _ (List.mem_of_getElem? (i := 13) rfl)) (mr20 _ (List.mem_of_getElem? (i := 14) rfl)) (mr1 _ (List.mem_of_getElem? (i := 5) rfl)) (mr20 _ (List.mem_of_getElem? (i := 15) rfl)))) rfl rfl rfl (by decide +kernel) ⟨Nat.le_of_ble_eq_true rfl, Nat.le_of_ble_eq_true rfl⟩) (Wd.preV zo hA hZ hw hK hs.1 hs.2.1 rfl) rfl rfl hl.1 rfl (lv_room (Nat.le_of_ble_eq_true rfl)) dX10_numberTold_17 ⟨Nat.le_of_ble_eq_true rfl, Nat.le_of_ble_eq_true rfl⟩) (fun L1 f_12 H locs ex_11 hw => ?_)
      obtain ⟨rfl, hs, hX, ex_11⟩ := ex_11
      have hE := hE.trans (hX.mono (rs' := []) (fs' := [15, 16, 17, 18, 19, 20]) (by decide) (by decide))
      have t14_f_12 : fI f_12 a0 14 = fI f0 a0 14 := hX.2 14 (by decide)
      have t15_f_12 : fI f_12 a0 15 = fI f0 a0 15 := hX.2 15 (by decide)
      have t16_f_12 : fI f_12 a0 16 = fI f0 a0 16 := hX.2 16 (by decide)
      have t17_f_12 : fI f_12 a0 17 = fI f0 a0 17 := hX.2 17 (by decide)
      have t19_f_12 : fI f_12 a0 19 = fI f0 a0 19 := hX.2 19 (by decide)
      exact J20 L0 f_12 hs hE (by omega) (by omega) (by omega) (by omega) (by omega) (by omega) (by omega) _ _ _ hw (lv_sub hl [0, 1, 2] rfl)
set_option maxHeartbeats 4000000 in
set_option maxRecDepth 100000 in
theorem c_X10_weekdayHere {Z : Zt} (zo : Zok Z) (l : Launch) (D : va_G) (cy : Cy) (L0 : List Nat) (f0 : Nat → va_E) (a0 : Nat) (ad : Nat → Nat) (hs : MS cy L0 f0 a0 ad) : Ci Z l yX10_weekdayHere (Cond.code yX10_weekdayHere cX10_weekdayHere 1 (some .int) :: TB) ({ frames := 6, cells := 0, slots := 0, locals := 129 } : Room) 0 0 D (tq cy) [.ref a0] L0 f0 (fun (r : Int) (L1 : List Nat) (f1 : Nat → va_E) => L0 = L1 ∧ f0 = f1 ∧ (-1 ≤ r ∧ r ≤ 6 ∧ (0 ≤ r → fI f0 a0 20 = 0 ∧ fI f0 a0 17 = 1))) := by
  refine Ci.enter (cc := cX10_weekdayHere) (n := 1) rfl (plainFor_of_name (by decide)) (Nat.le_of_ble_eq_true rfl) ?_
  intro p e s m below meth c ls A hx hb hr hts hown hlocks hnm hml hK hA hAe hw hZ hl
  have hown : s.vm.findClass RX10 = some m.cls := hown
  have hl : lv_has ls 1 [(0, .ref a0)] := hl
  have hN : ZN s := (zo.2.2.2.2 _ _ _ hZ).2
  refine lv_aload_n hx hb dX10_weekdayHere_0 rfl (lv_at hl 0 rfl) ?_
  obtain ⟨t_1, v_t_1, h_t_1⟩ : ∃ q v : Nat, ∀ (A : Nat → Prop) (U : State) (H : Heap), Z A U H → vk_R RX10 140 "mon" q U ∧ Tx [109, 111, 110] q v A U H := ztx_18 zo
  obtain ⟨b_t_1, eb_t_1⟩ : ∃ b : List Int32, b = [109, 111, 110] := ⟨_, rfl⟩
  have nb_t_1 : Asc b_t_1 := by rw [eb_t_1]; exact ⟨by decide, by decide +kernel⟩
  have tx_t_1 : ∀ (A : Nat → Prop) (U : State) (H : Heap), Z A U H → Tx b_t_1 t_1 v_t_1 A U H := fun A U H h => by rw [eb_t_1]; exact (h_t_1 A U H h).2
  refine va_ldcS hx hb hown (h_t_1 _ _ _ hZ).1 dX10_weekdayHere_1 ?_
  refine q_call_i hA hK hw (va_runV (As := [.ref t_1]) (rest := []) ⟨hx, hb, hml, hown, hts⟩ (c_X10_isWord zo l D cy L0 f0 a0 t_1 b_t_1 v_t_1 nb_t_1 tx_t_1 ad hs _) (cwV 1 hts (gT (inV (mr20 _ (List.mem_of_getElem? (i := 3) rfl)) (mr20 _ (List.mem_of_getElem? (i := 4) rfl)) (mr20 _ (List.mem_of_getElem? (i := 5) rfl)) (mr1 _ (List.mem_of_getElem? (i := 5) rfl)) (mr20 _ (List.mem_of_getElem? (i := 6) rfl)))) rfl rfl rfl (by decide +kernel) ⟨Nat.le_of_ble_eq_true rfl, Nat.le_of_ble_eq_true rfl⟩) (Wd.preV zo hA hZ hw hK hs.1 hs.2.1 rfl) rfl rfl hl.1 rfl (lv_room (Nat.le_of_ble_eq_true rfl)) dX10_weekdayHere_3 ⟨Nat.le_of_ble_eq_true rfl, Nat.le_of_ble_eq_true rfl⟩) (fun x_2 L1 f1 H locs lx_2 ux_2 ex_2 hw => ?_)
  obtain ⟨rfl, rfl, ex_2⟩ := ex_2
  refine q_if_eq (tgt := 11) hx hb dX10_weekdayHere_6 (by decide) ⟨lx_2, ux_2⟩ (fun c6 => ?_) (fun c6 => ?_)
  · refine lv_aload_n hx hb dX10_weekdayHere_11 rfl (lv_at hl 0 rfl) ?_
    obtain ⟨t_3, v_t_3, h_t_3⟩ : ∃ q v : Nat, ∀ (A : Nat → Prop) (U : State) (H : Heap), Z A U H → vk_R RX10 142 "tue" q U ∧ Tx [116, 117, 101] q v A U H := ztx_19 zo
    obtain ⟨b_t_3, eb_t_3⟩ : ∃ b : List Int32, b = [116, 117, 101] := ⟨_, rfl⟩
    have nb_t_3 : Asc b_t_3 := by rw [eb_t_3]; exact ⟨by decide, by decide +kernel⟩
    have tx_t_3 : ∀ (A : Nat → Prop) (U : State) (H : Heap), Z A U H → Tx b_t_3 t_3 v_t_3 A U H := fun A U H h => by rw [eb_t_3]; exact (h_t_3 A U H h).2
    refine va_ldcS hx hb hown (h_t_3 _ _ _ hZ).1 dX10_weekdayHere_12 ?_
    refine q_call_i hA hK hw (va_runV (As := [.ref t_3]) (rest := []) ⟨hx, hb, hml, hown, hts⟩ (c_X10_isWord zo l D cy L0 f0 a0 t_3 b_t_3 v_t_3 nb_t_3 tx_t_3 ad hs _) (cwV 1 hts (gT (inV (mr20 _ (List.mem_of_getElem? (i := 3) rfl)) (mr20 _ (List.mem_of_getElem? (i := 4) rfl)) (mr20 _ (List.mem_of_getElem? (i := 5) rfl)) (mr1 _ (List.mem_of_getElem? (i := 5) rfl)) (mr20 _ (List.mem_of_getElem? (i := 6) rfl)))) rfl rfl rfl (by decide +kernel) ⟨Nat.le_of_ble_eq_true rfl, Nat.le_of_ble_eq_true rfl⟩) (Wd.preV zo hA hZ hw hK hs.1 hs.2.1 rfl) rfl rfl hl.1 rfl (lv_room (Nat.le_of_ble_eq_true rfl)) dX10_weekdayHere_14 ⟨Nat.le_of_ble_eq_true rfl, Nat.le_of_ble_eq_true rfl⟩) (fun x_4 L1 f1 H locs lx_4 ux_4 ex_4 hw => ?_)
    obtain ⟨rfl, rfl, ex_4⟩ := ex_4
    refine q_if_eq (tgt := 22) hx hb dX10_weekdayHere_17 (by decide) ⟨lx_4, ux_4⟩ (fun c17 => ?_) (fun c17 => ?_)
    · refine lv_aload_n hx hb dX10_weekdayHere_22 rfl (lv_at hl 0 rfl) ?_
      obtain ⟨t_5, v_t_5, h_t_5⟩ : ∃ q v : Nat, ∀ (A : Nat → Prop) (U : State) (H : Heap), Z A U H → vk_R RX10 144 "wed" q U ∧ Tx [119, 101, 100] q v A U H := ztx_20 zo
      obtain ⟨b_t_5, eb_t_5⟩ : ∃ b : List Int32, b = [119, 101, 100] := ⟨_, rfl⟩
      have nb_t_5 : Asc b_t_5 := by rw [eb_t_5]; exact ⟨by decide, by decide +kernel⟩
      have tx_t_5 : ∀ (A : Nat → Prop) (U : State) (H : Heap), Z A U H → Tx b_t_5 t_5 v_t_5 A U H := fun A U H h => by rw [eb_t_5]; exact (h_t_5 A U H h).2
      refine va_ldcS hx hb hown (h_t_5 _ _ _ hZ).1 dX10_weekdayHere_23 ?_
      refine q_call_i hA hK hw (va_runV (As := [.ref t_5]) (rest := []) ⟨hx, hb, hml, hown, hts⟩ (c_X10_isWord zo l D cy L0 f0 a0 t_5 b_t_5 v_t_5 nb_t_5 tx_t_5 ad hs _) (cwV 1 hts (gT (inV (mr20 _ (List.mem_of_getElem? (i := 3) rfl)) (mr20 _ (List.mem_of_getElem? (i := 4) rfl)) (mr20 _ (List.mem_of_getElem? (i := 5) rfl)) (mr1 _ (List.mem_of_getElem? (i := 5) rfl)) (mr20 _ (List.mem_of_getElem? (i := 6) rfl)))) rfl rfl rfl (by decide +kernel) ⟨Nat.le_of_ble_eq_true rfl, Nat.le_of_ble_eq_true rfl⟩) (Wd.preV zo hA hZ hw hK hs.1 hs.2.1 rfl) rfl rfl hl.1 rfl (lv_room (Nat.le_of_ble_eq_true rfl)) dX10_weekdayHere_25 ⟨Nat.le_of_ble_eq_true rfl, Nat.le_of_ble_eq_true rfl⟩) (fun x_6 L1 f1 H locs lx_6 ux_6 ex_6 hw => ?_)
      obtain ⟨rfl, rfl, ex_6⟩ := ex_6
      refine q_if_eq (tgt := 33) hx hb dX10_weekdayHere_28 (by decide) ⟨lx_6, ux_6⟩ (fun c28 => ?_) (fun c28 => ?_)
      · refine lv_aload_n hx hb dX10_weekdayHere_33 rfl (lv_at hl 0 rfl) ?_
        obtain ⟨t_7, v_t_7, h_t_7⟩ : ∃ q v : Nat, ∀ (A : Nat → Prop) (U : State) (H : Heap), Z A U H → vk_R RX10 146 "thu" q U ∧ Tx [116, 104, 117] q v A U H := ztx_21 zo
        obtain ⟨b_t_7, eb_t_7⟩ : ∃ b : List Int32, b = [116, 104, 117] := ⟨_, rfl⟩
        have nb_t_7 : Asc b_t_7 := by rw [eb_t_7]; exact ⟨by decide, by decide +kernel⟩
        have tx_t_7 : ∀ (A : Nat → Prop) (U : State) (H : Heap), Z A U H → Tx b_t_7 t_7 v_t_7 A U H := fun A U H h => by rw [eb_t_7]; exact (h_t_7 A U H h).2
        refine va_ldcS hx hb hown (h_t_7 _ _ _ hZ).1 dX10_weekdayHere_34 ?_
        refine q_call_i hA hK hw (va_runV (As := [.ref t_7]) (rest := []) ⟨hx, hb, hml, hown, hts⟩ (c_X10_isWord zo l D cy L0 f0 a0 t_7 b_t_7 v_t_7 nb_t_7 tx_t_7 ad hs _) (cwV 1 hts (gT (inV (mr20 _ (List.mem_of_getElem? (i := 3) rfl)) (mr20 _ (List.mem_of_getElem? (i := 4) rfl)) (mr20 _ (List.mem_of_getElem? (i := 5) rfl)) (mr1 _ (List.mem_of_getElem? (i := 5) rfl)) (mr20 _ (List.mem_of_getElem? (i := 6) rfl)))) rfl rfl rfl (by decide +kernel) ⟨Nat.le_of_ble_eq_true rfl, Nat.le_of_ble_eq_true rfl⟩) (Wd.preV zo hA hZ hw hK hs.1 hs.2.1 rfl) rfl rfl hl.1 rfl (lv_room (Nat.le_of_ble_eq_true rfl)) dX10_weekdayHere_36 ⟨Nat.le_of_ble_eq_true rfl, Nat.le_of_ble_eq_true rfl⟩) (fun x_8 L1 f1 H locs lx_8 ux_8 ex_8 hw => ?_)
        obtain ⟨rfl, rfl, ex_8⟩ := ex_8
        refine q_if_eq (tgt := 44) hx hb dX10_weekdayHere_39 (by decide) ⟨lx_8, ux_8⟩ (fun c39 => ?_) (fun c39 => ?_)
        · refine lv_aload_n hx hb dX10_weekdayHere_44 rfl (lv_at hl 0 rfl) ?_
          obtain ⟨t_9, v_t_9, h_t_9⟩ : ∃ q v : Nat, ∀ (A : Nat → Prop) (U : State) (H : Heap), Z A U H → vk_R RX10 148 "fri" q U ∧ Tx [102, 114, 105] q v A U H := ztx_22 zo
          obtain ⟨b_t_9, eb_t_9⟩ : ∃ b : List Int32, b = [102, 114, 105] := ⟨_, rfl⟩
          have nb_t_9 : Asc b_t_9 := by rw [eb_t_9]; exact ⟨by decide, by decide +kernel⟩
          have tx_t_9 : ∀ (A : Nat → Prop) (U : State) (H : Heap), Z A U H → Tx b_t_9 t_9 v_t_9 A U H := fun A U H h => by rw [eb_t_9]; exact (h_t_9 A U H h).2
          refine va_ldcS hx hb hown (h_t_9 _ _ _ hZ).1 dX10_weekdayHere_45 ?_
          refine q_call_i hA hK hw (va_runV (As := [.ref t_9]) (rest := []) ⟨hx, hb, hml, hown, hts⟩ (c_X10_isWord zo l D cy L0 f0 a0 t_9 b_t_9 v_t_9 nb_t_9 tx_t_9 ad hs _) (cwV 1 hts (gT (inV (mr20 _ (List.mem_of_getElem? (i := 3) rfl)) (mr20 _ (List.mem_of_getElem? (i := 4) rfl)) (mr20 _ (List.mem_of_getElem? (i := 5) rfl)) (mr1 _ (List.mem_of_getElem? (i := 5) rfl)) (mr20 _ (List.mem_of_getElem? (i := 6) rfl)))) rfl rfl rfl (by decide +kernel) ⟨Nat.le_of_ble_eq_true rfl, Nat.le_of_ble_eq_true rfl⟩) (Wd.preV zo hA hZ hw hK hs.1 hs.2.1 rfl) rfl rfl hl.1 rfl (lv_room (Nat.le_of_ble_eq_true rfl)) dX10_weekdayHere_47 ⟨Nat.le_of_ble_eq_true rfl, Nat.le_of_ble_eq_true rfl⟩) (fun x_10 L1 f1 H locs lx_10 ux_10 ex_10 hw => ?_)
          obtain ⟨rfl, rfl, ex_10⟩ := ex_10
          refine q_if_eq (tgt := 55) hx hb dX10_weekdayHere_50 (by decide) ⟨lx_10, ux_10⟩ (fun c50 => ?_) (fun c50 => ?_)
          · refine lv_aload_n hx hb dX10_weekdayHere_55 rfl (lv_at hl 0 rfl) ?_
            obtain ⟨t_11, v_t_11, h_t_11⟩ : ∃ q v : Nat, ∀ (A : Nat → Prop) (U : State) (H : Heap), Z A U H → vk_R RX10 150 "sat" q U ∧ Tx [115, 97, 116] q v A U H := ztx_23 zo
            obtain ⟨b_t_11, eb_t_11⟩ : ∃ b : List Int32, b = [115, 97, 116] := ⟨_, rfl⟩
            have nb_t_11 : Asc b_t_11 := by rw [eb_t_11]; exact ⟨by decide, by decide +kernel⟩
            have tx_t_11 : ∀ (A : Nat → Prop) (U : State) (H : Heap), Z A U H → Tx b_t_11 t_11 v_t_11 A U H := fun A U H h => by rw [eb_t_11]; exact (h_t_11 A U H h).2
            refine va_ldcS hx hb hown (h_t_11 _ _ _ hZ).1 dX10_weekdayHere_56 ?_
            refine q_call_i hA hK hw (va_runV (As := [.ref t_11]) (rest := []) ⟨hx, hb, hml, hown, hts⟩ (c_X10_isWord zo l D cy L0 f0 a0 t_11 b_t_11 v_t_11 nb_t_11 tx_t_11 ad hs _) (cwV 1 hts (gT (inV (mr20 _ (List.mem_of_getElem? (i := 3) rfl)) (mr20 _ (List.mem_of_getElem? (i := 4) rfl)) (mr20 _ (List.mem_of_getElem? (i := 5) rfl)) (mr1 _ (List.mem_of_getElem? (i := 5) rfl)) (mr20 _ (List.mem_of_getElem? (i := 6) rfl)))) rfl rfl rfl (by decide +kernel) ⟨Nat.le_of_ble_eq_true rfl, Nat.le_of_ble_eq_true rfl⟩) (Wd.preV zo hA hZ hw hK hs.1 hs.2.1 rfl) rfl rfl hl.1 rfl (lv_room (Nat.le_of_ble_eq_true rfl)) dX10_weekdayHere_58 ⟨Nat.le_of_ble_eq_true rfl, Nat.le_of_ble_eq_true rfl⟩) (fun x_12 L1 f1 H locs lx_12 ux_12 ex_12 hw => ?_)
            obtain ⟨rfl, rfl, ex_12⟩ := ex_12
            refine q_if_eq (tgt := 66) hx hb dX10_weekdayHere_61 (by decide) ⟨lx_12, ux_12⟩ (fun c61 => ?_) (fun c61 => ?_)
            · refine lv_aload_n hx hb dX10_weekdayHere_66 rfl (lv_at hl 0 rfl) ?_
              obtain ⟨t_13, v_t_13, h_t_13⟩ : ∃ q v : Nat, ∀ (A : Nat → Prop) (U : State) (H : Heap), Z A U H → vk_R RX10 152 "sun" q U ∧ Tx [115, 117, 110] q v A U H := ztx_24 zo
              obtain ⟨b_t_13, eb_t_13⟩ : ∃ b : List Int32, b = [115, 117, 110] := ⟨_, rfl⟩
              have nb_t_13 : Asc b_t_13 := by rw [eb_t_13]; exact ⟨by decide, by decide +kernel⟩
              have tx_t_13 : ∀ (A : Nat → Prop) (U : State) (H : Heap), Z A U H → Tx b_t_13 t_13 v_t_13 A U H := fun A U H h => by rw [eb_t_13]; exact (h_t_13 A U H h).2
              refine va_ldcS hx hb hown (h_t_13 _ _ _ hZ).1 dX10_weekdayHere_67 ?_
              refine q_call_i hA hK hw (va_runV (As := [.ref t_13]) (rest := []) ⟨hx, hb, hml, hown, hts⟩ (c_X10_isWord zo l D cy L0 f0 a0 t_13 b_t_13 v_t_13 nb_t_13 tx_t_13 ad hs _) (cwV 1 hts (gT (inV (mr20 _ (List.mem_of_getElem? (i := 3) rfl)) (mr20 _ (List.mem_of_getElem? (i := 4) rfl)) (mr20 _ (List.mem_of_getElem? (i := 5) rfl)) (mr1 _ (List.mem_of_getElem? (i := 5) rfl)) (mr20 _ (List.mem_of_getElem? (i := 6) rfl)))) rfl rfl rfl (by decide +kernel) ⟨Nat.le_of_ble_eq_true rfl, Nat.le_of_ble_eq_true rfl⟩) (Wd.preV zo hA hZ hw hK hs.1 hs.2.1 rfl) rfl rfl hl.1 rfl (lv_room (Nat.le_of_ble_eq_true rfl)) dX10_weekdayHere_69 ⟨Nat.le_of_ble_eq_true rfl, Nat.le_of_ble_eq_true rfl⟩) (fun x_14 L1 f1 H locs lx_14 ux_14 ex_14 hw => ?_)
              obtain ⟨rfl, rfl, ex_14⟩ := ex_14
              refine q_if_eq (tgt := 80) hx hb dX10_weekdayHere_72 (by decide) ⟨lx_14, ux_14⟩ (fun c72 => ?_) (fun c72 => ?_)
              · refine q_iconst hx hb dX10_weekdayHere_80 ?_
                exact q_ret_i hx hb hr hlocks hK hAe hw ⟨by decide, by decide⟩ (Nat.le_of_ble_eq_true rfl) (Nat.le_of_ble_eq_true rfl) dX10_weekdayHere_81 ⟨rfl, rfl, by omega⟩
              · refine q_bipush hx hb dX10_weekdayHere_75 rfl ?_
                refine lv_goto (tgt := 81) hx hb dX10_weekdayHere_77 (by decide) ?_
                exact q_ret_i hx hb hr hlocks hK hAe hw ⟨by decide, by decide⟩ (Nat.le_of_ble_eq_true rfl) (Nat.le_of_ble_eq_true rfl) dX10_weekdayHere_81 ⟨rfl, rfl, by omega⟩
            · refine q_iconst hx hb dX10_weekdayHere_64 ?_
              exact q_ret_i hx hb hr hlocks hK hAe hw ⟨by decide, by decide⟩ (Nat.le_of_ble_eq_true rfl) (Nat.le_of_ble_eq_true rfl) dX10_weekdayHere_65 ⟨rfl, rfl, by omega⟩
          · refine q_iconst hx hb dX10_weekdayHere_53 ?_
            exact q_ret_i hx hb hr hlocks hK hAe hw ⟨by decide, by decide⟩ (Nat.le_of_ble_eq_true rfl) (Nat.le_of_ble_eq_true rfl) dX10_weekdayHere_54 ⟨rfl, rfl, by omega⟩
        · refine q_iconst hx hb dX10_weekdayHere_42 ?_
          exact q_ret_i hx hb hr hlocks hK hAe hw ⟨by decide, by decide⟩ (Nat.le_of_ble_eq_true rfl) (Nat.le_of_ble_eq_true rfl) dX10_weekdayHere_43 ⟨rfl, rfl, by omega⟩
      · refine q_iconst hx hb dX10_weekdayHere_31 ?_
        exact q_ret_i hx hb hr hlocks hK hAe hw ⟨by decide, by decide⟩ (Nat.le_of_ble_eq_true rfl) (Nat.le_of_ble_eq_true rfl) dX10_weekdayHere_32 ⟨rfl, rfl, by omega⟩
    · refine q_iconst hx hb dX10_weekdayHere_20 ?_
      exact q_ret_i hx hb hr hlocks hK hAe hw ⟨by decide, by decide⟩ (Nat.le_of_ble_eq_true rfl) (Nat.le_of_ble_eq_true rfl) dX10_weekdayHere_21 ⟨rfl, rfl, by omega⟩
  · refine q_iconst hx hb dX10_weekdayHere_9 ?_
    exact q_ret_i hx hb hr hlocks hK hAe hw ⟨by decide, by decide⟩ (Nat.le_of_ble_eq_true rfl) (Nat.le_of_ble_eq_true rfl) dX10_weekdayHere_10 ⟨rfl, rfl, by omega⟩
set_option maxHeartbeats 4000000 in
set_option maxRecDepth 100000 in
theorem c_X10_weekdayTold {Z : Zt} (zo : Zok Z) (l : Launch) (D : va_G) (cy : Cy) (L0 : List Nat) (f0 : Nat → va_E) (a0 : Nat) (ad : Nat → Nat) (hs : MS cy L0 f0 a0 ad) (p1 : 0 ≤ fI f0 a0 15) (p2 : fI f0 a0 15 ≤ 168) (p3 : 0 ≤ fI f0 a0 16) (p4 : fI f0 a0 16 ≤ 168) (p5 : fI f0 a0 14 ≤ 168) (p6 : 0 ≤ fI f0 a0 20) : Ci Z l yX10_weekdayTold (Cond.code yX10_weekdayTold cX10_weekdayTold 2 (some .int) :: TB) ({ frames := 7, cells := 0, slots := 0, locals := 149 } : Room) 0 0 D (tq cy) [.ref a0] L0 f0 (fun (r : Int) (L1 : List Nat) (f1 : Nat → va_E) => L0 = L1 ∧ MS cy L0 f1 a0 ad ∧ Kp a0 ad [] [15, 16, 17, 18, 19, 20] f0 f1 ∧ (0 ≤ fI f1 a0 15 ∧ fI f1 a0 15 ≤ 168 ∧ 0 ≤ fI f1 a0 16 ∧ fI f1 a0 16 ≤ 168 ∧ 0 ≤ fI f1 a0 20 ∧ (fI f1 a0 20 = 0 → fI f0 a0 20 = 0) ∧ 0 ≤ r ∧ r ≤ 6)) := by
  refine Ci.enter (cc := cX10_weekdayTold) (n := 2) rfl (plainFor_of_name (by decide)) (Nat.le_of_ble_eq_true rfl) ?_
  intro p e s m below meth c ls A hx hb hr hts hown hlocks hnm hml hK hA hAe hw hZ hl
  have hown : s.vm.findClass RX10 = some m.cls := hown
  have hl : lv_has ls 2 [(0, .ref a0)] := hl
  have hN : ZN s := (zo.2.2.2.2 _ _ _ hZ).2
  have hE : Kp a0 ad [] [15, 16, 17, 18, 19, 20] f0 f0 := Kp.refl _ _ _ _ _
  refine lv_aload_n hx hb dX10_weekdayTold_0 rfl (lv_at hl 0 rfl) ?_
  refine q_call_i hA hK hw (va_runV (As := []) (rest := []) ⟨hx, hb, hml, hown, hts⟩ (c_X10_weekdayHere zo l D cy L0 f0 a0 ad hs _) (cwV 0 hts (gT (inV (mr21 _ (List.mem_of_getElem? (i := 4) rfl)) (mr21 _ (List.mem_of_getElem? (i := 5) rfl)) (mr21 _ (List.mem_of_getElem? (i := 6) rfl)) (mr1 _ (List.mem_of_getElem? (i := 5) rfl)) (mr21 _ (List.mem_of_getElem? (i := 7) rfl)))) rfl rfl rfl (by decide +kernel) ⟨Nat.le_of_ble_eq_true rfl, Nat.le_of_ble_eq_true rfl⟩) (Wd.preV zo hA hZ hw hK hs.1 hs.2.1 rfl) rfl rfl hl.1 rfl (lv_room (Nat.le_of_ble_eq_true rfl)) dX10_weekdayTold_1 ⟨Nat.le_of_ble_eq_true rfl, Nat.le_of_ble_eq_true rfl⟩) (fun x_1 L1 f1 H locs lx_1 ux_1 ex_1 hw => ?_)
  obtain ⟨rfl, rfl, ex_1⟩ := ex_1
  refine lv_istore_n (lv' := [(1, .int (iI x_1)), (0, .ref a0)]) hx hb dX10_weekdayTold_4 rfl hl (by decide) rfl (fun ls hl => ?_)
  refine lv_iload_n hx hb dX10_weekdayTold_5 rfl (lv_at hl 0 rfl) ?_
  have J14 : ∀ (L : List Nat) (fw14 : Nat → va_E) (hs : MS cy L0 fw14 a0 ad) (hE : Kp a0 ad [] [15, 16, 17, 18, 19, 20] f0 fw14) (j1 : 0 ≤ fI fw14 a0 16) (j2 : fI fw14 a0 16 ≤ 168) (j3 : 0 ≤ fI fw14 a0 15) (j4 : fI fw14 a0 15 ≤ 168) (j5 : fI fw14 a0 14 ≤ 168) (k1 : 0 ≤ fI fw14 a0 20) (k2 : fI fw14 a0 20 = 0 → fI f0 a0 20 = 0) (H : Heap) (locs : List Loc) (ls : Array Slot) (hw : Wd D A s.heap L0 fw14 H locs) (hl : lv_has ls 2 [(0, .ref a0), (1, .int (iI x_1))]), W p l e ({ frames := 7, cells := 0, slots := 0, locals := 149 } : Room) s m ([.ref a0] : List Value).toArray below meth c H locs (0 + 0) (0 + 0) (MQ below (Qi D (tq cy) L0 f0 s.heap.size (fun (r : Int) (L1 : List Nat) (f1 : Nat → va_E) => L0 = L1 ∧ MS cy L0 f1 a0 ad ∧ Kp a0 ad [] [15, 16, 17, 18, 19, 20] f0 f1 ∧ (0 ≤ fI f1 a0 15 ∧ fI f1 a0 15 ≤ 168 ∧ 0 ≤ fI f1 a0 16 ∧ fI f1 a0 16 ≤ 168 ∧ 0 ≤ fI f1 a0 20 ∧ (fI f1 a0 20 = 0 → fI f0 a0 20 = 0) ∧ 0 ≤ r ∧ r ≤ 6))) ([.ref a0] : List Value).toArray s 0 0 A) (F0 m 14 ls []) := by
    intro L fw14 hs hE j1 j2 j3 j4 j5 k1 k2 H locs ls hw hl
    refine lv_aload_n hx hb dX10_weekdayTold_14 rfl (lv_at hl 0 rfl) ?_
    refine q_call_v hA hK hw (va_runV (As := []) (rest := []) ⟨hx, hb, hml, hown, hts⟩ (c_X10_next zo l D cy L0 fw14 a0 ad hs (by omega) (by omega) (by omega) (by omega) (by omega) _) (cwV 0 hts (gT (inV (mr19 _ (List.mem_of_getElem? (i := 4) rfl)) (mr19 _ (List.mem_of_getElem? (i := 5) rfl)) (mr19 _ (List.mem_of_getElem? (i := 6) rfl)) (mr1 _ (List.mem_of_getElem? (i := 5) rfl)) (mr19 _ (List.mem_of_getElem? (i := 7) rfl)))) rfl rfl rfl (by decide +kernel) ⟨Nat.le_of_ble_eq_true rfl, Nat.le_of_ble_eq_true rfl⟩) (Wd.preV zo hA hZ hw hK hs.1 hs.2.1 rfl) rfl rfl hl.1 rfl (lv_room (Nat.le_of_ble_eq_true rfl)) dX10_weekdayTold_15 ⟨Nat.le_of_ble_eq_true rfl, Nat.le_of_ble_eq_true rfl⟩) (fun L1 f_3 H locs ex_2 hw => ?_)
    obtain ⟨rfl, hs, hX, ex_2⟩ := ex_2
    have hE := hE.trans (hX.mono (rs' := []) (fs' := [15, 16, 17, 18, 19, 20]) (by decide) (by decide))
    have t14_f_3 : fI f_3 a0 14 = fI fw14 a0 14 := hX.2 14 (by decide)
    have t20_f_3 : fI f_3 a0 20 = fI fw14 a0 20 := hX.2 20 (by decide)
    refine lv_iload_n hx hb dX10_weekdayTold_18 rfl (lv_at hl 1 rfl) ?_
    refine q_if_ge (tgt := 26) hx hb dX10_weekdayTold_19 (by decide) ⟨lx_1, ux_1⟩ (fun c19 => ?_) (fun c19 => ?_)
    · refine lv_iload_n hx hb dX10_weekdayTold_26 rfl (lv_at hl 1 rfl) ?_
      exact q_ret_i hx hb hr hlocks hK hAe hw ⟨lx_1, ux_1⟩ (Nat.le_of_ble_eq_true rfl) (Nat.le_of_ble_eq_true rfl) dX10_weekdayTold_27 (by exact ⟨rfl, hs, hE, by first | trivial | omega⟩)
    · refine q_iconst hx hb dX10_weekdayTold_22 ?_
      refine lv_goto (tgt := 27) hx hb dX10_weekdayTold_23 (by decide) ?_
      exact q_ret_i hx hb hr hlocks hK hAe hw ⟨by decide, by decide⟩ (Nat.le_of_ble_eq_true rfl) (Nat.le_of_ble_eq_true rfl) dX10_weekdayTold_27 (by exact ⟨rfl, hs, hE, by first | trivial | omega⟩)
  refine q_if_ge (tgt := 14) hx hb dX10_weekdayTold_6 (by decide) ⟨lx_1, ux_1⟩ (fun c6 => ?_) (fun c6 => ?_)
  · exact J14 L0 f0 hs hE (by omega) (by omega) (by omega) (by omega) (by omega) (by omega) (by omega) _ _ _ hw (lv_sub hl [1, 0] rfl)
  · refine lv_aload_n hx hb dX10_weekdayTold_9 rfl (lv_at hl 1 rfl) ?_
    refine q_iconst hx hb dX10_weekdayTold_10 ?_
    refine q_call_v hA hK hw (va_runV (As := [.int (iI 1)]) (rest := []) ⟨hx, hb, hml, hown, hts⟩ (c_X10_wrong zo l D cy L0 f0 a0 1 (by decide) (by decide) ad hs (by omega) (by omega) (by omega) (by omega) _) (cwV 1 hts (gT (inV (mr20 _ (List.mem_of_getElem? (i := 12) rfl)) (mr20 _ (List.mem_of_getElem? (i := 13) rfl)) (mr20 _ (List.mem_of_getElem? (i := 14) rfl)) (mr1 _ (List.mem_of_getElem? (i := 5) rfl)) (mr20 _ (List.mem_of_getElem? (i := 15) rfl)))) rfl rfl rfl (by decide +kernel) ⟨Nat.le_of_ble_eq_true rfl, Nat.le_of_ble_eq_true rfl⟩) (Wd.preV zo hA hZ hw hK hs.1 hs.2.1 rfl) rfl rfl hl.1 rfl (lv_room (Nat.le_of_ble_eq_true rfl)) dX10_weekdayTold_11 ⟨Nat.le_of_ble_eq_true rfl, Nat.le_of_ble_eq_true rfl⟩) (fun L1 f_5 H locs ex_4 hw => ?_)
    obtain ⟨rfl, hs, hX, ex_4⟩ := ex_4
    have hE := hE.trans (hX.mono (rs' := []) (fs' := [15, 16, 17, 18, 19, 20]) (by decide) (by decide))
    have t14_f_5 : fI f_5 a0 14 = fI f0 a0 14 := hX.2 14 (by decide)
    have t15_f_5 : fI f_5 a0 15 = fI f0 a0 15 := hX.2 15 (by decide)
    have t16_f_5 : fI f_5 a0 16 = fI f0 a0 16 := hX.2 16 (by decide)
    have t17_f_5 : fI f_5 a0 17 = fI f0 a0 17 := hX.2 17 (by decide)
    exact J14 L0 f_5 hs hE (by omega) (by omega) (by omega) (by omega) (by omega) (by omega) (by omega) _ _ _ hw (lv_sub hl [1, 0] rfl)
