set_option maxHeartbeats 4000000 in
set_option maxRecDepth 100000 in
theorem c_X10_packed_p {Z : Zt} (zo : Zok Z) (l : Launch) (D : va_G) (cy : Cy) (L0 : List Nat) (f0 : Nat → va_E) (a0 : Nat) (b_a0 : List Int32) (v_a0 : Nat) (nb_a0 : Asc b_a0) (tx_a0 : ∀ (A : Nat → Prop) (U : State) (H : Heap), Z A U H → Tx b_a0 a0 v_a0 A U H) (wok_a0 : WOK b_a0) : Cl Z l yX10_packed (Cond.code yX10_packed cX10_packed 4 (some .long) :: TB) ({ frames := 4, cells := 0, slots := 0, locals := 85 } : Room) 0 0 D (tq cy) [.ref a0] L0 f0 (fun (r : Int) (L1 : List Nat) (f1 : Nat → va_E) => L0 = L1 ∧ f0 = f1 ∧ (r = pkS b_a0 b_a0.length)) := by
  refine Cl.enter (cc := cX10_packed) (n := 4) rfl (plainFor_of_name (by decide)) (Nat.le_of_ble_eq_true rfl) ?_
  intro p e s m below meth c ls A hx hb hr hts hown hlocks hnm hml hK hA hAe hw hZ hl
  have hown : s.vm.findClass RX10 = some m.cls := hown
  have hl : lv_has ls 4 [(0, .ref a0)] := hl
  have hN : ZN s := (zo.2.2.2.2 _ _ _ hZ).2
  have wl := wok_a0.1
  refine q_lconst0 hx hb dX10_packed_0 ?_
  refine lv_lstore_n (lv' := [(1, .long (lJ 0)), (0, .ref a0)]) hx hb dX10_packed_1 rfl hl (by decide) rfl (fun ls hl => ?_)
  refine q_iconst hx hb dX10_packed_2 ?_
  refine lv_istore_n (lv' := [(3, .int (iI 0)), (1, .long (lJ 0)), (0, .ref a0)]) hx hb dX10_packed_3 rfl hl (by decide) rfl (fun ls hl => ?_)
  have J4 : ∀ (n4 : Nat) (y1_4 : Int) (ly1_4 : -9223372036854775808 ≤ y1_4) (uy1_4 : y1_4 ≤ 9223372036854775807) (y3_4 : Int) (ly3_4 : -2147483648 ≤ y3_4) (uy3_4 : y3_4 ≤ 2147483647) (i1 : 0 ≤ y3_4) (i2 : y3_4 ≤ (b_a0.length : Int)) (v1 : y1_4 = pkS b_a0 (y3_4).toNat) (hn4 : ((2147483647 : Int) - y3_4).toNat < n4) (H : Heap) (locs : List Loc) (ls : Array Slot) (hw : Wd D A s.heap L0 f0 H locs) (hl : lv_has ls 4 [(0, .ref a0), (1, .long (lJ y1_4)), (3, .int (iI y3_4))]), W p l e ({ frames := 4, cells := 0, slots := 0, locals := 85 } : Room) s m ([.ref a0] : List Value).toArray below meth c H locs (0) (0) (MQ below (Ql D (tq cy) L0 f0 s.heap.size (fun (r : Int) (L1 : List Nat) (f1 : Nat → va_E) => L0 = L1 ∧ f0 = f1 ∧ (r = pkS b_a0 b_a0.length))) ([.ref a0] : List Value).toArray s 0 0 A) (F0 m 4 ls []) := by
    intro n4
    induction n4 with
    | zero => intro y1_4 ly1_4 uy1_4 y3_4 ly3_4 uy3_4 i1 i2 v1 hn4; exact absurd hn4 (Nat.not_lt_zero _)
    | succ n4 ih4 =>
      intro y1_4 ly1_4 uy1_4 y3_4 ly3_4 uy3_4 i1 i2 v1 hn4 H locs ls hw hl
      refine lv_iload_n hx hb dX10_packed_4 rfl (lv_at hl 2 rfl) ?_
      refine lv_aload_n hx hb dX10_packed_5 rfl (lv_at hl 0 rfl) ?_
      refine q_call_i hA hK hw (va_runV (As := []) (rest := [.int (iI y3_4)]) ⟨hx, hb, hml, hown, hts⟩ (c_J0_length_8abf5 zo l D cy L0 f0 a0 b_a0 v_a0 nb_a0 tx_a0 _) (cwV 0 hts (gT (inV (mr20 _ (List.mem_of_getElem? (i := 10) rfl)) (mr8 _ (List.mem_of_getElem? (i := 2) rfl)) (mr8 _ (List.mem_of_getElem? (i := 3) rfl)) (mr8 _ (List.mem_of_getElem? (i := 4) rfl)) (mr8 _ (List.mem_of_getElem? (i := 5) rfl)))) rfl rfl rfl (by decide +kernel) ⟨Nat.le_of_ble_eq_true rfl, Nat.le_of_ble_eq_true rfl⟩) (Wd.preVT zo hA hZ hw hK tx_a0) rfl rfl hl.1 rfl (lv_room (Nat.le_of_ble_eq_true rfl)) dX10_packed_6 ⟨Nat.le_of_ble_eq_true rfl, Nat.le_of_ble_eq_true rfl⟩) (fun x_1 L1 f1 H locs lx_1 ux_1 ex_1 hw => ?_)
      obtain ⟨rfl, rfl, ex_1⟩ := ex_1
      refine q_icmp_ge (tgt := 31) hx hb dX10_packed_9 (by decide) ⟨ly3_4, uy3_4⟩ ⟨lx_1, ux_1⟩ (fun c9 => ?_) (fun c9 => ?_)
      · refine lv_lload_n hx hb dX10_packed_31 rfl (lv_at hl 1 rfl) ?_
        exact q_ret_l hx hb hr hlocks hK hAe hw ⟨ly1_4, uy1_4⟩ (Nat.le_of_ble_eq_true rfl) (Nat.le_of_ble_eq_true rfl) dX10_packed_32 ⟨rfl, rfl, by rw [v1, show (y3_4).toNat = b_a0.length by omega]⟩
      · have pb9 := pkS_b wok_a0 (k := y3_4) (by omega) (by omega)
        refine q_ldc2 (n := 256) hx hb hown (hts _ (List.mem_cons_of_mem _ (mr19 _ (List.mem_of_getElem? (i := 12) rfl)))) rfl dX10_packed_12 ?_
        refine lv_lload_n hx hb dX10_packed_15 rfl (lv_at hl 1 rfl) ?_
        first | refine q_lmul hx hb dX10_packed_16 ⟨by omega, by omega⟩ (fun j_2 lj_2 uj_2 ej_2 => ?_) | refine q_lmulw hx hb dX10_packed_16 (fun j_2 lj_2 uj_2 ej_2 => ?_)
        refine lv_aload_n hx hb dX10_packed_17 rfl (lv_at hl 0 rfl) ?_
        refine lv_iload_n hx hb dX10_packed_18 rfl (lv_at hl 2 rfl) ?_
        refine q_call_i hA hK hw (va_runV (As := [.int (iI y3_4)]) (rest := [.long (lJ j_2)]) ⟨hx, hb, hml, hown, hts⟩ (c_J0_charAt_5068e zo l D cy L0 f0 a0 y3_4 ly3_4 uy3_4 b_a0 v_a0 nb_a0 tx_a0 (by omega) (by omega) _) (cwV 1 hts (gT (inV (mr20 _ (List.mem_of_getElem? (i := 11) rfl)) (mr8 _ (List.mem_of_getElem? (i := 18) rfl)) (mr8 _ (List.mem_of_getElem? (i := 19) rfl)) (mr8 _ (List.mem_of_getElem? (i := 4) rfl)) (mr8 _ (List.mem_of_getElem? (i := 20) rfl)))) rfl rfl rfl (by decide +kernel) ⟨Nat.le_of_ble_eq_true rfl, Nat.le_of_ble_eq_true rfl⟩) (Wd.preVT zo hA hZ hw hK tx_a0) rfl rfl hl.1 rfl (lv_room (Nat.le_of_ble_eq_true rfl)) dX10_packed_19 ⟨Nat.le_of_ble_eq_true rfl, Nat.le_of_ble_eq_true rfl⟩) (fun x_3 L1 f1 H locs lx_3 ux_3 ex_3 hw => ?_)
        obtain ⟨rfl, rfl, ex_3⟩ := ex_3
        have t19 : x_3 = bS b_a0 y3_4 := ex_3.1
        have u19 := ex_3.2
        refine q_i2l hx hb dX10_packed_22 ⟨lx_3, ux_3⟩ ?_
        obtain ⟨j_4, lj_4, uj_4, ej_4⟩ : ∃ z : Int, -9223372036854775808 ≤ z ∧ z ≤ 9223372036854775807 ∧ x_3 = z := ⟨x_3, by omega, by omega, rfl⟩
        rw [show (lJ x_3) = lJ j_4 from by rw [ej_4]]
        first | refine q_ladd hx hb dX10_packed_23 ⟨by omega, by omega⟩ (fun j_5 lj_5 uj_5 ej_5 => ?_) | refine q_laddw hx hb dX10_packed_23 (fun j_5 lj_5 uj_5 ej_5 => ?_)
        refine lv_lstore_n (lv' := [(1, .long (lJ j_5)), (0, .ref a0), (3, .int (iI y3_4))]) hx hb dX10_packed_24 rfl hl (by decide) rfl (fun ls hl => ?_)
        obtain ⟨x_6, lx_6, ux_6, hx_6, ex_6⟩ := q_inc y3_4 (1)
        try (replace ex_6 : x_6 = y3_4 + (1) := by omega)
        refine lv_iinc (v := iI x_6) (lv' := [(3, .int (iI x_6)), (1, .long (lJ j_5)), (0, .ref a0)]) hx hb dX10_packed_25 hl (k := 2) rfl hx_6 (by decide) rfl (fun ls hl => ?_)
        refine lv_goto (tgt := 4) hx hb dX10_packed_28 (by decide) ?_
        exact ih4 j_5 lj_5 uj_5 x_6 lx_6 ux_6 (by omega) (by omega) (by first | exact (pkS_0 _).symm | exact Eq.trans (by omega) (pkS_st i1 (by omega)).symm) (by omega) _ _ _ hw (lv_sub hl [2, 1, 0] rfl)
  exact J4 ((((2147483647 : Int) - 0).toNat) + 1) 0 (by decide) (by decide) 0 (by decide) (by decide) (by omega) (by omega) (by first | exact (pkS_0 _).symm | exact Eq.trans (by omega) (pkS_st i1 (by omega)).symm) (by omega) _ _ _ hw (lv_sub hl [2, 1, 0] rfl)
set_option maxHeartbeats 4000000 in
set_option maxRecDepth 100000 in
theorem c_X10_isWord_p {Z : Zt} (zo : Zok Z) (l : Launch) (D : va_G) (cy : Cy) (L0 : List Nat) (f0 : Nat → va_E) (a0 : Nat) (a1 : Nat) (b_a1 : List Int32) (v_a1 : Nat) (nb_a1 : Asc b_a1) (tx_a1 : ∀ (A : Nat → Prop) (U : State) (H : Heap), Z A U H → Tx b_a1 a1 v_a1 A U H) (ad : Nat → Nat) (hs : MS cy L0 f0 a0 ad) (wok_a1 : WOK b_a1) (Tt : Int → Int) (nn : Int) (n0 : 0 ≤ nn) (n1 : nn ≤ 160) (h14 : fI f0 a0 14 = nn) (hT : ∀ i : Int, 0 ≤ i → i < 168 → aI f0 (ad 8) i = Tt i) (bT : ∀ i : Int, 0 ≤ Tt i ∧ Tt i ≤ 255) (FF : Int) (ee : Int) (ps : PSr Tt nn f0 a0 FF ee) (e0 : 0 ≤ ee) (e1 : ee ≤ nn) : Ci Z l yX10_isWord (Cond.code yX10_isWord cX10_isWord 2 (some .boolean) :: TB) ({ frames := 5, cells := 0, slots := 0, locals := 108 } : Room) 0 0 D (tq cy) [.ref a0, .ref a1] L0 f0 (fun (r : Int) (L1 : List Nat) (f1 : Nat → va_E) => L0 = L1 ∧ f0 = f1 ∧ ((r = 1 ∧ FF = 0 ∧ wS Tt nn ee b_a1 = 0) ∨ (r = 0 ∧ (FF ≠ 0 ∨ wS Tt nn ee b_a1 ≠ 0)))) := by
  refine Ci.enter (cc := cX10_isWord) (n := 2) rfl (plainFor_of_name (by decide)) (Nat.le_of_ble_eq_true rfl) ?_
  intro p e s m below meth c ls A hx hb hr hts hown hlocks hnm hml hK hA hAe hw hZ hl
  have hown : s.vm.findClass RX10 = some m.cls := hown
  have hl : lv_has ls 2 [(0, .ref a0), (1, .ref a1)] := hl
  have hN : ZN s := (zo.2.2.2.2 _ _ _ hZ).2
  have ps1 := ps.1
  have ps2 := ps.2.1
  have ps3 := ps.2.2.1
  have ps4 := ps.2.2.2.1
  have ps5 := ps.2.2.2.2.1
  have ps6 := ps.2.2.2.2.2.1
  have pb := tP_b (T := Tt) e1
  have qb := tQ_b (T := Tt) e1
  refine lv_aload_n hx hb dX10_isWord_0 rfl (lv_at hl 0 rfl) ?_
  refine q_geti (ci := 8) (C := RX10) (T := TX10) (N := 26) hx hb hts (fun w h => List.mem_cons_of_mem _ (mfX100 w h)) hown hK hw hs.1 hs.2.1 rfl 20 (by decide) (hts _ (List.mem_cons_of_mem _ (mr19 _ (List.mem_of_getElem? (i := 2) rfl)))) (fun _ h => h) rfl dX10_isWord_1 (fun x_1 lx_1 ux_1 ex_1 => ?_)
  refine q_if_ne (tgt := 31) hx hb dX10_isWord_4 (by decide) ⟨lx_1, ux_1⟩ (fun c4 => ?_) (fun c4 => ?_)
  · refine q_iconst hx hb dX10_isWord_31 ?_
    exact q_ret_z hx hb hr hlocks hK hAe hw (by omega) (Nat.le_of_ble_eq_true rfl) (Nat.le_of_ble_eq_true rfl) dX10_isWord_32 ⟨rfl, rfl, by first | exact Or.inl ⟨by omega, by omega, wS_0 (iw_y ps (by omega) (by omega) wok_a1 e1 t16 t20 (by omega))⟩ | exact Or.inr ⟨by omega, Or.inl (by omega)⟩ | exact Or.inr ⟨by omega, Or.inr (fun z => iw_t ps (by omega) (by omega) ((wS_iff e0 e1).mp z))⟩ | exact Or.inr ⟨by omega, Or.inr (fun z => iw_n ps (by omega) (by omega) wok_a1 e1 t16 t20 (by omega) ((wS_iff e0 e1).mp z))⟩⟩
  · refine lv_aload_n hx hb dX10_isWord_7 rfl (lv_at hl 0 rfl) ?_
    refine q_geti (ci := 8) (C := RX10) (T := TX10) (N := 26) hx hb hts (fun w h => List.mem_cons_of_mem _ (mfX100 w h)) hown hK hw hs.1 hs.2.1 rfl 17 (by decide) (hts _ (List.mem_cons_of_mem _ (mr19 _ (List.mem_of_getElem? (i := 9) rfl)))) (fun _ h => h) rfl dX10_isWord_8 (fun x_2 lx_2 ux_2 ex_2 => ?_)
    have t8 := ex_2
    refine q_iconst hx hb dX10_isWord_11 ?_
    refine q_icmp_ne (tgt := 31) hx hb dX10_isWord_12 (by decide) ⟨lx_2, ux_2⟩ ⟨by decide, by decide⟩ (fun c12 => ?_) (fun c12 => ?_)
    · refine q_iconst hx hb dX10_isWord_31 ?_
      exact q_ret_z hx hb hr hlocks hK hAe hw (by omega) (Nat.le_of_ble_eq_true rfl) (Nat.le_of_ble_eq_true rfl) dX10_isWord_32 ⟨rfl, rfl, by first | exact Or.inl ⟨by omega, by omega, wS_0 (iw_y ps (by omega) (by omega) wok_a1 e1 t16 t20 (by omega))⟩ | exact Or.inr ⟨by omega, Or.inl (by omega)⟩ | exact Or.inr ⟨by omega, Or.inr (fun z => iw_t ps (by omega) (by omega) ((wS_iff e0 e1).mp z))⟩ | exact Or.inr ⟨by omega, Or.inr (fun z => iw_n ps (by omega) (by omega) wok_a1 e1 t16 t20 (by omega) ((wS_iff e0 e1).mp z))⟩⟩
    · refine lv_aload_n hx hb dX10_isWord_15 rfl (lv_at hl 0 rfl) ?_
      refine q_getlv (ci := 8) (C := RX10) (T := TX10) (N := 26) hx hb hts (fun w h => List.mem_cons_of_mem _ (mfX100 w h)) hown hK hw hs.1 hs.2.1 rfl 18 (by decide) (hts _ (List.mem_cons_of_mem _ (mr19 _ (List.mem_of_getElem? (i := 10) rfl)))) (fun _ h => h) rfl dX10_isWord_16 (fun j_3 lj_3 uj_3 ej_3 => ?_)
      have t16 := ej_3
      refine lv_aload_n hx hb dX10_isWord_19 rfl (lv_at hl 1 rfl) ?_
      refine q_call_l hA hK hw (va_runS (As := [.ref a1]) (rest := [.long (lJ j_3)]) ⟨hx, hb, hml, hown, hts⟩ (c_X10_packed_p zo l D cy L0 f0 a1 b_a1 v_a1 nb_a1 tx_a1 wok_a1 _) (va_cwS 1 hts (gT (inS (mr20 _ (List.mem_of_getElem? (i := 7) rfl)) (mr20 _ (List.mem_of_getElem? (i := 8) rfl)) (mr1 _ (List.mem_of_getElem? (i := 5) rfl)) (mr20 _ (List.mem_of_getElem? (i := 9) rfl)))) rfl rfl rfl (by decide +kernel) ⟨Nat.le_of_ble_eq_true rfl, Nat.le_of_ble_eq_true rfl⟩) (Wd.preS zo hA hZ hw hK) rfl rfl hl.1 rfl (lv_room (Nat.le_of_ble_eq_true rfl)) dX10_isWord_20 ⟨Nat.le_of_ble_eq_true rfl, Nat.le_of_ble_eq_true rfl⟩) (fun x_4 L1 f1 H locs lx_4 ux_4 ex_4 hw => ?_)
      obtain ⟨rfl, rfl, ex_4⟩ := ex_4
      have t20 := ex_4
      refine q_lcmp hx hb dX10_isWord_23 ⟨lj_3, uj_3⟩ ⟨lx_4, ux_4⟩ (fun x_5 lx_5 ux_5 ex_5 => ?_)
      refine q_if_ne (tgt := 31) hx hb dX10_isWord_24 (by decide) ⟨lx_5, ux_5⟩ (fun c24 => ?_) (fun c24 => ?_)
      · refine q_iconst hx hb dX10_isWord_31 ?_
        exact q_ret_z hx hb hr hlocks hK hAe hw (by omega) (Nat.le_of_ble_eq_true rfl) (Nat.le_of_ble_eq_true rfl) dX10_isWord_32 ⟨rfl, rfl, by first | exact Or.inl ⟨by omega, by omega, wS_0 (iw_y ps (by omega) (by omega) wok_a1 e1 t16 t20 (by omega))⟩ | exact Or.inr ⟨by omega, Or.inl (by omega)⟩ | exact Or.inr ⟨by omega, Or.inr (fun z => iw_t ps (by omega) (by omega) ((wS_iff e0 e1).mp z))⟩ | exact Or.inr ⟨by omega, Or.inr (fun z => iw_n ps (by omega) (by omega) wok_a1 e1 t16 t20 (by omega) ((wS_iff e0 e1).mp z))⟩⟩
      · refine q_iconst hx hb dX10_isWord_27 ?_
        refine lv_goto (tgt := 32) hx hb dX10_isWord_28 (by decide) ?_
        exact q_ret_z hx hb hr hlocks hK hAe hw (by omega) (Nat.le_of_ble_eq_true rfl) (Nat.le_of_ble_eq_true rfl) dX10_isWord_32 ⟨rfl, rfl, by first | exact Or.inl ⟨by omega, by omega, wS_0 (iw_y ps (by omega) (by omega) wok_a1 e1 t16 t20 (by omega))⟩ | exact Or.inr ⟨by omega, Or.inl (by omega)⟩ | exact Or.inr ⟨by omega, Or.inr (fun z => iw_t ps (by omega) (by omega) ((wS_iff e0 e1).mp z))⟩ | exact Or.inr ⟨by omega, Or.inr (fun z => iw_n ps (by omega) (by omega) wok_a1 e1 t16 t20 (by omega) ((wS_iff e0 e1).mp z))⟩⟩
set_option maxHeartbeats 4000000 in
set_option maxRecDepth 100000 in
theorem c_X10_must_p {Z : Zt} (zo : Zok Z) (l : Launch) (D : va_G) (cy : Cy) (L0 : List Nat) (f0 : Nat → va_E) (a0 : Nat) (a1 : Nat) (b_a1 : List Int32) (v_a1 : Nat) (nb_a1 : Asc b_a1) (tx_a1 : ∀ (A : Nat → Prop) (U : State) (H : Heap), Z A U H → Tx b_a1 a1 v_a1 A U H) (ad : Nat → Nat) (hs : MS cy L0 f0 a0 ad) (wok_a1 : WOK b_a1) (Tt : Int → Int) (nn : Int) (n0 : 0 ≤ nn) (n1 : nn ≤ 160) (h14 : fI f0 a0 14 = nn) (hT : ∀ i : Int, 0 ≤ i → i < 168 → aI f0 (ad 8) i = Tt i) (bT : ∀ i : Int, 0 ≤ Tt i ∧ Tt i ≤ 255) (FF : Int) (ee : Int) (ps : PSr Tt nn f0 a0 FF ee) (e0 : 0 ≤ ee) (e1 : ee ≤ nn) : Cv Z l yX10_must (Cond.code yX10_must cX10_must 2 none :: TB) ({ frames := 6, cells := 0, slots := 0, locals := 129 } : Room) 0 0 D (tq cy) [.ref a0, .ref a1] L0 f0 (fun (L1 : List Nat) (f1 : Nat → va_E) => L0 = L1 ∧ MS cy L0 f1 a0 ad ∧ Kp a0 ad [] [15, 16, 17, 18, 19, 20] f0 f1 ∧ (PSr Tt nn f1 a0 (sq FF (wS Tt nn ee b_a1)) (tQ Tt nn ee))) := by
  refine Cv.enter (cc := cX10_must) (n := 2) rfl (plainFor_of_name (by decide)) (Nat.le_of_ble_eq_true rfl) ?_
  intro p e s m below meth c ls A hx hb hr hts hown hlocks hnm hml hK hA hAe hw hZ hl
  have hown : s.vm.findClass RX10 = some m.cls := hown
  have hl : lv_has ls 2 [(0, .ref a0), (1, .ref a1)] := hl
  have hN : ZN s := (zo.2.2.2.2 _ _ _ hZ).2
  have hE : Kp a0 ad [] [15, 16, 17, 18, 19, 20] f0 f0 := Kp.refl _ _ _ _ _
  have ps1 := ps.1
  have ps2 := ps.2.1
  have ps3 := ps.2.2.1
  have ps4 := ps.2.2.2.1
  have ps5 := ps.2.2.2.2.1
  have ps6 := ps.2.2.2.2.2.1
  have pb := tP_b (T := Tt) e1
  have qb := tQ_b (T := Tt) e1
  refine lv_aload_n hx hb dX10_must_0 rfl (lv_at hl 0 rfl) ?_
  refine q_geti (ci := 8) (C := RX10) (T := TX10) (N := 26) hx hb hts (fun w h => List.mem_cons_of_mem _ (mfX100 w h)) hown hK hw hs.1 hs.2.1 rfl 20 (by decide) (hts _ (List.mem_cons_of_mem _ (mr19 _ (List.mem_of_getElem? (i := 2) rfl)))) (fun _ h => h) rfl dX10_must_1 (fun x_1 lx_1 ux_1 ex_1 => ?_)
  refine q_if_ne (tgt := 20) hx hb dX10_must_4 (by decide) ⟨lx_1, ux_1⟩ (fun c4 => ?_) (fun c4 => ?_)
  · have pz := ps
    refine lv_aload_n hx hb dX10_must_20 rfl (lv_at hl 0 rfl) ?_
    refine q_call_v hA hK hw (va_runV (As := []) (rest := []) ⟨hx, hb, hml, hown, hts⟩ (c_X10_next_p zo l D cy L0 f0 a0 ad hs Tt nn n0 n1 (by omega) (by first | exact hT | exact fun i q0 q1 => (congrFun Q8 i).trans (hT i q0 q1)) bT (by omega) (by omega) _) (cwV 0 hts (gT (inV (mr19 _ (List.mem_of_getElem? (i := 4) rfl)) (mr19 _ (List.mem_of_getElem? (i := 5) rfl)) (mr19 _ (List.mem_of_getElem? (i := 6) rfl)) (mr1 _ (List.mem_of_getElem? (i := 5) rfl)) (mr19 _ (List.mem_of_getElem? (i := 7) rfl)))) rfl rfl rfl (by decide +kernel) ⟨Nat.le_of_ble_eq_true rfl, Nat.le_of_ble_eq_true rfl⟩) (Wd.preV zo hA hZ hw hK hs.1 hs.2.1 rfl) rfl rfl hl.1 rfl (lv_room (Nat.le_of_ble_eq_true rfl)) dX10_must_21 ⟨Nat.le_of_ble_eq_true rfl, Nat.le_of_ble_eq_true rfl⟩) (fun L1 f_3 H locs ex_2 hw => ?_)
    obtain ⟨rfl, hs, hX, ex_2⟩ := ex_2
    have hE := hE.trans (hX.mono (rs' := []) (fs' := [15, 16, 17, 18, 19, 20]) (by decide) (by decide))
    have t14_f_3 : fI f_3 a0 14 = fI f0 a0 14 := hX.2 14 (by decide)
    have t20_f_3 : fI f_3 a0 20 = fI f0 a0 20 := hX.2 20 (by decide)
    have Q8 : aI f_3 (ad 8) = aI f0 (ad 8) := funext fun x => hE.1 8 rfl (by decide) x
    have t21 := ex_2
    clear ex_2
    exact q_ret_v hx hb hr hlocks hK hAe hw (Nat.le_of_ble_eq_true rfl) (Nat.le_of_ble_eq_true rfl) dX10_must_24 (by first | exact ⟨rfl, hs, hE, by rw [sq_1 (by omega)]; exact pz.nxt (fun z => absurd z (by omega)) t21 (by omega) n1⟩ | exact ⟨rfl, hs, hE, by rw [sq_0 (by omega), q3]; exact (pz.to (by omega) rfl).nxt (fun z => iw_16 ps (by omega) ((wS_iff e0 e1).mp q3)) t21 (by omega) n1⟩ | exact ⟨rfl, hs, hE, by rw [sq_0 (by omega)]; exact pz.nxt (fun z => absurd z (by omega)) t21 (by omega) n1⟩)
  · refine lv_aload_n hx hb dX10_must_7 rfl (lv_at hl 0 rfl) ?_
    refine lv_aload_n hx hb dX10_must_8 rfl (lv_at hl 1 rfl) ?_
    refine q_call_i hA hK hw (va_runV (As := [.ref a1]) (rest := []) ⟨hx, hb, hml, hown, hts⟩ (c_X10_isWord_p zo l D cy L0 f0 a0 a1 b_a1 v_a1 nb_a1 tx_a1 ad hs wok_a1 Tt nn n0 n1 (by omega) (by first | exact hT | exact fun i q0 q1 => (congrFun Q8 i).trans (hT i q0 q1)) bT FF ee ps (by omega) (by omega) _) (cwV 1 hts (gT (inV (mr20 _ (List.mem_of_getElem? (i := 3) rfl)) (mr20 _ (List.mem_of_getElem? (i := 4) rfl)) (mr20 _ (List.mem_of_getElem? (i := 5) rfl)) (mr1 _ (List.mem_of_getElem? (i := 5) rfl)) (mr20 _ (List.mem_of_getElem? (i := 6) rfl)))) rfl rfl rfl (by decide +kernel) ⟨Nat.le_of_ble_eq_true rfl, Nat.le_of_ble_eq_true rfl⟩) (Wd.preV zo hA hZ hw hK hs.1 hs.2.1 rfl) rfl rfl hl.1 rfl (lv_room (Nat.le_of_ble_eq_true rfl)) dX10_must_9 ⟨Nat.le_of_ble_eq_true rfl, Nat.le_of_ble_eq_true rfl⟩) (fun x_4 L1 f1 H locs lx_4 ux_4 ex_4 hw => ?_)
    obtain ⟨rfl, rfl, ex_4⟩ := ex_4
    have t9 := ex_4
    clear ex_4
    refine q_if_ne (tgt := 20) hx hb dX10_must_12 (by decide) ⟨lx_4, ux_4⟩ (fun c12 => ?_) (fun c12 => ?_)
    · obtain ⟨q1, q2, q3⟩ := t9.resolve_right (by omega)
      clear t9
      have pz := ps
      refine lv_aload_n hx hb dX10_must_20 rfl (lv_at hl 0 rfl) ?_
      refine q_call_v hA hK hw (va_runV (As := []) (rest := []) ⟨hx, hb, hml, hown, hts⟩ (c_X10_next_p zo l D cy L0 f0 a0 ad hs Tt nn n0 n1 (by omega) (by first | exact hT | exact fun i q0 q1 => (congrFun Q8 i).trans (hT i q0 q1)) bT (by omega) (by omega) _) (cwV 0 hts (gT (inV (mr19 _ (List.mem_of_getElem? (i := 4) rfl)) (mr19 _ (List.mem_of_getElem? (i := 5) rfl)) (mr19 _ (List.mem_of_getElem? (i := 6) rfl)) (mr1 _ (List.mem_of_getElem? (i := 5) rfl)) (mr19 _ (List.mem_of_getElem? (i := 7) rfl)))) rfl rfl rfl (by decide +kernel) ⟨Nat.le_of_ble_eq_true rfl, Nat.le_of_ble_eq_true rfl⟩) (Wd.preV zo hA hZ hw hK hs.1 hs.2.1 rfl) rfl rfl hl.1 rfl (lv_room (Nat.le_of_ble_eq_true rfl)) dX10_must_21 ⟨Nat.le_of_ble_eq_true rfl, Nat.le_of_ble_eq_true rfl⟩) (fun L1 f_6 H locs ex_5 hw => ?_)
      obtain ⟨rfl, hs, hX, ex_5⟩ := ex_5
      have hE := hE.trans (hX.mono (rs' := []) (fs' := [15, 16, 17, 18, 19, 20]) (by decide) (by decide))
      have t14_f_6 : fI f_6 a0 14 = fI f0 a0 14 := hX.2 14 (by decide)
      have t20_f_6 : fI f_6 a0 20 = fI f0 a0 20 := hX.2 20 (by decide)
      have Q8 : aI f_6 (ad 8) = aI f0 (ad 8) := funext fun x => hE.1 8 rfl (by decide) x
      have t21 := ex_5
      clear ex_5
      exact q_ret_v hx hb hr hlocks hK hAe hw (Nat.le_of_ble_eq_true rfl) (Nat.le_of_ble_eq_true rfl) dX10_must_24 (by first | exact ⟨rfl, hs, hE, by rw [sq_1 (by omega)]; exact pz.nxt (fun z => absurd z (by omega)) t21 (by omega) n1⟩ | exact ⟨rfl, hs, hE, by rw [sq_0 (by omega), q3]; exact (pz.to (by omega) rfl).nxt (fun z => iw_16 ps (by omega) ((wS_iff e0 e1).mp q3)) t21 (by omega) n1⟩ | exact ⟨rfl, hs, hE, by rw [sq_0 (by omega)]; exact pz.nxt (fun z => absurd z (by omega)) t21 (by omega) n1⟩)
    · obtain ⟨q1, q2⟩ := t9.resolve_left (by omega)
      clear t9
      have q2 := q2.resolve_left (by omega)
      have q3 := wS_p e0 e1 q2
      have pl := ps.pl (by omega)
      refine lv_aload_n hx hb dX10_must_15 rfl (lv_at hl 0 rfl) ?_
      refine q_iconst hx hb dX10_must_16 ?_
      refine q_call_v hA hK hw (va_runV (As := [.int (iI 1)]) (rest := []) ⟨hx, hb, hml, hown, hts⟩ (c_X10_wrong zo l D cy L0 f0 a0 1 (by decide) (by decide) ad hs (by omega) (by omega) (by omega) (by omega) _) (cwV 1 hts (gT (inV (mr20 _ (List.mem_of_getElem? (i := 12) rfl)) (mr20 _ (List.mem_of_getElem? (i := 13) rfl)) (mr20 _ (List.mem_of_getElem? (i := 14) rfl)) (mr1 _ (List.mem_of_getElem? (i := 5) rfl)) (mr20 _ (List.mem_of_getElem? (i := 15) rfl)))) rfl rfl rfl (by decide +kernel) ⟨Nat.le_of_ble_eq_true rfl, Nat.le_of_ble_eq_true rfl⟩) (Wd.preV zo hA hZ hw hK hs.1 hs.2.1 rfl) rfl rfl hl.1 rfl (lv_room (Nat.le_of_ble_eq_true rfl)) dX10_must_17 ⟨Nat.le_of_ble_eq_true rfl, Nat.le_of_ble_eq_true rfl⟩) (fun L1 f_8 H locs ex_7 hw => ?_)
      obtain ⟨rfl, hs, hX, ex_7⟩ := ex_7
      have hE := hE.trans (hX.mono (rs' := []) (fs' := [15, 16, 17, 18, 19, 20]) (by decide) (by decide))
      have t14_f_8 : fI f_8 a0 14 = fI f0 a0 14 := hX.2 14 (by decide)
      have t15_f_8 : fI f_8 a0 15 = fI f0 a0 15 := hX.2 15 (by decide)
      have t16_f_8 : fI f_8 a0 16 = fI f0 a0 16 := hX.2 16 (by decide)
      have t17_f_8 : fI f_8 a0 17 = fI f0 a0 17 := hX.2 17 (by decide)
      have t19_f_8 : fI f_8 a0 19 = fI f0 a0 19 := hX.2 19 (by decide)
      have Q8 : aI f_8 (ad 8) = aI f0 (ad 8) := funext fun x => hE.1 8 rfl (by decide) x
      have t17 := ex_7
      clear ex_7
      have pz : PSr Tt nn f_8 a0 (wS Tt nn ee b_a1) ee := ps.wr (by omega) (by omega) (by omega) (by omega)
      clear t17
      refine lv_aload_n hx hb dX10_must_20 rfl (lv_at hl 0 rfl) ?_
      refine q_call_v hA hK hw (va_runV (As := []) (rest := []) ⟨hx, hb, hml, hown, hts⟩ (c_X10_next_p zo l D cy L0 f_8 a0 ad hs Tt nn n0 n1 (by omega) (by first | exact hT | exact fun i q0 q1 => (congrFun Q8 i).trans (hT i q0 q1)) bT (by omega) (by omega) _) (cwV 0 hts (gT (inV (mr19 _ (List.mem_of_getElem? (i := 4) rfl)) (mr19 _ (List.mem_of_getElem? (i := 5) rfl)) (mr19 _ (List.mem_of_getElem? (i := 6) rfl)) (mr1 _ (List.mem_of_getElem? (i := 5) rfl)) (mr19 _ (List.mem_of_getElem? (i := 7) rfl)))) rfl rfl rfl (by decide +kernel) ⟨Nat.le_of_ble_eq_true rfl, Nat.le_of_ble_eq_true rfl⟩) (Wd.preV zo hA hZ hw hK hs.1 hs.2.1 rfl) rfl rfl hl.1 rfl (lv_room (Nat.le_of_ble_eq_true rfl)) dX10_must_21 ⟨Nat.le_of_ble_eq_true rfl, Nat.le_of_ble_eq_true rfl⟩) (fun L1 f_10 H locs ex_9 hw => ?_)
      obtain ⟨rfl, hs, hX, ex_9⟩ := ex_9
      have hE := hE.trans (hX.mono (rs' := []) (fs' := [15, 16, 17, 18, 19, 20]) (by decide) (by decide))
      have t14_f_10 : fI f_10 a0 14 = fI f_8 a0 14 := hX.2 14 (by decide)
      have t20_f_10 : fI f_10 a0 20 = fI f_8 a0 20 := hX.2 20 (by decide)
      have Q8 : aI f_10 (ad 8) = aI f0 (ad 8) := funext fun x => hE.1 8 rfl (by decide) x
      have t21 := ex_9
      clear ex_9
      exact q_ret_v hx hb hr hlocks hK hAe hw (Nat.le_of_ble_eq_true rfl) (Nat.le_of_ble_eq_true rfl) dX10_must_24 (by first | exact ⟨rfl, hs, hE, by rw [sq_1 (by omega)]; exact pz.nxt (fun z => absurd z (by omega)) t21 (by omega) n1⟩ | exact ⟨rfl, hs, hE, by rw [sq_0 (by omega), q3]; exact (pz.to (by omega) rfl).nxt (fun z => iw_16 ps (by omega) ((wS_iff e0 e1).mp q3)) t21 (by omega) n1⟩ | exact ⟨rfl, hs, hE, by rw [sq_0 (by omega)]; exact pz.nxt (fun z => absurd z (by omega)) t21 (by omega) n1⟩)
/-! ===== weekdays, dates of the reference ===== -/
def RVq (F v r : Int) : Prop := F = 0 → r = v
def NWq (F x : Int) : Prop := F ≠ 0 ∨ x ≠ 0
theorem NWq.z {F x : Int} (h : NWq F x) (e : F = 0) : x ≠ 0 := h.resolve_left (fun q => q e)
def V16 (T : Int → Int) (n : Int) (f : Nat → va_E) (a : Nat) (F e : Int) : Prop := F = 0 → fI f a 16 = tQ T n e
theorem SRr.ok {T : Int → Int} {n e : Int} {f : Nat → va_E} {a : Nat} (h : SRr T n f a e) (o : okN T n e) : fI f a 16 = tQ T n e ∧ fI f a 19 = vN T n e := ⟨(h.2.2.2.1 o.1).1, ((h.2.2.2.1 o.1).2.1 o.2).2⟩
theorem PSr.wrong {T : Int → Int} {n F e e' k x : Int} {f f1 : Nat → va_E} {a : Nat} (h : PSr T n f a F e) (e0 : 0 ≤ e) (e1 : e ≤ n) (w : (fI f a 20 = 0 ∧ fI f1 a 20 = 8 * fI f a 15 + k) ∨ (fI f a 20 ≠ 0 ∧ fI f1 a 20 = fI f a 20)) (hk : 1 ≤ k) (k15 : fI f1 a 15 = fI f a 15) (k16 : fI f1 a 16 = fI f a 16) (hx : F = 0 → x = 8 * tP T n e + k) : PSr T n f1 a (sq F x) e' := by
  have pb := tP_b (T := T) e1
  have h1 := h.1
  have h2 := h.2.1
  by_cases c : F = 0
  · have p := h.pl c
    have z := hx c
    rw [sq_0 c]
    exact h.wr (by omega) (by omega) k15 k16
  · rw [sq_1 c]
    exact h.wr (by omega) (by omega) k15 k16
theorem PSr.of {T : Int → Int} {n F e : Int} {f g : Nat → va_E} {a : Nat} (h : PSr T n f a F e) (e15 : fI g a 15 = fI f a 15) (e16 : fI g a 16 = fI f a 16) (e17 : fI g a 17 = fI f a 17) (e18 : fL g a 18 = fL f a 18) (e19 : fI g a 19 = fI f a 19) (e20 : fI g a 20 = fI f a 20) : PSr T n g a F e := by
  unfold PSr SRr at *
  rw [e15, e16, e17, e18, e19, e20]
  exact h
theorem PSr.pU {T : Int → Int} {n F e : Int} {f g : Nat → va_E} {a k : Nat} {v : Value} (h : PSr T n f a F e) (eg : g = pU f a k v) (hk : k < 15 ∨ 20 < k) : PSr T n g a F e := by
  rw [eg]
  exact h.of (fI_pU (Or.inr (by omega))) (fI_pU (Or.inr (by omega))) (fI_pU (Or.inr (by omega))) (fL_pU (Or.inr (by omega))) (fI_pU (Or.inr (by omega))) (fI_pU (Or.inr (by omega)))
theorem PSr.aU {T : Int → Int} {n F e : Int} {f g : Nat → va_E} {a r m : Nat} {cA : ClassId} {j : Int} {v : Int32} (h : PSr T n f a F e) (q : ArI f r cA m) (eg : g = aU f r j v) : PSr T n g a F e := by
  rw [eg]
  exact h.of (fI_aU q) (fI_aU q) (fI_aU q) (fL_aU q) (fI_aU q) (fI_aU q)
theorem wd_0 {T : Int → Int} {n e : Int} (h : wS T n e (wdB 0) = 0) : wdv T n e = 0 := by unfold wdv; rw [if_pos h]
theorem wd_1 {T : Int → Int} {n e : Int} (n0 : wS T n e (wdB 0) ≠ 0) (h : wS T n e (wdB 1) = 0) : wdv T n e = 1 := by unfold wdv; rw [if_neg n0, if_pos h]
theorem wd_2 {T : Int → Int} {n e : Int} (n0 : wS T n e (wdB 0) ≠ 0) (n1 : wS T n e (wdB 1) ≠ 0) (h : wS T n e (wdB 2) = 0) : wdv T n e = 2 := by unfold wdv; rw [if_neg n0, if_neg n1, if_pos h]
theorem wd_3 {T : Int → Int} {n e : Int} (n0 : wS T n e (wdB 0) ≠ 0) (n1 : wS T n e (wdB 1) ≠ 0) (n2 : wS T n e (wdB 2) ≠ 0) (h : wS T n e (wdB 3) = 0) : wdv T n e = 3 := by unfold wdv; rw [if_neg n0, if_neg n1, if_neg n2, if_pos h]
theorem wd_4 {T : Int → Int} {n e : Int} (n0 : wS T n e (wdB 0) ≠ 0) (n1 : wS T n e (wdB 1) ≠ 0) (n2 : wS T n e (wdB 2) ≠ 0) (n3 : wS T n e (wdB 3) ≠ 0) (h : wS T n e (wdB 4) = 0) : wdv T n e = 4 := by unfold wdv; rw [if_neg n0, if_neg n1, if_neg n2, if_neg n3, if_pos h]
theorem wd_5 {T : Int → Int} {n e : Int} (n0 : wS T n e (wdB 0) ≠ 0) (n1 : wS T n e (wdB 1) ≠ 0) (n2 : wS T n e (wdB 2) ≠ 0) (n3 : wS T n e (wdB 3) ≠ 0) (n4 : wS T n e (wdB 4) ≠ 0) (h : wS T n e (wdB 5) = 0) : wdv T n e = 5 := by unfold wdv; rw [if_neg n0, if_neg n1, if_neg n2, if_neg n3, if_neg n4, if_pos h]
theorem wd_6 {T : Int → Int} {n e : Int} (n0 : wS T n e (wdB 0) ≠ 0) (n1 : wS T n e (wdB 1) ≠ 0) (n2 : wS T n e (wdB 2) ≠ 0) (n3 : wS T n e (wdB 3) ≠ 0) (n4 : wS T n e (wdB 4) ≠ 0) (n5 : wS T n e (wdB 5) ≠ 0) (h : wS T n e (wdB 6) = 0) : wdv T n e = 6 := by unfold wdv; rw [if_neg n0, if_neg n1, if_neg n2, if_neg n3, if_neg n4, if_neg n5, if_pos h]
theorem wd_n {T : Int → Int} {n e : Int} (n0 : wS T n e (wdB 0) ≠ 0) (n1 : wS T n e (wdB 1) ≠ 0) (n2 : wS T n e (wdB 2) ≠ 0) (n3 : wS T n e (wdB 3) ≠ 0) (n4 : wS T n e (wdB 4) ≠ 0) (n5 : wS T n e (wdB 5) ≠ 0) (n6 : wS T n e (wdB 6) ≠ 0) : wdv T n e = -1 := by unfold wdv; rw [if_neg n0, if_neg n1, if_neg n2, if_neg n3, if_neg n4, if_neg n5, if_neg n6]
theorem wdv_ty {T : Int → Int} {n e : Int} (e0 : 0 ≤ e) (e1 : e ≤ n) (h : wdv T n e ≠ -1) : tyA T n (tP T n e) = 1 := by
  have I := fun b => wS_iff (T := T) (n := n) (e := e) (b := b) e0 e1
  by_cases n0 : wS T n e (wdB 0) = 0
  · exact ((I _).mp n0).1
  by_cases n1 : wS T n e (wdB 1) = 0
  · exact ((I _).mp n1).1
  by_cases n2 : wS T n e (wdB 2) = 0
  · exact ((I _).mp n2).1
  by_cases n3 : wS T n e (wdB 3) = 0
  · exact ((I _).mp n3).1
  by_cases n4 : wS T n e (wdB 4) = 0
  · exact ((I _).mp n4).1
  by_cases n5 : wS T n e (wdB 5) = 0
  · exact ((I _).mp n5).1
  by_cases n6 : wS T n e (wdB 6) = 0
  · exact ((I _).mp n6).1
  exact absurd (wd_n n0 n1 n2 n3 n4 n5 n6) h
theorem wdS_z {T : Int → Int} {n e : Int} (e0 : 0 ≤ e) (e1 : e ≤ n) (h : wdS T n e = 0) : 0 ≤ wdv T n e := by
  have b := wdv_b T n e
  have p := tP_b (T := T) e1
  by_cases c : wdv T n e = -1
  · rw [wdS_n c] at h; omega
  · omega
theorem wd_16 {T : Int → Int} {n e F : Int} {f : Nat → va_E} {a : Nat} (h : PSr T n f a F e) (z : F = 0) (e0 : 0 ≤ e) (e1 : e ≤ n) (k : wdv T n e ≠ -1) : fI f a 16 = tQ T n e := ((h.sr z).2.2.1 (wdv_ty e0 e1 k)).2.1
theorem da_sq {T : Int → Int} {n e F hi : Int} (h : RVq (sq (sq F (nS T n e 2000 2099)) (nS T n (tQ T n e) 1 12)) (dI (vN T n e) (vN T n (tQ T n e))) hi) : sq (sq (sq F (nS T n e 2000 2099)) (nS T n (tQ T n e) 1 12)) (nS T n (tQ T n (tQ T n e)) 1 hi) = sq F (daF T n e) := by
  by_cases c : F = 0
  · rw [sq_0 c, sq_0 c] at *
    by_cases c1 : nS T n e 2000 2099 = 0
    · rw [sq_0 c1] at *
      by_cases c2 : nS T n (tQ T n e) 1 12 = 0
      · rw [sq_0 c2, h c2]
        exact (daF_2 c1 c2).symm
      · rw [sq_1 c2]
        exact (daF_1 c1 c2).symm
    · rw [sq_1 c1, sq_1 c1]
      exact (daF_0 c1).symm
  · rw [sq_1 c, sq_1 c, sq_1 c, sq_1 c]
theorem tQ_r2 {T : Int → Int} {n e : Int} (e0 : 0 ≤ e) (e1 : e ≤ n) : 0 ≤ tQ T n e ∧ tQ T n e ≤ n := by
  have a := tP_b (T := T) e1
  have b := tQ_b (T := T) e1
  omega
theorem da_z {T : Int → Int} {n e : Int} (h : daF T n e = 0) : nS T n e 2000 2099 = 0 ∧ nS T n (tQ T n e) 1 12 = 0 ∧ nS T n (tQ T n (tQ T n e)) 1 (dI (vN T n e) (vN T n (tQ T n e))) = 0 := by
  by_cases c1 : nS T n e 2000 2099 = 0
  · by_cases c2 : nS T n (tQ T n e) 1 12 = 0
    · exact ⟨c1, c2, (daF_2 c1 c2).symm.trans h⟩
    · exact absurd ((daF_1 c1 c2).symm.trans h) c2
  · exact absurd ((daF_0 c1).symm.trans h) c1
set_option maxHeartbeats 4000000 in
set_option maxRecDepth 100000 in
theorem c_X10_numberTold_p {Z : Zt} (zo : Zok Z) (l : Launch) (D : va_G) (cy : Cy) (L0 : List Nat) (f0 : Nat → va_E) (a0 : Nat) (x1 : Int) (lx1 : -2147483648 ≤ x1) (ux1 : x1 ≤ 2147483647) (x2 : Int) (lx2 : -2147483648 ≤ x2) (ux2 : x2 ≤ 2147483647) (ad : Nat → Nat) (hs : MS cy L0 f0 a0 ad) (Tt : Int → Int) (nn : Int) (n0 : 0 ≤ nn) (n1 : nn ≤ 160) (h14 : fI f0 a0 14 = nn) (hT : ∀ i : Int, 0 ≤ i → i < 168 → aI f0 (ad 8) i = Tt i) (bT : ∀ i : Int, 0 ≤ Tt i ∧ Tt i ≤ 255) (FF : Int) (ee : Int) (ps : PSr Tt nn f0 a0 FF ee) (e0 : 0 ≤ ee) (e1 : ee ≤ nn) : Ci Z l yX10_numberTold (Cond.code yX10_numberTold cX10_numberTold 4 (some .int) :: TB) ({ frames := 2, cells := 0, slots := 0, locals := 43 } : Room) 0 0 D (tq cy) [.ref a0, .int (iI x1), .int (iI x2)] L0 f0 (fun (r : Int) (L1 : List Nat) (f1 : Nat → va_E) => L0 = L1 ∧ MS cy L0 f1 a0 ad ∧ Kp a0 ad [] [15, 16, 17, 18, 19, 20] f0 f1 ∧ (PSr Tt nn f1 a0 (sq FF (nS Tt nn ee x1 x2)) (tQ Tt nn ee) ∧ RVq (sq FF (nS Tt nn ee x1 x2)) (vN Tt nn ee) r)) := by
  refine Ci.enter (cc := cX10_numberTold) (n := 4) rfl (plainFor_of_name (by decide)) (Nat.le_of_ble_eq_true rfl) ?_
  intro p e s m below meth c ls A hx hb hr hts hown hlocks hnm hml hK hA hAe hw hZ hl
  have hown : s.vm.findClass RX10 = some m.cls := hown
  have hl : lv_has ls 4 [(0, .ref a0), (1, .int (iI x1)), (2, .int (iI x2))] := hl
  have hN : ZN s := (zo.2.2.2.2 _ _ _ hZ).2
  have hE : Kp a0 ad [] [15, 16, 17, 18, 19, 20] f0 f0 := Kp.refl _ _ _ _ _
  have ps1 := ps.1
  have ps2 := ps.2.1
  have ps3 := ps.2.2.1
  have ps4 := ps.2.2.2.1
  have ps5 := ps.2.2.2.2.1
  have ps6 := ps.2.2.2.2.2.1
  have pb := tP_b (T := Tt) e1
  have qb := tQ_b (T := Tt) e1
  refine lv_aload_n hx hb dX10_numberTold_0 rfl (lv_at hl 0 rfl) ?_
  refine q_geti (ci := 8) (C := RX10) (T := TX10) (N := 26) hx hb hts (fun w h => List.mem_cons_of_mem _ (mfX100 w h)) hown hK hw hs.1 hs.2.1 rfl 20 (by decide) (hts _ (List.mem_cons_of_mem _ (mr19 _ (List.mem_of_getElem? (i := 2) rfl)))) (fun _ h => h) rfl dX10_numberTold_1 (fun x_1 lx_1 ux_1 ex_1 => ?_)
  have J20 : ∀ (L : List Nat) (fw20 : Nat → va_E) (hs : MS cy L0 fw20 a0 ad) (hE : Kp a0 ad [] [15, 16, 17, 18, 19, 20] f0 fw20) (i5 : fI fw20 a0 14 = nn) (p20 : PSr Tt nn fw20 a0 (sq FF (okS Tt nn ee)) ee) (H : Heap) (locs : List Loc) (ls : Array Slot) (hw : Wd D A s.heap L0 fw20 H locs) (hl : lv_has ls 4 [(0, .ref a0), (1, .int (iI x1)), (2, .int (iI x2))]), W p l e ({ frames := 2, cells := 0, slots := 0, locals := 43 } : Room) s m ([.ref a0, .int (iI x1), .int (iI x2)] : List Value).toArray below meth c H locs (0) (0) (MQ below (Qi D (tq cy) L0 f0 s.heap.size (fun (r : Int) (L1 : List Nat) (f1 : Nat → va_E) => L0 = L1 ∧ MS cy L0 f1 a0 ad ∧ Kp a0 ad [] [15, 16, 17, 18, 19, 20] f0 f1 ∧ (PSr Tt nn f1 a0 (sq FF (nS Tt nn ee x1 x2)) (tQ Tt nn ee) ∧ RVq (sq FF (nS Tt nn ee x1 x2)) (vN Tt nn ee) r))) ([.ref a0, .int (iI x1), .int (iI x2)] : List Value).toArray s 0 0 A) (F0 m 20 ls []) := by
    intro L fw20 hs hE i5 p20 H locs ls hw hl
    have p1 := p20.1
    have p3 := p20.2.2.1
    have p4 := p20.2.2.2.1
    have Q8 : aI fw20 (ad 8) = aI f0 (ad 8) := funext fun x => hE.1 8 rfl (by decide) x
    refine lv_aload_n hx hb dX10_numberTold_20 rfl (lv_at hl 0 rfl) ?_
    refine q_geti (ci := 8) (C := RX10) (T := TX10) (N := 26) hx hb hts (fun w h => List.mem_cons_of_mem _ (mfX100 w h)) hown hK hw hs.1 hs.2.1 rfl 20 (by decide) (hts _ (List.mem_cons_of_mem _ (mr19 _ (List.mem_of_getElem? (i := 2) rfl)))) (fun _ h => h) rfl dX10_numberTold_21 (fun x_2 lx_2 ux_2 ex_2 => ?_)
    have J44 : ∀ (L : List Nat) (fw44 : Nat → va_E) (hs : MS cy L0 fw44 a0 ad) (hE : Kp a0 ad [] [15, 16, 17, 18, 19, 20] f0 fw44) (i5 : fI fw44 a0 14 = nn) (p44 : PSr Tt nn fw44 a0 (sq FF (nS Tt nn ee x1 x2)) ee) (v44 : VQ Tt nn fw44 a0 FF ee x1 x2) (H : Heap) (locs : List Loc) (ls : Array Slot) (hw : Wd D A s.heap L0 fw44 H locs) (hl : lv_has ls 4 [(0, .ref a0)]), W p l e ({ frames := 2, cells := 0, slots := 0, locals := 43 } : Room) s m ([.ref a0, .int (iI x1), .int (iI x2)] : List Value).toArray below meth c H locs (0) (0) (MQ below (Qi D (tq cy) L0 f0 s.heap.size (fun (r : Int) (L1 : List Nat) (f1 : Nat → va_E) => L0 = L1 ∧ MS cy L0 f1 a0 ad ∧ Kp a0 ad [] [15, 16, 17, 18, 19, 20] f0 f1 ∧ (PSr Tt nn f1 a0 (sq FF (nS Tt nn ee x1 x2)) (tQ Tt nn ee) ∧ RVq (sq FF (nS Tt nn ee x1 x2)) (vN Tt nn ee) r))) ([.ref a0, .int (iI x1), .int (iI x2)] : List Value).toArray s 0 0 A) (F0 m 44 ls []) := by
      intro L fw44 hs hE i5 p44 v44 H locs ls hw hl
      have p1 := p44.1
      have p5 := p44.2.2.2.2.1
      have p6 := p44.2.2.2.2.2.1
      have Q8 : aI fw44 (ad 8) = aI f0 (ad 8) := funext fun x => hE.1 8 rfl (by decide) x
      refine lv_aload_n hx hb dX10_numberTold_44 rfl (lv_at hl 0 rfl) ?_
      refine q_geti (ci := 8) (C := RX10) (T := TX10) (N := 26) hx hb hts (fun w h => List.mem_cons_of_mem _ (mfX100 w h)) hown hK hw hs.1 hs.2.1 rfl 19 (by decide) (hts _ (List.mem_cons_of_mem _ (mr19 _ (List.mem_of_getElem? (i := 11) rfl)))) (fun _ h => h) rfl dX10_numberTold_45 (fun x_3 lx_3 ux_3 ex_3 => ?_)
      have t45 := ex_3
      refine lv_istore_n (lv' := [(3, .int (iI x_3)), (0, .ref a0)]) hx hb dX10_numberTold_48 rfl hl (by decide) rfl (fun ls hl => ?_)
      refine lv_aload_n hx hb dX10_numberTold_49 rfl (lv_at hl 1 rfl) ?_
      refine q_call_v hA hK hw (va_runV (As := []) (rest := []) ⟨hx, hb, hml, hown, hts⟩ (c_X10_next_p zo l D cy L0 fw44 a0 ad hs Tt nn n0 n1 (by omega) (by first | exact hT | exact fun i q0 q1 => (congrFun Q8 i).trans (hT i q0 q1)) bT (by omega) (by omega) _) (cwV 0 hts (gT (inV (mr19 _ (List.mem_of_getElem? (i := 4) rfl)) (mr19 _ (List.mem_of_getElem? (i := 5) rfl)) (mr19 _ (List.mem_of_getElem? (i := 6) rfl)) (mr1 _ (List.mem_of_getElem? (i := 5) rfl)) (mr19 _ (List.mem_of_getElem? (i := 7) rfl)))) rfl rfl rfl (by decide +kernel) ⟨Nat.le_of_ble_eq_true rfl, Nat.le_of_ble_eq_true rfl⟩) (Wd.preV zo hA hZ hw hK hs.1 hs.2.1 rfl) rfl rfl hl.1 rfl (lv_room (Nat.le_of_ble_eq_true rfl)) dX10_numberTold_50 ⟨Nat.le_of_ble_eq_true rfl, Nat.le_of_ble_eq_true rfl⟩) (fun L1 f_5 H locs ex_4 hw => ?_)
      obtain ⟨rfl, hs, hX, ex_4⟩ := ex_4
      have hE := hE.trans (hX.mono (rs' := []) (fs' := [15, 16, 17, 18, 19, 20]) (by decide) (by decide))
      have t14_f_5 : fI f_5 a0 14 = fI fw44 a0 14 := hX.2 14 (by decide)
      have t20_f_5 : fI f_5 a0 20 = fI fw44 a0 20 := hX.2 20 (by decide)
      have Q8 : aI f_5 (ad 8) = aI f0 (ad 8) := funext fun x => hE.1 8 rfl (by decide) x
      have t50 := ex_4
      clear ex_4
      refine lv_iload_n hx hb dX10_numberTold_53 rfl (lv_at hl 0 rfl) ?_
      exact q_ret_i hx hb hr hlocks hK hAe hw ⟨lx_3, ux_3⟩ (Nat.le_of_ble_eq_true rfl) (Nat.le_of_ble_eq_true rfl) dX10_numberTold_54 (by exact ⟨rfl, hs, hE, p44.nxt (fun z => (v44 z).2) t50 (by omega) n1, fun z => t45.trans (v44 z).1⟩)
    refine q_if_ne (tgt := 44) hx hb dX10_numberTold_24 (by decide) ⟨lx_2, ux_2⟩ (fun c24 => ?_) (fun c24 => ?_)
    · have p44 : PSr Tt nn fw20 a0 (sq FF (nS Tt nn ee x1 x2)) ee := p20.to (sq_nS (by omega)) rfl
      have v44 : VQ Tt nn fw20 a0 FF ee x1 x2 := VQ.no (by rw [sq_nS (by omega)]; omega)
      exact J44 L0 fw20 hs hE (by omega) (by exact p44) (by exact v44) _ _ _ hw (lv_sub hl [0] rfl)
    · have z9 := sq_z.mp (show sq FF (okS Tt nn ee) = 0 by omega)
      have o9 := okS_z e0 e1 z9.2
      have d9 := (p20.sr (by omega)).ok o9
      have pl := p20.pl (by omega)
      refine lv_aload_n hx hb dX10_numberTold_27 rfl (lv_at hl 0 rfl) ?_
      refine q_geti (ci := 8) (C := RX10) (T := TX10) (N := 26) hx hb hts (fun w h => List.mem_cons_of_mem _ (mfX100 w h)) hown hK hw hs.1 hs.2.1 rfl 19 (by decide) (hts _ (List.mem_cons_of_mem _ (mr19 _ (List.mem_of_getElem? (i := 11) rfl)))) (fun _ h => h) rfl dX10_numberTold_28 (fun x_6 lx_6 ux_6 ex_6 => ?_)
      refine lv_iload_n hx hb dX10_numberTold_31 rfl (lv_at hl 1 rfl) ?_
      refine lv_iload_n hx hb dX10_numberTold_32 rfl (lv_at hl 2 rfl) ?_
      refine q_call_i hA hK hw (va_runS (As := [.int (iI x_6), .int (iI x1), .int (iI x2)]) (rest := []) ⟨hx, hb, hml, hown, hts⟩ (c_X10_within zo l D cy L0 fw20 x_6 lx_6 ux_6 x1 lx1 ux1 x2 lx2 ux2 _) (va_cwS 3 hts (gT (inS (mr5 _ (List.mem_of_getElem? (i := 9) rfl)) (mr5 _ (List.mem_of_getElem? (i := 10) rfl)) (mr1 _ (List.mem_of_getElem? (i := 5) rfl)) (mr5 _ (List.mem_of_getElem? (i := 11) rfl)))) rfl rfl rfl (by decide +kernel) ⟨Nat.le_of_ble_eq_true rfl, Nat.le_of_ble_eq_true rfl⟩) (Wd.preS zo hA hZ hw hK) rfl rfl hl.1 rfl (lv_room (Nat.le_of_ble_eq_true rfl)) dX10_numberTold_33 ⟨Nat.le_of_ble_eq_true rfl, Nat.le_of_ble_eq_true rfl⟩) (fun x_7 L1 f1 H locs lx_7 ux_7 ex_7 hw => ?_)
      obtain ⟨rfl, rfl, ex_7⟩ := ex_7
      have t33 := ex_7
      clear ex_7
      refine q_if_ne (tgt := 44) hx hb dX10_numberTold_36 (by decide) ⟨lx_7, ux_7⟩ (fun c36 => ?_) (fun c36 => ?_)
      · have n9 := nS_of (T := Tt) (n := nn) (e := ee) (lo := x1) (hi := x2) |>.1 ⟨o9, by omega, by omega⟩
        have p44 : PSr Tt nn fw20 a0 (sq FF (nS Tt nn ee x1 x2)) ee := p20.to (by rw [sq_0 z9.1, n9]; omega) rfl
        have v44 : VQ Tt nn fw20 a0 FF ee x1 x2 := fun _ => ⟨d9.2, d9.1⟩
        exact J44 L0 fw20 hs hE (by omega) (by exact p44) (by exact v44) _ _ _ hw (lv_sub hl [0] rfl)
      · have n9 := nS_of (T := Tt) (n := nn) (e := ee) (lo := x1) (hi := x2) |>.2.2 ⟨o9, by omega⟩
        clear t33
        refine lv_aload_n hx hb dX10_numberTold_39 rfl (lv_at hl 0 rfl) ?_
        refine q_iconst hx hb dX10_numberTold_40 ?_
        refine q_call_v hA hK hw (va_runV (As := [.int (iI 2)]) (rest := []) ⟨hx, hb, hml, hown, hts⟩ (c_X10_wrong zo l D cy L0 fw20 a0 2 (by decide) (by decide) ad hs (by omega) (by omega) (by omega) (by omega) _) (cwV 1 hts (gT (inV (mr20 _ (List.mem_of_getElem? (i := 12) rfl)) (mr20 _ (List.mem_of_getElem? (i := 13) rfl)) (mr20 _ (List.mem_of_getElem? (i := 14) rfl)) (mr1 _ (List.mem_of_getElem? (i := 5) rfl)) (mr20 _ (List.mem_of_getElem? (i := 15) rfl)))) rfl rfl rfl (by decide +kernel) ⟨Nat.le_of_ble_eq_true rfl, Nat.le_of_ble_eq_true rfl⟩) (Wd.preV zo hA hZ hw hK hs.1 hs.2.1 rfl) rfl rfl hl.1 rfl (lv_room (Nat.le_of_ble_eq_true rfl)) dX10_numberTold_41 ⟨Nat.le_of_ble_eq_true rfl, Nat.le_of_ble_eq_true rfl⟩) (fun L1 f_9 H locs ex_8 hw => ?_)
        obtain ⟨rfl, hs, hX, ex_8⟩ := ex_8
        have hE := hE.trans (hX.mono (rs' := []) (fs' := [15, 16, 17, 18, 19, 20]) (by decide) (by decide))
        have t14_f_9 : fI f_9 a0 14 = fI fw20 a0 14 := hX.2 14 (by decide)
        have t15_f_9 : fI f_9 a0 15 = fI fw20 a0 15 := hX.2 15 (by decide)
        have t16_f_9 : fI f_9 a0 16 = fI fw20 a0 16 := hX.2 16 (by decide)
        have t17_f_9 : fI f_9 a0 17 = fI fw20 a0 17 := hX.2 17 (by decide)
        have t19_f_9 : fI f_9 a0 19 = fI fw20 a0 19 := hX.2 19 (by decide)
        have Q8 : aI f_9 (ad 8) = aI f0 (ad 8) := funext fun x => hE.1 8 rfl (by decide) x
        have t41 := ex_8
        clear ex_8
        have p44 : PSr Tt nn f_9 a0 (sq FF (nS Tt nn ee x1 x2)) ee := (p20.wr (x := 8 * tP Tt nn ee + 2) (by omega) (by omega) (by omega) (by omega)).to ((sq_0 z9.1).trans n9) rfl
        have v44 : VQ Tt nn f_9 a0 FF ee x1 x2 := VQ.no (by rw [sq_0 z9.1, n9]; omega)
        clear t41
        exact J44 L0 f_9 hs hE (by omega) (by exact p44) (by exact v44) _ _ _ hw (lv_sub hl [0] rfl)
  refine q_if_ne (tgt := 20) hx hb dX10_numberTold_4 (by decide) ⟨lx_1, ux_1⟩ (fun c4 => ?_) (fun c4 => ?_)
  · have p20 : PSr Tt nn f0 a0 (sq FF (okS Tt nn ee)) ee := ps.to (sq_1 (by omega)) rfl
    exact J20 L0 f0 hs hE (by omega) (by exact p20) _ _ _ hw (lv_sub hl [0, 1, 2] rfl)
  · refine lv_aload_n hx hb dX10_numberTold_7 rfl (lv_at hl 0 rfl) ?_
    refine q_geti (ci := 8) (C := RX10) (T := TX10) (N := 26) hx hb hts (fun w h => List.mem_cons_of_mem _ (mfX100 w h)) hown hK hw hs.1 hs.2.1 rfl 17 (by decide) (hts _ (List.mem_cons_of_mem _ (mr19 _ (List.mem_of_getElem? (i := 9) rfl)))) (fun _ h => h) rfl dX10_numberTold_8 (fun x_10 lx_10 ux_10 ex_10 => ?_)
    refine q_iconst hx hb dX10_numberTold_11 ?_
    refine q_icmp_eq (tgt := 20) hx hb dX10_numberTold_12 (by decide) ⟨lx_10, ux_10⟩ ⟨by decide, by decide⟩ (fun c12 => ?_) (fun c12 => ?_)
    · have s9 := (ps.sr (by omega)).d (by omega)
      have p20 : PSr Tt nn f0 a0 (sq FF (okS Tt nn ee)) ee := ps.to ((sq_0 (by omega)).trans ((okS_y s9.1).trans (by omega))) rfl
      exact J20 L0 f0 hs hE (by omega) (by exact p20) _ _ _ hw (lv_sub hl [0, 1, 2] rfl)
    · have s9 := (ps.sr (by omega)).nd (by omega)
      have pl := ps.pl (by omega)
      refine lv_aload_n hx hb dX10_numberTold_15 rfl (lv_at hl 0 rfl) ?_
      refine q_iconst hx hb dX10_numberTold_16 ?_
      refine q_call_v hA hK hw (va_runV (As := [.int (iI 1)]) (rest := []) ⟨hx, hb, hml, hown, hts⟩ (c_X10_wrong zo l D cy L0 f0 a0 1 (by decide) (by decide) ad hs (by omega) (by omega) (by omega) (by omega) _) (cwV 1 hts (gT (inV (mr20 _ (List.mem_of_getElem? (i := 12) rfl)) (mr20 _ (List.mem_of_getElem? (i := 13) rfl)) (mr20 _ (List.mem_of_getElem? (i := 14) rfl)) (mr1 _ (List.mem_of_getElem? (i := 5) rfl)) (mr20 _ (List.mem_of_getElem? (i := 15) rfl)))) rfl rfl rfl (by decide +kernel) ⟨Nat.le_of_ble_eq_true rfl, Nat.le_of_ble_eq_true rfl⟩) (Wd.preV zo hA hZ hw hK hs.1 hs.2.1 rfl) rfl rfl hl.1 rfl (lv_room (Nat.le_of_ble_eq_true rfl)) dX10_numberTold_17 ⟨Nat.le_of_ble_eq_true rfl, Nat.le_of_ble_eq_true rfl⟩) (fun L1 f_12 H locs ex_11 hw => ?_)
      obtain ⟨rfl, hs, hX, ex_11⟩ := ex_11
      have hE := hE.trans (hX.mono (rs' := []) (fs' := [15, 16, 17, 18, 19, 20]) (by decide) (by decide))
      have t14_f_12 : fI f_12 a0 14 = fI f0 a0 14 := hX.2 14 (by decide)
      have t15_f_12 : fI f_12 a0 15 = fI f0 a0 15 := hX.2 15 (by decide)
      have t16_f_12 : fI f_12 a0 16 = fI f0 a0 16 := hX.2 16 (by decide)
      have t17_f_12 : fI f_12 a0 17 = fI f0 a0 17 := hX.2 17 (by decide)
      have t19_f_12 : fI f_12 a0 19 = fI f0 a0 19 := hX.2 19 (by decide)
      have Q8 : aI f_12 (ad 8) = aI f0 (ad 8) := funext fun x => hE.1 8 rfl (by decide) x
      have t17 := ex_11
      clear ex_11
      have p20 : PSr Tt nn f_12 a0 (sq FF (okS Tt nn ee)) ee := (ps.wr (x := 8 * tP Tt nn ee + 1) (by omega) (by omega) (by omega) (by omega)).to ((sq_0 (by omega)).trans (okS_n s9)) rfl
      clear t17
      exact J20 L0 f_12 hs hE (by omega) (by exact p20) _ _ _ hw (lv_sub hl [0, 1, 2] rfl)
set_option maxHeartbeats 4000000 in
set_option maxRecDepth 100000 in
theorem c_X10_weekdayHere_p {Z : Zt} (zo : Zok Z) (l : Launch) (D : va_G) (cy : Cy) (L0 : List Nat) (f0 : Nat → va_E) (a0 : Nat) (ad : Nat → Nat) (hs : MS cy L0 f0 a0 ad) (Tt : Int → Int) (nn : Int) (n0 : 0 ≤ nn) (n1 : nn ≤ 160) (h14 : fI f0 a0 14 = nn) (hT : ∀ i : Int, 0 ≤ i → i < 168 → aI f0 (ad 8) i = Tt i) (bT : ∀ i : Int, 0 ≤ Tt i ∧ Tt i ≤ 255) (FF : Int) (ee : Int) (ps : PSr Tt nn f0 a0 FF ee) (e0 : 0 ≤ ee) (e1 : ee ≤ nn) : Ci Z l yX10_weekdayHere (Cond.code yX10_weekdayHere cX10_weekdayHere 1 (some .int) :: TB) ({ frames := 6, cells := 0, slots := 0, locals := 129 } : Room) 0 0 D (tq cy) [.ref a0] L0 f0 (fun (r : Int) (L1 : List Nat) (f1 : Nat → va_E) => L0 = L1 ∧ f0 = f1 ∧ ((FF = 0 ∧ r = wdv Tt nn ee) ∨ (FF ≠ 0 ∧ r = -1))) := by
  refine Ci.enter (cc := cX10_weekdayHere) (n := 1) rfl (plainFor_of_name (by decide)) (Nat.le_of_ble_eq_true rfl) ?_
  intro p e s m below meth c ls A hx hb hr hts hown hlocks hnm hml hK hA hAe hw hZ hl
  have hown : s.vm.findClass RX10 = some m.cls := hown
  have hl : lv_has ls 1 [(0, .ref a0)] := hl
  have hN : ZN s := (zo.2.2.2.2 _ _ _ hZ).2
  have ps1 := ps.1
  have ps2 := ps.2.1
  have ps3 := ps.2.2.1
  have ps4 := ps.2.2.2.1
  have ps5 := ps.2.2.2.2.1
  have ps6 := ps.2.2.2.2.2.1
  have pb := tP_b (T := Tt) e1
  have qb := tQ_b (T := Tt) e1
  refine lv_aload_n hx hb dX10_weekdayHere_0 rfl (lv_at hl 0 rfl) ?_
  obtain ⟨t_1, v_t_1, h_t_1⟩ : ∃ q v : Nat, ∀ (A : Nat → Prop) (U : State) (H : Heap), Z A U H → vk_R RX10 140 "mon" q U ∧ Tx [109, 111, 110] q v A U H := ztx_18 zo
  obtain ⟨b_t_1, eb_t_1⟩ : ∃ b : List Int32, b = [109, 111, 110] := ⟨_, rfl⟩
  have nb_t_1 : Asc b_t_1 := by rw [eb_t_1]; exact ⟨by decide, by decide +kernel⟩
  have tx_t_1 : ∀ (A : Nat → Prop) (U : State) (H : Heap), Z A U H → Tx b_t_1 t_1 v_t_1 A U H := fun A U H h => by rw [eb_t_1]; exact (h_t_1 A U H h).2
  have wok_t_1 : WOK b_t_1 := by rw [eb_t_1]; unfold WOK; decide +kernel
  have eb_t_1 : b_t_1 = (wdB 0) := by rw [eb_t_1]; rfl
  refine va_ldcS hx hb hown (h_t_1 _ _ _ hZ).1 dX10_weekdayHere_1 ?_
  refine q_call_i hA hK hw (va_runV (As := [.ref t_1]) (rest := []) ⟨hx, hb, hml, hown, hts⟩ (c_X10_isWord_p zo l D cy L0 f0 a0 t_1 b_t_1 v_t_1 nb_t_1 tx_t_1 ad hs wok_t_1 Tt nn n0 n1 (by omega) (by first | exact hT | exact fun i q0 q1 => (congrFun Q8 i).trans (hT i q0 q1)) bT _ _ ps (by omega) (by omega) _) (cwV 1 hts (gT (inV (mr20 _ (List.mem_of_getElem? (i := 3) rfl)) (mr20 _ (List.mem_of_getElem? (i := 4) rfl)) (mr20 _ (List.mem_of_getElem? (i := 5) rfl)) (mr1 _ (List.mem_of_getElem? (i := 5) rfl)) (mr20 _ (List.mem_of_getElem? (i := 6) rfl)))) rfl rfl rfl (by decide +kernel) ⟨Nat.le_of_ble_eq_true rfl, Nat.le_of_ble_eq_true rfl⟩) (Wd.preV zo hA hZ hw hK hs.1 hs.2.1 rfl) rfl rfl hl.1 rfl (lv_room (Nat.le_of_ble_eq_true rfl)) dX10_weekdayHere_3 ⟨Nat.le_of_ble_eq_true rfl, Nat.le_of_ble_eq_true rfl⟩) (fun x_2 L1 f1 H locs lx_2 ux_2 ex_2 hw => ?_)
  obtain ⟨rfl, rfl, ex_2⟩ := ex_2
  have t3 := ex_2
  rw [eb_t_1] at t3
  clear ex_2
  refine q_if_eq (tgt := 11) hx hb dX10_weekdayHere_6 (by decide) ⟨lx_2, ux_2⟩ (fun c6 => ?_) (fun c6 => ?_)
  · have n3 : NWq FF (wS Tt nn ee (wdB 0)) := (t3.resolve_left (by omega)).2
    clear t3
    refine lv_aload_n hx hb dX10_weekdayHere_11 rfl (lv_at hl 0 rfl) ?_
    obtain ⟨t_3, v_t_3, h_t_3⟩ : ∃ q v : Nat, ∀ (A : Nat → Prop) (U : State) (H : Heap), Z A U H → vk_R RX10 142 "tue" q U ∧ Tx [116, 117, 101] q v A U H := ztx_19 zo
    obtain ⟨b_t_3, eb_t_3⟩ : ∃ b : List Int32, b = [116, 117, 101] := ⟨_, rfl⟩
    have nb_t_3 : Asc b_t_3 := by rw [eb_t_3]; exact ⟨by decide, by decide +kernel⟩
    have tx_t_3 : ∀ (A : Nat → Prop) (U : State) (H : Heap), Z A U H → Tx b_t_3 t_3 v_t_3 A U H := fun A U H h => by rw [eb_t_3]; exact (h_t_3 A U H h).2
    have wok_t_3 : WOK b_t_3 := by rw [eb_t_3]; unfold WOK; decide +kernel
    have eb_t_3 : b_t_3 = (wdB 1) := by rw [eb_t_3]; rfl
    refine va_ldcS hx hb hown (h_t_3 _ _ _ hZ).1 dX10_weekdayHere_12 ?_
    refine q_call_i hA hK hw (va_runV (As := [.ref t_3]) (rest := []) ⟨hx, hb, hml, hown, hts⟩ (c_X10_isWord_p zo l D cy L0 f0 a0 t_3 b_t_3 v_t_3 nb_t_3 tx_t_3 ad hs wok_t_3 Tt nn n0 n1 (by omega) (by first | exact hT | exact fun i q0 q1 => (congrFun Q8 i).trans (hT i q0 q1)) bT _ _ ps (by omega) (by omega) _) (cwV 1 hts (gT (inV (mr20 _ (List.mem_of_getElem? (i := 3) rfl)) (mr20 _ (List.mem_of_getElem? (i := 4) rfl)) (mr20 _ (List.mem_of_getElem? (i := 5) rfl)) (mr1 _ (List.mem_of_getElem? (i := 5) rfl)) (mr20 _ (List.mem_of_getElem? (i := 6) rfl)))) rfl rfl rfl (by decide +kernel) ⟨Nat.le_of_ble_eq_true rfl, Nat.le_of_ble_eq_true rfl⟩) (Wd.preV zo hA hZ hw hK hs.1 hs.2.1 rfl) rfl rfl hl.1 rfl (lv_room (Nat.le_of_ble_eq_true rfl)) dX10_weekdayHere_14 ⟨Nat.le_of_ble_eq_true rfl, Nat.le_of_ble_eq_true rfl⟩) (fun x_4 L1 f1 H locs lx_4 ux_4 ex_4 hw => ?_)
    obtain ⟨rfl, rfl, ex_4⟩ := ex_4
    have t14 := ex_4
    rw [eb_t_3] at t14
    clear ex_4
    refine q_if_eq (tgt := 22) hx hb dX10_weekdayHere_17 (by decide) ⟨lx_4, ux_4⟩ (fun c17 => ?_) (fun c17 => ?_)
    · have n14 : NWq FF (wS Tt nn ee (wdB 1)) := (t14.resolve_left (by omega)).2
      clear t14
      refine lv_aload_n hx hb dX10_weekdayHere_22 rfl (lv_at hl 0 rfl) ?_
      obtain ⟨t_5, v_t_5, h_t_5⟩ : ∃ q v : Nat, ∀ (A : Nat → Prop) (U : State) (H : Heap), Z A U H → vk_R RX10 144 "wed" q U ∧ Tx [119, 101, 100] q v A U H := ztx_20 zo
      obtain ⟨b_t_5, eb_t_5⟩ : ∃ b : List Int32, b = [119, 101, 100] := ⟨_, rfl⟩
      have nb_t_5 : Asc b_t_5 := by rw [eb_t_5]; exact ⟨by decide, by decide +kernel⟩
      have tx_t_5 : ∀ (A : Nat → Prop) (U : State) (H : Heap), Z A U H → Tx b_t_5 t_5 v_t_5 A U H := fun A U H h => by rw [eb_t_5]; exact (h_t_5 A U H h).2
      have wok_t_5 : WOK b_t_5 := by rw [eb_t_5]; unfold WOK; decide +kernel
      have eb_t_5 : b_t_5 = (wdB 2) := by rw [eb_t_5]; rfl
      refine va_ldcS hx hb hown (h_t_5 _ _ _ hZ).1 dX10_weekdayHere_23 ?_
      refine q_call_i hA hK hw (va_runV (As := [.ref t_5]) (rest := []) ⟨hx, hb, hml, hown, hts⟩ (c_X10_isWord_p zo l D cy L0 f0 a0 t_5 b_t_5 v_t_5 nb_t_5 tx_t_5 ad hs wok_t_5 Tt nn n0 n1 (by omega) (by first | exact hT | exact fun i q0 q1 => (congrFun Q8 i).trans (hT i q0 q1)) bT _ _ ps (by omega) (by omega) _) (cwV 1 hts (gT (inV (mr20 _ (List.mem_of_getElem? (i := 3) rfl)) (mr20 _ (List.mem_of_getElem? (i := 4) rfl)) (mr20 _ (List.mem_of_getElem? (i := 5) rfl)) (mr1 _ (List.mem_of_getElem? (i := 5) rfl)) (mr20 _ (List.mem_of_getElem? (i := 6) rfl)))) rfl rfl rfl (by decide +kernel) ⟨Nat.le_of_ble_eq_true rfl, Nat.le_of_ble_eq_true rfl⟩) (Wd.preV zo hA hZ hw hK hs.1 hs.2.1 rfl) rfl rfl hl.1 rfl (lv_room (Nat.le_of_ble_eq_true rfl)) dX10_weekdayHere_25 ⟨Nat.le_of_ble_eq_true rfl, Nat.le_of_ble_eq_true rfl⟩) (fun x_6 L1 f1 H locs lx_6 ux_6 ex_6 hw => ?_)
      obtain ⟨rfl, rfl, ex_6⟩ := ex_6
      have t25 := ex_6
      rw [eb_t_5] at t25
      clear ex_6
      refine q_if_eq (tgt := 33) hx hb dX10_weekdayHere_28 (by decide) ⟨lx_6, ux_6⟩ (fun c28 => ?_) (fun c28 => ?_)
      · have n25 : NWq FF (wS Tt nn ee (wdB 2)) := (t25.resolve_left (by omega)).2
        clear t25
        refine lv_aload_n hx hb dX10_weekdayHere_33 rfl (lv_at hl 0 rfl) ?_
        obtain ⟨t_7, v_t_7, h_t_7⟩ : ∃ q v : Nat, ∀ (A : Nat → Prop) (U : State) (H : Heap), Z A U H → vk_R RX10 146 "thu" q U ∧ Tx [116, 104, 117] q v A U H := ztx_21 zo
        obtain ⟨b_t_7, eb_t_7⟩ : ∃ b : List Int32, b = [116, 104, 117] := ⟨_, rfl⟩
        have nb_t_7 : Asc b_t_7 := by rw [eb_t_7]; exact ⟨by decide, by decide +kernel⟩
        have tx_t_7 : ∀ (A : Nat → Prop) (U : State) (H : Heap), Z A U H → Tx b_t_7 t_7 v_t_7 A U H := fun A U H h => by rw [eb_t_7]; exact (h_t_7 A U H h).2
        have wok_t_7 : WOK b_t_7 := by rw [eb_t_7]; unfold WOK; decide +kernel
        have eb_t_7 : b_t_7 = (wdB 3) := by rw [eb_t_7]; rfl
        refine va_ldcS hx hb hown (h_t_7 _ _ _ hZ).1 dX10_weekdayHere_34 ?_
        refine q_call_i hA hK hw (va_runV (As := [.ref t_7]) (rest := []) ⟨hx, hb, hml, hown, hts⟩ (c_X10_isWord_p zo l D cy L0 f0 a0 t_7 b_t_7 v_t_7 nb_t_7 tx_t_7 ad hs wok_t_7 Tt nn n0 n1 (by omega) (by first | exact hT | exact fun i q0 q1 => (congrFun Q8 i).trans (hT i q0 q1)) bT _ _ ps (by omega) (by omega) _) (cwV 1 hts (gT (inV (mr20 _ (List.mem_of_getElem? (i := 3) rfl)) (mr20 _ (List.mem_of_getElem? (i := 4) rfl)) (mr20 _ (List.mem_of_getElem? (i := 5) rfl)) (mr1 _ (List.mem_of_getElem? (i := 5) rfl)) (mr20 _ (List.mem_of_getElem? (i := 6) rfl)))) rfl rfl rfl (by decide +kernel) ⟨Nat.le_of_ble_eq_true rfl, Nat.le_of_ble_eq_true rfl⟩) (Wd.preV zo hA hZ hw hK hs.1 hs.2.1 rfl) rfl rfl hl.1 rfl (lv_room (Nat.le_of_ble_eq_true rfl)) dX10_weekdayHere_36 ⟨Nat.le_of_ble_eq_true rfl, Nat.le_of_ble_eq_true rfl⟩) (fun x_8 L1 f1 H locs lx_8 ux_8 ex_8 hw => ?_)
        obtain ⟨rfl, rfl, ex_8⟩ := ex_8
        have t36 := ex_8
        rw [eb_t_7] at t36
        clear ex_8
        refine q_if_eq (tgt := 44) hx hb dX10_weekdayHere_39 (by decide) ⟨lx_8, ux_8⟩ (fun c39 => ?_) (fun c39 => ?_)
        · have n36 : NWq FF (wS Tt nn ee (wdB 3)) := (t36.resolve_left (by omega)).2
          clear t36
          refine lv_aload_n hx hb dX10_weekdayHere_44 rfl (lv_at hl 0 rfl) ?_
          obtain ⟨t_9, v_t_9, h_t_9⟩ : ∃ q v : Nat, ∀ (A : Nat → Prop) (U : State) (H : Heap), Z A U H → vk_R RX10 148 "fri" q U ∧ Tx [102, 114, 105] q v A U H := ztx_22 zo
          obtain ⟨b_t_9, eb_t_9⟩ : ∃ b : List Int32, b = [102, 114, 105] := ⟨_, rfl⟩
          have nb_t_9 : Asc b_t_9 := by rw [eb_t_9]; exact ⟨by decide, by decide +kernel⟩
          have tx_t_9 : ∀ (A : Nat → Prop) (U : State) (H : Heap), Z A U H → Tx b_t_9 t_9 v_t_9 A U H := fun A U H h => by rw [eb_t_9]; exact (h_t_9 A U H h).2
          have wok_t_9 : WOK b_t_9 := by rw [eb_t_9]; unfold WOK; decide +kernel
          have eb_t_9 : b_t_9 = (wdB 4) := by rw [eb_t_9]; rfl
          refine va_ldcS hx hb hown (h_t_9 _ _ _ hZ).1 dX10_weekdayHere_45 ?_
          refine q_call_i hA hK hw (va_runV (As := [.ref t_9]) (rest := []) ⟨hx, hb, hml, hown, hts⟩ (c_X10_isWord_p zo l D cy L0 f0 a0 t_9 b_t_9 v_t_9 nb_t_9 tx_t_9 ad hs wok_t_9 Tt nn n0 n1 (by omega) (by first | exact hT | exact fun i q0 q1 => (congrFun Q8 i).trans (hT i q0 q1)) bT _ _ ps (by omega) (by omega) _) (cwV 1 hts (gT (inV (mr20 _ (List.mem_of_getElem? (i := 3) rfl)) (mr20 _ (List.mem_of_getElem? (i := 4) rfl)) (mr20 _ (List.mem_of_getElem? (i := 5) rfl)) (mr1 _ (List.mem_of_getElem? (i := 5) rfl)) (mr20 _ (List.mem_of_getElem? (i := 6) rfl)))) rfl rfl rfl (by decide +kernel) ⟨Nat.le_of_ble_eq_true rfl, Nat.le_of_ble_eq_true rfl⟩) (Wd.preV zo hA hZ hw hK hs.1 hs.2.1 rfl) rfl rfl hl.1 rfl (lv_room (Nat.le_of_ble_eq_true rfl)) dX10_weekdayHere_47 ⟨Nat.le_of_ble_eq_true rfl, Nat.le_of_ble_eq_true rfl⟩) (fun x_10 L1 f1 H locs lx_10 ux_10 ex_10 hw => ?_)
          obtain ⟨rfl, rfl, ex_10⟩ := ex_10
          have t47 := ex_10
          rw [eb_t_9] at t47
          clear ex_10
          refine q_if_eq (tgt := 55) hx hb dX10_weekdayHere_50 (by decide) ⟨lx_10, ux_10⟩ (fun c50 => ?_) (fun c50 => ?_)
          · have n47 : NWq FF (wS Tt nn ee (wdB 4)) := (t47.resolve_left (by omega)).2
            clear t47
            refine lv_aload_n hx hb dX10_weekdayHere_55 rfl (lv_at hl 0 rfl) ?_
            obtain ⟨t_11, v_t_11, h_t_11⟩ : ∃ q v : Nat, ∀ (A : Nat → Prop) (U : State) (H : Heap), Z A U H → vk_R RX10 150 "sat" q U ∧ Tx [115, 97, 116] q v A U H := ztx_23 zo
            obtain ⟨b_t_11, eb_t_11⟩ : ∃ b : List Int32, b = [115, 97, 116] := ⟨_, rfl⟩
            have nb_t_11 : Asc b_t_11 := by rw [eb_t_11]; exact ⟨by decide, by decide +kernel⟩
            have tx_t_11 : ∀ (A : Nat → Prop) (U : State) (H : Heap), Z A U H → Tx b_t_11 t_11 v_t_11 A U H := fun A U H h => by rw [eb_t_11]; exact (h_t_11 A U H h).2
            have wok_t_11 : WOK b_t_11 := by rw [eb_t_11]; unfold WOK; decide +kernel
            have eb_t_11 : b_t_11 = (wdB 5) := by rw [eb_t_11]; rfl
            refine va_ldcS hx hb hown (h_t_11 _ _ _ hZ).1 dX10_weekdayHere_56 ?_
            refine q_call_i hA hK hw (va_runV (As := [.ref t_11]) (rest := []) ⟨hx, hb, hml, hown, hts⟩ (c_X10_isWord_p zo l D cy L0 f0 a0 t_11 b_t_11 v_t_11 nb_t_11 tx_t_11 ad hs wok_t_11 Tt nn n0 n1 (by omega) (by first | exact hT | exact fun i q0 q1 => (congrFun Q8 i).trans (hT i q0 q1)) bT _ _ ps (by omega) (by omega) _) (cwV 1 hts (gT (inV (mr20 _ (List.mem_of_getElem? (i := 3) rfl)) (mr20 _ (List.mem_of_getElem? (i := 4) rfl)) (mr20 _ (List.mem_of_getElem? (i := 5) rfl)) (mr1 _ (List.mem_of_getElem? (i := 5) rfl)) (mr20 _ (List.mem_of_getElem? (i := 6) rfl)))) rfl rfl rfl (by decide +kernel) ⟨Nat.le_of_ble_eq_true rfl, Nat.le_of_ble_eq_true rfl⟩) (Wd.preV zo hA hZ hw hK hs.1 hs.2.1 rfl) rfl rfl hl.1 rfl (lv_room (Nat.le_of_ble_eq_true rfl)) dX10_weekdayHere_58 ⟨Nat.le_of_ble_eq_true rfl, Nat.le_of_ble_eq_true rfl⟩) (fun x_12 L1 f1 H locs lx_12 ux_12 ex_12 hw => ?_)
            obtain ⟨rfl, rfl, ex_12⟩ := ex_12
            have t58 := ex_12
            rw [eb_t_11] at t58
            clear ex_12
            refine q_if_eq (tgt := 66) hx hb dX10_weekdayHere_61 (by decide) ⟨lx_12, ux_12⟩ (fun c61 => ?_) (fun c61 => ?_)
            · have n58 : NWq FF (wS Tt nn ee (wdB 5)) := (t58.resolve_left (by omega)).2
              clear t58
              refine lv_aload_n hx hb dX10_weekdayHere_66 rfl (lv_at hl 0 rfl) ?_
              obtain ⟨t_13, v_t_13, h_t_13⟩ : ∃ q v : Nat, ∀ (A : Nat → Prop) (U : State) (H : Heap), Z A U H → vk_R RX10 152 "sun" q U ∧ Tx [115, 117, 110] q v A U H := ztx_24 zo
              obtain ⟨b_t_13, eb_t_13⟩ : ∃ b : List Int32, b = [115, 117, 110] := ⟨_, rfl⟩
              have nb_t_13 : Asc b_t_13 := by rw [eb_t_13]; exact ⟨by decide, by decide +kernel⟩
              have tx_t_13 : ∀ (A : Nat → Prop) (U : State) (H : Heap), Z A U H → Tx b_t_13 t_13 v_t_13 A U H := fun A U H h => by rw [eb_t_13]; exact (h_t_13 A U H h).2
              have wok_t_13 : WOK b_t_13 := by rw [eb_t_13]; unfold WOK; decide +kernel
              have eb_t_13 : b_t_13 = (wdB 6) := by rw [eb_t_13]; rfl
              refine va_ldcS hx hb hown (h_t_13 _ _ _ hZ).1 dX10_weekdayHere_67 ?_
              refine q_call_i hA hK hw (va_runV (As := [.ref t_13]) (rest := []) ⟨hx, hb, hml, hown, hts⟩ (c_X10_isWord_p zo l D cy L0 f0 a0 t_13 b_t_13 v_t_13 nb_t_13 tx_t_13 ad hs wok_t_13 Tt nn n0 n1 (by omega) (by first | exact hT | exact fun i q0 q1 => (congrFun Q8 i).trans (hT i q0 q1)) bT _ _ ps (by omega) (by omega) _) (cwV 1 hts (gT (inV (mr20 _ (List.mem_of_getElem? (i := 3) rfl)) (mr20 _ (List.mem_of_getElem? (i := 4) rfl)) (mr20 _ (List.mem_of_getElem? (i := 5) rfl)) (mr1 _ (List.mem_of_getElem? (i := 5) rfl)) (mr20 _ (List.mem_of_getElem? (i := 6) rfl)))) rfl rfl rfl (by decide +kernel) ⟨Nat.le_of_ble_eq_true rfl, Nat.le_of_ble_eq_true rfl⟩) (Wd.preV zo hA hZ hw hK hs.1 hs.2.1 rfl) rfl rfl hl.1 rfl (lv_room (Nat.le_of_ble_eq_true rfl)) dX10_weekdayHere_69 ⟨Nat.le_of_ble_eq_true rfl, Nat.le_of_ble_eq_true rfl⟩) (fun x_14 L1 f1 H locs lx_14 ux_14 ex_14 hw => ?_)
              obtain ⟨rfl, rfl, ex_14⟩ := ex_14
              have t69 := ex_14
              rw [eb_t_13] at t69
              clear ex_14
              refine q_if_eq (tgt := 80) hx hb dX10_weekdayHere_72 (by decide) ⟨lx_14, ux_14⟩ (fun c72 => ?_) (fun c72 => ?_)
              · have n69 : NWq FF (wS Tt nn ee (wdB 6)) := (t69.resolve_left (by omega)).2
                clear t69
                refine q_iconst hx hb dX10_weekdayHere_80 ?_
                exact q_ret_i hx hb hr hlocks hK hAe hw ⟨by decide, by decide⟩ (Nat.le_of_ble_eq_true rfl) (Nat.le_of_ble_eq_true rfl) dX10_weekdayHere_81 ⟨rfl, rfl, by first | exact Or.inl ⟨q2, (wd_6 (n3.z q2) (n14.z q2) (n25.z q2) (n36.z q2) (n47.z q2) (n58.z q2) q3).symm⟩ | exact (Classical.em (FF = 0)).elim (fun q2 => Or.inl ⟨q2, (wd_n (n3.z q2) (n14.z q2) (n25.z q2) (n36.z q2) (n47.z q2) (n58.z q2) (n69.z q2)).symm⟩) (fun q2 => Or.inr ⟨q2, rfl⟩)⟩
              · obtain ⟨q1, q2, q3⟩ := t69.resolve_right (by omega)
                clear t69
                refine q_bipush hx hb dX10_weekdayHere_75 rfl ?_
                refine lv_goto (tgt := 81) hx hb dX10_weekdayHere_77 (by decide) ?_
                exact q_ret_i hx hb hr hlocks hK hAe hw ⟨by decide, by decide⟩ (Nat.le_of_ble_eq_true rfl) (Nat.le_of_ble_eq_true rfl) dX10_weekdayHere_81 ⟨rfl, rfl, by first | exact Or.inl ⟨q2, (wd_6 (n3.z q2) (n14.z q2) (n25.z q2) (n36.z q2) (n47.z q2) (n58.z q2) q3).symm⟩ | exact (Classical.em (FF = 0)).elim (fun q2 => Or.inl ⟨q2, (wd_n (n3.z q2) (n14.z q2) (n25.z q2) (n36.z q2) (n47.z q2) (n58.z q2) (n69.z q2)).symm⟩) (fun q2 => Or.inr ⟨q2, rfl⟩)⟩
            · obtain ⟨q1, q2, q3⟩ := t58.resolve_right (by omega)
              clear t58
              refine q_iconst hx hb dX10_weekdayHere_64 ?_
              exact q_ret_i hx hb hr hlocks hK hAe hw ⟨by decide, by decide⟩ (Nat.le_of_ble_eq_true rfl) (Nat.le_of_ble_eq_true rfl) dX10_weekdayHere_65 ⟨rfl, rfl, by exact Or.inl ⟨q2, (wd_5 (n3.z q2) (n14.z q2) (n25.z q2) (n36.z q2) (n47.z q2) q3).symm⟩⟩
          · obtain ⟨q1, q2, q3⟩ := t47.resolve_right (by omega)
            clear t47
            refine q_iconst hx hb dX10_weekdayHere_53 ?_
            exact q_ret_i hx hb hr hlocks hK hAe hw ⟨by decide, by decide⟩ (Nat.le_of_ble_eq_true rfl) (Nat.le_of_ble_eq_true rfl) dX10_weekdayHere_54 ⟨rfl, rfl, by exact Or.inl ⟨q2, (wd_4 (n3.z q2) (n14.z q2) (n25.z q2) (n36.z q2) q3).symm⟩⟩
        · obtain ⟨q1, q2, q3⟩ := t36.resolve_right (by omega)
          clear t36
          refine q_iconst hx hb dX10_weekdayHere_42 ?_
          exact q_ret_i hx hb hr hlocks hK hAe hw ⟨by decide, by decide⟩ (Nat.le_of_ble_eq_true rfl) (Nat.le_of_ble_eq_true rfl) dX10_weekdayHere_43 ⟨rfl, rfl, by exact Or.inl ⟨q2, (wd_3 (n3.z q2) (n14.z q2) (n25.z q2) q3).symm⟩⟩
      · obtain ⟨q1, q2, q3⟩ := t25.resolve_right (by omega)
        clear t25
        refine q_iconst hx hb dX10_weekdayHere_31 ?_
        exact q_ret_i hx hb hr hlocks hK hAe hw ⟨by decide, by decide⟩ (Nat.le_of_ble_eq_true rfl) (Nat.le_of_ble_eq_true rfl) dX10_weekdayHere_32 ⟨rfl, rfl, by exact Or.inl ⟨q2, (wd_2 (n3.z q2) (n14.z q2) q3).symm⟩⟩
    · obtain ⟨q1, q2, q3⟩ := t14.resolve_right (by omega)
      clear t14
      refine q_iconst hx hb dX10_weekdayHere_20 ?_
      exact q_ret_i hx hb hr hlocks hK hAe hw ⟨by decide, by decide⟩ (Nat.le_of_ble_eq_true rfl) (Nat.le_of_ble_eq_true rfl) dX10_weekdayHere_21 ⟨rfl, rfl, by exact Or.inl ⟨q2, (wd_1 (n3.z q2) q3).symm⟩⟩
  · obtain ⟨q1, q2, q3⟩ := t3.resolve_right (by omega)
    clear t3
    refine q_iconst hx hb dX10_weekdayHere_9 ?_
    exact q_ret_i hx hb hr hlocks hK hAe hw ⟨by decide, by decide⟩ (Nat.le_of_ble_eq_true rfl) (Nat.le_of_ble_eq_true rfl) dX10_weekdayHere_10 ⟨rfl, rfl, by exact Or.inl ⟨q2, (wd_0  q3).symm⟩⟩
set_option maxHeartbeats 4000000 in
set_option maxRecDepth 100000 in
theorem c_X10_weekdayTold_p {Z : Zt} (zo : Zok Z) (l : Launch) (D : va_G) (cy : Cy) (L0 : List Nat) (f0 : Nat → va_E) (a0 : Nat) (ad : Nat → Nat) (hs : MS cy L0 f0 a0 ad) (Tt : Int → Int) (nn : Int) (n0 : 0 ≤ nn) (n1 : nn ≤ 160) (h14 : fI f0 a0 14 = nn) (hT : ∀ i : Int, 0 ≤ i → i < 168 → aI f0 (ad 8) i = Tt i) (bT : ∀ i : Int, 0 ≤ Tt i ∧ Tt i ≤ 255) (FF : Int) (ee : Int) (ps : PSr Tt nn f0 a0 FF ee) (e0 : 0 ≤ ee) (e1 : ee ≤ nn) : Ci Z l yX10_weekdayTold (Cond.code yX10_weekdayTold cX10_weekdayTold 2 (some .int) :: TB) ({ frames := 7, cells := 0, slots := 0, locals := 149 } : Room) 0 0 D (tq cy) [.ref a0] L0 f0 (fun (r : Int) (L1 : List Nat) (f1 : Nat → va_E) => L0 = L1 ∧ MS cy L0 f1 a0 ad ∧ Kp a0 ad [] [15, 16, 17, 18, 19, 20] f0 f1 ∧ (PSr Tt nn f1 a0 (sq FF (wdS Tt nn ee)) (tQ Tt nn ee) ∧ RVq (sq FF (wdS Tt nn ee)) (wdv Tt nn ee) r ∧ 0 ≤ r ∧ r ≤ 6)) := by
  refine Ci.enter (cc := cX10_weekdayTold) (n := 2) rfl (plainFor_of_name (by decide)) (Nat.le_of_ble_eq_true rfl) ?_
  intro p e s m below meth c ls A hx hb hr hts hown hlocks hnm hml hK hA hAe hw hZ hl
  have hown : s.vm.findClass RX10 = some m.cls := hown
  have hl : lv_has ls 2 [(0, .ref a0)] := hl
  have hN : ZN s := (zo.2.2.2.2 _ _ _ hZ).2
  have hE : Kp a0 ad [] [15, 16, 17, 18, 19, 20] f0 f0 := Kp.refl _ _ _ _ _
  have ps1 := ps.1
  have ps2 := ps.2.1
  have ps3 := ps.2.2.1
  have ps4 := ps.2.2.2.1
  have ps5 := ps.2.2.2.2.1
  have ps6 := ps.2.2.2.2.2.1
  have pb := tP_b (T := Tt) e1
  have qb := tQ_b (T := Tt) e1
  have wv := wdv_b Tt nn ee
  refine lv_aload_n hx hb dX10_weekdayTold_0 rfl (lv_at hl 0 rfl) ?_
  refine q_call_i hA hK hw (va_runV (As := []) (rest := []) ⟨hx, hb, hml, hown, hts⟩ (c_X10_weekdayHere_p zo l D cy L0 f0 a0 ad hs Tt nn n0 n1 (by omega) (by first | exact hT | exact fun i q0 q1 => (congrFun Q8 i).trans (hT i q0 q1)) bT _ _ ps (by omega) (by omega) _) (cwV 0 hts (gT (inV (mr21 _ (List.mem_of_getElem? (i := 4) rfl)) (mr21 _ (List.mem_of_getElem? (i := 5) rfl)) (mr21 _ (List.mem_of_getElem? (i := 6) rfl)) (mr1 _ (List.mem_of_getElem? (i := 5) rfl)) (mr21 _ (List.mem_of_getElem? (i := 7) rfl)))) rfl rfl rfl (by decide +kernel) ⟨Nat.le_of_ble_eq_true rfl, Nat.le_of_ble_eq_true rfl⟩) (Wd.preV zo hA hZ hw hK hs.1 hs.2.1 rfl) rfl rfl hl.1 rfl (lv_room (Nat.le_of_ble_eq_true rfl)) dX10_weekdayTold_1 ⟨Nat.le_of_ble_eq_true rfl, Nat.le_of_ble_eq_true rfl⟩) (fun x_1 L1 f1 H locs lx_1 ux_1 ex_1 hw => ?_)
  obtain ⟨rfl, rfl, ex_1⟩ := ex_1
  have t1 := ex_1
  clear ex_1
  refine lv_istore_n (lv' := [(1, .int (iI x_1)), (0, .ref a0)]) hx hb dX10_weekdayTold_4 rfl hl (by decide) rfl (fun ls hl => ?_)
  refine lv_iload_n hx hb dX10_weekdayTold_5 rfl (lv_at hl 0 rfl) ?_
  have J14 : ∀ (L : List Nat) (fw14 : Nat → va_E) (hs : MS cy L0 fw14 a0 ad) (hE : Kp a0 ad [] [15, 16, 17, 18, 19, 20] f0 fw14) (i5 : fI fw14 a0 14 = nn) (w0 : -1 ≤ x_1) (w6 : x_1 ≤ 6) (p14 : PSr Tt nn fw14 a0 (sq FF (wdS Tt nn ee)) ee) (v14 : V16 Tt nn fw14 a0 (sq FF (wdS Tt nn ee)) ee) (w14 : RVq (sq FF (wdS Tt nn ee)) (wdv Tt nn ee) x_1) (H : Heap) (locs : List Loc) (ls : Array Slot) (hw : Wd D A s.heap L0 fw14 H locs) (hl : lv_has ls 2 [(0, .ref a0), (1, .int (iI x_1))]), W p l e ({ frames := 7, cells := 0, slots := 0, locals := 149 } : Room) s m ([.ref a0] : List Value).toArray below meth c H locs (0 + 0) (0 + 0) (MQ below (Qi D (tq cy) L0 f0 s.heap.size (fun (r : Int) (L1 : List Nat) (f1 : Nat → va_E) => L0 = L1 ∧ MS cy L0 f1 a0 ad ∧ Kp a0 ad [] [15, 16, 17, 18, 19, 20] f0 f1 ∧ (PSr Tt nn f1 a0 (sq FF (wdS Tt nn ee)) (tQ Tt nn ee) ∧ RVq (sq FF (wdS Tt nn ee)) (wdv Tt nn ee) r ∧ 0 ≤ r ∧ r ≤ 6))) ([.ref a0] : List Value).toArray s 0 0 A) (F0 m 14 ls []) := by
    intro L fw14 hs hE i5 w0 w6 p14 v14 w14 H locs ls hw hl
    have p1 := p14.1
    have p5 := p14.2.2.2.2.1
    have p6 := p14.2.2.2.2.2.1
    have Q8 : aI fw14 (ad 8) = aI f0 (ad 8) := funext fun x => hE.1 8 rfl (by decide) x
    refine lv_aload_n hx hb dX10_weekdayTold_14 rfl (lv_at hl 0 rfl) ?_
    refine q_call_v hA hK hw (va_runV (As := []) (rest := []) ⟨hx, hb, hml, hown, hts⟩ (c_X10_next_p zo l D cy L0 fw14 a0 ad hs Tt nn n0 n1 (by omega) (by first | exact hT | exact fun i q0 q1 => (congrFun Q8 i).trans (hT i q0 q1)) bT (by omega) (by omega) _) (cwV 0 hts (gT (inV (mr19 _ (List.mem_of_getElem? (i := 4) rfl)) (mr19 _ (List.mem_of_getElem? (i := 5) rfl)) (mr19 _ (List.mem_of_getElem? (i := 6) rfl)) (mr1 _ (List.mem_of_getElem? (i := 5) rfl)) (mr19 _ (List.mem_of_getElem? (i := 7) rfl)))) rfl rfl rfl (by decide +kernel) ⟨Nat.le_of_ble_eq_true rfl, Nat.le_of_ble_eq_true rfl⟩) (Wd.preV zo hA hZ hw hK hs.1 hs.2.1 rfl) rfl rfl hl.1 rfl (lv_room (Nat.le_of_ble_eq_true rfl)) dX10_weekdayTold_15 ⟨Nat.le_of_ble_eq_true rfl, Nat.le_of_ble_eq_true rfl⟩) (fun L1 f_3 H locs ex_2 hw => ?_)
    obtain ⟨rfl, hs, hX, ex_2⟩ := ex_2
    have hE := hE.trans (hX.mono (rs' := []) (fs' := [15, 16, 17, 18, 19, 20]) (by decide) (by decide))
    have t14_f_3 : fI f_3 a0 14 = fI fw14 a0 14 := hX.2 14 (by decide)
    have t20_f_3 : fI f_3 a0 20 = fI fw14 a0 20 := hX.2 20 (by decide)
    have Q8 : aI f_3 (ad 8) = aI f0 (ad 8) := funext fun x => hE.1 8 rfl (by decide) x
    have t15 := ex_2
    clear ex_2
    refine lv_iload_n hx hb dX10_weekdayTold_18 rfl (lv_at hl 1 rfl) ?_
    refine q_if_ge (tgt := 26) hx hb dX10_weekdayTold_19 (by decide) ⟨lx_1, ux_1⟩ (fun c19 => ?_) (fun c19 => ?_)
    · refine lv_iload_n hx hb dX10_weekdayTold_26 rfl (lv_at hl 1 rfl) ?_
      exact q_ret_i hx hb hr hlocks hK hAe hw ⟨lx_1, ux_1⟩ (Nat.le_of_ble_eq_true rfl) (Nat.le_of_ble_eq_true rfl) dX10_weekdayTold_27 (by first | exact ⟨rfl, hs, hE, p14.nxt v14 t15 (by omega) n1, w14, by omega, by omega⟩ | exact ⟨rfl, hs, hE, p14.nxt v14 t15 (by omega) n1, fun z => by have y1 := w14 z; have y2 := wdS_z e0 e1 (sq_z.mp z).2; omega, by omega, by omega⟩)
    · refine q_iconst hx hb dX10_weekdayTold_22 ?_
      refine lv_goto (tgt := 27) hx hb dX10_weekdayTold_23 (by decide) ?_
      exact q_ret_i hx hb hr hlocks hK hAe hw ⟨by decide, by decide⟩ (Nat.le_of_ble_eq_true rfl) (Nat.le_of_ble_eq_true rfl) dX10_weekdayTold_27 (by first | exact ⟨rfl, hs, hE, p14.nxt v14 t15 (by omega) n1, w14, by omega, by omega⟩ | exact ⟨rfl, hs, hE, p14.nxt v14 t15 (by omega) n1, fun z => by have y1 := w14 z; have y2 := wdS_z e0 e1 (sq_z.mp z).2; omega, by omega, by omega⟩)
  refine q_if_ge (tgt := 14) hx hb dX10_weekdayTold_6 (by decide) ⟨lx_1, ux_1⟩ (fun c6 => ?_) (fun c6 => ?_)
  · obtain ⟨q1, q2⟩ := t1.resolve_right (by omega)
    clear t1
    have w9 := wdS_y (T := Tt) (n := nn) (e := ee) (by omega)
    have p14 : PSr Tt nn f0 a0 (sq FF (wdS Tt nn ee)) ee := ps.to (by rw [sq_0 q1, w9]; omega) rfl
    have v14 : V16 Tt nn f0 a0 (sq FF (wdS Tt nn ee)) ee := fun _ => wd_16 ps q1 e0 e1 (by omega)
    have w14 : RVq (sq FF (wdS Tt nn ee)) (wdv Tt nn ee) x_1 := fun _ => q2
    exact J14 L0 f0 hs hE (by omega) (by omega) (by omega) (by exact p14) (by exact v14) (by exact w14) _ _ _ hw (lv_sub hl [1, 0] rfl)
  · refine lv_aload_n hx hb dX10_weekdayTold_9 rfl (lv_at hl 1 rfl) ?_
    refine q_iconst hx hb dX10_weekdayTold_10 ?_
    refine q_call_v hA hK hw (va_runV (As := [.int (iI 1)]) (rest := []) ⟨hx, hb, hml, hown, hts⟩ (c_X10_wrong zo l D cy L0 f0 a0 1 (by decide) (by decide) ad hs (by omega) (by omega) (by omega) (by omega) _) (cwV 1 hts (gT (inV (mr20 _ (List.mem_of_getElem? (i := 12) rfl)) (mr20 _ (List.mem_of_getElem? (i := 13) rfl)) (mr20 _ (List.mem_of_getElem? (i := 14) rfl)) (mr1 _ (List.mem_of_getElem? (i := 5) rfl)) (mr20 _ (List.mem_of_getElem? (i := 15) rfl)))) rfl rfl rfl (by decide +kernel) ⟨Nat.le_of_ble_eq_true rfl, Nat.le_of_ble_eq_true rfl⟩) (Wd.preV zo hA hZ hw hK hs.1 hs.2.1 rfl) rfl rfl hl.1 rfl (lv_room (Nat.le_of_ble_eq_true rfl)) dX10_weekdayTold_11 ⟨Nat.le_of_ble_eq_true rfl, Nat.le_of_ble_eq_true rfl⟩) (fun L1 f_5 H locs ex_4 hw => ?_)
    obtain ⟨rfl, hs, hX, ex_4⟩ := ex_4
    have hE := hE.trans (hX.mono (rs' := []) (fs' := [15, 16, 17, 18, 19, 20]) (by decide) (by decide))
    have t14_f_5 : fI f_5 a0 14 = fI f0 a0 14 := hX.2 14 (by decide)
    have t15_f_5 : fI f_5 a0 15 = fI f0 a0 15 := hX.2 15 (by decide)
    have t16_f_5 : fI f_5 a0 16 = fI f0 a0 16 := hX.2 16 (by decide)
    have t17_f_5 : fI f_5 a0 17 = fI f0 a0 17 := hX.2 17 (by decide)
    have t19_f_5 : fI f_5 a0 19 = fI f0 a0 19 := hX.2 19 (by decide)
    have Q8 : aI f_5 (ad 8) = aI f0 (ad 8) := funext fun x => hE.1 8 rfl (by decide) x
    have t11 := ex_4
    clear ex_4
    have p14 : PSr Tt nn f_5 a0 (sq FF (wdS Tt nn ee)) ee := ps.wrong e0 e1 t11 (by omega) (by omega) (by omega) (fun z => wdS_n (by omega))
    clear t11
    have u14 : sq FF (wdS Tt nn ee) ≠ 0 := fun z => by have y := sq_z.mp z; have y2 := wdS_z e0 e1 y.2; omega
    have v14 : V16 Tt nn f_5 a0 (sq FF (wdS Tt nn ee)) ee := fun z => absurd z u14
    have w14 : RVq (sq FF (wdS Tt nn ee)) (wdv Tt nn ee) x_1 := fun z => absurd z u14
    exact J14 L0 f_5 hs hE (by omega) (by omega) (by omega) (by exact p14) (by exact v14) (by exact w14) _ _ _ hw (lv_sub hl [1, 0] rfl)
set_option maxHeartbeats 4000000 in
set_option maxRecDepth 100000 in
theorem c_X10_dateTold_p {Z : Zt} (zo : Zok Z) (l : Launch) (D : va_G) (cy : Cy) (L0 : List Nat) (f0 : Nat → va_E) (a0 : Nat) (ad : Nat → Nat) (hs : MS cy L0 f0 a0 ad) (Tt : Int → Int) (nn : Int) (n0 : 0 ≤ nn) (n1 : nn ≤ 160) (h14 : fI f0 a0 14 = nn) (hT : ∀ i : Int, 0 ≤ i → i < 168 → aI f0 (ad 8) i = Tt i) (bT : ∀ i : Int, 0 ≤ Tt i ∧ Tt i ≤ 255) (FF : Int) (ee : Int) (ps : PSr Tt nn f0 a0 FF ee) (e0 : 0 ≤ ee) (e1 : ee ≤ nn) (hd : DT f0 ad 36525) : Ci Z l yX10_dateTold (Cond.code yX10_dateTold cX10_dateTold 4 (some .int) :: TB) ({ frames := 3, cells := 0, slots := 0, locals := 66 } : Room) 0 0 D (tq cy) [.ref a0] L0 f0 (fun (r : Int) (L1 : List Nat) (f1 : Nat → va_E) => L0 = L1 ∧ MS cy L0 f1 a0 ad ∧ Kp a0 ad [] [15, 16, 17, 18, 19, 20, 22] f0 f1 ∧ (PSr Tt nn f1 a0 (sq FF (daF Tt nn ee)) (tQn Tt nn 3 ee) ∧ RVq (sq FF (daF Tt nn ee)) (daV Tt nn ee) r ∧ -1 ≤ r ∧ r ≤ 36524 ∧ fI f1 a0 22 = fI f0 a0 15)) := by
  refine Ci.enter (cc := cX10_dateTold) (n := 4) rfl (plainFor_of_name (by decide)) (Nat.le_of_ble_eq_true rfl) ?_
  intro p e s m below meth c ls A hx hb hr hts hown hlocks hnm hml hK hA hAe hw hZ hl
  have hown : s.vm.findClass RX10 = some m.cls := hown
  have hl : lv_has ls 4 [(0, .ref a0)] := hl
  have hN : ZN s := (zo.2.2.2.2 _ _ _ hZ).2
  have hE : Kp a0 ad [] [15, 16, 17, 18, 19, 20, 22] f0 f0 := Kp.refl _ _ _ _ _
  have ps1 := ps.1
  have ps2 := ps.2.1
  have ps3 := ps.2.2.1
  have ps4 := ps.2.2.2.1
  have ps5 := ps.2.2.2.2.1
  have ps6 := ps.2.2.2.2.2.1
  have pb := tP_b (T := Tt) e1
  have qb := tQ_b (T := Tt) e1
  have qc := tQ_r2 (T := Tt) e0 e1
  have qd := tQ_r2 (T := Tt) qc.1 qc.2
  refine lv_aload_n hx hb dX10_dateTold_0 rfl (lv_at hl 0 rfl) ?_
  refine lv_aload_n hx hb dX10_dateTold_1 rfl (lv_at hl 0 rfl) ?_
  refine q_geti (ci := 8) (C := RX10) (T := TX10) (N := 26) hx hb hts (fun w h => List.mem_cons_of_mem _ (mfX100 w h)) hown hK hw hs.1 hs.2.1 rfl 15 (by decide) (hts _ (List.mem_cons_of_mem _ (mr19 _ (List.mem_of_getElem? (i := 8) rfl)))) (fun _ h => h) rfl dX10_dateTold_2 (fun x_1 lx_1 ux_1 ex_1 => ?_)
  refine q_puti (ci := 8) (C := RX10) (T := TX10) (N := 26) hx hb hts (fun w h => List.mem_cons_of_mem _ (mfX100 w h)) hown hK hw hs.1 hs.2.1 rfl 22 (by decide) (hts _ (List.mem_cons_of_mem _ (mr21 _ (List.mem_of_getElem? (i := 20) rfl)))) (fun _ h => h) tyX10 tyX10_ok nmX10 rfl (ty := .int) (by decide +kernel) rfl rfl dX10_dateTold_5 (fun H locs hw => ?_)
  obtain ⟨f_2, ef_2⟩ : ∃ g : Nat → va_E, g = pU f0 a0 22 (.int (iI x_1)) := ⟨_, rfl⟩
  have v22_f_2 : fI f_2 a0 22 = x_1 := by rw [ef_2]; exact fI_pU_self hs.2.1 rfl ⟨lx_1, ux_1⟩
  have t14_f_2 : fI f_2 a0 14 = fI f0 a0 14 := by rw [ef_2]; exact fI_pU (Or.inr (by decide))
  have t15_f_2 : fI f_2 a0 15 = fI f0 a0 15 := by rw [ef_2]; exact fI_pU (Or.inr (by decide))
  have t16_f_2 : fI f_2 a0 16 = fI f0 a0 16 := by rw [ef_2]; exact fI_pU (Or.inr (by decide))
  have t17_f_2 : fI f_2 a0 17 = fI f0 a0 17 := by rw [ef_2]; exact fI_pU (Or.inr (by decide))
  have t19_f_2 : fI f_2 a0 19 = fI f0 a0 19 := by rw [ef_2]; exact fI_pU (Or.inr (by decide))
  have t20_f_2 : fI f_2 a0 20 = fI f0 a0 20 := by rw [ef_2]; exact fI_pU (Or.inr (by decide))
  have hE := hE.trans (show Kp a0 ad [] [15, 16, 17, 18, 19, 20, 22] f0 f_2 by rw [ef_2]; exact Kp_pU hs (by decide))
  have hs_ := hs
  have hs : MS cy L0 f_2 a0 ad := by rw [ef_2]; exact MS_pU hs rfl
  rw [← ef_2] at hw
  have ps := ps.pU ef_2 (by decide)
  have Q8 : aI f_2 (ad 8) = aI f0 (ad 8) := funext fun x => hE.1 8 rfl (by decide) x
  refine lv_aload_n hx hb dX10_dateTold_8 rfl (lv_at hl 0 rfl) ?_
  refine q_sipush hx hb dX10_dateTold_9 rfl ?_
  refine q_sipush hx hb dX10_dateTold_12 rfl ?_
  refine q_call_i hA hK hw (va_runV (As := [.int (iI 2000), .int (iI 2099)]) (rest := []) ⟨hx, hb, hml, hown, hts⟩ (c_X10_numberTold_p zo l D cy L0 f_2 a0 2000 (by decide) (by decide) 2099 (by decide) (by decide) ad hs Tt nn n0 n1 (by omega) (by first | exact hT | exact fun i q0 q1 => (congrFun Q8 i).trans (hT i q0 q1)) bT _ _ ps (by omega) (by omega) _) (cwV 2 hts (gT (inV (mr20 _ (List.mem_of_getElem? (i := 16) rfl)) (mr20 _ (List.mem_of_getElem? (i := 17) rfl)) (mr20 _ (List.mem_of_getElem? (i := 18) rfl)) (mr1 _ (List.mem_of_getElem? (i := 5) rfl)) (mr20 _ (List.mem_of_getElem? (i := 19) rfl)))) rfl rfl rfl (by decide +kernel) ⟨Nat.le_of_ble_eq_true rfl, Nat.le_of_ble_eq_true rfl⟩) (Wd.preV zo hA hZ hw hK hs.1 hs.2.1 rfl) rfl rfl hl.1 rfl (lv_room (Nat.le_of_ble_eq_true rfl)) dX10_dateTold_15 ⟨Nat.le_of_ble_eq_true rfl, Nat.le_of_ble_eq_true rfl⟩) (fun x_3 L1 f_4 H locs lx_3 ux_3 ex_3 hw => ?_)
  obtain ⟨rfl, hs, hX, ex_3⟩ := ex_3
  have hE := hE.trans (hX.mono (rs' := []) (fs' := [15, 16, 17, 18, 19, 20, 22]) (by decide) (by decide))
  have t14_f_4 : fI f_4 a0 14 = fI f_2 a0 14 := hX.2 14 (by decide)
  have t22_f_4 : fI f_4 a0 22 = fI f_2 a0 22 := hX.2 22 (by decide)
  have Q8 : aI f_4 (ad 8) = aI f0 (ad 8) := funext fun x => hE.1 8 rfl (by decide) x
  obtain ⟨ps, v15⟩ := ex_3
  refine lv_istore_n (lv' := [(1, .int (iI x_3)), (0, .ref a0)]) hx hb dX10_dateTold_18 rfl hl (by decide) rfl (fun ls hl => ?_)
  refine lv_aload_n hx hb dX10_dateTold_19 rfl (lv_at hl 1 rfl) ?_
  refine q_iconst hx hb dX10_dateTold_20 ?_
  refine q_bipush hx hb dX10_dateTold_21 rfl ?_
  refine q_call_i hA hK hw (va_runV (As := [.int (iI 1), .int (iI 12)]) (rest := []) ⟨hx, hb, hml, hown, hts⟩ (c_X10_numberTold_p zo l D cy L0 f_4 a0 1 (by decide) (by decide) 12 (by decide) (by decide) ad hs Tt nn n0 n1 (by omega) (by first | exact hT | exact fun i q0 q1 => (congrFun Q8 i).trans (hT i q0 q1)) bT _ _ ps (by omega) (by omega) _) (cwV 2 hts (gT (inV (mr20 _ (List.mem_of_getElem? (i := 16) rfl)) (mr20 _ (List.mem_of_getElem? (i := 17) rfl)) (mr20 _ (List.mem_of_getElem? (i := 18) rfl)) (mr1 _ (List.mem_of_getElem? (i := 5) rfl)) (mr20 _ (List.mem_of_getElem? (i := 19) rfl)))) rfl rfl rfl (by decide +kernel) ⟨Nat.le_of_ble_eq_true rfl, Nat.le_of_ble_eq_true rfl⟩) (Wd.preV zo hA hZ hw hK hs.1 hs.2.1 rfl) rfl rfl hl.1 rfl (lv_room (Nat.le_of_ble_eq_true rfl)) dX10_dateTold_23 ⟨Nat.le_of_ble_eq_true rfl, Nat.le_of_ble_eq_true rfl⟩) (fun x_5 L1 f_6 H locs lx_5 ux_5 ex_5 hw => ?_)
  obtain ⟨rfl, hs, hX, ex_5⟩ := ex_5
  have hE := hE.trans (hX.mono (rs' := []) (fs' := [15, 16, 17, 18, 19, 20, 22]) (by decide) (by decide))
  have t14_f_6 : fI f_6 a0 14 = fI f_4 a0 14 := hX.2 14 (by decide)
  have t22_f_6 : fI f_6 a0 22 = fI f_4 a0 22 := hX.2 22 (by decide)
  have Q8 : aI f_6 (ad 8) = aI f0 (ad 8) := funext fun x => hE.1 8 rfl (by decide) x
  obtain ⟨ps, v23⟩ := ex_5
  have pf := ps.1
  have pg := ps.2.1
  refine lv_istore_n (lv' := [(2, .int (iI x_5)), (1, .int (iI x_3)), (0, .ref a0)]) hx hb dX10_dateTold_26 rfl hl (by decide) rfl (fun ls hl => ?_)
  refine lv_aload_n hx hb dX10_dateTold_27 rfl (lv_at hl 2 rfl) ?_
  refine q_iconst hx hb dX10_dateTold_28 ?_
  refine lv_aload_n hx hb dX10_dateTold_29 rfl (lv_at hl 2 rfl) ?_
  refine q_geti (ci := 8) (C := RX10) (T := TX10) (N := 26) hx hb hts (fun w h => List.mem_cons_of_mem _ (mfX100 w h)) hown hK hw hs.1 hs.2.1 rfl 20 (by decide) (hts _ (List.mem_cons_of_mem _ (mr19 _ (List.mem_of_getElem? (i := 2) rfl)))) (fun _ h => h) rfl dX10_dateTold_30 (fun x_7 lx_7 ux_7 ex_7 => ?_)
  have J46 : ∀ (w0_46 : Int) (lw0_46 : -2147483648 ≤ w0_46) (uw0_46 : w0_46 ≤ 2147483647) (h46 : RVq (sq (sq FF (nS Tt nn ee 2000 2099)) (nS Tt nn (tQ Tt nn ee) 1 12)) (dI (vN Tt nn ee) (vN Tt nn (tQ Tt nn ee))) w0_46) (H : Heap) (locs : List Loc) (ls : Array Slot) (hw : Wd D A s.heap L0 f_6 H locs) (hl : lv_has ls 4 [(0, .ref a0), (1, .int (iI x_3)), (2, .int (iI x_5))]), W p l e ({ frames := 3, cells := 0, slots := 0, locals := 66 } : Room) s m ([.ref a0] : List Value).toArray below meth c H locs (0 + 0 + 0) (0 + 0 + 0) (MQ below (Qi D (tq cy) L0 f0 s.heap.size (fun (r : Int) (L1 : List Nat) (f1 : Nat → va_E) => L0 = L1 ∧ MS cy L0 f1 a0 ad ∧ Kp a0 ad [] [15, 16, 17, 18, 19, 20, 22] f0 f1 ∧ (PSr Tt nn f1 a0 (sq FF (daF Tt nn ee)) (tQn Tt nn 3 ee) ∧ RVq (sq FF (daF Tt nn ee)) (daV Tt nn ee) r ∧ -1 ≤ r ∧ r ≤ 36524 ∧ fI f1 a0 22 = fI f0 a0 15))) ([.ref a0] : List Value).toArray s 0 0 A) (F0 m 46 ls [.int (iI w0_46), .int (iI 1), .ref a0]) := by
    intro w0_46 lw0_46 uw0_46 h46 H locs ls hw hl
    refine q_call_i hA hK hw (va_runV (As := [.int (iI 1), .int (iI w0_46)]) (rest := []) ⟨hx, hb, hml, hown, hts⟩ (c_X10_numberTold_p zo l D cy L0 f_6 a0 1 (by decide) (by decide) w0_46 lw0_46 uw0_46 ad hs Tt nn n0 n1 (by omega) (by first | exact hT | exact fun i q0 q1 => (congrFun Q8 i).trans (hT i q0 q1)) bT _ _ ps (by omega) (by omega) _) (cwV 2 hts (gT (inV (mr20 _ (List.mem_of_getElem? (i := 16) rfl)) (mr20 _ (List.mem_of_getElem? (i := 17) rfl)) (mr20 _ (List.mem_of_getElem? (i := 18) rfl)) (mr1 _ (List.mem_of_getElem? (i := 5) rfl)) (mr20 _ (List.mem_of_getElem? (i := 19) rfl)))) rfl rfl rfl (by decide +kernel) ⟨Nat.le_of_ble_eq_true rfl, Nat.le_of_ble_eq_true rfl⟩) (Wd.preV zo hA hZ hw hK hs.1 hs.2.1 rfl) rfl rfl hl.1 rfl (lv_room (Nat.le_of_ble_eq_true rfl)) dX10_dateTold_46 ⟨Nat.le_of_ble_eq_true rfl, Nat.le_of_ble_eq_true rfl⟩) (fun x_8 L1 f_9 H locs lx_8 ux_8 ex_8 hw => ?_)
    obtain ⟨rfl, hs, hX, ex_8⟩ := ex_8
    have hE := hE.trans (hX.mono (rs' := []) (fs' := [15, 16, 17, 18, 19, 20, 22]) (by decide) (by decide))
    have t14_f_9 : fI f_9 a0 14 = fI f_6 a0 14 := hX.2 14 (by decide)
    have t22_f_9 : fI f_9 a0 22 = fI f_6 a0 22 := hX.2 22 (by decide)
    have Q8 : aI f_9 (ad 8) = aI f0 (ad 8) := funext fun x => hE.1 8 rfl (by decide) x
    obtain ⟨ps, v46⟩ := ex_8
    rw [da_sq h46] at ps v46
    have pf := ps.1
    have pg := ps.2.1
    refine lv_istore_n (lv' := [(3, .int (iI x_8)), (0, .ref a0), (1, .int (iI x_3)), (2, .int (iI x_5))]) hx hb dX10_dateTold_49 rfl hl (by decide) rfl (fun ls hl => ?_)
    refine lv_aload_n hx hb dX10_dateTold_50 rfl (lv_at hl 1 rfl) ?_
    refine q_geti (ci := 8) (C := RX10) (T := TX10) (N := 26) hx hb hts (fun w h => List.mem_cons_of_mem _ (mfX100 w h)) hown hK hw hs.1 hs.2.1 rfl 20 (by decide) (hts _ (List.mem_cons_of_mem _ (mr19 _ (List.mem_of_getElem? (i := 2) rfl)))) (fun _ h => h) rfl dX10_dateTold_51 (fun x_10 lx_10 ux_10 ex_10 => ?_)
    refine q_if_le (tgt := 61) hx hb dX10_dateTold_54 (by decide) ⟨lx_10, ux_10⟩ (fun c54 => ?_) (fun c54 => ?_)
    · have g0 := sq_z.mp (show sq FF (daF Tt nn ee) = 0 by omega)
      have z0 := da_z g0.2
      have y1 := v15 (sq_z.mpr ⟨g0.1, z0.1⟩)
      have y2 := v23 (sq_z.mpr ⟨sq_z.mpr ⟨g0.1, z0.1⟩, z0.2.1⟩)
      have y3 := v46 (by omega)
      have b1 := (nS_b e0 e1).2 z0.1
      have b2 := (nS_b qc.1 qc.2).2 z0.2.1
      have b3 := (nS_b qd.1 qd.2).2 z0.2.2
      rw [← y1, ← y2] at b3
      refine lv_aload_n hx hb dX10_dateTold_61 rfl (lv_at hl 1 rfl) ?_
      refine lv_iload_n hx hb dX10_dateTold_62 rfl (lv_at hl 2 rfl) ?_
      refine lv_iload_n hx hb dX10_dateTold_63 rfl (lv_at hl 3 rfl) ?_
      refine lv_iload_n hx hb dX10_dateTold_64 rfl (lv_at hl 0 rfl) ?_
      refine q_call_i hA hK hw (va_runV (As := [.int (iI x_3), .int (iI x_5), .int (iI x_8)]) (rest := []) ⟨hx, hb, hml, hown, hts⟩ (c_X10_dayOf_3 zo l D cy L0 f_9 a0 x_3 lx_3 ux_3 x_5 lx_5 ux_5 x_8 lx_8 ux_8 ad hs (by omega) (by omega) (by first | exact hd | exact hd.kp hE (by decide) (by decide) (by decide) (by decide)) _) (cwV 3 hts (gT (inV (mr21 _ (List.mem_of_getElem? (i := 21) rfl)) (mr21 _ (List.mem_of_getElem? (i := 22) rfl)) (mr21 _ (List.mem_of_getElem? (i := 23) rfl)) (mr1 _ (List.mem_of_getElem? (i := 5) rfl)) (mr22 _ (List.mem_of_getElem? (i := 0) rfl)))) rfl rfl rfl (by decide +kernel) ⟨Nat.le_of_ble_eq_true rfl, Nat.le_of_ble_eq_true rfl⟩) (Wd.preV zo hA hZ hw hK hs.1 hs.2.1 rfl) rfl rfl hl.1 rfl (lv_room (Nat.le_of_ble_eq_true rfl)) dX10_dateTold_65 ⟨Nat.le_of_ble_eq_true rfl, Nat.le_of_ble_eq_true rfl⟩) (fun x_11 L1 f1 H locs lx_11 ux_11 ex_11 hw => ?_)
      obtain ⟨rfl, rfl, ex_11⟩ := ex_11
      have t65 := ex_11.2.2 ⟨by omega, by omega, by omega, by omega, by omega, by omega⟩
      have u65 := ex_11.1
      have w65 := ex_11.2.1
      clear ex_11
      exact q_ret_i hx hb hr hlocks hK hAe hw ⟨lx_11, ux_11⟩ (Nat.le_of_ble_eq_true rfl) (Nat.le_of_ble_eq_true rfl) dX10_dateTold_68 (by first | exact ⟨rfl, hs, hE, ps, fun z => absurd z (by omega), by omega, by omega, by omega⟩ | exact ⟨rfl, hs, hE, ps, fun _ => by unfold daV; rw [t65, y1, y2, y3]; rfl, by omega, by omega, by omega⟩)
    · refine q_iconst hx hb dX10_dateTold_57 ?_
      refine lv_goto (tgt := 68) hx hb dX10_dateTold_58 (by decide) ?_
      exact q_ret_i hx hb hr hlocks hK hAe hw ⟨by decide, by decide⟩ (Nat.le_of_ble_eq_true rfl) (Nat.le_of_ble_eq_true rfl) dX10_dateTold_68 (by first | exact ⟨rfl, hs, hE, ps, fun z => absurd z (by omega), by omega, by omega, by omega⟩ | exact ⟨rfl, hs, hE, ps, fun _ => by unfold daV; rw [t65, y1, y2, y3]; rfl, by omega, by omega, by omega⟩)
  refine q_if_le (tgt := 41) hx hb dX10_dateTold_33 (by decide) ⟨lx_7, ux_7⟩ (fun c33 => ?_) (fun c33 => ?_)
  · have z0 := sq_z.mp (show sq (sq FF (nS Tt nn ee 2000 2099)) (nS Tt nn (tQ Tt nn ee) 1 12) = 0 by omega)
    have z1 := (sq_z.mp z0.1)
    have y1 := v15 z0.1
    have y2 := v23 (by omega)
    have b1 := (nS_b e0 e1).2 z1.2
    have b2 := (nS_b qc.1 qc.2).2 z0.2
    refine lv_iload_n hx hb dX10_dateTold_41 rfl (lv_at hl 1 rfl) ?_
    refine lv_iload_n hx hb dX10_dateTold_42 rfl (lv_at hl 0 rfl) ?_
    refine q_call_i hA hK hw (va_runS (As := [.int (iI x_3), .int (iI x_5)]) (rest := [.int (iI 1), .ref a0]) ⟨hx, hb, hml, hown, hts⟩ (c_X10_daysIn_2 zo l D cy L0 f_6 x_3 lx_3 ux_3 x_5 lx_5 ux_5 _) (va_cwS 2 hts (gT (inS (mr4 _ (List.mem_of_getElem? (i := 3) rfl)) (mr4 _ (List.mem_of_getElem? (i := 4) rfl)) (mr1 _ (List.mem_of_getElem? (i := 5) rfl)) (mr4 _ (List.mem_of_getElem? (i := 5) rfl)))) rfl rfl rfl (by decide +kernel) ⟨Nat.le_of_ble_eq_true rfl, Nat.le_of_ble_eq_true rfl⟩) (Wd.preS zo hA hZ hw hK) rfl rfl hl.1 rfl (lv_room (Nat.le_of_ble_eq_true rfl)) dX10_dateTold_43 ⟨Nat.le_of_ble_eq_true rfl, Nat.le_of_ble_eq_true rfl⟩) (fun x_12 L1 f1 H locs lx_12 ux_12 ex_12 hw => ?_)
    obtain ⟨rfl, rfl, ex_12⟩ := ex_12
    have t43 := ex_12.2.2 (by omega)
    clear ex_12
    have h46 : RVq (sq (sq FF (nS Tt nn ee 2000 2099)) (nS Tt nn (tQ Tt nn ee) 1 12)) (dI (vN Tt nn ee) (vN Tt nn (tQ Tt nn ee))) x_12 := fun _ => by rw [← y1, ← y2]; exact t43
    exact J46 x_12 lx_12 ux_12 (by exact h46) _ _ _ hw (lv_sub hl [2, 1, 0] rfl)
  · have h46 : RVq (sq (sq FF (nS Tt nn ee 2000 2099)) (nS Tt nn (tQ Tt nn ee) 1 12)) (dI (vN Tt nn ee) (vN Tt nn (tQ Tt nn ee))) 31 := fun z => absurd z (by omega)
    refine q_bipush hx hb dX10_dateTold_36 rfl ?_
    refine lv_goto (tgt := 46) hx hb dX10_dateTold_38 (by decide) ?_
    exact J46 31 (by decide) (by decide) (by exact h46) _ _ _ hw (lv_sub hl [2, 1, 0] rfl)
