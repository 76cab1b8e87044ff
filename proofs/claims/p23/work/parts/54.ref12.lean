set_option maxHeartbeats 4000000 in
set_option maxRecDepth 100000 in
theorem c_X10_oddOf_2 {Z : Zt} (zo : Zok Z) (l : Launch) (D : va_G) (cy : Cy) (L0 : List Nat) (f0 : Nat → va_E) (a0 : Nat) (x1 : Int) (lx1 : -2147483648 ≤ x1) (ux1 : x1 ≤ 2147483647) (x2 : Int) (lx2 : -2147483648 ≤ x2) (ux2 : x2 ≤ 2147483647) (ad : Nat → Nat) (hs : MS cy L0 f0 a0 ad) (b1 : 0 ≤ x1) (b2 : x1 ≤ 11) (o1 : 0 ≤ aI f0 (ad 4) (44 * x1 + 11)) (o2 : aI f0 (ad 4) (44 * x1 + 11) ≤ 16) : Ci Z l yX10_oddOf (Cond.code yX10_oddOf cX10_oddOf 4 (some .int) :: TB) ({ frames := 1, cells := 0, slots := 0, locals := 22 } : Room) 0 0 D (tq cy) [.ref a0, .int (iI x1), .int (iI x2)] L0 f0 (fun (r : Int) (L1 : List Nat) (f1 : Nat → va_E) => L0 = L1 ∧ f0 = f1 ∧ ((r = -1 ∧ ∀ i : Int, 0 ≤ i → i < aI f0 (ad 4) (44 * x1 + 11) → aI f0 (ad 4) (44 * x1 + 12 + 2 * i) ≠ x2) ∨ (0 ≤ r ∧ r < aI f0 (ad 4) (44 * x1 + 11) ∧ aI f0 (ad 4) (44 * x1 + 12 + 2 * r) = x2))) := by
  refine Ci.enter (cc := cX10_oddOf) (n := 4) rfl (plainFor_of_name (by decide)) (Nat.le_of_ble_eq_true rfl) ?_
  intro p e s m below meth c ls A hx hb hr hts hown hlocks hnm hml hK hA hAe hw hZ hl
  have hown : s.vm.findClass RX10 = some m.cls := hown
  have hl : lv_has ls 4 [(0, .ref a0), (1, .int (iI x1)), (2, .int (iI x2))] := hl
  have hN : ZN s := (zo.2.2.2.2 _ _ _ hZ).2
  refine q_iconst hx hb dX10_oddOf_0 ?_
  refine lv_istore_n (lv' := [(3, .int (iI 0)), (0, .ref a0), (1, .int (iI x1)), (2, .int (iI x2))]) hx hb dX10_oddOf_1 rfl hl (by decide) rfl (fun ls hl => ?_)
  have J2 : ∀ (n2 : Nat) (y3_2 : Int) (ly3_2 : -2147483648 ≤ y3_2) (uy3_2 : y3_2 ≤ 2147483647) (i1 : 0 ≤ y3_2) (i2 : ∀ i : Int, 0 ≤ i → i < y3_2 → aI f0 (ad 4) (44 * x1 + 12 + 2 * i) ≠ x2) (hn2 : ((2147483647 : Int) - y3_2).toNat < n2) (H : Heap) (locs : List Loc) (ls : Array Slot) (hw : Wd D A s.heap L0 f0 H locs) (hl : lv_has ls 4 [(0, .ref a0), (1, .int (iI x1)), (2, .int (iI x2)), (3, .int (iI y3_2))]), W p l e ({ frames := 1, cells := 0, slots := 0, locals := 22 } : Room) s m ([.ref a0, .int (iI x1), .int (iI x2)] : List Value).toArray below meth c H locs (0) (0) (MQ below (Qi D (tq cy) L0 f0 s.heap.size (fun (r : Int) (L1 : List Nat) (f1 : Nat → va_E) => L0 = L1 ∧ f0 = f1 ∧ ((r = -1 ∧ ∀ i : Int, 0 ≤ i → i < aI f0 (ad 4) (44 * x1 + 11) → aI f0 (ad 4) (44 * x1 + 12 + 2 * i) ≠ x2) ∨ (0 ≤ r ∧ r < aI f0 (ad 4) (44 * x1 + 11) ∧ aI f0 (ad 4) (44 * x1 + 12 + 2 * r) = x2)))) ([.ref a0, .int (iI x1), .int (iI x2)] : List Value).toArray s 0 0 A) (F0 m 2 ls []) := by
    intro n2
    induction n2 with
    | zero => intro y3_2 ly3_2 uy3_2 i1 i2 hn2; exact absurd hn2 (Nat.not_lt_zero _)
    | succ n2 ih2 =>
      intro y3_2 ly3_2 uy3_2 i1 i2 hn2 H locs ls hw hl
      refine lv_iload_n hx hb dX10_oddOf_2 rfl (lv_at hl 3 rfl) ?_
      refine lv_aload_n hx hb dX10_oddOf_3 rfl (lv_at hl 0 rfl) ?_
      refine lv_iload_n hx hb dX10_oddOf_4 rfl (lv_at hl 1 rfl) ?_
      refine q_bipush hx hb dX10_oddOf_5 rfl ?_
      refine q_call_i hA hK hw (va_runV (As := [.int (iI x1), .int (iI 11)]) (rest := [.int (iI y3_2)]) ⟨hx, hb, hml, hown, hts⟩ (c_X10_get zo l D cy L0 f0 a0 x1 lx1 ux1 11 (by decide) (by decide) ad hs (by omega) (by omega) (by omega) (by omega) _) (cwV 2 hts (gT (inV (mr25 _ (List.mem_of_getElem? (i := 0) rfl)) (mr25 _ (List.mem_of_getElem? (i := 1) rfl)) (mr25 _ (List.mem_of_getElem? (i := 2) rfl)) (mr1 _ (List.mem_of_getElem? (i := 5) rfl)) (mr25 _ (List.mem_of_getElem? (i := 3) rfl)))) rfl rfl rfl (by decide +kernel) ⟨Nat.le_of_ble_eq_true rfl, Nat.le_of_ble_eq_true rfl⟩) (Wd.preV zo hA hZ hw hK hs.1 hs.2.1 rfl) rfl rfl hl.1 rfl (lv_room (Nat.le_of_ble_eq_true rfl)) dX10_oddOf_7 ⟨Nat.le_of_ble_eq_true rfl, Nat.le_of_ble_eq_true rfl⟩) (fun x_1 L1 f1 H locs lx_1 ux_1 ex_1 hw => ?_)
      obtain ⟨rfl, rfl, ex_1⟩ := ex_1
      refine q_icmp_ge (tgt := 36) hx hb dX10_oddOf_10 (by decide) ⟨ly3_2, uy3_2⟩ ⟨lx_1, ux_1⟩ (fun c10 => ?_) (fun c10 => ?_)
      · refine q_iconst hx hb dX10_oddOf_36 ?_
        exact q_ret_i hx hb hr hlocks hK hAe hw ⟨by decide, by decide⟩ (Nat.le_of_ble_eq_true rfl) (Nat.le_of_ble_eq_true rfl) dX10_oddOf_37 ⟨rfl, rfl, by exact Or.inl ⟨by omega, fun i q0 q1 => i2 i q0 (by omega)⟩⟩
      · refine lv_aload_n hx hb dX10_oddOf_13 rfl (lv_at hl 0 rfl) ?_
        refine lv_iload_n hx hb dX10_oddOf_14 rfl (lv_at hl 1 rfl) ?_
        refine q_bipush hx hb dX10_oddOf_15 rfl ?_
        refine q_iconst hx hb dX10_oddOf_17 ?_
        refine lv_iload_n hx hb dX10_oddOf_18 rfl (lv_at hl 3 rfl) ?_
        first | refine q_imul hx hb dX10_oddOf_19 ⟨by omega, by omega⟩ (fun x_2 lx_2 ux_2 ex_2 => ?_) | refine q_imulw hx hb dX10_oddOf_19 (fun x_2 lx_2 ux_2 ex_2 => ?_)
        first | refine q_iadd hx hb dX10_oddOf_20 ⟨by omega, by omega⟩ (fun x_3 lx_3 ux_3 ex_3 => ?_) | refine q_iaddw hx hb dX10_oddOf_20 (fun x_3 lx_3 ux_3 ex_3 => ?_)
        refine q_call_i hA hK hw (va_runV (As := [.int (iI x1), .int (iI x_3)]) (rest := []) ⟨hx, hb, hml, hown, hts⟩ (c_X10_get zo l D cy L0 f0 a0 x1 lx1 ux1 x_3 lx_3 ux_3 ad hs (by omega) (by omega) (by omega) (by omega) _) (cwV 2 hts (gT (inV (mr25 _ (List.mem_of_getElem? (i := 0) rfl)) (mr25 _ (List.mem_of_getElem? (i := 1) rfl)) (mr25 _ (List.mem_of_getElem? (i := 2) rfl)) (mr1 _ (List.mem_of_getElem? (i := 5) rfl)) (mr25 _ (List.mem_of_getElem? (i := 3) rfl)))) rfl rfl rfl (by decide +kernel) ⟨Nat.le_of_ble_eq_true rfl, Nat.le_of_ble_eq_true rfl⟩) (Wd.preV zo hA hZ hw hK hs.1 hs.2.1 rfl) rfl rfl hl.1 rfl (lv_room (Nat.le_of_ble_eq_true rfl)) dX10_oddOf_21 ⟨Nat.le_of_ble_eq_true rfl, Nat.le_of_ble_eq_true rfl⟩) (fun x_4 L1 f1 H locs lx_4 ux_4 ex_4 hw => ?_)
        obtain ⟨rfl, rfl, ex_4⟩ := ex_4
        have g21 : aI f0 (ad 4) (44 * x1 + 12 + 2 * y3_2) = x_4 := (aI_cg (by omega)).trans ex_4.symm
        refine lv_iload_n hx hb dX10_oddOf_24 rfl (lv_at hl 2 rfl) ?_
        refine q_icmp_ne (tgt := 30) hx hb dX10_oddOf_25 (by decide) ⟨lx_4, ux_4⟩ ⟨lx2, ux2⟩ (fun c25 => ?_) (fun c25 => ?_)
        · obtain ⟨x_5, lx_5, ux_5, hx_5, ex_5⟩ := q_inc y3_2 (1)
          try (replace ex_5 : x_5 = y3_2 + (1) := by omega)
          refine lv_iinc (v := iI x_5) (lv' := [(3, .int (iI x_5)), (0, .ref a0), (1, .int (iI x1)), (2, .int (iI x2))]) hx hb dX10_oddOf_30 hl (k := 3) rfl hx_5 (by decide) rfl (fun ls hl => ?_)
          refine lv_goto (tgt := 2) hx hb dX10_oddOf_33 (by decide) ?_
          exact ih2 x_5 lx_5 ux_5 (by omega) (by first | (intro i q0 q1; exfalso; omega) | (intro i q0 q1; exact (Decidable.em (i = y3_2)).elim (fun ei => by rw [ei, g21]; exact c25) (fun ei => i2 i q0 (by omega)))) (by omega) _ _ _ hw (lv_sub hl [1, 2, 3, 0] rfl)
        · refine lv_iload_n hx hb dX10_oddOf_28 rfl (lv_at hl 3 rfl) ?_
          exact q_ret_i hx hb hr hlocks hK hAe hw ⟨ly3_2, uy3_2⟩ (Nat.le_of_ble_eq_true rfl) (Nat.le_of_ble_eq_true rfl) dX10_oddOf_29 ⟨rfl, rfl, by exact Or.inr ⟨by omega, by omega, g21.trans c25⟩⟩
  exact J2 ((((2147483647 : Int) - 0).toNat) + 1) 0 (by decide) (by decide) (by omega) (by first | (intro i q0 q1; exfalso; omega) | (intro i q0 q1; exact (Decidable.em (i = y3_2)).elim (fun ei => by rw [ei, g21]; exact c25) (fun ei => i2 i q0 (by omega)))) (by omega) _ _ _ hw (lv_sub hl [1, 2, 3, 0] rfl)
set_option maxHeartbeats 4000000 in
set_option maxRecDepth 100000 in
theorem c_X10_laysKeys_2 {Z : Zt} (zo : Zok Z) (l : Launch) (D : va_G) (cy : Cy) (L0 : List Nat) (f0 : Nat → va_E) (a0 : Nat) (x1 : Int) (lx1 : -2147483648 ≤ x1) (ux1 : x1 ≤ 2147483647) (x2 : Int) (lx2 : -2147483648 ≤ x2) (ux2 : x2 ≤ 2147483647) (ad : Nat → Nat) (hs : MS cy L0 f0 a0 ad) (b1 : 0 ≤ x1) (b2 : x1 ≤ 11) (s34 : aI f0 (ad 4) (44 * x1 + 3) = 0 ∨ 1 ≤ aI f0 (ad 4) (44 * x1 + 4)) (s5a : 0 ≤ aI f0 (ad 4) (44 * x1 + 5)) (s5b : aI f0 (ad 4) (44 * x1 + 5) ≤ 36524) (s8a : -1 ≤ aI f0 (ad 4) (44 * x1 + 8)) (s8b : aI f0 (ad 4) (44 * x1 + 8) ≤ 36524) (saa : 0 ≤ aI f0 (ad 4) (44 * x1 + 10)) (sab : aI f0 (ad 4) (44 * x1 + 10) ≤ 36524) (w1 : 0 ≤ x2) (w2 : x2 ≤ 1) : Ci Z l yX10_laysKeys (Cond.code yX10_laysKeys cX10_laysKeys 7 (some .int) :: TB) ({ frames := 2, cells := 0, slots := 0, locals := 48 } : Room) 0 0 D (tq cy) [.ref a0, .int (iI x1), .int (iI x2)] L0 f0 (fun (r : Int) (L1 : List Nat) (f1 : Nat → va_E) => L0 = L1 ∧ MS cy L0 f1 a0 ad ∧ Kp a0 ad [12, 13] [] f0 f1 ∧ (0 ≤ r ∧ r ≤ 36525 ∧ aI f1 (ad 13) x2 = r ∧ (∀ x : Int, 0 ≤ x → x ≠ x2 → aI f1 (ad 13) x = aI f0 (ad 13) x) ∧ (∀ j : Int, 0 ≤ j → j < r → aI f0 (ad 4) (44 * x1 + 10) ≤ aI f1 (ad 12) (36525 * x2 + j) ∧ aI f1 (ad 12) (36525 * x2 + j) ≤ UN (aI f0 (ad 4)) (44 * x1)) ∧ (∀ i j : Int, 0 ≤ i → i < j → j < r → aI f1 (ad 12) (36525 * x2 + i) < aI f1 (ad 12) (36525 * x2 + j)))) := by
  refine Ci.enter (cc := cX10_laysKeys) (n := 7) rfl (plainFor_of_name (by decide)) (Nat.le_of_ble_eq_true rfl) ?_
  intro p e s m below meth c ls A hx hb hr hts hown hlocks hnm hml hK hA hAe hw hZ hl
  have hown : s.vm.findClass RX10 = some m.cls := hown
  have hl : lv_has ls 7 [(0, .ref a0), (1, .int (iI x1)), (2, .int (iI x2))] := hl
  have hN : ZN s := (zo.2.2.2.2 _ _ _ hZ).2
  have hE : Kp a0 ad [12, 13] [] f0 f0 := Kp.refl _ _ _ _ _
  refine q_iconst hx hb dX10_laysKeys_0 ?_
  refine lv_istore_n (lv' := [(3, .int (iI 0)), (0, .ref a0), (1, .int (iI x1)), (2, .int (iI x2))]) hx hb dX10_laysKeys_1 rfl hl (by decide) rfl (fun ls hl => ?_)
  refine lv_aload_n hx hb dX10_laysKeys_2 rfl (lv_at hl 1 rfl) ?_
  refine lv_iload_n hx hb dX10_laysKeys_3 rfl (lv_at hl 2 rfl) ?_
  refine q_bipush hx hb dX10_laysKeys_4 rfl ?_
  refine q_call_i hA hK hw (va_runV (As := [.int (iI x1), .int (iI 9)]) (rest := []) ⟨hx, hb, hml, hown, hts⟩ (c_X10_get zo l D cy L0 f0 a0 x1 lx1 ux1 9 (by decide) (by decide) ad hs (by omega) (by omega) (by omega) (by omega) _) (cwV 2 hts (gT (inV (mr25 _ (List.mem_of_getElem? (i := 0) rfl)) (mr25 _ (List.mem_of_getElem? (i := 1) rfl)) (mr25 _ (List.mem_of_getElem? (i := 2) rfl)) (mr1 _ (List.mem_of_getElem? (i := 5) rfl)) (mr25 _ (List.mem_of_getElem? (i := 3) rfl)))) rfl rfl rfl (by decide +kernel) ⟨Nat.le_of_ble_eq_true rfl, Nat.le_of_ble_eq_true rfl⟩) (Wd.preV zo hA hZ hw hK hs.1 hs.2.1 rfl) rfl rfl hl.1 rfl (lv_room (Nat.le_of_ble_eq_true rfl)) dX10_laysKeys_6 ⟨Nat.le_of_ble_eq_true rfl, Nat.le_of_ble_eq_true rfl⟩) (fun x_1 L1 f1 H locs lx_1 ux_1 ex_1 hw => ?_)
  obtain ⟨rfl, rfl, ex_1⟩ := ex_1
  refine lv_istore (lv' := [(4, .int (iI x_1)), (3, .int (iI 0)), (0, .ref a0), (1, .int (iI x1)), (2, .int (iI x2))]) hx hb dX10_laysKeys_9 hl (by decide) rfl (fun ls hl => ?_)
  refine lv_aload_n hx hb dX10_laysKeys_11 rfl (lv_at hl 2 rfl) ?_
  refine lv_iload_n hx hb dX10_laysKeys_12 rfl (lv_at hl 3 rfl) ?_
  refine q_bipush hx hb dX10_laysKeys_13 rfl ?_
  refine q_call_i hA hK hw (va_runV (As := [.int (iI x1), .int (iI 8)]) (rest := []) ⟨hx, hb, hml, hown, hts⟩ (c_X10_get zo l D cy L0 f0 a0 x1 lx1 ux1 8 (by decide) (by decide) ad hs (by omega) (by omega) (by omega) (by omega) _) (cwV 2 hts (gT (inV (mr25 _ (List.mem_of_getElem? (i := 0) rfl)) (mr25 _ (List.mem_of_getElem? (i := 1) rfl)) (mr25 _ (List.mem_of_getElem? (i := 2) rfl)) (mr1 _ (List.mem_of_getElem? (i := 5) rfl)) (mr25 _ (List.mem_of_getElem? (i := 3) rfl)))) rfl rfl rfl (by decide +kernel) ⟨Nat.le_of_ble_eq_true rfl, Nat.le_of_ble_eq_true rfl⟩) (Wd.preV zo hA hZ hw hK hs.1 hs.2.1 rfl) rfl rfl hl.1 rfl (lv_room (Nat.le_of_ble_eq_true rfl)) dX10_laysKeys_15 ⟨Nat.le_of_ble_eq_true rfl, Nat.le_of_ble_eq_true rfl⟩) (fun x_2 L1 f1 H locs lx_2 ux_2 ex_2 hw => ?_)
  obtain ⟨rfl, rfl, ex_2⟩ := ex_2
  have J33 : ∀ (w0_33 : Int) (lw0_33 : -2147483648 ≤ w0_33) (uw0_33 : w0_33 ≤ 2147483647) (k1 : w0_33 ≤ 36524) (kU : w0_33 = UN (aI f0 (ad 4)) (44 * x1)) (H : Heap) (locs : List Loc) (ls : Array Slot) (hw : Wd D A s.heap L0 f0 H locs) (hl : lv_has ls 7 [(0, .ref a0), (1, .int (iI x1)), (2, .int (iI x2)), (3, .int (iI 0)), (4, .int (iI x_1))]), W p l e ({ frames := 2, cells := 0, slots := 0, locals := 48 } : Room) s m ([.ref a0, .int (iI x1), .int (iI x2)] : List Value).toArray below meth c H locs (0 + 0 + 0) (0 + 0 + 0) (MQ below (Qi D (tq cy) L0 f0 s.heap.size (fun (r : Int) (L1 : List Nat) (f1 : Nat → va_E) => L0 = L1 ∧ MS cy L0 f1 a0 ad ∧ Kp a0 ad [12, 13] [] f0 f1 ∧ (0 ≤ r ∧ r ≤ 36525 ∧ aI f1 (ad 13) x2 = r ∧ (∀ x : Int, 0 ≤ x → x ≠ x2 → aI f1 (ad 13) x = aI f0 (ad 13) x) ∧ (∀ j : Int, 0 ≤ j → j < r → aI f0 (ad 4) (44 * x1 + 10) ≤ aI f1 (ad 12) (36525 * x2 + j) ∧ aI f1 (ad 12) (36525 * x2 + j) ≤ UN (aI f0 (ad 4)) (44 * x1)) ∧ (∀ i j : Int, 0 ≤ i → i < j → j < r → aI f1 (ad 12) (36525 * x2 + i) < aI f1 (ad 12) (36525 * x2 + j))))) ([.ref a0, .int (iI x1), .int (iI x2)] : List Value).toArray s 0 0 A) (F0 m 33 ls [.int (iI w0_33)]) := by
    intro w0_33 lw0_33 uw0_33 k1 kU H locs ls hw hl
    refine lv_istore (lv' := [(5, .int (iI w0_33)), (0, .ref a0), (1, .int (iI x1)), (2, .int (iI x2)), (3, .int (iI 0)), (4, .int (iI x_1))]) hx hb dX10_laysKeys_33 hl (by decide) rfl (fun ls hl => ?_)
    refine lv_aload_n hx hb dX10_laysKeys_35 rfl (lv_at hl 1 rfl) ?_
    refine lv_iload_n hx hb dX10_laysKeys_36 rfl (lv_at hl 2 rfl) ?_
    refine q_bipush hx hb dX10_laysKeys_37 rfl ?_
    refine q_call_i hA hK hw (va_runV (As := [.int (iI x1), .int (iI 10)]) (rest := []) ⟨hx, hb, hml, hown, hts⟩ (c_X10_get zo l D cy L0 f0 a0 x1 lx1 ux1 10 (by decide) (by decide) ad hs (by omega) (by omega) (by omega) (by omega) _) (cwV 2 hts (gT (inV (mr25 _ (List.mem_of_getElem? (i := 0) rfl)) (mr25 _ (List.mem_of_getElem? (i := 1) rfl)) (mr25 _ (List.mem_of_getElem? (i := 2) rfl)) (mr1 _ (List.mem_of_getElem? (i := 5) rfl)) (mr25 _ (List.mem_of_getElem? (i := 3) rfl)))) rfl rfl rfl (by decide +kernel) ⟨Nat.le_of_ble_eq_true rfl, Nat.le_of_ble_eq_true rfl⟩) (Wd.preV zo hA hZ hw hK hs.1 hs.2.1 rfl) rfl rfl hl.1 rfl (lv_room (Nat.le_of_ble_eq_true rfl)) dX10_laysKeys_39 ⟨Nat.le_of_ble_eq_true rfl, Nat.le_of_ble_eq_true rfl⟩) (fun x_3 L1 f1 H locs lx_3 ux_3 ex_3 hw => ?_)
    obtain ⟨rfl, rfl, ex_3⟩ := ex_3
    refine lv_istore (lv' := [(6, .int (iI x_3)), (5, .int (iI w0_33)), (0, .ref a0), (1, .int (iI x1)), (2, .int (iI x2)), (3, .int (iI 0)), (4, .int (iI x_1))]) hx hb dX10_laysKeys_42 hl (by decide) rfl (fun ls hl => ?_)
    have J44 : ∀ (n44 : Nat) (y3_44 : Int) (ly3_44 : -2147483648 ≤ y3_44) (uy3_44 : y3_44 ≤ 2147483647) (y6_44 : Int) (ly6_44 : -2147483648 ≤ y6_44) (uy6_44 : y6_44 ≤ 2147483647) (L : List Nat) (fw44 : Nat → va_E) (hs : MS cy L0 fw44 a0 ad) (hE : Kp a0 ad [12, 13] [] f0 fw44) (i1 : 0 ≤ y3_44) (i2 : y3_44 ≤ y6_44 - aI f0 (ad 4) (44 * x1 + 10)) (i3 : y6_44 ≤ 36525) (i4 : aI f0 (ad 4) (44 * x1 + 10) ≤ y6_44) (kr : ∀ x : Int, aI fw44 (ad 13) x = aI f0 (ad 13) x) (ks : ∀ j : Int, 0 ≤ j → j < y3_44 → aI f0 (ad 4) (44 * x1 + 10) ≤ aI fw44 (ad 12) (36525 * x2 + j) ∧ aI fw44 (ad 12) (36525 * x2 + j) < y6_44 ∧ aI fw44 (ad 12) (36525 * x2 + j) ≤ UN (aI f0 (ad 4)) (44 * x1)) (ko : ∀ i j : Int, 0 ≤ i → i < j → j < y3_44 → aI fw44 (ad 12) (36525 * x2 + i) < aI fw44 (ad 12) (36525 * x2 + j)) (hn44 : ((2147483647 : Int) - y6_44).toNat < n44) (H : Heap) (locs : List Loc) (ls : Array Slot) (hw : Wd D A s.heap L0 fw44 H locs) (hl : lv_has ls 7 [(0, .ref a0), (1, .int (iI x1)), (2, .int (iI x2)), (3, .int (iI y3_44)), (4, .int (iI x_1)), (5, .int (iI w0_33)), (6, .int (iI y6_44))]), W p l e ({ frames := 2, cells := 0, slots := 0, locals := 48 } : Room) s m ([.ref a0, .int (iI x1), .int (iI x2)] : List Value).toArray below meth c H locs (0 + 0 + 0 + 0) (0 + 0 + 0 + 0) (MQ below (Qi D (tq cy) L0 f0 s.heap.size (fun (r : Int) (L1 : List Nat) (f1 : Nat → va_E) => L0 = L1 ∧ MS cy L0 f1 a0 ad ∧ Kp a0 ad [12, 13] [] f0 f1 ∧ (0 ≤ r ∧ r ≤ 36525 ∧ aI f1 (ad 13) x2 = r ∧ (∀ x : Int, 0 ≤ x → x ≠ x2 → aI f1 (ad 13) x = aI f0 (ad 13) x) ∧ (∀ j : Int, 0 ≤ j → j < r → aI f0 (ad 4) (44 * x1 + 10) ≤ aI f1 (ad 12) (36525 * x2 + j) ∧ aI f1 (ad 12) (36525 * x2 + j) ≤ UN (aI f0 (ad 4)) (44 * x1)) ∧ (∀ i j : Int, 0 ≤ i → i < j → j < r → aI f1 (ad 12) (36525 * x2 + i) < aI f1 (ad 12) (36525 * x2 + j))))) ([.ref a0, .int (iI x1), .int (iI x2)] : List Value).toArray s 0 0 A) (F0 m 44 ls []) := by
      intro n44
      induction n44 with
      | zero => intro y3_44 ly3_44 uy3_44 y6_44 ly6_44 uy6_44 L fw44 hs hE i1 i2 i3 i4 kr ks ko hn44; exact absurd hn44 (Nat.not_lt_zero _)
      | succ n44 ih44 =>
        intro y3_44 ly3_44 uy3_44 y6_44 ly6_44 uy6_44 L fw44 hs hE i1 i2 i3 i4 kr ks ko hn44 H locs ls hw hl
        have q0_fw44 : aI fw44 (ad 4) (44 * x1 + 3) = aI f0 (ad 4) (44 * x1 + 3) := hE.1 4 rfl (by decide) _
        have q1_fw44 : aI fw44 (ad 4) (44 * x1 + 4) = aI f0 (ad 4) (44 * x1 + 4) := hE.1 4 rfl (by decide) _
        have q2_fw44 : aI fw44 (ad 4) (44 * x1 + 5) = aI f0 (ad 4) (44 * x1 + 5) := hE.1 4 rfl (by decide) _
        have q3_fw44 : aI fw44 (ad 4) (44 * x1 + 8) = aI f0 (ad 4) (44 * x1 + 8) := hE.1 4 rfl (by decide) _
        have q4_fw44 : aI fw44 (ad 4) (44 * x1 + 9) = aI f0 (ad 4) (44 * x1 + 9) := hE.1 4 rfl (by decide) _
        have q5_fw44 : aI fw44 (ad 4) (44 * x1 + 10) = aI f0 (ad 4) (44 * x1 + 10) := hE.1 4 rfl (by decide) _
        refine lv_iload hx hb dX10_laysKeys_44 (lv_at hl 6 rfl) ?_
        refine lv_iload hx hb dX10_laysKeys_46 (lv_at hl 5 rfl) ?_
        have J97 : ∀ (H : Heap) (locs : List Loc) (ls : Array Slot) (hw : Wd D A s.heap L0 fw44 H locs) (hl : lv_has ls 7 [(0, .ref a0), (2, .int (iI x2)), (3, .int (iI y3_44))]), W p l e ({ frames := 2, cells := 0, slots := 0, locals := 48 } : Room) s m ([.ref a0, .int (iI x1), .int (iI x2)] : List Value).toArray below meth c H locs (0 + 0 + 0 + 0) (0 + 0 + 0 + 0) (MQ below (Qi D (tq cy) L0 f0 s.heap.size (fun (r : Int) (L1 : List Nat) (f1 : Nat → va_E) => L0 = L1 ∧ MS cy L0 f1 a0 ad ∧ Kp a0 ad [12, 13] [] f0 f1 ∧ (0 ≤ r ∧ r ≤ 36525 ∧ aI f1 (ad 13) x2 = r ∧ (∀ x : Int, 0 ≤ x → x ≠ x2 → aI f1 (ad 13) x = aI f0 (ad 13) x) ∧ (∀ j : Int, 0 ≤ j → j < r → aI f0 (ad 4) (44 * x1 + 10) ≤ aI f1 (ad 12) (36525 * x2 + j) ∧ aI f1 (ad 12) (36525 * x2 + j) ≤ UN (aI f0 (ad 4)) (44 * x1)) ∧ (∀ i j : Int, 0 ≤ i → i < j → j < r → aI f1 (ad 12) (36525 * x2 + i) < aI f1 (ad 12) (36525 * x2 + j))))) ([.ref a0, .int (iI x1), .int (iI x2)] : List Value).toArray s 0 0 A) (F0 m 97 ls []) := by
          intro H locs ls hw hl
          have q0_fw44 : aI fw44 (ad 4) (44 * x1 + 3) = aI f0 (ad 4) (44 * x1 + 3) := hE.1 4 rfl (by decide) _
          have q1_fw44 : aI fw44 (ad 4) (44 * x1 + 4) = aI f0 (ad 4) (44 * x1 + 4) := hE.1 4 rfl (by decide) _
          have q2_fw44 : aI fw44 (ad 4) (44 * x1 + 5) = aI f0 (ad 4) (44 * x1 + 5) := hE.1 4 rfl (by decide) _
          have q3_fw44 : aI fw44 (ad 4) (44 * x1 + 8) = aI f0 (ad 4) (44 * x1 + 8) := hE.1 4 rfl (by decide) _
          have q4_fw44 : aI fw44 (ad 4) (44 * x1 + 9) = aI f0 (ad 4) (44 * x1 + 9) := hE.1 4 rfl (by decide) _
          have q5_fw44 : aI fw44 (ad 4) (44 * x1 + 10) = aI f0 (ad 4) (44 * x1 + 10) := hE.1 4 rfl (by decide) _
          refine lv_aload_n hx hb dX10_laysKeys_97 rfl (lv_at hl 0 rfl) ?_
          refine q_getr (ci := 8) (C := RX10) (T := TX10) (N := 26) hx hb hts (fun w h => List.mem_cons_of_mem _ (mfX100 w h)) hown hK hw hs.1 hs.2.1 rfl 13 (by decide) (hts _ (List.mem_cons_of_mem _ (mr3 _ (List.mem_of_getElem? (i := 21) rfl)))) (fun _ h => h) rfl (hs.2.2.1 13 rfl).1 dX10_laysKeys_98 ?_
          refine lv_iload_n hx hb dX10_laysKeys_101 rfl (lv_at hl 1 rfl) ?_
          refine lv_iload_n hx hb dX10_laysKeys_102 rfl (lv_at hl 2 rfl) ?_
          refine q_iast hx hb hK hw (hs.2.2.1 13 rfl).2.1 1 (hs.2.2.1 13 rfl).2.2 rfl ⟨lx2, ux2⟩ (by omega) (by show _ < ((2 : Nat) : Int); omega) dX10_laysKeys_103 (fun H locs hw => ?_)
          obtain ⟨f_4, ef_4⟩ : ∃ g : Nat → va_E, g = aU fw44 (ad 13) x2 (iI y3_44) := ⟨_, rfl⟩
          have hE := hE.trans (show Kp a0 ad [12, 13] [] fw44 f_4 by rw [ef_4]; exact Kp_aU hs rfl (by decide))
          have hs_ := hs
          have hs : MS cy L0 f_4 a0 ad := by rw [ef_4]; exact MS_aU hs rfl
          rw [← ef_4] at hw
          have q0_f_4 : aI f_4 (ad 4) (44 * x1 + 3) = aI f0 (ad 4) (44 * x1 + 3) := hE.1 4 rfl (by decide) _
          have q1_f_4 : aI f_4 (ad 4) (44 * x1 + 4) = aI f0 (ad 4) (44 * x1 + 4) := hE.1 4 rfl (by decide) _
          have q2_f_4 : aI f_4 (ad 4) (44 * x1 + 5) = aI f0 (ad 4) (44 * x1 + 5) := hE.1 4 rfl (by decide) _
          have q3_f_4 : aI f_4 (ad 4) (44 * x1 + 8) = aI f0 (ad 4) (44 * x1 + 8) := hE.1 4 rfl (by decide) _
          have q4_f_4 : aI f_4 (ad 4) (44 * x1 + 9) = aI f0 (ad 4) (44 * x1 + 9) := hE.1 4 rfl (by decide) _
          have q5_f_4 : aI f_4 (ad 4) (44 * x1 + 10) = aI f0 (ad 4) (44 * x1 + 10) := hE.1 4 rfl (by decide) _
          have r1 : aI f_4 (ad 13) x2 = y3_44 := by rw [ef_4]; exact hs_.aI_self rfl ⟨by omega, by omega⟩
          have r2 : ∀ x : Int, 0 ≤ x → x ≠ x2 → aI f_4 (ad 13) x = aI f0 (ad 13) x := fun x q0 q1 => Eq.trans (by rw [ef_4]; exact hs_.aI_nj rfl (by omega) q0 q1) (kr x)
          have r3 : ∀ x : Int, aI f_4 (ad 12) x = aI fw44 (ad 12) x := fun x => by rw [ef_4]; exact hs_.aI_ne rfl rfl (by decide) _
          refine lv_iload_n hx hb dX10_laysKeys_104 rfl (lv_at hl 2 rfl) ?_
          exact q_ret_i hx hb hr hlocks hK hAe hw ⟨ly3_44, uy3_44⟩ (Nat.le_of_ble_eq_true rfl) (Nat.le_of_ble_eq_true rfl) dX10_laysKeys_105 (by exact ⟨rfl, hs, hE, by omega, by omega, r1, r2, fun j q0 q1 => by rw [r3]; exact ⟨(ks j q0 q1).1, (ks j q0 q1).2.2⟩, fun i j q0 q1 q2 => by rw [r3, r3]; exact ko i j q0 q1 q2⟩)
        refine q_icmp_gt (tgt := 97) hx hb dX10_laysKeys_48 (by decide) ⟨ly6_44, uy6_44⟩ ⟨lw0_33, uw0_33⟩ (fun c48 => ?_) (fun c48 => ?_)
        · exact J97 _ _ _ hw (lv_sub hl [0, 2, 3] rfl)
        · refine lv_iload hx hb dX10_laysKeys_51 (lv_at hl 4 rfl) ?_
          have J62 : ∀ (H : Heap) (locs : List Loc) (ls : Array Slot) (hw : Wd D A s.heap L0 fw44 H locs) (hl : lv_has ls 7 [(0, .ref a0), (1, .int (iI x1)), (2, .int (iI x2)), (3, .int (iI y3_44)), (4, .int (iI x_1)), (5, .int (iI w0_33)), (6, .int (iI y6_44))]), W p l e ({ frames := 2, cells := 0, slots := 0, locals := 48 } : Room) s m ([.ref a0, .int (iI x1), .int (iI x2)] : List Value).toArray below meth c H locs (0 + 0 + 0 + 0) (0 + 0 + 0 + 0) (MQ below (Qi D (tq cy) L0 f0 s.heap.size (fun (r : Int) (L1 : List Nat) (f1 : Nat → va_E) => L0 = L1 ∧ MS cy L0 f1 a0 ad ∧ Kp a0 ad [12, 13] [] f0 f1 ∧ (0 ≤ r ∧ r ≤ 36525 ∧ aI f1 (ad 13) x2 = r ∧ (∀ x : Int, 0 ≤ x → x ≠ x2 → aI f1 (ad 13) x = aI f0 (ad 13) x) ∧ (∀ j : Int, 0 ≤ j → j < r → aI f0 (ad 4) (44 * x1 + 10) ≤ aI f1 (ad 12) (36525 * x2 + j) ∧ aI f1 (ad 12) (36525 * x2 + j) ≤ UN (aI f0 (ad 4)) (44 * x1)) ∧ (∀ i j : Int, 0 ≤ i → i < j → j < r → aI f1 (ad 12) (36525 * x2 + i) < aI f1 (ad 12) (36525 * x2 + j))))) ([.ref a0, .int (iI x1), .int (iI x2)] : List Value).toArray s 0 0 A) (F0 m 62 ls []) := by
            intro H locs ls hw hl
            have q0_fw44 : aI fw44 (ad 4) (44 * x1 + 3) = aI f0 (ad 4) (44 * x1 + 3) := hE.1 4 rfl (by decide) _
            have q1_fw44 : aI fw44 (ad 4) (44 * x1 + 4) = aI f0 (ad 4) (44 * x1 + 4) := hE.1 4 rfl (by decide) _
            have q2_fw44 : aI fw44 (ad 4) (44 * x1 + 5) = aI f0 (ad 4) (44 * x1 + 5) := hE.1 4 rfl (by decide) _
            have q3_fw44 : aI fw44 (ad 4) (44 * x1 + 8) = aI f0 (ad 4) (44 * x1 + 8) := hE.1 4 rfl (by decide) _
            have q4_fw44 : aI fw44 (ad 4) (44 * x1 + 9) = aI f0 (ad 4) (44 * x1 + 9) := hE.1 4 rfl (by decide) _
            have q5_fw44 : aI fw44 (ad 4) (44 * x1 + 10) = aI f0 (ad 4) (44 * x1 + 10) := hE.1 4 rfl (by decide) _
            refine lv_aload_n hx hb dX10_laysKeys_62 rfl (lv_at hl 0 rfl) ?_
            refine lv_iload_n hx hb dX10_laysKeys_63 rfl (lv_at hl 1 rfl) ?_
            refine lv_iload hx hb dX10_laysKeys_64 (lv_at hl 6 rfl) ?_
            refine q_call_i hA hK hw (va_runV (As := [.int (iI x1), .int (iI y6_44)]) (rest := []) ⟨hx, hb, hml, hown, hts⟩ (c_X10_isOn zo l D cy L0 fw44 a0 x1 lx1 ux1 y6_44 ly6_44 uy6_44 ad hs (by omega) (by omega) (by omega) (by omega) (by omega) (by omega) (by omega) _) (cwV 2 hts (gT (inV (mr25 _ (List.mem_of_getElem? (i := 4) rfl)) (mr25 _ (List.mem_of_getElem? (i := 5) rfl)) (mr25 _ (List.mem_of_getElem? (i := 6) rfl)) (mr1 _ (List.mem_of_getElem? (i := 5) rfl)) (mr25 _ (List.mem_of_getElem? (i := 7) rfl)))) rfl rfl rfl (by decide +kernel) ⟨Nat.le_of_ble_eq_true rfl, Nat.le_of_ble_eq_true rfl⟩) (Wd.preV zo hA hZ hw hK hs.1 hs.2.1 rfl) rfl rfl hl.1 rfl (lv_room (Nat.le_of_ble_eq_true rfl)) dX10_laysKeys_66 ⟨Nat.le_of_ble_eq_true rfl, Nat.le_of_ble_eq_true rfl⟩) (fun x_5 L1 f1 H locs lx_5 ux_5 ex_5 hw => ?_)
            obtain ⟨rfl, rfl, ex_5⟩ := ex_5
            have J91 : ∀ (z3_91 : Int) (lz3_91 : -2147483648 ≤ z3_91) (uz3_91 : z3_91 ≤ 2147483647) (L : List Nat) (fw91 : Nat → va_E) (hs : MS cy L0 fw91 a0 ad) (hE : Kp a0 ad [12, 13] [] f0 fw91) (k1 : 0 ≤ z3_91) (k2 : z3_91 ≤ y6_44 - aI f0 (ad 4) (44 * x1 + 10) + 1) (kr : ∀ x : Int, aI fw91 (ad 13) x = aI f0 (ad 13) x) (ks : ∀ j : Int, 0 ≤ j → j < z3_91 → aI f0 (ad 4) (44 * x1 + 10) ≤ aI fw91 (ad 12) (36525 * x2 + j) ∧ aI fw91 (ad 12) (36525 * x2 + j) < y6_44 + 1 ∧ aI fw91 (ad 12) (36525 * x2 + j) ≤ UN (aI f0 (ad 4)) (44 * x1)) (ko : ∀ i j : Int, 0 ≤ i → i < j → j < z3_91 → aI fw91 (ad 12) (36525 * x2 + i) < aI fw91 (ad 12) (36525 * x2 + j)) (H : Heap) (locs : List Loc) (ls : Array Slot) (hw : Wd D A s.heap L0 fw91 H locs) (hl : lv_has ls 7 [(0, .ref a0), (1, .int (iI x1)), (2, .int (iI x2)), (3, .int (iI z3_91)), (4, .int (iI x_1)), (5, .int (iI w0_33)), (6, .int (iI y6_44))]), W p l e ({ frames := 2, cells := 0, slots := 0, locals := 48 } : Room) s m ([.ref a0, .int (iI x1), .int (iI x2)] : List Value).toArray below meth c H locs (0 + 0 + 0 + 0 + 0) (0 + 0 + 0 + 0 + 0) (MQ below (Qi D (tq cy) L0 f0 s.heap.size (fun (r : Int) (L1 : List Nat) (f1 : Nat → va_E) => L0 = L1 ∧ MS cy L0 f1 a0 ad ∧ Kp a0 ad [12, 13] [] f0 f1 ∧ (0 ≤ r ∧ r ≤ 36525 ∧ aI f1 (ad 13) x2 = r ∧ (∀ x : Int, 0 ≤ x → x ≠ x2 → aI f1 (ad 13) x = aI f0 (ad 13) x) ∧ (∀ j : Int, 0 ≤ j → j < r → aI f0 (ad 4) (44 * x1 + 10) ≤ aI f1 (ad 12) (36525 * x2 + j) ∧ aI f1 (ad 12) (36525 * x2 + j) ≤ UN (aI f0 (ad 4)) (44 * x1)) ∧ (∀ i j : Int, 0 ≤ i → i < j → j < r → aI f1 (ad 12) (36525 * x2 + i) < aI f1 (ad 12) (36525 * x2 + j))))) ([.ref a0, .int (iI x1), .int (iI x2)] : List Value).toArray s 0 0 A) (F0 m 91 ls []) := by
              intro z3_91 lz3_91 uz3_91 L fw91 hs hE k1 k2 kr ks ko H locs ls hw hl
              have q0_fw91 : aI fw91 (ad 4) (44 * x1 + 3) = aI f0 (ad 4) (44 * x1 + 3) := hE.1 4 rfl (by decide) _
              have q1_fw91 : aI fw91 (ad 4) (44 * x1 + 4) = aI f0 (ad 4) (44 * x1 + 4) := hE.1 4 rfl (by decide) _
              have q2_fw91 : aI fw91 (ad 4) (44 * x1 + 5) = aI f0 (ad 4) (44 * x1 + 5) := hE.1 4 rfl (by decide) _
              have q3_fw91 : aI fw91 (ad 4) (44 * x1 + 8) = aI f0 (ad 4) (44 * x1 + 8) := hE.1 4 rfl (by decide) _
              have q4_fw91 : aI fw91 (ad 4) (44 * x1 + 9) = aI f0 (ad 4) (44 * x1 + 9) := hE.1 4 rfl (by decide) _
              have q5_fw91 : aI fw91 (ad 4) (44 * x1 + 10) = aI f0 (ad 4) (44 * x1 + 10) := hE.1 4 rfl (by decide) _
              obtain ⟨x_6, lx_6, ux_6, hx_6, ex_6⟩ := q_inc y6_44 (1)
              try (replace ex_6 : x_6 = y6_44 + (1) := by omega)
              refine lv_iinc (v := iI x_6) (lv' := [(6, .int (iI x_6)), (0, .ref a0), (1, .int (iI x1)), (2, .int (iI x2)), (3, .int (iI z3_91)), (4, .int (iI x_1)), (5, .int (iI w0_33))]) hx hb dX10_laysKeys_91 hl (k := 6) rfl hx_6 (by decide) rfl (fun ls hl => ?_)
              refine lv_goto (tgt := 44) hx hb dX10_laysKeys_94 (by decide) ?_
              exact ih44 z3_91 lz3_91 uz3_91 x_6 lx_6 ux_6 L0 fw91 hs hE (by omega) (by omega) (by omega) (by omega) (by first | exact kr | exact fun _ => rfl) (by first | (intro j q0 q1; exfalso; omega) | exact fun j q0 q1 => ⟨(ks j q0 q1).1, by have := (ks j q0 q1).2.1; omega, (ks j q0 q1).2.2⟩) (by first | (intro i j q0 q1 q2; exfalso; omega) | exact ko) (by omega) _ _ _ hw (lv_sub hl [1, 2, 3, 4, 5, 6, 0] rfl)
            refine q_if_ne (tgt := 75) hx hb dX10_laysKeys_69 (by decide) ⟨lx_5, ux_5⟩ (fun c69 => ?_) (fun c69 => ?_)
            · refine lv_aload_n hx hb dX10_laysKeys_75 rfl (lv_at hl 0 rfl) ?_
              refine q_getr (ci := 8) (C := RX10) (T := TX10) (N := 26) hx hb hts (fun w h => List.mem_cons_of_mem _ (mfX100 w h)) hown hK hw hs.1 hs.2.1 rfl 12 (by decide) (hts _ (List.mem_cons_of_mem _ (mr3 _ (List.mem_of_getElem? (i := 20) rfl)))) (fun _ h => h) rfl (hs.2.2.1 12 rfl).1 dX10_laysKeys_76 ?_
              refine q_ldc (n := 36525) hx hb hown (hts _ (List.mem_cons_of_mem _ (mr3 _ (List.mem_of_getElem? (i := 9) rfl)))) rfl dX10_laysKeys_79 ?_
              refine lv_iload_n hx hb dX10_laysKeys_81 rfl (lv_at hl 2 rfl) ?_
              first | refine q_imul hx hb dX10_laysKeys_82 ⟨by omega, by omega⟩ (fun x_7 lx_7 ux_7 ex_7 => ?_) | refine q_imulw hx hb dX10_laysKeys_82 (fun x_7 lx_7 ux_7 ex_7 => ?_)
              refine lv_iload_n hx hb dX10_laysKeys_83 rfl (lv_at hl 3 rfl) ?_
              first | refine q_iadd hx hb dX10_laysKeys_84 ⟨by omega, by omega⟩ (fun x_8 lx_8 ux_8 ex_8 => ?_) | refine q_iaddw hx hb dX10_laysKeys_84 (fun x_8 lx_8 ux_8 ex_8 => ?_)
              refine lv_iload hx hb dX10_laysKeys_85 (lv_at hl 6 rfl) ?_
              refine q_iast hx hb hK hw (hs.2.2.1 12 rfl).2.1 1 (hs.2.2.1 12 rfl).2.2 rfl ⟨lx_8, ux_8⟩ (by omega) (by show _ < ((73050 : Nat) : Int); omega) dX10_laysKeys_87 (fun H locs hw => ?_)
              obtain ⟨f_9, ef_9⟩ : ∃ g : Nat → va_E, g = aU fw44 (ad 12) x_8 (iI y6_44) := ⟨_, rfl⟩
              have hE := hE.trans (show Kp a0 ad [12, 13] [] fw44 f_9 by rw [ef_9]; exact Kp_aU hs rfl (by decide))
              have hs_ := hs
              have hs : MS cy L0 f_9 a0 ad := by rw [ef_9]; exact MS_aU hs rfl
              rw [← ef_9] at hw
              have q0_f_9 : aI f_9 (ad 4) (44 * x1 + 3) = aI f0 (ad 4) (44 * x1 + 3) := hE.1 4 rfl (by decide) _
              have q1_f_9 : aI f_9 (ad 4) (44 * x1 + 4) = aI f0 (ad 4) (44 * x1 + 4) := hE.1 4 rfl (by decide) _
              have q2_f_9 : aI f_9 (ad 4) (44 * x1 + 5) = aI f0 (ad 4) (44 * x1 + 5) := hE.1 4 rfl (by decide) _
              have q3_f_9 : aI f_9 (ad 4) (44 * x1 + 8) = aI f0 (ad 4) (44 * x1 + 8) := hE.1 4 rfl (by decide) _
              have q4_f_9 : aI f_9 (ad 4) (44 * x1 + 9) = aI f0 (ad 4) (44 * x1 + 9) := hE.1 4 rfl (by decide) _
              have q5_f_9 : aI f_9 (ad 4) (44 * x1 + 10) = aI f0 (ad 4) (44 * x1 + 10) := hE.1 4 rfl (by decide) _
              have kr : ∀ x : Int, aI f_9 (ad 13) x = aI f0 (ad 13) x := fun x => Eq.trans (by rw [ef_9]; exact hs_.aI_ne rfl rfl (by decide) _) (kr x)
              have kn : ∀ j : Int, 0 ≤ j → j < y3_44 → aI f_9 (ad 12) (36525 * x2 + j) = aI fw44 (ad 12) (36525 * x2 + j) := fun j q0 q1 => by rw [ef_9]; exact hs_.aI_nj rfl (by omega) (by omega) (by omega)
              have kv : aI f_9 (ad 12) (36525 * x2 + y3_44) = y6_44 := (aI_cg (show 36525 * x2 + y3_44 = x_8 by omega)).trans (by rw [ef_9]; exact hs_.aI_self rfl ⟨by omega, by omega⟩)
              have ks' : ∀ j : Int, 0 ≤ j → j < y3_44 + 1 → aI f0 (ad 4) (44 * x1 + 10) ≤ aI f_9 (ad 12) (36525 * x2 + j) ∧ aI f_9 (ad 12) (36525 * x2 + j) < y6_44 + 1 ∧ aI f_9 (ad 12) (36525 * x2 + j) ≤ UN (aI f0 (ad 4)) (44 * x1) := by
                intro j q0 q1
                by_cases ej : j = y3_44
                · rw [ej, kv]; exact ⟨by omega, by omega, by omega⟩
                · rw [kn j q0 (by omega)]; have := ks j q0 (by omega); exact ⟨this.1, by omega, this.2.2⟩
              have ko' : ∀ i j : Int, 0 ≤ i → i < j → j < y3_44 + 1 → aI f_9 (ad 12) (36525 * x2 + i) < aI f_9 (ad 12) (36525 * x2 + j) := by
                intro i j q0 q1 q2
                by_cases ej : j = y3_44
                · rw [ej, kv, kn i q0 (by omega)]; exact (ks i q0 (by omega)).2.1
                · rw [kn i q0 (by omega), kn j (by omega) (by omega)]; exact ko i j q0 q1 (by omega)
              obtain ⟨x_10, lx_10, ux_10, hx_10, ex_10⟩ := q_inc y3_44 (1)
              try (replace ex_10 : x_10 = y3_44 + (1) := by omega)
              refine lv_iinc (v := iI x_10) (lv' := [(3, .int (iI x_10)), (0, .ref a0), (1, .int (iI x1)), (2, .int (iI x2)), (4, .int (iI x_1)), (5, .int (iI w0_33)), (6, .int (iI y6_44))]) hx hb dX10_laysKeys_88 hl (k := 3) rfl hx_10 (by decide) rfl (fun ls hl => ?_)
              exact J91 x_10 lx_10 ux_10 L0 f_9 hs hE (by omega) (by omega) (by exact kr) (by first | exact fun j q0 q1 => ks' j q0 (by omega) | exact fun j q0 q1 => ⟨(ks j q0 q1).1, by have := (ks j q0 q1).2.1; omega, (ks j q0 q1).2.2⟩) (by first | exact fun i j q0 q1 q2 => ko' i j q0 q1 (by omega) | exact ko) _ _ _ hw (lv_sub hl [1, 2, 3, 0, 4, 5, 6] rfl)
            · refine lv_goto (tgt := 91) hx hb dX10_laysKeys_72 (by decide) ?_
              exact J91 y3_44 ly3_44 uy3_44 L0 fw44 hs hE (by omega) (by omega) (by exact kr) (by first | exact fun j q0 q1 => ks' j q0 (by omega) | exact fun j q0 q1 => ⟨(ks j q0 q1).1, by have := (ks j q0 q1).2.1; omega, (ks j q0 q1).2.2⟩) (by first | exact fun i j q0 q1 q2 => ko' i j q0 q1 (by omega) | exact ko) _ _ _ hw (lv_sub hl [0, 1, 2, 3, 4, 5, 6] rfl)
          refine q_if_lt (tgt := 62) hx hb dX10_laysKeys_53 (by decide) ⟨lx_1, ux_1⟩ (fun c53 => ?_) (fun c53 => ?_)
          · exact J62 _ _ _ hw (lv_sub hl [0, 1, 2, 3, 4, 5, 6] rfl)
          · refine lv_iload_n hx hb dX10_laysKeys_56 rfl (lv_at hl 3 rfl) ?_
            refine lv_iload hx hb dX10_laysKeys_57 (lv_at hl 4 rfl) ?_
            refine q_icmp_ge (tgt := 97) hx hb dX10_laysKeys_59 (by decide) ⟨ly3_44, uy3_44⟩ ⟨lx_1, ux_1⟩ (fun c59 => ?_) (fun c59 => ?_)
            · exact J97 _ _ _ hw (lv_sub hl [0, 2, 3] rfl)
            · exact J62 _ _ _ hw (lv_sub hl [0, 1, 2, 3, 4, 5, 6] rfl)
    exact J44 ((((2147483647 : Int) - x_3).toNat) + 1) 0 (by decide) (by decide) x_3 lx_3 ux_3 L0 f0 hs hE (by omega) (by omega) (by omega) (by omega) (by first | exact kr | exact fun _ => rfl) (by first | (intro j q0 q1; exfalso; omega) | exact fun j q0 q1 => ⟨(ks j q0 q1).1, by have := (ks j q0 q1).2.1; omega, (ks j q0 q1).2.2⟩) (by first | (intro i j q0 q1 q2; exfalso; omega) | exact ko) (by omega) _ _ _ hw (lv_sub hl [2, 3, 4, 5, 6, 1, 0] rfl)
  refine q_if_ge (tgt := 26) hx hb dX10_laysKeys_18 (by decide) ⟨lx_2, ux_2⟩ (fun c18 => ?_) (fun c18 => ?_)
  · refine lv_aload_n hx hb dX10_laysKeys_26 rfl (lv_at hl 2 rfl) ?_
    refine lv_iload_n hx hb dX10_laysKeys_27 rfl (lv_at hl 3 rfl) ?_
    refine q_bipush hx hb dX10_laysKeys_28 rfl ?_
    refine q_call_i hA hK hw (va_runV (As := [.int (iI x1), .int (iI 8)]) (rest := []) ⟨hx, hb, hml, hown, hts⟩ (c_X10_get zo l D cy L0 f0 a0 x1 lx1 ux1 8 (by decide) (by decide) ad hs (by omega) (by omega) (by omega) (by omega) _) (cwV 2 hts (gT (inV (mr25 _ (List.mem_of_getElem? (i := 0) rfl)) (mr25 _ (List.mem_of_getElem? (i := 1) rfl)) (mr25 _ (List.mem_of_getElem? (i := 2) rfl)) (mr1 _ (List.mem_of_getElem? (i := 5) rfl)) (mr25 _ (List.mem_of_getElem? (i := 3) rfl)))) rfl rfl rfl (by decide +kernel) ⟨Nat.le_of_ble_eq_true rfl, Nat.le_of_ble_eq_true rfl⟩) (Wd.preV zo hA hZ hw hK hs.1 hs.2.1 rfl) rfl rfl hl.1 rfl (lv_room (Nat.le_of_ble_eq_true rfl)) dX10_laysKeys_30 ⟨Nat.le_of_ble_eq_true rfl, Nat.le_of_ble_eq_true rfl⟩) (fun x_11 L1 f1 H locs lx_11 ux_11 ex_11 hw => ?_)
    obtain ⟨rfl, rfl, ex_11⟩ := ex_11
    exact J33 x_11 lx_11 ux_11 (by omega) (by first | (unfold UN; rw [if_pos (by omega)]; done) | (unfold UN; rw [if_neg (by omega)]; omega)) _ _ _ hw (lv_sub hl [2, 3, 4, 1, 0] rfl)
  · refine q_ldc (n := 36524) hx hb hown (hts _ (List.mem_cons_of_mem _ (mr24 _ (List.mem_of_getElem? (i := 0) rfl)))) rfl dX10_laysKeys_21 ?_
    refine lv_goto (tgt := 33) hx hb dX10_laysKeys_23 (by decide) ?_
    exact J33 36524 (by decide) (by decide) (by omega) (by first | (unfold UN; rw [if_pos (by omega)]; done) | (unfold UN; rw [if_neg (by omega)]; omega)) _ _ _ hw (lv_sub hl [2, 3, 4, 1, 0] rfl)
set_option maxHeartbeats 4000000 in
set_option maxRecDepth 100000 in
theorem c_X10_forgets {Z : Zt} (zo : Zok Z) (l : Launch) (D : va_G) (cy : Cy) (L0 : List Nat) (f0 : Nat → va_E) (a0 : Nat) (x1 : Int) (lx1 : -2147483648 ≤ x1) (ux1 : x1 ≤ 2147483647) (x2 : Int) (lx2 : -2147483648 ≤ x2) (ux2 : x2 ≤ 2147483647) (ad : Nat → Nat) (hs : MS cy L0 f0 a0 ad) (b1 : 0 ≤ x1) (b2 : x1 ≤ 11) (k1 : 0 ≤ x2) (k2 : x2 < aI f0 (ad 4) (44 * x1 + 11)) (k3 : aI f0 (ad 4) (44 * x1 + 11) ≤ 16) : Cv Z l yX10_forgets (Cond.code yX10_forgets cX10_forgets 4 none :: TB) ({ frames := 1, cells := 0, slots := 0, locals := 22 } : Room) 0 0 D (tq cy) [.ref a0, .int (iI x1), .int (iI x2)] L0 f0 (fun (L1 : List Nat) (f1 : Nat → va_E) => L0 = L1 ∧ MS cy L0 f1 a0 ad ∧ Kp a0 ad [4] [] f0 f1 ∧ (aI f1 (ad 4) (44 * x1 + 11) = aI f0 (ad 4) (44 * x1 + 11) - 1 ∧ (∀ x : Int, 44 * x1 + 12 + 2 * x2 ≤ x → x < 44 * x1 + 12 + 2 * (aI f0 (ad 4) (44 * x1 + 11) - 1) → aI f1 (ad 4) x = aI f0 (ad 4) (x + 2)) ∧ (∀ x : Int, 0 ≤ x → x ≠ 44 * x1 + 11 → (x < 44 * x1 + 12 + 2 * x2 ∨ 44 * x1 + 12 + 2 * (aI f0 (ad 4) (44 * x1 + 11) - 1) ≤ x) → aI f1 (ad 4) x = aI f0 (ad 4) x))) := by
  refine Cv.enter (cc := cX10_forgets) (n := 4) rfl (plainFor_of_name (by decide)) (Nat.le_of_ble_eq_true rfl) ?_
  intro p e s m below meth c ls A hx hb hr hts hown hlocks hnm hml hK hA hAe hw hZ hl
  have hown : s.vm.findClass RX10 = some m.cls := hown
  have hl : lv_has ls 4 [(0, .ref a0), (1, .int (iI x1)), (2, .int (iI x2))] := hl
  have hN : ZN s := (zo.2.2.2.2 _ _ _ hZ).2
  have hE : Kp a0 ad [4] [] f0 f0 := Kp.refl _ _ _ _ _
  refine lv_aload_n hx hb dX10_forgets_0 rfl (lv_at hl 0 rfl) ?_
  refine q_getr (ci := 8) (C := RX10) (T := TX10) (N := 26) hx hb hts (fun w h => List.mem_cons_of_mem _ (mfX100 w h)) hown hK hw hs.1 hs.2.1 rfl 4 (by decide) (hts _ (List.mem_cons_of_mem _ (mr3 _ (List.mem_of_getElem? (i := 14) rfl)))) (fun _ h => h) rfl (hs.2.2.1 4 rfl).1 dX10_forgets_1 ?_
  refine q_bipush hx hb dX10_forgets_4 rfl ?_
  refine lv_iload_n hx hb dX10_forgets_6 rfl (lv_at hl 1 rfl) ?_
  first | refine q_imul hx hb dX10_forgets_7 ⟨by omega, by omega⟩ (fun x_1 lx_1 ux_1 ex_1 => ?_) | refine q_imulw hx hb dX10_forgets_7 (fun x_1 lx_1 ux_1 ex_1 => ?_)
  refine q_bipush hx hb dX10_forgets_8 rfl ?_
  first | refine q_iadd hx hb dX10_forgets_10 ⟨by omega, by omega⟩ (fun x_2 lx_2 ux_2 ex_2 => ?_) | refine q_iaddw hx hb dX10_forgets_10 (fun x_2 lx_2 ux_2 ex_2 => ?_)
  refine lv_dup2_11 hx hb dX10_forgets_11 rfl rfl ?_
  refine q_iald hx hb hK hw (hs.2.2.1 4 rfl).2.1 1 (hs.2.2.1 4 rfl).2.2 rfl ⟨lx_2, ux_2⟩ (by omega) (by show _ < ((528 : Nat) : Int); omega) dX10_forgets_12 (fun x_3 lx_3 ux_3 ex_3 => ?_)
  refine q_iconst hx hb dX10_forgets_13 ?_
  first | refine q_isub hx hb dX10_forgets_14 ⟨by omega, by omega⟩ (fun x_4 lx_4 ux_4 ex_4 => ?_) | refine q_isubw hx hb dX10_forgets_14 (fun x_4 lx_4 ux_4 ex_4 => ?_)
  refine q_iast hx hb hK hw (hs.2.2.1 4 rfl).2.1 1 (hs.2.2.1 4 rfl).2.2 rfl ⟨lx_2, ux_2⟩ (by omega) (by show _ < ((528 : Nat) : Int); omega) dX10_forgets_15 (fun H locs hw => ?_)
  obtain ⟨f_5, ef_5⟩ : ∃ g : Nat → va_E, g = aU f0 (ad 4) x_2 (iI x_4) := ⟨_, rfl⟩
  have hE := hE.trans (show Kp a0 ad [4] [] f0 f_5 by rw [ef_5]; exact Kp_aU hs rfl (by decide))
  have hs_ := hs
  have hs : MS cy L0 f_5 a0 ad := by rw [ef_5]; exact MS_aU hs rfl
  rw [← ef_5] at hw
  have ga : aI f0 (ad 4) x_2 = aI f0 (ad 4) (44 * x1 + 11) := aI_cg (by omega)
  have fa : aI f_5 (ad 4) (44 * x1 + 11) = aI f0 (ad 4) (44 * x1 + 11) - 1 := (aI_cg (show 44 * x1 + 11 = x_2 by omega)).trans (Eq.trans (by rw [ef_5]; exact hs_.aI_self rfl ⟨by omega, by omega⟩) (show x_4 = aI f0 (ad 4) (44 * x1 + 11) - 1 by omega))
  have fc0 : ∀ x : Int, 0 ≤ x → x ≠ 44 * x1 + 11 → aI f_5 (ad 4) x = aI f0 (ad 4) x := fun x q0 q1 => by rw [ef_5]; exact hs_.aI_nj rfl (by omega) q0 (by omega)
  refine q_bipush hx hb dX10_forgets_16 rfl ?_
  refine q_iconst hx hb dX10_forgets_18 ?_
  refine lv_iload_n hx hb dX10_forgets_19 rfl (lv_at hl 2 rfl) ?_
  first | refine q_imul hx hb dX10_forgets_20 ⟨by omega, by omega⟩ (fun x_6 lx_6 ux_6 ex_6 => ?_) | refine q_imulw hx hb dX10_forgets_20 (fun x_6 lx_6 ux_6 ex_6 => ?_)
  first | refine q_iadd hx hb dX10_forgets_21 ⟨by omega, by omega⟩ (fun x_7 lx_7 ux_7 ex_7 => ?_) | refine q_iaddw hx hb dX10_forgets_21 (fun x_7 lx_7 ux_7 ex_7 => ?_)
  refine lv_istore_n (lv' := [(3, .int (iI x_7)), (0, .ref a0), (1, .int (iI x1)), (2, .int (iI x2))]) hx hb dX10_forgets_22 rfl hl (by decide) rfl (fun ls hl => ?_)
  have J23 : ∀ (n23 : Nat) (y3_23 : Int) (ly3_23 : -2147483648 ≤ y3_23) (uy3_23 : y3_23 ≤ 2147483647) (L : List Nat) (fw23 : Nat → va_E) (hs : MS cy L0 fw23 a0 ad) (hE : Kp a0 ad [4] [] f0 fw23) (i1 : 12 + 2 * x2 ≤ y3_23) (i2 : y3_23 ≤ 12 + 2 * (aI f0 (ad 4) (44 * x1 + 11) - 1)) (fa : aI fw23 (ad 4) (44 * x1 + 11) = aI f0 (ad 4) (44 * x1 + 11) - 1) (fb : ∀ x : Int, 44 * x1 + 12 + 2 * x2 ≤ x → x < 44 * x1 + y3_23 → aI fw23 (ad 4) x = aI f0 (ad 4) (x + 2)) (fc : ∀ x : Int, 0 ≤ x → x ≠ 44 * x1 + 11 → (x < 44 * x1 + 12 + 2 * x2 ∨ 44 * x1 + y3_23 ≤ x) → aI fw23 (ad 4) x = aI f0 (ad 4) x) (hn23 : ((2147483647 : Int) - y3_23).toNat < n23) (H : Heap) (locs : List Loc) (ls : Array Slot) (hw : Wd D A s.heap L0 fw23 H locs) (hl : lv_has ls 4 [(0, .ref a0), (1, .int (iI x1)), (3, .int (iI y3_23))]), W p l e ({ frames := 1, cells := 0, slots := 0, locals := 22 } : Room) s m ([.ref a0, .int (iI x1), .int (iI x2)] : List Value).toArray below meth c H locs (0) (0) (MQ below (Qv D (tq cy) L0 f0 s.heap.size (fun (L1 : List Nat) (f1 : Nat → va_E) => L0 = L1 ∧ MS cy L0 f1 a0 ad ∧ Kp a0 ad [4] [] f0 f1 ∧ (aI f1 (ad 4) (44 * x1 + 11) = aI f0 (ad 4) (44 * x1 + 11) - 1 ∧ (∀ x : Int, 44 * x1 + 12 + 2 * x2 ≤ x → x < 44 * x1 + 12 + 2 * (aI f0 (ad 4) (44 * x1 + 11) - 1) → aI f1 (ad 4) x = aI f0 (ad 4) (x + 2)) ∧ (∀ x : Int, 0 ≤ x → x ≠ 44 * x1 + 11 → (x < 44 * x1 + 12 + 2 * x2 ∨ 44 * x1 + 12 + 2 * (aI f0 (ad 4) (44 * x1 + 11) - 1) ≤ x) → aI f1 (ad 4) x = aI f0 (ad 4) x)))) ([.ref a0, .int (iI x1), .int (iI x2)] : List Value).toArray s 0 0 A) (F0 m 23 ls []) := by
    intro n23
    induction n23 with
    | zero => intro y3_23 ly3_23 uy3_23 L fw23 hs hE i1 i2 fa fb fc hn23; exact absurd hn23 (Nat.not_lt_zero _)
    | succ n23 ih23 =>
      intro y3_23 ly3_23 uy3_23 L fw23 hs hE i1 i2 fa fb fc hn23 H locs ls hw hl
      refine lv_iload_n hx hb dX10_forgets_23 rfl (lv_at hl 2 rfl) ?_
      refine q_bipush hx hb dX10_forgets_24 rfl ?_
      refine q_iconst hx hb dX10_forgets_26 ?_
      refine lv_aload_n hx hb dX10_forgets_27 rfl (lv_at hl 0 rfl) ?_
      refine lv_iload_n hx hb dX10_forgets_28 rfl (lv_at hl 1 rfl) ?_
      refine q_bipush hx hb dX10_forgets_29 rfl ?_
      refine q_call_i hA hK hw (va_runV (As := [.int (iI x1), .int (iI 11)]) (rest := [.int (iI 2), .int (iI 12), .int (iI y3_23)]) ⟨hx, hb, hml, hown, hts⟩ (c_X10_get zo l D cy L0 fw23 a0 x1 lx1 ux1 11 (by decide) (by decide) ad hs (by omega) (by omega) (by omega) (by omega) _) (cwV 2 hts (gT (inV (mr25 _ (List.mem_of_getElem? (i := 0) rfl)) (mr25 _ (List.mem_of_getElem? (i := 1) rfl)) (mr25 _ (List.mem_of_getElem? (i := 2) rfl)) (mr1 _ (List.mem_of_getElem? (i := 5) rfl)) (mr25 _ (List.mem_of_getElem? (i := 3) rfl)))) rfl rfl rfl (by decide +kernel) ⟨Nat.le_of_ble_eq_true rfl, Nat.le_of_ble_eq_true rfl⟩) (Wd.preV zo hA hZ hw hK hs.1 hs.2.1 rfl) rfl rfl hl.1 rfl (lv_room (Nat.le_of_ble_eq_true rfl)) dX10_forgets_31 ⟨Nat.le_of_ble_eq_true rfl, Nat.le_of_ble_eq_true rfl⟩) (fun x_8 L1 f1 H locs lx_8 ux_8 ex_8 hw => ?_)
      obtain ⟨rfl, rfl, ex_8⟩ := ex_8
      first | refine q_imul hx hb dX10_forgets_34 ⟨by omega, by omega⟩ (fun x_9 lx_9 ux_9 ex_9 => ?_) | refine q_imulw hx hb dX10_forgets_34 (fun x_9 lx_9 ux_9 ex_9 => ?_)
      first | refine q_iadd hx hb dX10_forgets_35 ⟨by omega, by omega⟩ (fun x_10 lx_10 ux_10 ex_10 => ?_) | refine q_iaddw hx hb dX10_forgets_35 (fun x_10 lx_10 ux_10 ex_10 => ?_)
      refine q_icmp_ge (tgt := 69) hx hb dX10_forgets_36 (by decide) ⟨ly3_23, uy3_23⟩ ⟨lx_10, ux_10⟩ (fun c36 => ?_) (fun c36 => ?_)
      · exact q_ret_v hx hb hr hlocks hK hAe hw (Nat.le_of_ble_eq_true rfl) (Nat.le_of_ble_eq_true rfl) dX10_forgets_69 (by exact ⟨rfl, hs, hE, fa, fun x q0 q1 => fb x q0 (by omega), fun x q0 q1 q2 => fc x q0 q1 (by omega)⟩)
      · refine lv_aload_n hx hb dX10_forgets_39 rfl (lv_at hl 0 rfl) ?_
        refine q_getr (ci := 8) (C := RX10) (T := TX10) (N := 26) hx hb hts (fun w h => List.mem_cons_of_mem _ (mfX100 w h)) hown hK hw hs.1 hs.2.1 rfl 4 (by decide) (hts _ (List.mem_cons_of_mem _ (mr3 _ (List.mem_of_getElem? (i := 14) rfl)))) (fun _ h => h) rfl (hs.2.2.1 4 rfl).1 dX10_forgets_40 ?_
        refine q_bipush hx hb dX10_forgets_43 rfl ?_
        refine lv_iload_n hx hb dX10_forgets_45 rfl (lv_at hl 1 rfl) ?_
        first | refine q_imul hx hb dX10_forgets_46 ⟨by omega, by omega⟩ (fun x_11 lx_11 ux_11 ex_11 => ?_) | refine q_imulw hx hb dX10_forgets_46 (fun x_11 lx_11 ux_11 ex_11 => ?_)
        refine lv_iload_n hx hb dX10_forgets_47 rfl (lv_at hl 2 rfl) ?_
        first | refine q_iadd hx hb dX10_forgets_48 ⟨by omega, by omega⟩ (fun x_12 lx_12 ux_12 ex_12 => ?_) | refine q_iaddw hx hb dX10_forgets_48 (fun x_12 lx_12 ux_12 ex_12 => ?_)
        refine lv_aload_n hx hb dX10_forgets_49 rfl (lv_at hl 0 rfl) ?_
        refine q_getr (ci := 8) (C := RX10) (T := TX10) (N := 26) hx hb hts (fun w h => List.mem_cons_of_mem _ (mfX100 w h)) hown hK hw hs.1 hs.2.1 rfl 4 (by decide) (hts _ (List.mem_cons_of_mem _ (mr3 _ (List.mem_of_getElem? (i := 14) rfl)))) (fun _ h => h) rfl (hs.2.2.1 4 rfl).1 dX10_forgets_50 ?_
        refine q_bipush hx hb dX10_forgets_53 rfl ?_
        refine lv_iload_n hx hb dX10_forgets_55 rfl (lv_at hl 1 rfl) ?_
        first | refine q_imul hx hb dX10_forgets_56 ⟨by omega, by omega⟩ (fun x_13 lx_13 ux_13 ex_13 => ?_) | refine q_imulw hx hb dX10_forgets_56 (fun x_13 lx_13 ux_13 ex_13 => ?_)
        refine lv_iload_n hx hb dX10_forgets_57 rfl (lv_at hl 2 rfl) ?_
        first | refine q_iadd hx hb dX10_forgets_58 ⟨by omega, by omega⟩ (fun x_14 lx_14 ux_14 ex_14 => ?_) | refine q_iaddw hx hb dX10_forgets_58 (fun x_14 lx_14 ux_14 ex_14 => ?_)
        refine q_iconst hx hb dX10_forgets_59 ?_
        first | refine q_iadd hx hb dX10_forgets_60 ⟨by omega, by omega⟩ (fun x_15 lx_15 ux_15 ex_15 => ?_) | refine q_iaddw hx hb dX10_forgets_60 (fun x_15 lx_15 ux_15 ex_15 => ?_)
        refine q_iald hx hb hK hw (hs.2.2.1 4 rfl).2.1 1 (hs.2.2.1 4 rfl).2.2 rfl ⟨lx_15, ux_15⟩ (by omega) (by show _ < ((528 : Nat) : Int); omega) dX10_forgets_61 (fun x_16 lx_16 ux_16 ex_16 => ?_)
        refine q_iast hx hb hK hw (hs.2.2.1 4 rfl).2.1 1 (hs.2.2.1 4 rfl).2.2 rfl ⟨lx_12, ux_12⟩ (by omega) (by show _ < ((528 : Nat) : Int); omega) dX10_forgets_62 (fun H locs hw => ?_)
        obtain ⟨f_17, ef_17⟩ : ∃ g : Nat → va_E, g = aU fw23 (ad 4) x_12 (iI x_16) := ⟨_, rfl⟩
        have hE := hE.trans (show Kp a0 ad [4] [] fw23 f_17 by rw [ef_17]; exact Kp_aU hs rfl (by decide))
        have hs_ := hs
        have hs : MS cy L0 f_17 a0 ad := by rw [ef_17]; exact MS_aU hs rfl
        rw [← ef_17] at hw
        have fa : aI f_17 (ad 4) (44 * x1 + 11) = aI f0 (ad 4) (44 * x1 + 11) - 1 := Eq.trans (by rw [ef_17]; exact hs_.aI_nj rfl (by omega) (by omega) (by omega)) fa
        have fv : aI f_17 (ad 4) x_12 = aI f0 (ad 4) (x_12 + 2) := by
          have q := fc (x_12 + 2) (by omega) (by omega) (by omega)
          rw [ef_17]; exact Eq.trans (hs_.aI_self rfl ⟨by omega, by omega⟩) (Eq.trans ex_16 (Eq.trans (aI_cg (by omega)) q))
        have fb' : ∀ x : Int, 44 * x1 + 12 + 2 * x2 ≤ x → x < 44 * x1 + y3_23 + 1 → aI f_17 (ad 4) x = aI f0 (ad 4) (x + 2) := by
          intro x q0 q1
          by_cases ex : x = x_12
          · rw [ex]; exact fv
          · exact Eq.trans (by rw [ef_17]; exact hs_.aI_nj rfl (by omega) (by omega) ex) (fb x q0 (by omega))
        have fc' : ∀ x : Int, 0 ≤ x → x ≠ 44 * x1 + 11 → (x < 44 * x1 + 12 + 2 * x2 ∨ 44 * x1 + y3_23 + 1 ≤ x) → aI f_17 (ad 4) x = aI f0 (ad 4) x := fun x q0 q1 q2 => Eq.trans (by rw [ef_17]; exact hs_.aI_nj rfl (by omega) q0 (by omega)) (fc x q0 q1 (by omega))
        obtain ⟨x_18, lx_18, ux_18, hx_18, ex_18⟩ := q_inc y3_23 (1)
        try (replace ex_18 : x_18 = y3_23 + (1) := by omega)
        refine lv_iinc (v := iI x_18) (lv' := [(3, .int (iI x_18)), (0, .ref a0), (1, .int (iI x1))]) hx hb dX10_forgets_63 hl (k := 2) rfl hx_18 (by decide) rfl (fun ls hl => ?_)
        refine lv_goto (tgt := 23) hx hb dX10_forgets_66 (by decide) ?_
        exact ih23 x_18 lx_18 ux_18 L0 f_17 hs hE (by omega) (by omega) (by exact fa) (by first | (intro x q0 q1; exfalso; omega) | exact fun x q0 q1 => fb' x q0 (by omega)) (by first | exact fun x q0 q1 q2 => fc' x q0 q1 (by omega) | exact fun x q0 q1 _ => fc0 x q0 q1) (by omega) _ _ _ hw (lv_sub hl [1, 2, 0] rfl)
  exact J23 ((((2147483647 : Int) - x_7).toNat) + 1) x_7 lx_7 ux_7 L0 f_5 hs hE (by omega) (by omega) (by exact fa) (by first | (intro x q0 q1; exfalso; omega) | exact fun x q0 q1 => fb' x q0 (by omega)) (by first | exact fun x q0 q1 q2 => fc' x q0 q1 (by omega) | exact fun x q0 q1 _ => fc0 x q0 q1) (by omega) _ _ _ hw (lv_sub hl [1, 2, 0] rfl)