set_option maxHeartbeats 4000000 in
set_option maxRecDepth 100000 in
theorem c_X10_laysKeys_w {Z : Zt} (zo : Zok Z) (l : Launch) (D : va_G) (cy : Cy) (L0 : List Nat) (f0 : Nat → va_E) (a0 : Nat) (x1 : Int) (lx1 : -2147483648 ≤ x1) (ux1 : x1 ≤ 2147483647) (x2 : Int) (lx2 : -2147483648 ≤ x2) (ux2 : x2 ≤ 2147483647) (ad : Nat → Nat) (hs : MS cy L0 f0 a0 ad) (b1 : 0 ≤ x1) (b2 : x1 ≤ 11) (s34 : aI f0 (ad 4) (44 * x1 + 3) = 0 ∨ 1 ≤ aI f0 (ad 4) (44 * x1 + 4)) (s5a : 0 ≤ aI f0 (ad 4) (44 * x1 + 5)) (s5b : aI f0 (ad 4) (44 * x1 + 5) ≤ 36524) (s8a : -1 ≤ aI f0 (ad 4) (44 * x1 + 8)) (s8b : aI f0 (ad 4) (44 * x1 + 8) ≤ 36524) (saa : 0 ≤ aI f0 (ad 4) (44 * x1 + 10)) (sab : aI f0 (ad 4) (44 * x1 + 10) ≤ 36524) (w1 : 0 ≤ x2) (w2 : x2 ≤ 1) (hd : DT f0 ad 36525) (ok : okW (aI f0 (ad 4) (44 * x1 + 3)) (aI f0 (ad 4) (44 * x1 + 4)) (aI f0 (ad 4) (44 * x1 + 6)) (aI f0 (ad 4) (44 * x1 + 7))) : Ci Z l yX10_laysKeys (Cond.code yX10_laysKeys cX10_laysKeys 7 (some .int) :: TB) ({ frames := 2, cells := 0, slots := 0, locals := 48 } : Room) 0 0 D (tq cy) [.ref a0, .int (iI x1), .int (iI x2)] L0 f0 (fun (r : Int) (L1 : List Nat) (f1 : Nat → va_E) => L0 = L1 ∧ MS cy L0 f1 a0 ad ∧ Kp a0 ad [12, 13] [] f0 f1 ∧ (0 ≤ r ∧ r ≤ 36525 ∧ aI f1 (ad 13) x2 = r ∧ (∀ x : Int, 0 ≤ x → x ≠ x2 → aI f1 (ad 13) x = aI f0 (ad 13) x) ∧ (∀ j : Int, 0 ≤ j → j < r → aI f0 (ad 4) (44 * x1 + 10) ≤ aI f1 (ad 12) (36525 * x2 + j) ∧ aI f1 (ad 12) (36525 * x2 + j) ≤ UN (aI f0 (ad 4)) (44 * x1)) ∧ (∀ i j : Int, 0 ≤ i → i < j → j < r → aI f1 (ad 12) (36525 * x2 + i) < aI f1 (ad 12) (36525 * x2 + j)) ∧ KL (Ky (onK (aI f0 (ad 4) (44 * x1 + 3)) (aI f0 (ad 4) (44 * x1 + 4)) (aI f0 (ad 4) (44 * x1 + 5)) (aI f0 (ad 4) (44 * x1 + 6)) (aI f0 (ad 4) (44 * x1 + 7))) (aI f0 (ad 4) (44 * x1 + 10)) (UN (aI f0 (ad 4)) (44 * x1)) (aI f0 (ad 4) (44 * x1 + 9))) (fun j => aI f1 (ad 12) (36525 * x2 + j)) r ∧ ∀ x : Int, 0 ≤ x → (x < 36525 * x2 ∨ 36525 * x2 + 36525 ≤ x) → aI f1 (ad 12) x = aI f0 (ad 12) x)) := by
  refine Ci.enter (cc := cX10_laysKeys) (n := 7) rfl (plainFor_of_name (by decide)) (Nat.le_of_ble_eq_true rfl) ?_
  intro p e s m below meth c ls A hx hb hr hts hown hlocks hnm hml hK hA hAe hw hZ hl
  have hown : s.vm.findClass RX10 = some m.cls := hown
  have hl : lv_has ls 7 [(0, .ref a0), (1, .int (iI x1)), (2, .int (iI x2))] := hl
  have hN : ZN s := (zo.2.2.2.2 _ _ _ hZ).2
  have hE : Kp a0 ad [12, 13] [] f0 f0 := Kp.refl _ _ _ _ _
  refine q_iconst hx hb dX10_laysKeys_0 ?_
  refine lv_istore_n (lv' := [(3, .int (iI 0)), (0, .ref a0), (1, .int (iI x1)), (2, .int (iI x2))]) hx hb dX10_laysKeys_1 rfl hl (by decide) rfl (fun ls hl => ?_)
  refine lv_aload_n hx hb dX10_laysKeys_2 rfl (lv_at hl 1 rfl) ?_
  refine lv_iload_n hx hb dX10_laysKeys_3 rfl (lv_at hl 2 rfl) ?_
  refine q_bipush hx hb dX10_laysKeys_4 rfl ?_
  refine q_call_i hA hK hw (va_runV (As := [.int (iI x1), .int (iI 9)]) (rest := []) ⟨hx, hb, hml, hown, hts⟩ (c_X10_get zo l D cy L0 f0 a0 x1 lx1 ux1 9 (by decide) (by decide) ad hs (by omega) (by omega) (by omega) (by omega) _) (cwV 2 hts (gT (inV (mr25 _ (List.mem_of_getElem? (i := 0) rfl)) (mr25 _ (List.mem_of_getElem? (i := 1) rfl)) (mr25 _ (List.mem_of_getElem? (i := 2) rfl)) (mr1 _ (List.mem_of_getElem? (i := 5) rfl)) (mr25 _ (List.mem_of_getElem? (i := 3) rfl)))) rfl rfl rfl (by decide +kernel) ⟨Nat.le_of_ble_eq_true rfl, Nat.le_of_ble_eq_true rfl⟩) (Wd.preV zo hA hZ hw hK hs.1 hs.2.1 rfl) rfl rfl hl.1 rfl (lv_room (Nat.le_of_ble_eq_true rfl)) dX10_laysKeys_6 ⟨Nat.le_of_ble_eq_true rfl, Nat.le_of_ble_eq_true rfl⟩) (fun x_1 L1 f1 H locs lx_1 ux_1 ex_1 hw => ?_)
  obtain ⟨rfl, rfl, ex_1⟩ := ex_1
  refine lv_istore (lv' := [(4, .int (iI x_1)), (3, .int (iI 0)), (0, .ref a0), (1, .int (iI x1)), (2, .int (iI x2))]) hx hb dX10_laysKeys_9 hl (by decide) rfl (fun ls hl => ?_)
  refine lv_aload_n hx hb dX10_laysKeys_11 rfl (lv_at hl 2 rfl) ?_
  refine lv_iload_n hx hb dX10_laysKeys_12 rfl (lv_at hl 3 rfl) ?_
  refine q_bipush hx hb dX10_laysKeys_13 rfl ?_
  refine q_call_i hA hK hw (va_runV (As := [.int (iI x1), .int (iI 8)]) (rest := []) ⟨hx, hb, hml, hown, hts⟩ (c_X10_get zo l D cy L0 f0 a0 x1 lx1 ux1 8 (by decide) (by decide) ad hs (by omega) (by omega) (by omega) (by omega) _) (cwV 2 hts (gT (inV (mr25 _ (List.mem_of_getElem? (i := 0) rfl)) (mr25 _ (List.mem_of_getElem? (i := 1) rfl)) (mr25 _ (List.mem_of_getElem? (i := 2) rfl)) (mr1 _ (List.mem_of_getElem? (i := 5) rfl)) (mr25 _ (List.mem_of_getElem? (i := 3) rfl)))) rfl rfl rfl (by decide +kernel) ⟨Nat.le_of_ble_eq_true rfl, Nat.le_of_ble_eq_true rfl⟩) (Wd.preV zo hA hZ hw hK hs.1 hs.2.1 rfl) rfl rfl hl.1 rfl (lv_room (Nat.le_of_ble_eq_true rfl)) dX10_laysKeys_15 ⟨Nat.le_of_ble_eq_true rfl, Nat.le_of_ble_eq_true rfl⟩) (fun x_2 L1 f1 H locs lx_2 ux_2 ex_2 hw => ?_)
  obtain ⟨rfl, rfl, ex_2⟩ := ex_2
  have J33 : ∀ (w0_33 : Int) (lw0_33 : -2147483648 ≤ w0_33) (uw0_33 : w0_33 ≤ 2147483647) (k1 : w0_33 ≤ 36524) (kU : w0_33 = UN (aI f0 (ad 4)) (44 * x1)) (H : Heap) (locs : List Loc) (ls : Array Slot) (hw : Wd D A s.heap L0 f0 H locs) (hl : lv_has ls 7 [(0, .ref a0), (1, .int (iI x1)), (2, .int (iI x2)), (3, .int (iI 0)), (4, .int (iI x_1))]), W p l e ({ frames := 2, cells := 0, slots := 0, locals := 48 } : Room) s m ([.ref a0, .int (iI x1), .int (iI x2)] : List Value).toArray below meth c H locs (0 + 0 + 0) (0 + 0 + 0) (MQ below (Qi D (tq cy) L0 f0 s.heap.size (fun (r : Int) (L1 : List Nat) (f1 : Nat → va_E) => L0 = L1 ∧ MS cy L0 f1 a0 ad ∧ Kp a0 ad [12, 13] [] f0 f1 ∧ (0 ≤ r ∧ r ≤ 36525 ∧ aI f1 (ad 13) x2 = r ∧ (∀ x : Int, 0 ≤ x → x ≠ x2 → aI f1 (ad 13) x = aI f0 (ad 13) x) ∧ (∀ j : Int, 0 ≤ j → j < r → aI f0 (ad 4) (44 * x1 + 10) ≤ aI f1 (ad 12) (36525 * x2 + j) ∧ aI f1 (ad 12) (36525 * x2 + j) ≤ UN (aI f0 (ad 4)) (44 * x1)) ∧ (∀ i j : Int, 0 ≤ i → i < j → j < r → aI f1 (ad 12) (36525 * x2 + i) < aI f1 (ad 12) (36525 * x2 + j)) ∧ KL (Ky (onK (aI f0 (ad 4) (44 * x1 + 3)) (aI f0 (ad 4) (44 * x1 + 4)) (aI f0 (ad 4) (44 * x1 + 5)) (aI f0 (ad 4) (44 * x1 + 6)) (aI f0 (ad 4) (44 * x1 + 7))) (aI f0 (ad 4) (44 * x1 + 10)) (UN (aI f0 (ad 4)) (44 * x1)) (aI f0 (ad 4) (44 * x1 + 9))) (fun j => aI f1 (ad 12) (36525 * x2 + j)) r ∧ ∀ x : Int, 0 ≤ x → (x < 36525 * x2 ∨ 36525 * x2 + 36525 ≤ x) → aI f1 (ad 12) x = aI f0 (ad 12) x))) ([.ref a0, .int (iI x1), .int (iI x2)] : List Value).toArray s 0 0 A) (F0 m 33 ls [.int (iI w0_33)]) := by
    intro w0_33 lw0_33 uw0_33 k1 kU H locs ls hw hl
    refine lv_istore (lv' := [(5, .int (iI w0_33)), (0, .ref a0), (1, .int (iI x1)), (2, .int (iI x2)), (3, .int (iI 0)), (4, .int (iI x_1))]) hx hb dX10_laysKeys_33 hl (by decide) rfl (fun ls hl => ?_)
    refine lv_aload_n hx hb dX10_laysKeys_35 rfl (lv_at hl 1 rfl) ?_
    refine lv_iload_n hx hb dX10_laysKeys_36 rfl (lv_at hl 2 rfl) ?_
    refine q_bipush hx hb dX10_laysKeys_37 rfl ?_
    refine q_call_i hA hK hw (va_runV (As := [.int (iI x1), .int (iI 10)]) (rest := []) ⟨hx, hb, hml, hown, hts⟩ (c_X10_get zo l D cy L0 f0 a0 x1 lx1 ux1 10 (by decide) (by decide) ad hs (by omega) (by omega) (by omega) (by omega) _) (cwV 2 hts (gT (inV (mr25 _ (List.mem_of_getElem? (i := 0) rfl)) (mr25 _ (List.mem_of_getElem? (i := 1) rfl)) (mr25 _ (List.mem_of_getElem? (i := 2) rfl)) (mr1 _ (List.mem_of_getElem? (i := 5) rfl)) (mr25 _ (List.mem_of_getElem? (i := 3) rfl)))) rfl rfl rfl (by decide +kernel) ⟨Nat.le_of_ble_eq_true rfl, Nat.le_of_ble_eq_true rfl⟩) (Wd.preV zo hA hZ hw hK hs.1 hs.2.1 rfl) rfl rfl hl.1 rfl (lv_room (Nat.le_of_ble_eq_true rfl)) dX10_laysKeys_39 ⟨Nat.le_of_ble_eq_true rfl, Nat.le_of_ble_eq_true rfl⟩) (fun x_3 L1 f1 H locs lx_3 ux_3 ex_3 hw => ?_)
    obtain ⟨rfl, rfl, ex_3⟩ := ex_3
    refine lv_istore (lv' := [(6, .int (iI x_3)), (5, .int (iI w0_33)), (0, .ref a0), (1, .int (iI x1)), (2, .int (iI x2)), (3, .int (iI 0)), (4, .int (iI x_1))]) hx hb dX10_laysKeys_42 hl (by decide) rfl (fun ls hl => ?_)
    have J44 : ∀ (n44 : Nat) (y3_44 : Int) (ly3_44 : -2147483648 ≤ y3_44) (uy3_44 : y3_44 ≤ 2147483647) (y6_44 : Int) (ly6_44 : -2147483648 ≤ y6_44) (uy6_44 : y6_44 ≤ 2147483647) (L : List Nat) (fw44 : Nat → va_E) (hs : MS cy L0 fw44 a0 ad) (hE : Kp a0 ad [12, 13] [] f0 fw44) (i1 : 0 ≤ y3_44) (i2 : y3_44 ≤ y6_44 - aI f0 (ad 4) (44 * x1 + 10)) (i3 : y6_44 ≤ 36525) (i4 : aI f0 (ad 4) (44 * x1 + 10) ≤ y6_44) (kp : KP (Ky (onK (aI f0 (ad 4) (44 * x1 + 3)) (aI f0 (ad 4) (44 * x1 + 4)) (aI f0 (ad 4) (44 * x1 + 5)) (aI f0 (ad 4) (44 * x1 + 6)) (aI f0 (ad 4) (44 * x1 + 7))) (aI f0 (ad 4) (44 * x1 + 10)) (UN (aI f0 (ad 4)) (44 * x1)) (aI f0 (ad 4) (44 * x1 + 9))) (fun j => aI fw44 (ad 12) (36525 * x2 + j)) y3_44 y6_44) (kc : y3_44 = cn (onK (aI f0 (ad 4) (44 * x1 + 3)) (aI f0 (ad 4) (44 * x1 + 4)) (aI f0 (ad 4) (44 * x1 + 5)) (aI f0 (ad 4) (44 * x1 + 6)) (aI f0 (ad 4) (44 * x1 + 7))) (aI f0 (ad 4) (44 * x1 + 10)) y6_44) (kr : ∀ x : Int, aI fw44 (ad 13) x = aI f0 (ad 13) x) (ks : ∀ j : Int, 0 ≤ j → j < y3_44 → aI f0 (ad 4) (44 * x1 + 10) ≤ aI fw44 (ad 12) (36525 * x2 + j) ∧ aI fw44 (ad 12) (36525 * x2 + j) < y6_44 ∧ aI fw44 (ad 12) (36525 * x2 + j) ≤ UN (aI f0 (ad 4)) (44 * x1)) (ko : ∀ i j : Int, 0 ≤ i → i < j → j < y3_44 → aI fw44 (ad 12) (36525 * x2 + i) < aI fw44 (ad 12) (36525 * x2 + j)) (fk : ∀ x : Int, 0 ≤ x → (x < 36525 * x2 ∨ 36525 * x2 + 36525 ≤ x) → aI fw44 (ad 12) x = aI f0 (ad 12) x) (hn44 : ((2147483647 : Int) - y6_44).toNat < n44) (H : Heap) (locs : List Loc) (ls : Array Slot) (hw : Wd D A s.heap L0 fw44 H locs) (hl : lv_has ls 7 [(0, .ref a0), (1, .int (iI x1)), (2, .int (iI x2)), (3, .int (iI y3_44)), (4, .int (iI x_1)), (5, .int (iI w0_33)), (6, .int (iI y6_44))]), W p l e ({ frames := 2, cells := 0, slots := 0, locals := 48 } : Room) s m ([.ref a0, .int (iI x1), .int (iI x2)] : List Value).toArray below meth c H locs (0 + 0 + 0 + 0) (0 + 0 + 0 + 0) (MQ below (Qi D (tq cy) L0 f0 s.heap.size (fun (r : Int) (L1 : List Nat) (f1 : Nat → va_E) => L0 = L1 ∧ MS cy L0 f1 a0 ad ∧ Kp a0 ad [12, 13] [] f0 f1 ∧ (0 ≤ r ∧ r ≤ 36525 ∧ aI f1 (ad 13) x2 = r ∧ (∀ x : Int, 0 ≤ x → x ≠ x2 → aI f1 (ad 13) x = aI f0 (ad 13) x) ∧ (∀ j : Int, 0 ≤ j → j < r → aI f0 (ad 4) (44 * x1 + 10) ≤ aI f1 (ad 12) (36525 * x2 + j) ∧ aI f1 (ad 12) (36525 * x2 + j) ≤ UN (aI f0 (ad 4)) (44 * x1)) ∧ (∀ i j : Int, 0 ≤ i → i < j → j < r → aI f1 (ad 12) (36525 * x2 + i) < aI f1 (ad 12) (36525 * x2 + j)) ∧ KL (Ky (onK (aI f0 (ad 4) (44 * x1 + 3)) (aI f0 (ad 4) (44 * x1 + 4)) (aI f0 (ad 4) (44 * x1 + 5)) (aI f0 (ad 4) (44 * x1 + 6)) (aI f0 (ad 4) (44 * x1 + 7))) (aI f0 (ad 4) (44 * x1 + 10)) (UN (aI f0 (ad 4)) (44 * x1)) (aI f0 (ad 4) (44 * x1 + 9))) (fun j => aI f1 (ad 12) (36525 * x2 + j)) r ∧ ∀ x : Int, 0 ≤ x → (x < 36525 * x2 ∨ 36525 * x2 + 36525 ≤ x) → aI f1 (ad 12) x = aI f0 (ad 12) x))) ([.ref a0, .int (iI x1), .int (iI x2)] : List Value).toArray s 0 0 A) (F0 m 44 ls []) := by
      intro n44
      induction n44 with
      | zero => intro y3_44 ly3_44 uy3_44 y6_44 ly6_44 uy6_44 L fw44 hs hE i1 i2 i3 i4 kp kc kr ks ko fk hn44; exact absurd hn44 (Nat.not_lt_zero _)
      | succ n44 ih44 =>
        intro y3_44 ly3_44 uy3_44 y6_44 ly6_44 uy6_44 L fw44 hs hE i1 i2 i3 i4 kp kc kr ks ko fk hn44 H locs ls hw hl
        have Q4 : aI fw44 (ad 4) = aI f0 (ad 4) := funext fun x => hE.1 4 rfl (by decide) x
        have q0_fw44 : aI fw44 (ad 4) (44 * x1 + 3) = aI f0 (ad 4) (44 * x1 + 3) := hE.1 4 rfl (by decide) _
        have q1_fw44 : aI fw44 (ad 4) (44 * x1 + 4) = aI f0 (ad 4) (44 * x1 + 4) := hE.1 4 rfl (by decide) _
        have q2_fw44 : aI fw44 (ad 4) (44 * x1 + 5) = aI f0 (ad 4) (44 * x1 + 5) := hE.1 4 rfl (by decide) _
        have q3_fw44 : aI fw44 (ad 4) (44 * x1 + 8) = aI f0 (ad 4) (44 * x1 + 8) := hE.1 4 rfl (by decide) _
        have q4_fw44 : aI fw44 (ad 4) (44 * x1 + 9) = aI f0 (ad 4) (44 * x1 + 9) := hE.1 4 rfl (by decide) _
        have q5_fw44 : aI fw44 (ad 4) (44 * x1 + 10) = aI f0 (ad 4) (44 * x1 + 10) := hE.1 4 rfl (by decide) _
        refine lv_iload hx hb dX10_laysKeys_44 (lv_at hl 6 rfl) ?_
        refine lv_iload hx hb dX10_laysKeys_46 (lv_at hl 5 rfl) ?_
        have J97 : ∀ (kl : KL (Ky (onK (aI f0 (ad 4) (44 * x1 + 3)) (aI f0 (ad 4) (44 * x1 + 4)) (aI f0 (ad 4) (44 * x1 + 5)) (aI f0 (ad 4) (44 * x1 + 6)) (aI f0 (ad 4) (44 * x1 + 7))) (aI f0 (ad 4) (44 * x1 + 10)) (UN (aI f0 (ad 4)) (44 * x1)) (aI f0 (ad 4) (44 * x1 + 9))) (fun j => aI fw44 (ad 12) (36525 * x2 + j)) y3_44) (H : Heap) (locs : List Loc) (ls : Array Slot) (hw : Wd D A s.heap L0 fw44 H locs) (hl : lv_has ls 7 [(0, .ref a0), (2, .int (iI x2)), (3, .int (iI y3_44))]), W p l e ({ frames := 2, cells := 0, slots := 0, locals := 48 } : Room) s m ([.ref a0, .int (iI x1), .int (iI x2)] : List Value).toArray below meth c H locs (0 + 0 + 0 + 0) (0 + 0 + 0 + 0) (MQ below (Qi D (tq cy) L0 f0 s.heap.size (fun (r : Int) (L1 : List Nat) (f1 : Nat → va_E) => L0 = L1 ∧ MS cy L0 f1 a0 ad ∧ Kp a0 ad [12, 13] [] f0 f1 ∧ (0 ≤ r ∧ r ≤ 36525 ∧ aI f1 (ad 13) x2 = r ∧ (∀ x : Int, 0 ≤ x → x ≠ x2 → aI f1 (ad 13) x = aI f0 (ad 13) x) ∧ (∀ j : Int, 0 ≤ j → j < r → aI f0 (ad 4) (44 * x1 + 10) ≤ aI f1 (ad 12) (36525 * x2 + j) ∧ aI f1 (ad 12) (36525 * x2 + j) ≤ UN (aI f0 (ad 4)) (44 * x1)) ∧ (∀ i j : Int, 0 ≤ i → i < j → j < r → aI f1 (ad 12) (36525 * x2 + i) < aI f1 (ad 12) (36525 * x2 + j)) ∧ KL (Ky (onK (aI f0 (ad 4) (44 * x1 + 3)) (aI f0 (ad 4) (44 * x1 + 4)) (aI f0 (ad 4) (44 * x1 + 5)) (aI f0 (ad 4) (44 * x1 + 6)) (aI f0 (ad 4) (44 * x1 + 7))) (aI f0 (ad 4) (44 * x1 + 10)) (UN (aI f0 (ad 4)) (44 * x1)) (aI f0 (ad 4) (44 * x1 + 9))) (fun j => aI f1 (ad 12) (36525 * x2 + j)) r ∧ ∀ x : Int, 0 ≤ x → (x < 36525 * x2 ∨ 36525 * x2 + 36525 ≤ x) → aI f1 (ad 12) x = aI f0 (ad 12) x))) ([.ref a0, .int (iI x1), .int (iI x2)] : List Value).toArray s 0 0 A) (F0 m 97 ls []) := by
          intro kl H locs ls hw hl
          have Q4 : aI fw44 (ad 4) = aI f0 (ad 4) := funext fun x => hE.1 4 rfl (by decide) x
          have q0_fw44 : aI fw44 (ad 4) (44 * x1 + 3) = aI f0 (ad 4) (44 * x1 + 3) := hE.1 4 rfl (by decide) _
          have q1_fw44 : aI fw44 (ad 4) (44 * x1 + 4) = aI f0 (ad 4) (44 * x1 + 4) := hE.1 4 rfl (by decide) _
          have q2_fw44 : aI fw44 (ad 4) (44 * x1 + 5) = aI f0 (ad 4) (44 * x1 + 5) := hE.1 4 rfl (by decide) _
          have q3_fw44 : aI fw44 (ad 4) (44 * x1 + 8) = aI f0 (ad 4) (44 * x1 + 8) := hE.1 4 rfl (by decide) _
          have q4_fw44 : aI fw44 (ad 4) (44 * x1 + 9) = aI f0 (ad 4) (44 * x1 + 9) := hE.1 4 rfl (by decide) _
          have q5_fw44 : aI fw44 (ad 4) (44 * x1 + 10) = aI f0 (ad 4) (44 * x1 + 10) := hE.1 4 rfl (by decide) _
          refine lv_aload_n hx hb dX10_laysKeys_97 rfl (lv_at hl 0 rfl) ?_
          refine q_getr (ci := 8) (C := RX10) (T := TX10) (N := 26) hx hb hts (fun w h => List.mem_cons_of_mem _ (mfX100 w h)) hown hK hw hs.1 hs.2.1 rfl 13 (by decide) (hts _ (List.mem_cons_of_mem _ (mr3 _ (List.mem_of_getElem? (i := 21) rfl)))) (fun _ h => h) rfl (hs.2.2.1 13 rfl).1 dX10_laysKeys_98 ?_
          refine lv_iload_n hx hb dX10_laysKeys_101 rfl (lv_at hl 1 rfl) ?_
          refine lv_iload_n hx hb dX10_laysKeys_102 rfl (lv_at hl 2 rfl) ?_
          refine q_iast hx hb hK hw (hs.2.2.1 13 rfl).2.1 1 (hs.2.2.1 13 rfl).2.2 rfl ⟨lx2, ux2⟩ (by omega) (by show _ < ((2 : Nat) : Int); omega) dX10_laysKeys_103 (fun H locs hw => ?_)
          obtain ⟨f_4, ef_4⟩ : ∃ g : Nat → va_E, g = aU fw44 (ad 13) x2 (iI y3_44) := ⟨_, rfl⟩
          have hE := hE.trans (show Kp a0 ad [12, 13] [] fw44 f_4 by rw [ef_4]; exact Kp_aU hs rfl (by decide))
          have hs_ := hs
          have hs : MS cy L0 f_4 a0 ad := by rw [ef_4]; exact MS_aU hs rfl
          rw [← ef_4] at hw
          have Q4 : aI f_4 (ad 4) = aI f0 (ad 4) := funext fun x => hE.1 4 rfl (by decide) x
          have q0_f_4 : aI f_4 (ad 4) (44 * x1 + 3) = aI f0 (ad 4) (44 * x1 + 3) := hE.1 4 rfl (by decide) _
          have q1_f_4 : aI f_4 (ad 4) (44 * x1 + 4) = aI f0 (ad 4) (44 * x1 + 4) := hE.1 4 rfl (by decide) _
          have q2_f_4 : aI f_4 (ad 4) (44 * x1 + 5) = aI f0 (ad 4) (44 * x1 + 5) := hE.1 4 rfl (by decide) _
          have q3_f_4 : aI f_4 (ad 4) (44 * x1 + 8) = aI f0 (ad 4) (44 * x1 + 8) := hE.1 4 rfl (by decide) _
          have q4_f_4 : aI f_4 (ad 4) (44 * x1 + 9) = aI f0 (ad 4) (44 * x1 + 9) := hE.1 4 rfl (by decide) _
          have q5_f_4 : aI f_4 (ad 4) (44 * x1 + 10) = aI f0 (ad 4) (44 * x1 + 10) := hE.1 4 rfl (by decide) _
          have r1 : aI f_4 (ad 13) x2 = y3_44 := by rw [ef_4]; exact hs_.aI_self rfl ⟨by omega, by omega⟩
          have r3 : ∀ x : Int, aI f_4 (ad 12) x = aI fw44 (ad 12) x := fun x => by rw [ef_4]; exact hs_.aI_ne rfl rfl (by decide) _
          have r2 : ∀ x : Int, 0 ≤ x → x ≠ x2 → aI f_4 (ad 13) x = aI f0 (ad 13) x := fun x q0 q1 => Eq.trans (by rw [ef_4]; exact hs_.aI_nj rfl (by omega) q0 q1) (kr x)
          refine lv_iload_n hx hb dX10_laysKeys_104 rfl (lv_at hl 2 rfl) ?_
          exact q_ret_i hx hb hr hlocks hK hAe hw ⟨ly3_44, uy3_44⟩ (Nat.le_of_ble_eq_true rfl) (Nat.le_of_ble_eq_true rfl) dX10_laysKeys_105 (by exact ⟨rfl, hs, hE, by omega, by omega, r1, r2, fun j q0 q1 => by rw [r3]; exact ⟨(ks j q0 q1).1, (ks j q0 q1).2.2⟩, fun i j q0 q1 q2 => by rw [r3, r3]; exact ko i j q0 q1 q2, kl.cg (fun j => r3 _), fun x q0 q1 => (r3 x).trans (fk x q0 q1)⟩)
        refine q_icmp_gt (tgt := 97) hx hb dX10_laysKeys_48 (by decide) ⟨ly6_44, uy6_44⟩ ⟨lw0_33, uw0_33⟩ (fun c48 => ?_) (fun c48 => ?_)
        · exact J97 (by exact kp.done kc (by omega)) _ _ _ hw (lv_sub hl [0, 2, 3] rfl)
        · refine lv_iload hx hb dX10_laysKeys_51 (lv_at hl 4 rfl) ?_
          have J62 : ∀ (kb : aI f0 (ad 4) (44 * x1 + 9) < 0 ∨ y3_44 < aI f0 (ad 4) (44 * x1 + 9)) (H : Heap) (locs : List Loc) (ls : Array Slot) (hw : Wd D A s.heap L0 fw44 H locs) (hl : lv_has ls 7 [(0, .ref a0), (1, .int (iI x1)), (2, .int (iI x2)), (3, .int (iI y3_44)), (4, .int (iI x_1)), (5, .int (iI w0_33)), (6, .int (iI y6_44))]), W p l e ({ frames := 2, cells := 0, slots := 0, locals := 48 } : Room) s m ([.ref a0, .int (iI x1), .int (iI x2)] : List Value).toArray below meth c H locs (0 + 0 + 0 + 0) (0 + 0 + 0 + 0) (MQ below (Qi D (tq cy) L0 f0 s.heap.size (fun (r : Int) (L1 : List Nat) (f1 : Nat → va_E) => L0 = L1 ∧ MS cy L0 f1 a0 ad ∧ Kp a0 ad [12, 13] [] f0 f1 ∧ (0 ≤ r ∧ r ≤ 36525 ∧ aI f1 (ad 13) x2 = r ∧ (∀ x : Int, 0 ≤ x → x ≠ x2 → aI f1 (ad 13) x = aI f0 (ad 13) x) ∧ (∀ j : Int, 0 ≤ j → j < r → aI f0 (ad 4) (44 * x1 + 10) ≤ aI f1 (ad 12) (36525 * x2 + j) ∧ aI f1 (ad 12) (36525 * x2 + j) ≤ UN (aI f0 (ad 4)) (44 * x1)) ∧ (∀ i j : Int, 0 ≤ i → i < j → j < r → aI f1 (ad 12) (36525 * x2 + i) < aI f1 (ad 12) (36525 * x2 + j)) ∧ KL (Ky (onK (aI f0 (ad 4) (44 * x1 + 3)) (aI f0 (ad 4) (44 * x1 + 4)) (aI f0 (ad 4) (44 * x1 + 5)) (aI f0 (ad 4) (44 * x1 + 6)) (aI f0 (ad 4) (44 * x1 + 7))) (aI f0 (ad 4) (44 * x1 + 10)) (UN (aI f0 (ad 4)) (44 * x1)) (aI f0 (ad 4) (44 * x1 + 9))) (fun j => aI f1 (ad 12) (36525 * x2 + j)) r ∧ ∀ x : Int, 0 ≤ x → (x < 36525 * x2 ∨ 36525 * x2 + 36525 ≤ x) → aI f1 (ad 12) x = aI f0 (ad 12) x))) ([.ref a0, .int (iI x1), .int (iI x2)] : List Value).toArray s 0 0 A) (F0 m 62 ls []) := by
            intro kb H locs ls hw hl
            have Q4 : aI fw44 (ad 4) = aI f0 (ad 4) := funext fun x => hE.1 4 rfl (by decide) x
            have q0_fw44 : aI fw44 (ad 4) (44 * x1 + 3) = aI f0 (ad 4) (44 * x1 + 3) := hE.1 4 rfl (by decide) _
            have q1_fw44 : aI fw44 (ad 4) (44 * x1 + 4) = aI f0 (ad 4) (44 * x1 + 4) := hE.1 4 rfl (by decide) _
            have q2_fw44 : aI fw44 (ad 4) (44 * x1 + 5) = aI f0 (ad 4) (44 * x1 + 5) := hE.1 4 rfl (by decide) _
            have q3_fw44 : aI fw44 (ad 4) (44 * x1 + 8) = aI f0 (ad 4) (44 * x1 + 8) := hE.1 4 rfl (by decide) _
            have q4_fw44 : aI fw44 (ad 4) (44 * x1 + 9) = aI f0 (ad 4) (44 * x1 + 9) := hE.1 4 rfl (by decide) _
            have q5_fw44 : aI fw44 (ad 4) (44 * x1 + 10) = aI f0 (ad 4) (44 * x1 + 10) := hE.1 4 rfl (by decide) _
            refine lv_aload_n hx hb dX10_laysKeys_62 rfl (lv_at hl 0 rfl) ?_
            refine lv_iload_n hx hb dX10_laysKeys_63 rfl (lv_at hl 1 rfl) ?_
            refine lv_iload hx hb dX10_laysKeys_64 (lv_at hl 6 rfl) ?_
            refine q_call_i hA hK hw (va_runV (As := [.int (iI x1), .int (iI y6_44)]) (rest := []) ⟨hx, hb, hml, hown, hts⟩ (c_X10_isOn_f zo l D cy L0 fw44 a0 x1 lx1 ux1 y6_44 ly6_44 uy6_44 ad hs (by omega) (by omega) (by omega) (by omega) (by omega) (by omega) (by omega) (by first | exact hd | exact hd.kp hE (by decide) (by decide) (by decide) (by decide)) (by first | exact ok | (rw [Q4]; exact ok)) _) (cwV 2 hts (gT (inV (mr25 _ (List.mem_of_getElem? (i := 4) rfl)) (mr25 _ (List.mem_of_getElem? (i := 5) rfl)) (mr25 _ (List.mem_of_getElem? (i := 6) rfl)) (mr1 _ (List.mem_of_getElem? (i := 5) rfl)) (mr25 _ (List.mem_of_getElem? (i := 7) rfl)))) rfl rfl rfl (by decide +kernel) ⟨Nat.le_of_ble_eq_true rfl, Nat.le_of_ble_eq_true rfl⟩) (Wd.preV zo hA hZ hw hK hs.1 hs.2.1 rfl) rfl rfl hl.1 rfl (lv_room (Nat.le_of_ble_eq_true rfl)) dX10_laysKeys_66 ⟨Nat.le_of_ble_eq_true rfl, Nat.le_of_ble_eq_true rfl⟩) (fun x_5 L1 f1 H locs lx_5 ux_5 ex_5 hw => ?_)
            obtain ⟨rfl, rfl, ex_5⟩ := ex_5
            have on := ex_5
            try rw [Q4] at on
            have J91 : ∀ (z3_91 : Int) (lz3_91 : -2147483648 ≤ z3_91) (uz3_91 : z3_91 ≤ 2147483647) (L : List Nat) (fw91 : Nat → va_E) (hs : MS cy L0 fw91 a0 ad) (hE : Kp a0 ad [12, 13] [] f0 fw91) (k1 : 0 ≤ z3_91) (k2 : z3_91 ≤ y6_44 - aI f0 (ad 4) (44 * x1 + 10) + 1) (kp : KP (Ky (onK (aI f0 (ad 4) (44 * x1 + 3)) (aI f0 (ad 4) (44 * x1 + 4)) (aI f0 (ad 4) (44 * x1 + 5)) (aI f0 (ad 4) (44 * x1 + 6)) (aI f0 (ad 4) (44 * x1 + 7))) (aI f0 (ad 4) (44 * x1 + 10)) (UN (aI f0 (ad 4)) (44 * x1)) (aI f0 (ad 4) (44 * x1 + 9))) (fun j => aI fw91 (ad 12) (36525 * x2 + j)) z3_91 (y6_44 + 1)) (kc : z3_91 = cn (onK (aI f0 (ad 4) (44 * x1 + 3)) (aI f0 (ad 4) (44 * x1 + 4)) (aI f0 (ad 4) (44 * x1 + 5)) (aI f0 (ad 4) (44 * x1 + 6)) (aI f0 (ad 4) (44 * x1 + 7))) (aI f0 (ad 4) (44 * x1 + 10)) (y6_44 + 1)) (kr : ∀ x : Int, aI fw91 (ad 13) x = aI f0 (ad 13) x) (ks : ∀ j : Int, 0 ≤ j → j < z3_91 → aI f0 (ad 4) (44 * x1 + 10) ≤ aI fw91 (ad 12) (36525 * x2 + j) ∧ aI fw91 (ad 12) (36525 * x2 + j) < y6_44 + 1 ∧ aI fw91 (ad 12) (36525 * x2 + j) ≤ UN (aI f0 (ad 4)) (44 * x1)) (ko : ∀ i j : Int, 0 ≤ i → i < j → j < z3_91 → aI fw91 (ad 12) (36525 * x2 + i) < aI fw91 (ad 12) (36525 * x2 + j)) (fk : ∀ x : Int, 0 ≤ x → (x < 36525 * x2 ∨ 36525 * x2 + 36525 ≤ x) → aI fw91 (ad 12) x = aI f0 (ad 12) x) (H : Heap) (locs : List Loc) (ls : Array Slot) (hw : Wd D A s.heap L0 fw91 H locs) (hl : lv_has ls 7 [(0, .ref a0), (1, .int (iI x1)), (2, .int (iI x2)), (3, .int (iI z3_91)), (4, .int (iI x_1)), (5, .int (iI w0_33)), (6, .int (iI y6_44))]), W p l e ({ frames := 2, cells := 0, slots := 0, locals := 48 } : Room) s m ([.ref a0, .int (iI x1), .int (iI x2)] : List Value).toArray below meth c H locs (0 + 0 + 0 + 0 + 0) (0 + 0 + 0 + 0 + 0) (MQ below (Qi D (tq cy) L0 f0 s.heap.size (fun (r : Int) (L1 : List Nat) (f1 : Nat → va_E) => L0 = L1 ∧ MS cy L0 f1 a0 ad ∧ Kp a0 ad [12, 13] [] f0 f1 ∧ (0 ≤ r ∧ r ≤ 36525 ∧ aI f1 (ad 13) x2 = r ∧ (∀ x : Int, 0 ≤ x → x ≠ x2 → aI f1 (ad 13) x = aI f0 (ad 13) x) ∧ (∀ j : Int, 0 ≤ j → j < r → aI f0 (ad 4) (44 * x1 + 10) ≤ aI f1 (ad 12) (36525 * x2 + j) ∧ aI f1 (ad 12) (36525 * x2 + j) ≤ UN (aI f0 (ad 4)) (44 * x1)) ∧ (∀ i j : Int, 0 ≤ i → i < j → j < r → aI f1 (ad 12) (36525 * x2 + i) < aI f1 (ad 12) (36525 * x2 + j)) ∧ KL (Ky (onK (aI f0 (ad 4) (44 * x1 + 3)) (aI f0 (ad 4) (44 * x1 + 4)) (aI f0 (ad 4) (44 * x1 + 5)) (aI f0 (ad 4) (44 * x1 + 6)) (aI f0 (ad 4) (44 * x1 + 7))) (aI f0 (ad 4) (44 * x1 + 10)) (UN (aI f0 (ad 4)) (44 * x1)) (aI f0 (ad 4) (44 * x1 + 9))) (fun j => aI f1 (ad 12) (36525 * x2 + j)) r ∧ ∀ x : Int, 0 ≤ x → (x < 36525 * x2 ∨ 36525 * x2 + 36525 ≤ x) → aI f1 (ad 12) x = aI f0 (ad 12) x))) ([.ref a0, .int (iI x1), .int (iI x2)] : List Value).toArray s 0 0 A) (F0 m 91 ls []) := by
              intro z3_91 lz3_91 uz3_91 L fw91 hs hE k1 k2 kp kc kr ks ko fk H locs ls hw hl
              have Q4 : aI fw91 (ad 4) = aI f0 (ad 4) := funext fun x => hE.1 4 rfl (by decide) x
              have q0_fw91 : aI fw91 (ad 4) (44 * x1 + 3) = aI f0 (ad 4) (44 * x1 + 3) := hE.1 4 rfl (by decide) _
              have q1_fw91 : aI fw91 (ad 4) (44 * x1 + 4) = aI f0 (ad 4) (44 * x1 + 4) := hE.1 4 rfl (by decide) _
              have q2_fw91 : aI fw91 (ad 4) (44 * x1 + 5) = aI f0 (ad 4) (44 * x1 + 5) := hE.1 4 rfl (by decide) _
              have q3_fw91 : aI fw91 (ad 4) (44 * x1 + 8) = aI f0 (ad 4) (44 * x1 + 8) := hE.1 4 rfl (by decide) _
              have q4_fw91 : aI fw91 (ad 4) (44 * x1 + 9) = aI f0 (ad 4) (44 * x1 + 9) := hE.1 4 rfl (by decide) _
              have q5_fw91 : aI fw91 (ad 4) (44 * x1 + 10) = aI f0 (ad 4) (44 * x1 + 10) := hE.1 4 rfl (by decide) _
              obtain ⟨x_6, lx_6, ux_6, hx_6, ex_6⟩ := q_inc y6_44 (1)
              try (replace ex_6 : x_6 = y6_44 + (1) := by omega)
              refine lv_iinc (v := iI x_6) (lv' := [(6, .int (iI x_6)), (0, .ref a0), (1, .int (iI x1)), (2, .int (iI x2)), (3, .int (iI z3_91)), (4, .int (iI x_1)), (5, .int (iI w0_33))]) hx hb dX10_laysKeys_91 hl (k := 6) rfl hx_6 (by decide) rfl (fun ls hl => ?_)
              refine lv_goto (tgt := 44) hx hb dX10_laysKeys_94 (by decide) ?_
              exact ih44 z3_91 lz3_91 uz3_91 x_6 lx_6 ux_6 L0 fw91 hs hE (by omega) (by omega) (by omega) (by omega) (by first | exact KP.nil' rfl (by omega) | exact kp.arg rfl (by omega) | fail "none") (by first | exact cn_ini (by omega) | exact cn_to kc (by omega) | fail "none") (by first | exact kr | exact fun _ => rfl) (by first | (intro j q0 q1; exfalso; omega) | exact fun j q0 q1 => ⟨(ks j q0 q1).1, by have := (ks j q0 q1).2.1; omega, (ks j q0 q1).2.2⟩) (by first | (intro i j q0 q1 q2; exfalso; omega) | exact ko) (by first | exact fun _ _ _ => rfl | exact fk | fail "none") (by omega) _ _ _ hw (lv_sub hl [1, 2, 3, 4, 5, 6, 0] rfl)
            refine q_if_ne (tgt := 75) hx hb dX10_laysKeys_69 (by decide) ⟨lx_5, ux_5⟩ (fun c69 => ?_) (fun c69 => ?_)
            · refine lv_aload_n hx hb dX10_laysKeys_75 rfl (lv_at hl 0 rfl) ?_
              refine q_getr (ci := 8) (C := RX10) (T := TX10) (N := 26) hx hb hts (fun w h => List.mem_cons_of_mem _ (mfX100 w h)) hown hK hw hs.1 hs.2.1 rfl 12 (by decide) (hts _ (List.mem_cons_of_mem _ (mr3 _ (List.mem_of_getElem? (i := 20) rfl)))) (fun _ h => h) rfl (hs.2.2.1 12 rfl).1 dX10_laysKeys_76 ?_
              refine q_ldc (n := 36525) hx hb hown (hts _ (List.mem_cons_of_mem _ (mr3 _ (List.mem_of_getElem? (i := 9) rfl)))) rfl dX10_laysKeys_79 ?_
              refine lv_iload_n hx hb dX10_laysKeys_81 rfl (lv_at hl 2 rfl) ?_
              first | refine q_imul hx hb dX10_laysKeys_82 ⟨by omega, by omega⟩ (fun x_7 lx_7 ux_7 ex_7 => ?_) | refine q_imulw hx hb dX10_laysKeys_82 (fun x_7 lx_7 ux_7 ex_7 => ?_)
              refine lv_iload_n hx hb dX10_laysKeys_83 rfl (lv_at hl 3 rfl) ?_
              first | refine q_iadd hx hb dX10_laysKeys_84 ⟨by omega, by omega⟩ (fun x_8 lx_8 ux_8 ex_8 => ?_) | refine q_iaddw hx hb dX10_laysKeys_84 (fun x_8 lx_8 ux_8 ex_8 => ?_)
              refine lv_iload hx hb dX10_laysKeys_85 (lv_at hl 6 rfl) ?_
              refine q_iast hx hb hK hw (hs.2.2.1 12 rfl).2.1 1 (hs.2.2.1 12 rfl).2.2 rfl ⟨lx_8, ux_8⟩ (by omega) (by show _ < ((73050 : Nat) : Int); omega) dX10_laysKeys_87 (fun H locs hw => ?_)
              obtain ⟨f_9, ef_9⟩ : ∃ g : Nat → va_E, g = aU fw44 (ad 12) x_8 (iI y6_44) := ⟨_, rfl⟩
              have hE := hE.trans (show Kp a0 ad [12, 13] [] fw44 f_9 by rw [ef_9]; exact Kp_aU hs rfl (by decide))
              have hs_ := hs
              have hs : MS cy L0 f_9 a0 ad := by rw [ef_9]; exact MS_aU hs rfl
              rw [← ef_9] at hw
              have Q4 : aI f_9 (ad 4) = aI f0 (ad 4) := funext fun x => hE.1 4 rfl (by decide) x
              have q0_f_9 : aI f_9 (ad 4) (44 * x1 + 3) = aI f0 (ad 4) (44 * x1 + 3) := hE.1 4 rfl (by decide) _
              have q1_f_9 : aI f_9 (ad 4) (44 * x1 + 4) = aI f0 (ad 4) (44 * x1 + 4) := hE.1 4 rfl (by decide) _
              have q2_f_9 : aI f_9 (ad 4) (44 * x1 + 5) = aI f0 (ad 4) (44 * x1 + 5) := hE.1 4 rfl (by decide) _
              have q3_f_9 : aI f_9 (ad 4) (44 * x1 + 8) = aI f0 (ad 4) (44 * x1 + 8) := hE.1 4 rfl (by decide) _
              have q4_f_9 : aI f_9 (ad 4) (44 * x1 + 9) = aI f0 (ad 4) (44 * x1 + 9) := hE.1 4 rfl (by decide) _
              have q5_f_9 : aI f_9 (ad 4) (44 * x1 + 10) = aI f0 (ad 4) (44 * x1 + 10) := hE.1 4 rfl (by decide) _
              have kr : ∀ x : Int, aI f_9 (ad 13) x = aI f0 (ad 13) x := fun x => Eq.trans (by rw [ef_9]; exact hs_.aI_ne rfl rfl (by decide) _) (kr x)
              have kn : ∀ j : Int, 0 ≤ j → j < y3_44 → aI f_9 (ad 12) (36525 * x2 + j) = aI fw44 (ad 12) (36525 * x2 + j) := fun j q0 q1 => by rw [ef_9]; exact hs_.aI_nj rfl (by omega) (by omega) (by omega)
              have kv : aI f_9 (ad 12) (36525 * x2 + y3_44) = y6_44 := (aI_cg (show 36525 * x2 + y3_44 = x_8 by omega)).trans (by rw [ef_9]; exact hs_.aI_self rfl ⟨by omega, by omega⟩)
              have ks' : ∀ j : Int, 0 ≤ j → j < y3_44 + 1 → aI f0 (ad 4) (44 * x1 + 10) ≤ aI f_9 (ad 12) (36525 * x2 + j) ∧ aI f_9 (ad 12) (36525 * x2 + j) < y6_44 + 1 ∧ aI f_9 (ad 12) (36525 * x2 + j) ≤ UN (aI f0 (ad 4)) (44 * x1) := by
                intro j q0 q1
                by_cases ej : j = y3_44
                · rw [ej, kv]; exact ⟨by omega, by omega, by omega⟩
                · rw [kn j q0 (by omega)]; have := ks j q0 (by omega); exact ⟨this.1, by omega, this.2.2⟩
              have ko' : ∀ i j : Int, 0 ≤ i → i < j → j < y3_44 + 1 → aI f_9 (ad 12) (36525 * x2 + i) < aI f_9 (ad 12) (36525 * x2 + j) := by
                intro i j q0 q1 q2
                by_cases ej : j = y3_44
                · rw [ej, kv, kn i q0 (by omega)]; exact (ks i q0 (by omega)).2.1
                · rw [kn i q0 (by omega), kn j (by omega) (by omega)]; exact ko i j q0 q1 (by omega)
              have on9 := on.yes (by omega)
              have kn : ∀ j : Int, 0 ≤ j → j < y3_44 → aI f_9 (ad 12) (36525 * x2 + j) = aI fw44 (ad 12) (36525 * x2 + j) := fun j q0 q1 => by rw [ef_9]; exact hs_.aI_nj rfl (by omega) (by omega) (by omega)
              have kv : aI f_9 (ad 12) (36525 * x2 + y3_44) = y6_44 := (aI_cg (show 36525 * x2 + y3_44 = x_8 by omega)).trans (by rw [ef_9]; exact hs_.aI_self rfl ⟨by omega, by omega⟩)
              have kp' : KP (Ky (onK (aI f0 (ad 4) (44 * x1 + 3)) (aI f0 (ad 4) (44 * x1 + 4)) (aI f0 (ad 4) (44 * x1 + 5)) (aI f0 (ad 4) (44 * x1 + 6)) (aI f0 (ad 4) (44 * x1 + 7))) (aI f0 (ad 4) (44 * x1 + 10)) (UN (aI f0 (ad 4)) (44 * x1)) (aI f0 (ad 4) (44 * x1 + 9))) (fun j => aI f_9 (ad 12) (36525 * x2 + j)) (y3_44 + 1) (y6_44 + 1) := kp.push ((ky_at (by omega) (by omega) (by omega)).mpr on9) kv (fun j q0 q1 => kn j q0 q1)
              have kc' : y3_44 + 1 = cn (onK (aI f0 (ad 4) (44 * x1 + 3)) (aI f0 (ad 4) (44 * x1 + 4)) (aI f0 (ad 4) (44 * x1 + 5)) (aI f0 (ad 4) (44 * x1 + 6)) (aI f0 (ad 4) (44 * x1 + 7))) (aI f0 (ad 4) (44 * x1 + 10)) (y6_44 + 1) := by rw [cn_yes (by omega) on9]; omega
              have fk' : ∀ x : Int, 0 ≤ x → (x < 36525 * x2 ∨ 36525 * x2 + 36525 ≤ x) → aI f_9 (ad 12) x = aI f0 (ad 12) x := fun x q0 q1 => Eq.trans (by rw [ef_9]; exact hs_.aI_nj rfl (by omega) q0 (by omega)) (fk x q0 q1)
              obtain ⟨x_10, lx_10, ux_10, hx_10, ex_10⟩ := q_inc y3_44 (1)
              try (replace ex_10 : x_10 = y3_44 + (1) := by omega)
              refine lv_iinc (v := iI x_10) (lv' := [(3, .int (iI x_10)), (0, .ref a0), (1, .int (iI x1)), (2, .int (iI x2)), (4, .int (iI x_1)), (5, .int (iI w0_33)), (6, .int (iI y6_44))]) hx hb dX10_laysKeys_88 hl (k := 3) rfl hx_10 (by decide) rfl (fun ls hl => ?_)
              exact J91 x_10 lx_10 ux_10 L0 f_9 hs hE (by omega) (by omega) (by first | exact kp'.arg (by omega) rfl | exact kp.skip (fun z => on.no (by omega) z.2.2.1) | fail "none") (by first | omega | (rw [cn_no (by omega) (on.no (by omega))]; exact kc) | fail "none") (by exact kr) (by first | exact fun j q0 q1 => ks' j q0 (by omega) | exact fun j q0 q1 => ⟨(ks j q0 q1).1, by have := (ks j q0 q1).2.1; omega, (ks j q0 q1).2.2⟩) (by first | exact fun i j q0 q1 q2 => ko' i j q0 q1 (by omega) | exact ko) (by first | exact fk' | exact fk | fail "none") _ _ _ hw (lv_sub hl [1, 2, 3, 0, 4, 5, 6] rfl)
            · refine lv_goto (tgt := 91) hx hb dX10_laysKeys_72 (by decide) ?_
              exact J91 y3_44 ly3_44 uy3_44 L0 fw44 hs hE (by omega) (by omega) (by first | exact kp'.arg (by omega) rfl | exact kp.skip (fun z => on.no (by omega) z.2.2.1) | fail "none") (by first | omega | (rw [cn_no (by omega) (on.no (by omega))]; exact kc) | fail "none") (by exact kr) (by first | exact fun j q0 q1 => ks' j q0 (by omega) | exact fun j q0 q1 => ⟨(ks j q0 q1).1, by have := (ks j q0 q1).2.1; omega, (ks j q0 q1).2.2⟩) (by first | exact fun i j q0 q1 q2 => ko' i j q0 q1 (by omega) | exact ko) (by first | exact fk' | exact fk | fail "none") _ _ _ hw (lv_sub hl [0, 1, 2, 3, 4, 5, 6] rfl)
          refine q_if_lt (tgt := 62) hx hb dX10_laysKeys_53 (by decide) ⟨lx_1, ux_1⟩ (fun c53 => ?_) (fun c53 => ?_)
          · exact J62 (by omega) _ _ _ hw (lv_sub hl [0, 1, 2, 3, 4, 5, 6] rfl)
          · refine lv_iload_n hx hb dX10_laysKeys_56 rfl (lv_at hl 3 rfl) ?_
            refine lv_iload hx hb dX10_laysKeys_57 (lv_at hl 4 rfl) ?_
            refine q_icmp_ge (tgt := 97) hx hb dX10_laysKeys_59 (by decide) ⟨ly3_44, uy3_44⟩ ⟨lx_1, ux_1⟩ (fun c59 => ?_) (fun c59 => ?_)
            · exact J97 (by exact kp.done kc (by omega)) _ _ _ hw (lv_sub hl [0, 2, 3] rfl)
            · exact J62 (by omega) _ _ _ hw (lv_sub hl [0, 1, 2, 3, 4, 5, 6] rfl)
    exact J44 ((((2147483647 : Int) - x_3).toNat) + 1) 0 (by decide) (by decide) x_3 lx_3 ux_3 L0 f0 hs hE (by omega) (by omega) (by omega) (by omega) (by first | exact KP.nil' rfl (by omega) | exact kp.arg rfl (by omega) | fail "none") (by first | exact cn_ini (by omega) | exact cn_to kc (by omega) | fail "none") (by first | exact kr | exact fun _ => rfl) (by first | (intro j q0 q1; exfalso; omega) | exact fun j q0 q1 => ⟨(ks j q0 q1).1, by have := (ks j q0 q1).2.1; omega, (ks j q0 q1).2.2⟩) (by first | (intro i j q0 q1 q2; exfalso; omega) | exact ko) (by first | exact fun _ _ _ => rfl | exact fk | fail "none") (by omega) _ _ _ hw (lv_sub hl [2, 3, 4, 5, 6, 1, 0] rfl)
  refine q_if_ge (tgt := 26) hx hb dX10_laysKeys_18 (by decide) ⟨lx_2, ux_2⟩ (fun c18 => ?_) (fun c18 => ?_)
  · refine lv_aload_n hx hb dX10_laysKeys_26 rfl (lv_at hl 2 rfl) ?_
    refine lv_iload_n hx hb dX10_laysKeys_27 rfl (lv_at hl 3 rfl) ?_
    refine q_bipush hx hb dX10_laysKeys_28 rfl ?_
    refine q_call_i hA hK hw (va_runV (As := [.int (iI x1), .int (iI 8)]) (rest := []) ⟨hx, hb, hml, hown, hts⟩ (c_X10_get zo l D cy L0 f0 a0 x1 lx1 ux1 8 (by decide) (by decide) ad hs (by omega) (by omega) (by omega) (by omega) _) (cwV 2 hts (gT (inV (mr25 _ (List.mem_of_getElem? (i := 0) rfl)) (mr25 _ (List.mem_of_getElem? (i := 1) rfl)) (mr25 _ (List.mem_of_getElem? (i := 2) rfl)) (mr1 _ (List.mem_of_getElem? (i := 5) rfl)) (mr25 _ (List.mem_of_getElem? (i := 3) rfl)))) rfl rfl rfl (by decide +kernel) ⟨Nat.le_of_ble_eq_true rfl, Nat.le_of_ble_eq_true rfl⟩) (Wd.preV zo hA hZ hw hK hs.1 hs.2.1 rfl) rfl rfl hl.1 rfl (lv_room (Nat.le_of_ble_eq_true rfl)) dX10_laysKeys_30 ⟨Nat.le_of_ble_eq_true rfl, Nat.le_of_ble_eq_true rfl⟩) (fun x_11 L1 f1 H locs lx_11 ux_11 ex_11 hw => ?_)
    obtain ⟨rfl, rfl, ex_11⟩ := ex_11
    exact J33 x_11 lx_11 ux_11 (by omega) (by first | (unfold UN; rw [if_pos (by omega)]; done) | (unfold UN; rw [if_neg (by omega)]; omega) | fail "none") _ _ _ hw (lv_sub hl [2, 3, 4, 1, 0] rfl)
  · refine q_ldc (n := 36524) hx hb hown (hts _ (List.mem_cons_of_mem _ (mr24 _ (List.mem_of_getElem? (i := 0) rfl)))) rfl dX10_laysKeys_21 ?_
    refine lv_goto (tgt := 33) hx hb dX10_laysKeys_23 (by decide) ?_
    exact J33 36524 (by decide) (by decide) (by omega) (by first | (unfold UN; rw [if_pos (by omega)]; done) | (unfold UN; rw [if_neg (by omega)]; omega) | fail "none") _ _ _ hw (lv_sub hl [2, 3, 4, 1, 0] rfl)
set_option maxHeartbeats 4000000 in
set_option maxRecDepth 100000 in
theorem c_X10_laysTimes_o {Z : Zt} (zo : Zok Z) (l : Launch) (D : va_G) (cy : Cy) (L0 : List Nat) (f0 : Nat → va_E) (a0 : Nat) (x1 : Int) (lx1 : -2147483648 ≤ x1) (ux1 : x1 ≤ 2147483647) (x2 : Int) (lx2 : -2147483648 ≤ x2) (ux2 : x2 ≤ 2147483647) (ad : Nat → Nat) (hs : MS cy L0 f0 a0 ad) (hv : MV f0 a0 ad) (b1 : 0 ≤ x1) (b2 : x1 < fI f0 a0 5) (w1 : 0 ≤ x2) (w2 : x2 ≤ 1) (hd : DT f0 ad 36525) (mo : MOk f0 a0 ad) (O : Int → Int) (om : OM (aI f0 (ad 4)) (44 * x1) O) (hk : OKk (aI f0 (ad 4)) (44 * x1) O) : Cv Z l yX10_laysTimes (Cond.code yX10_laysTimes cX10_laysTimes 10 none :: TB) ({ frames := 3, cells := 0, slots := 0, locals := 74 } : Room) 0 0 D (tq cy) [.ref a0, .int (iI x1), .int (iI x2)] L0 f0 (fun (L1 : List Nat) (f1 : Nat → va_E) => L0 = L1 ∧ MS cy L0 f1 a0 ad ∧ Kp a0 ad [11, 12, 13] [] f0 f1 ∧ (0 ≤ aI f1 (ad 13) x2 ∧ aI f1 (ad 13) x2 ≤ 36525 ∧ (∀ x : Int, 0 ≤ x → x ≠ x2 → aI f1 (ad 13) x = aI f0 (ad 13) x) ∧ LW (aI f1 (ad 11)) (36525 * x2) (aI f1 (ad 13) x2) 16 ∧ LL (Oc (aI f0 (ad 4)) (44 * x1) O) (fun i : Int => aI f1 (ad 11) (36525 * x2 + i)) (fun i : Int => aI f1 (ad 12) (36525 * x2 + i)) (aI f1 (ad 13) x2) ∧ (∀ x : Int, 0 ≤ x → (x < 36525 * x2 ∨ 36525 * x2 + 36525 ≤ x) → aI f1 (ad 11) x = aI f0 (ad 11) x) ∧ (∀ x : Int, 0 ≤ x → (x < 36525 * x2 ∨ 36525 * x2 + 36525 ≤ x) → aI f1 (ad 12) x = aI f0 (ad 12) x))) := by
  refine Cv.enter (cc := cX10_laysTimes) (n := 10) rfl (plainFor_of_name (by decide)) (Nat.le_of_ble_eq_true rfl) ?_
  intro p e s m below meth c ls A hx hb hr hts hown hlocks hnm hml hK hA hAe hw hZ hl
  have hown : s.vm.findClass RX10 = some m.cls := hown
  have hl : lv_has ls 10 [(0, .ref a0), (1, .int (iI x1)), (2, .int (iI x2))] := hl
  have hN : ZN s := (zo.2.2.2.2 _ _ _ hZ).2
  have hE : Kp a0 ad [11, 12, 13] [] f0 f0 := Kp.refl _ _ _ _ _
  have rv := hv.row x1 b1 b2
  have ro := hv.at b1 b2
  have hbb : (0 : Int) ≤ 36525 * x2 := by omega
  have od : OdR (fun l : Int => aI f0 (ad 4) (44 * x1 + 12 + 2 * l)) (fun l : Int => aI f0 (ad 4) (44 * x1 + 13 + 2 * l)) (aI f0 (ad 4) (44 * x1 + 11)) O := om
  have hr9 := kg_rg (g := (aI f0 (ad 4))) (p := (44 * x1)) (by omega) (by omega)
  refine lv_aload_n hx hb dX10_laysTimes_0 rfl (lv_at hl 0 rfl) ?_
  refine lv_iload_n hx hb dX10_laysTimes_1 rfl (lv_at hl 1 rfl) ?_
  refine lv_iload_n hx hb dX10_laysTimes_2 rfl (lv_at hl 2 rfl) ?_
  refine q_call_i hA hK hw (va_runV (As := [.int (iI x1), .int (iI x2)]) (rest := []) ⟨hx, hb, hml, hown, hts⟩ (c_X10_laysKeys_w zo l D cy L0 f0 a0 x1 lx1 ux1 x2 lx2 ux2 ad hs (by omega) (by omega) (by omega) (by omega) (by omega) (by omega) (by omega) (by omega) (by omega) (by omega) (by omega) hd (mo x1 (by omega) (by omega)) _) (cwV 2 hts (gT (inV (mr24 _ (List.mem_of_getElem? (i := 20) rfl)) (mr24 _ (List.mem_of_getElem? (i := 21) rfl)) (mr24 _ (List.mem_of_getElem? (i := 22) rfl)) (mr1 _ (List.mem_of_getElem? (i := 5) rfl)) (mr24 _ (List.mem_of_getElem? (i := 23) rfl)))) rfl rfl rfl (by decide +kernel) ⟨Nat.le_of_ble_eq_true rfl, Nat.le_of_ble_eq_true rfl⟩) (Wd.preV zo hA hZ hw hK hs.1 hs.2.1 rfl) rfl rfl hl.1 rfl (lv_room (Nat.le_of_ble_eq_true rfl)) dX10_laysTimes_3 ⟨Nat.le_of_ble_eq_true rfl, Nat.le_of_ble_eq_true rfl⟩) (fun x_1 L1 f_2 H locs lx_1 ux_1 ex_1 hw => ?_)
  obtain ⟨rfl, hs, hX, ex_1⟩ := ex_1
  have hE := hE.trans (hX.mono (rs' := [11, 12, 13]) (fs' := []) (by decide) (by decide))
  have Q4 : aI f_2 (ad 4) = aI f0 (ad 4) := funext fun x => hE.1 4 rfl (by decide) x
  have q0_f_2 : aI f_2 (ad 4) (44 * x1 + 1) = aI f0 (ad 4) (44 * x1 + 1) := hE.1 4 rfl (by decide) _
  have q1_f_2 : aI f_2 (ad 4) (44 * x1 + 11) = aI f0 (ad 4) (44 * x1 + 11) := hE.1 4 rfl (by decide) _
  obtain ⟨p3a, p3b, -, rr, ks, ko, kl, f12⟩ := ex_1
  have f11 : ∀ x : Int, 0 ≤ x → (x < 36525 * x2 ∨ 36525 * x2 + 36525 ≤ x) → aI f_2 (ad 11) x = aI f0 (ad 11) x := fun x _ _ => hX.1 11 rfl (by decide) x
  have lt : LT (aI f0 (ad 4)) (aI f_2 (ad 12)) (aI f_2 (ad 11)) (44 * x1) (36525 * x2) x_1 0 0 := LT.init ro ks ko
  obtain ⟨fA, eA⟩ : ∃ z : Nat → va_E, z = f_2 := ⟨_, rfl⟩
  rw [← kg_ref (g := (aI f0 (ad 4))) (p := (44 * x1)) (by omega), ← eA] at kl
  have lp : LPo (fun j : Int => aI fA (ad 12) (36525 * x2 + j)) (aI f_2 (ad 12)) (aI f_2 (ad 11)) O (aI f0 (ad 4) (44 * x1 + 1)) (36525 * x2) x_1 0 0 := LPo.init (fun j => by rw [eA]) rfl rfl
  refine lv_istore_n (lv' := [(3, .int (iI x_1)), (0, .ref a0), (1, .int (iI x1)), (2, .int (iI x2))]) hx hb dX10_laysTimes_6 rfl hl (by decide) rfl (fun ls hl => ?_)
  refine q_ldc (n := 36525) hx hb hown (hts _ (List.mem_cons_of_mem _ (mr3 _ (List.mem_of_getElem? (i := 9) rfl)))) rfl dX10_laysTimes_7 ?_
  refine lv_iload_n hx hb dX10_laysTimes_9 rfl (lv_at hl 3 rfl) ?_
  first | refine q_imul hx hb dX10_laysTimes_10 ⟨by omega, by omega⟩ (fun x_3 lx_3 ux_3 ex_3 => ?_) | refine q_imulw hx hb dX10_laysTimes_10 (fun x_3 lx_3 ux_3 ex_3 => ?_)
  refine lv_istore (lv' := [(4, .int (iI x_3)), (3, .int (iI x_1)), (0, .ref a0), (1, .int (iI x1)), (2, .int (iI x2))]) hx hb dX10_laysTimes_11 hl (by decide) rfl (fun ls hl => ?_)
  refine q_iconst hx hb dX10_laysTimes_13 ?_
  refine lv_istore (lv' := [(5, .int (iI 0)), (4, .int (iI x_3)), (3, .int (iI x_1)), (0, .ref a0), (1, .int (iI x1)), (2, .int (iI x2))]) hx hb dX10_laysTimes_14 hl (by decide) rfl (fun ls hl => ?_)
  refine q_iconst hx hb dX10_laysTimes_16 ?_
  refine lv_istore (lv' := [(6, .int (iI 0)), (5, .int (iI 0)), (4, .int (iI x_3)), (3, .int (iI x_1)), (0, .ref a0), (1, .int (iI x1)), (2, .int (iI x2))]) hx hb dX10_laysTimes_17 hl (by decide) rfl (fun ls hl => ?_)
  have J19 : ∀ (n19 : Nat) (y5_19 : Int) (ly5_19 : -2147483648 ≤ y5_19) (uy5_19 : y5_19 ≤ 2147483647) (y6_19 : Int) (ly6_19 : -2147483648 ≤ y6_19) (uy6_19 : y6_19 ≤ 2147483647) (L : List Nat) (fw19 : Nat → va_E) (hs : MS cy L0 fw19 a0 ad) (hE : Kp a0 ad [11, 12, 13] [] f0 fw19) (i1 : 0 ≤ y6_19) (i2 : y6_19 ≤ x_1) (i3 : 0 ≤ y5_19) (i4 : y5_19 ≤ y6_19) (lt : LT (aI f0 (ad 4)) (aI fw19 (ad 12)) (aI fw19 (ad 11)) (44 * x1) (36525 * x2) x_1 y5_19 y6_19) (rr : ∀ x : Int, 0 ≤ x → x ≠ x2 → aI fw19 (ad 13) x = aI f0 (ad 13) x) (lp : LPo (fun j : Int => aI fA (ad 12) (36525 * x2 + j)) (aI fw19 (ad 12)) (aI fw19 (ad 11)) O (aI f0 (ad 4) (44 * x1 + 1)) (36525 * x2) x_1 y5_19 y6_19) (f11 : ∀ x : Int, 0 ≤ x → (x < 36525 * x2 ∨ 36525 * x2 + 36525 ≤ x) → aI fw19 (ad 11) x = aI f0 (ad 11) x) (f12 : ∀ x : Int, 0 ≤ x → (x < 36525 * x2 ∨ 36525 * x2 + 36525 ≤ x) → aI fw19 (ad 12) x = aI f0 (ad 12) x) (hn19 : ((2147483647 : Int) - y6_19).toNat < n19) (H : Heap) (locs : List Loc) (ls : Array Slot) (hw : Wd D A s.heap L0 fw19 H locs) (hl : lv_has ls 10 [(0, .ref a0), (1, .int (iI x1)), (2, .int (iI x2)), (3, .int (iI x_1)), (4, .int (iI x_3)), (5, .int (iI y5_19)), (6, .int (iI y6_19))]), W p l e ({ frames := 3, cells := 0, slots := 0, locals := 74 } : Room) s m ([.ref a0, .int (iI x1), .int (iI x2)] : List Value).toArray below meth c H locs (0 + 0) (0 + 0) (MQ below (Qv D (tq cy) L0 f0 s.heap.size (fun (L1 : List Nat) (f1 : Nat → va_E) => L0 = L1 ∧ MS cy L0 f1 a0 ad ∧ Kp a0 ad [11, 12, 13] [] f0 f1 ∧ (0 ≤ aI f1 (ad 13) x2 ∧ aI f1 (ad 13) x2 ≤ 36525 ∧ (∀ x : Int, 0 ≤ x → x ≠ x2 → aI f1 (ad 13) x = aI f0 (ad 13) x) ∧ LW (aI f1 (ad 11)) (36525 * x2) (aI f1 (ad 13) x2) 16 ∧ LL (Oc (aI f0 (ad 4)) (44 * x1) O) (fun i : Int => aI f1 (ad 11) (36525 * x2 + i)) (fun i : Int => aI f1 (ad 12) (36525 * x2 + i)) (aI f1 (ad 13) x2) ∧ (∀ x : Int, 0 ≤ x → (x < 36525 * x2 ∨ 36525 * x2 + 36525 ≤ x) → aI f1 (ad 11) x = aI f0 (ad 11) x) ∧ (∀ x : Int, 0 ≤ x → (x < 36525 * x2 ∨ 36525 * x2 + 36525 ≤ x) → aI f1 (ad 12) x = aI f0 (ad 12) x)))) ([.ref a0, .int (iI x1), .int (iI x2)] : List Value).toArray s 0 0 A) (F0 m 19 ls []) := by
    intro n19
    induction n19 with
    | zero => intro y5_19 ly5_19 uy5_19 y6_19 ly6_19 uy6_19 L fw19 hs hE i1 i2 i3 i4 lt rr lp f11 f12 hn19; exact absurd hn19 (Nat.not_lt_zero _)
    | succ n19 ih19 =>
      intro y5_19 ly5_19 uy5_19 y6_19 ly6_19 uy6_19 L fw19 hs hE i1 i2 i3 i4 lt rr lp f11 f12 hn19 H locs ls hw hl
      have Q4 : aI fw19 (ad 4) = aI f0 (ad 4) := funext fun x => hE.1 4 rfl (by decide) x
      have q0_fw19 : aI fw19 (ad 4) (44 * x1 + 1) = aI f0 (ad 4) (44 * x1 + 1) := hE.1 4 rfl (by decide) _
      have q1_fw19 : aI fw19 (ad 4) (44 * x1 + 11) = aI f0 (ad 4) (44 * x1 + 11) := hE.1 4 rfl (by decide) _
      refine lv_iload hx hb dX10_laysTimes_19 (lv_at hl 6 rfl) ?_
      refine lv_iload_n hx hb dX10_laysTimes_21 rfl (lv_at hl 3 rfl) ?_
      refine q_icmp_ge (tgt := 94) hx hb dX10_laysTimes_22 (by decide) ⟨ly6_19, uy6_19⟩ ⟨lx_1, ux_1⟩ (fun c22 => ?_) (fun c22 => ?_)
      · have ld := lt.done ro
        have lm := lp.done (A := (fun l : Int => aI f0 (ad 4) (44 * x1 + 13 + 2 * l))) (B := (fun l : Int => aI f0 (ad 4) (44 * x1 + 12 + 2 * l))) kl (by omega) rfl
        refine q_iconst hx hb dX10_laysTimes_94 ?_
        refine lv_istore (lv' := [(6, .int (iI 0)), (0, .ref a0), (1, .int (iI x1)), (2, .int (iI x2)), (3, .int (iI x_1)), (4, .int (iI x_3)), (5, .int (iI y5_19))]) hx hb dX10_laysTimes_95 hl (by decide) rfl (fun ls hl => ?_)
        have J97 : ∀ (n97 : Nat) (y5_97 : Int) (ly5_97 : -2147483648 ≤ y5_97) (uy5_97 : y5_97 ≤ 2147483647) (y6_97 : Int) (ly6_97 : -2147483648 ≤ y6_97) (uy6_97 : y6_97 ≤ 2147483647) (L : List Nat) (fw97 : Nat → va_E) (hs : MS cy L0 fw97 a0 ad) (hE : Kp a0 ad [11, 12, 13] [] f0 fw97) (i1 : 0 ≤ y6_97) (i2 : y6_97 ≤ aI f0 (ad 4) (44 * x1 + 11)) (i3 : 0 ≤ y5_97) (nb : y5_97 + aI f0 (ad 4) (44 * x1 + 11) ≤ 36525 + y6_97) (lw : LW (aI fw97 (ad 11)) (36525 * x2) y5_97 y6_97) (rr : ∀ x : Int, 0 ≤ x → x ≠ x2 → aI fw97 (ad 13) x = aI f0 (ad 13) x) (ll : LL (PQ (Q0 (KG (aI f0 (ad 4)) (44 * x1)) O (aI f0 (ad 4) (44 * x1 + 1))) (fun l : Int => aI f0 (ad 4) (44 * x1 + 13 + 2 * l)) (fun l : Int => aI f0 (ad 4) (44 * x1 + 12 + 2 * l)) y6_97) (fun i : Int => aI fw97 (ad 11) (36525 * x2 + i)) (fun i : Int => aI fw97 (ad 12) (36525 * x2 + i)) y5_97) (f11 : ∀ x : Int, 0 ≤ x → (x < 36525 * x2 ∨ 36525 * x2 + 36525 ≤ x) → aI fw97 (ad 11) x = aI f0 (ad 11) x) (f12 : ∀ x : Int, 0 ≤ x → (x < 36525 * x2 ∨ 36525 * x2 + 36525 ≤ x) → aI fw97 (ad 12) x = aI f0 (ad 12) x) (hn97 : ((2147483647 : Int) - y6_97).toNat < n97) (H : Heap) (locs : List Loc) (ls : Array Slot) (hw : Wd D A s.heap L0 fw97 H locs) (hl : lv_has ls 10 [(0, .ref a0), (1, .int (iI x1)), (2, .int (iI x2)), (4, .int (iI x_3)), (5, .int (iI y5_97)), (6, .int (iI y6_97))]), W p l e ({ frames := 3, cells := 0, slots := 0, locals := 74 } : Room) s m ([.ref a0, .int (iI x1), .int (iI x2)] : List Value).toArray below meth c H locs (0 + 0) (0 + 0) (MQ below (Qv D (tq cy) L0 f0 s.heap.size (fun (L1 : List Nat) (f1 : Nat → va_E) => L0 = L1 ∧ MS cy L0 f1 a0 ad ∧ Kp a0 ad [11, 12, 13] [] f0 f1 ∧ (0 ≤ aI f1 (ad 13) x2 ∧ aI f1 (ad 13) x2 ≤ 36525 ∧ (∀ x : Int, 0 ≤ x → x ≠ x2 → aI f1 (ad 13) x = aI f0 (ad 13) x) ∧ LW (aI f1 (ad 11)) (36525 * x2) (aI f1 (ad 13) x2) 16 ∧ LL (Oc (aI f0 (ad 4)) (44 * x1) O) (fun i : Int => aI f1 (ad 11) (36525 * x2 + i)) (fun i : Int => aI f1 (ad 12) (36525 * x2 + i)) (aI f1 (ad 13) x2) ∧ (∀ x : Int, 0 ≤ x → (x < 36525 * x2 ∨ 36525 * x2 + 36525 ≤ x) → aI f1 (ad 11) x = aI f0 (ad 11) x) ∧ (∀ x : Int, 0 ≤ x → (x < 36525 * x2 ∨ 36525 * x2 + 36525 ≤ x) → aI f1 (ad 12) x = aI f0 (ad 12) x)))) ([.ref a0, .int (iI x1), .int (iI x2)] : List Value).toArray s 0 0 A) (F0 m 97 ls []) := by
          intro n97
          induction n97 with
          | zero => intro y5_97 ly5_97 uy5_97 y6_97 ly6_97 uy6_97 L fw97 hs hE i1 i2 i3 nb lw rr ll f11 f12 hn97; exact absurd hn97 (Nat.not_lt_zero _)
          | succ n97 ih97 =>
            intro y5_97 ly5_97 uy5_97 y6_97 ly6_97 uy6_97 L fw97 hs hE i1 i2 i3 nb lw rr ll f11 f12 hn97 H locs ls hw hl
            have Q4 : aI fw97 (ad 4) = aI f0 (ad 4) := funext fun x => hE.1 4 rfl (by decide) x
            have q0_fw97 : aI fw97 (ad 4) (44 * x1 + 1) = aI f0 (ad 4) (44 * x1 + 1) := hE.1 4 rfl (by decide) _
            have q1_fw97 : aI fw97 (ad 4) (44 * x1 + 11) = aI f0 (ad 4) (44 * x1 + 11) := hE.1 4 rfl (by decide) _
            refine lv_iload hx hb dX10_laysTimes_97 (lv_at hl 5 rfl) ?_
            refine lv_aload_n hx hb dX10_laysTimes_99 rfl (lv_at hl 0 rfl) ?_
            refine lv_iload_n hx hb dX10_laysTimes_100 rfl (lv_at hl 1 rfl) ?_
            refine q_bipush hx hb dX10_laysTimes_101 rfl ?_
            refine q_call_i hA hK hw (va_runV (As := [.int (iI x1), .int (iI 11)]) (rest := [.int (iI y6_97)]) ⟨hx, hb, hml, hown, hts⟩ (c_X10_get zo l D cy L0 fw97 a0 x1 lx1 ux1 11 (by decide) (by decide) ad hs (by omega) (by omega) (by omega) (by omega) _) (cwV 2 hts (gT (inV (mr25 _ (List.mem_of_getElem? (i := 0) rfl)) (mr25 _ (List.mem_of_getElem? (i := 1) rfl)) (mr25 _ (List.mem_of_getElem? (i := 2) rfl)) (mr1 _ (List.mem_of_getElem? (i := 5) rfl)) (mr25 _ (List.mem_of_getElem? (i := 3) rfl)))) rfl rfl rfl (by decide +kernel) ⟨Nat.le_of_ble_eq_true rfl, Nat.le_of_ble_eq_true rfl⟩) (Wd.preV zo hA hZ hw hK hs.1 hs.2.1 rfl) rfl rfl hl.1 rfl (lv_room (Nat.le_of_ble_eq_true rfl)) dX10_laysTimes_103 ⟨Nat.le_of_ble_eq_true rfl, Nat.le_of_ble_eq_true rfl⟩) (fun x_4 L1 f1 H locs lx_4 ux_4 ex_4 hw => ?_)
            obtain ⟨rfl, rfl, ex_4⟩ := ex_4
            refine q_icmp_ge (tgt := 290) hx hb dX10_laysTimes_106 (by decide) ⟨ly6_97, uy6_97⟩ ⟨lx_4, ux_4⟩ (fun c106 => ?_) (fun c106 => ?_)
            · refine lv_aload_n hx hb dX10_laysTimes_290 rfl (lv_at hl 0 rfl) ?_
              refine q_getr (ci := 8) (C := RX10) (T := TX10) (N := 26) hx hb hts (fun w h => List.mem_cons_of_mem _ (mfX100 w h)) hown hK hw hs.1 hs.2.1 rfl 13 (by decide) (hts _ (List.mem_cons_of_mem _ (mr3 _ (List.mem_of_getElem? (i := 21) rfl)))) (fun _ h => h) rfl (hs.2.2.1 13 rfl).1 dX10_laysTimes_291 ?_
              refine lv_iload_n hx hb dX10_laysTimes_294 rfl (lv_at hl 2 rfl) ?_
              refine lv_iload hx hb dX10_laysTimes_295 (lv_at hl 4 rfl) ?_
              refine q_iast hx hb hK hw (hs.2.2.1 13 rfl).2.1 1 (hs.2.2.1 13 rfl).2.2 rfl ⟨lx2, ux2⟩ (by omega) (by show _ < ((2 : Nat) : Int); omega) dX10_laysTimes_297 (fun H locs hw => ?_)
              obtain ⟨f_5, ef_5⟩ : ∃ g : Nat → va_E, g = aU fw97 (ad 13) x2 (iI y5_97) := ⟨_, rfl⟩
              have hE := hE.trans (show Kp a0 ad [11, 12, 13] [] fw97 f_5 by rw [ef_5]; exact Kp_aU hs rfl (by decide))
              have hs_ := hs
              have hs : MS cy L0 f_5 a0 ad := by rw [ef_5]; exact MS_aU hs rfl
              rw [← ef_5] at hw
              have Q4 : aI f_5 (ad 4) = aI f0 (ad 4) := funext fun x => hE.1 4 rfl (by decide) x
              have q0_f_5 : aI f_5 (ad 4) (44 * x1 + 1) = aI f0 (ad 4) (44 * x1 + 1) := hE.1 4 rfl (by decide) _
              have q1_f_5 : aI f_5 (ad 4) (44 * x1 + 11) = aI f0 (ad 4) (44 * x1 + 11) := hE.1 4 rfl (by decide) _
              have r1 : aI f_5 (ad 13) x2 = y5_97 := by rw [ef_5]; exact hs_.aI_self rfl ⟨by omega, by omega⟩
              have r2 : ∀ x : Int, 0 ≤ x → x ≠ x2 → aI f_5 (ad 13) x = aI f0 (ad 13) x := fun x q0 q1 => Eq.trans (by rw [ef_5]; exact hs_.aI_nj rfl (by omega) q0 q1) (rr x q0 q1)
              have lwz : LW (aI f_5 (ad 11)) (36525 * x2) y5_97 16 := (lw.mono (by omega)).same (funext fun x => by rw [ef_5]; exact hs_.aI_ne rfl rfl (by decide) _)
              have o297a' : ∀ x : Int, aI f_5 (ad 11) x = aI fw97 (ad 11) x := fun x => by rw [ef_5]; exact hs_.aI_ne rfl rfl (by decide) _
              have o297b' : ∀ x : Int, aI f_5 (ad 12) x = aI fw97 (ad 12) x := fun x => by rw [ef_5]; exact hs_.aI_ne rfl rfl (by decide) _
              have llz : LL (Oc (aI f0 (ad 4)) (44 * x1) O) (fun i : Int => aI f_5 (ad 11) (36525 * x2 + i)) (fun i : Int => aI f_5 (ad 12) (36525 * x2 + i)) (y5_97) := (ll.oc od (by omega)).row rfl (fun i _ _ => o297a' _) (fun i _ _ => o297b' _)
              have f11 := fun x q0 q1 => (o297a' x).trans (f11 x q0 q1)
              have f12 := fun x q0 q1 => (o297b' x).trans (f12 x q0 q1)
              exact q_ret_v hx hb hr hlocks hK hAe hw (Nat.le_of_ble_eq_true rfl) (Nat.le_of_ble_eq_true rfl) dX10_laysTimes_298 (by exact ⟨rfl, hs, hE, by rw [r1]; omega, by rw [r1]; omega, r2, by rw [r1]; exact lwz, by rw [r1]; exact llz, f11, f12⟩)
            · refine lv_aload_n hx hb dX10_laysTimes_109 rfl (lv_at hl 0 rfl) ?_
              refine lv_iload_n hx hb dX10_laysTimes_110 rfl (lv_at hl 1 rfl) ?_
              refine q_bipush hx hb dX10_laysTimes_111 rfl ?_
              refine q_iconst hx hb dX10_laysTimes_113 ?_
              refine lv_iload hx hb dX10_laysTimes_114 (lv_at hl 5 rfl) ?_
              first | refine q_imul hx hb dX10_laysTimes_116 ⟨by omega, by omega⟩ (fun x_6 lx_6 ux_6 ex_6 => ?_) | refine q_imulw hx hb dX10_laysTimes_116 (fun x_6 lx_6 ux_6 ex_6 => ?_)
              first | refine q_iadd hx hb dX10_laysTimes_117 ⟨by omega, by omega⟩ (fun x_7 lx_7 ux_7 ex_7 => ?_) | refine q_iaddw hx hb dX10_laysTimes_117 (fun x_7 lx_7 ux_7 ex_7 => ?_)
              refine q_iconst hx hb dX10_laysTimes_118 ?_
              first | refine q_iadd hx hb dX10_laysTimes_119 ⟨by omega, by omega⟩ (fun x_8 lx_8 ux_8 ex_8 => ?_) | refine q_iaddw hx hb dX10_laysTimes_119 (fun x_8 lx_8 ux_8 ex_8 => ?_)
              refine q_call_i hA hK hw (va_runV (As := [.int (iI x1), .int (iI x_8)]) (rest := []) ⟨hx, hb, hml, hown, hts⟩ (c_X10_get zo l D cy L0 fw97 a0 x1 lx1 ux1 x_8 lx_8 ux_8 ad hs (by omega) (by omega) (by omega) (by omega) _) (cwV 2 hts (gT (inV (mr25 _ (List.mem_of_getElem? (i := 0) rfl)) (mr25 _ (List.mem_of_getElem? (i := 1) rfl)) (mr25 _ (List.mem_of_getElem? (i := 2) rfl)) (mr1 _ (List.mem_of_getElem? (i := 5) rfl)) (mr25 _ (List.mem_of_getElem? (i := 3) rfl)))) rfl rfl rfl (by decide +kernel) ⟨Nat.le_of_ble_eq_true rfl, Nat.le_of_ble_eq_true rfl⟩) (Wd.preV zo hA hZ hw hK hs.1 hs.2.1 rfl) rfl rfl hl.1 rfl (lv_room (Nat.le_of_ble_eq_true rfl)) dX10_laysTimes_120 ⟨Nat.le_of_ble_eq_true rfl, Nat.le_of_ble_eq_true rfl⟩) (fun x_9 L1 f1 H locs lx_9 ux_9 ex_9 hw => ?_)
              obtain ⟨rfl, rfl, ex_9⟩ := ex_9
              have t7 : x_9 = aI f0 (ad 4) (44 * x1 + 13 + 2 * y6_97) := ex_9.trans ((congrFun Q4 _).trans (aI_cg (by omega)))
              have lo7 : -1 ≤ aI f0 (ad 4) (44 * x1 + 13 + 2 * y6_97) := (od.1 y6_97 (by omega) (by omega)).2
              have e120 : x_9 ≤ 52595999 := by have q := (ro.2.1 y6_97 (by omega) (by omega)).2.2.2.2; have e9 : x_9 = aI f0 (ad 4) (44 * x1 + 13 + 2 * y6_97) := ex_9.trans ((congrFun Q4 _).trans (aI_cg (by omega))); omega
              refine lv_istore (lv' := [(7, .int (iI x_9)), (0, .ref a0), (1, .int (iI x1)), (2, .int (iI x2)), (4, .int (iI x_3)), (5, .int (iI y5_97)), (6, .int (iI y6_97))]) hx hb dX10_laysTimes_123 hl (by decide) rfl (fun ls hl => ?_)
              refine lv_aload_n hx hb dX10_laysTimes_125 rfl (lv_at hl 1 rfl) ?_
              refine lv_iload_n hx hb dX10_laysTimes_126 rfl (lv_at hl 2 rfl) ?_
              refine q_bipush hx hb dX10_laysTimes_127 rfl ?_
              refine q_iconst hx hb dX10_laysTimes_129 ?_
              refine lv_iload hx hb dX10_laysTimes_130 (lv_at hl 6 rfl) ?_
              first | refine q_imul hx hb dX10_laysTimes_132 ⟨by omega, by omega⟩ (fun x_10 lx_10 ux_10 ex_10 => ?_) | refine q_imulw hx hb dX10_laysTimes_132 (fun x_10 lx_10 ux_10 ex_10 => ?_)
              first | refine q_iadd hx hb dX10_laysTimes_133 ⟨by omega, by omega⟩ (fun x_11 lx_11 ux_11 ex_11 => ?_) | refine q_iaddw hx hb dX10_laysTimes_133 (fun x_11 lx_11 ux_11 ex_11 => ?_)
              refine q_call_i hA hK hw (va_runV (As := [.int (iI x1), .int (iI x_11)]) (rest := []) ⟨hx, hb, hml, hown, hts⟩ (c_X10_get zo l D cy L0 fw97 a0 x1 lx1 ux1 x_11 lx_11 ux_11 ad hs (by omega) (by omega) (by omega) (by omega) _) (cwV 2 hts (gT (inV (mr25 _ (List.mem_of_getElem? (i := 0) rfl)) (mr25 _ (List.mem_of_getElem? (i := 1) rfl)) (mr25 _ (List.mem_of_getElem? (i := 2) rfl)) (mr1 _ (List.mem_of_getElem? (i := 5) rfl)) (mr25 _ (List.mem_of_getElem? (i := 3) rfl)))) rfl rfl rfl (by decide +kernel) ⟨Nat.le_of_ble_eq_true rfl, Nat.le_of_ble_eq_true rfl⟩) (Wd.preV zo hA hZ hw hK hs.1 hs.2.1 rfl) rfl rfl hl.1 rfl (lv_room (Nat.le_of_ble_eq_true rfl)) dX10_laysTimes_134 ⟨Nat.le_of_ble_eq_true rfl, Nat.le_of_ble_eq_true rfl⟩) (fun x_12 L1 f1 H locs lx_12 ux_12 ex_12 hw => ?_)
              obtain ⟨rfl, rfl, ex_12⟩ := ex_12
              have k8 : x_12 = aI f0 (ad 4) (44 * x1 + 12 + 2 * y6_97) := ex_12.trans ((congrFun Q4 _).trans (aI_cg (by omega)))
              refine lv_istore (lv' := [(8, .int (iI x_12)), (7, .int (iI x_9)), (0, .ref a0), (1, .int (iI x1)), (2, .int (iI x2)), (4, .int (iI x_3)), (5, .int (iI y5_97)), (6, .int (iI y6_97))]) hx hb dX10_laysTimes_137 hl (by decide) rfl (fun ls hl => ?_)
              refine lv_iload hx hb dX10_laysTimes_139 (lv_at hl 1 rfl) ?_
              have J284 : ∀ (z5_284 : Int) (lz5_284 : -2147483648 ≤ z5_284) (uz5_284 : z5_284 ≤ 2147483647) (L : List Nat) (fw284 : Nat → va_E) (hs : MS cy L0 fw284 a0 ad) (hE : Kp a0 ad [11, 12, 13] [] f0 fw284) (i3 : 0 ≤ z5_284) (nb : z5_284 + aI f0 (ad 4) (44 * x1 + 11) ≤ 36525 + y6_97 + 1) (lw : LW (aI fw284 (ad 11)) (36525 * x2) z5_284 (y6_97 + 1)) (rr : ∀ x : Int, 0 ≤ x → x ≠ x2 → aI fw284 (ad 13) x = aI f0 (ad 13) x) (ll : LL (PQ (Q0 (KG (aI f0 (ad 4)) (44 * x1)) O (aI f0 (ad 4) (44 * x1 + 1))) (fun l : Int => aI f0 (ad 4) (44 * x1 + 13 + 2 * l)) (fun l : Int => aI f0 (ad 4) (44 * x1 + 12 + 2 * l)) (y6_97 + 1)) (fun i : Int => aI fw284 (ad 11) (36525 * x2 + i)) (fun i : Int => aI fw284 (ad 12) (36525 * x2 + i)) z5_284) (f11 : ∀ x : Int, 0 ≤ x → (x < 36525 * x2 ∨ 36525 * x2 + 36525 ≤ x) → aI fw284 (ad 11) x = aI f0 (ad 11) x) (f12 : ∀ x : Int, 0 ≤ x → (x < 36525 * x2 ∨ 36525 * x2 + 36525 ≤ x) → aI fw284 (ad 12) x = aI f0 (ad 12) x) (H : Heap) (locs : List Loc) (ls : Array Slot) (hw : Wd D A s.heap L0 fw284 H locs) (hl : lv_has ls 10 [(0, .ref a0), (1, .int (iI x1)), (2, .int (iI x2)), (4, .int (iI x_3)), (5, .int (iI z5_284)), (6, .int (iI y6_97))]), W p l e ({ frames := 3, cells := 0, slots := 0, locals := 74 } : Room) s m ([.ref a0, .int (iI x1), .int (iI x2)] : List Value).toArray below meth c H locs (0 + 0 + 0 + 0 + 0) (0 + 0 + 0 + 0 + 0) (MQ below (Qv D (tq cy) L0 f0 s.heap.size (fun (L1 : List Nat) (f1 : Nat → va_E) => L0 = L1 ∧ MS cy L0 f1 a0 ad ∧ Kp a0 ad [11, 12, 13] [] f0 f1 ∧ (0 ≤ aI f1 (ad 13) x2 ∧ aI f1 (ad 13) x2 ≤ 36525 ∧ (∀ x : Int, 0 ≤ x → x ≠ x2 → aI f1 (ad 13) x = aI f0 (ad 13) x) ∧ LW (aI f1 (ad 11)) (36525 * x2) (aI f1 (ad 13) x2) 16 ∧ LL (Oc (aI f0 (ad 4)) (44 * x1) O) (fun i : Int => aI f1 (ad 11) (36525 * x2 + i)) (fun i : Int => aI f1 (ad 12) (36525 * x2 + i)) (aI f1 (ad 13) x2) ∧ (∀ x : Int, 0 ≤ x → (x < 36525 * x2 ∨ 36525 * x2 + 36525 ≤ x) → aI f1 (ad 11) x = aI f0 (ad 11) x) ∧ (∀ x : Int, 0 ≤ x → (x < 36525 * x2 ∨ 36525 * x2 + 36525 ≤ x) → aI f1 (ad 12) x = aI f0 (ad 12) x)))) ([.ref a0, .int (iI x1), .int (iI x2)] : List Value).toArray s 0 0 A) (F0 m 284 ls []) := by
                intro z5_284 lz5_284 uz5_284 L fw284 hs hE i3 nb lw rr ll f11 f12 H locs ls hw hl
                have Q4 : aI fw284 (ad 4) = aI f0 (ad 4) := funext fun x => hE.1 4 rfl (by decide) x
                have q0_fw284 : aI fw284 (ad 4) (44 * x1 + 1) = aI f0 (ad 4) (44 * x1 + 1) := hE.1 4 rfl (by decide) _
                have q1_fw284 : aI fw284 (ad 4) (44 * x1 + 11) = aI f0 (ad 4) (44 * x1 + 11) := hE.1 4 rfl (by decide) _
                obtain ⟨x_13, lx_13, ux_13, hx_13, ex_13⟩ := q_inc y6_97 (1)
                try (replace ex_13 : x_13 = y6_97 + (1) := by omega)
                refine lv_iinc (v := iI x_13) (lv' := [(6, .int (iI x_13)), (0, .ref a0), (1, .int (iI x1)), (2, .int (iI x2)), (4, .int (iI x_3)), (5, .int (iI z5_284))]) hx hb dX10_laysTimes_284 hl (k := 5) rfl hx_13 (by decide) rfl (fun ls hl => ?_)
                refine lv_goto (tgt := 97) hx hb dX10_laysTimes_287 (by decide) ?_
                exact ih97 z5_284 lz5_284 uz5_284 x_13 lx_13 ux_13 L0 fw284 hs hE (by omega) (by omega) (by omega) (by omega) (by first | exact lw.to (by omega) (by omega) | exact ld.2.2.to (by omega) (by omega)) (by exact rr) (by first | exact lm | exact ll.pq (by omega) (by omega) | fail "none") (by exact f11) (by exact f12) (by omega) _ _ _ hw (lv_sub hl [1, 2, 3, 4, 5, 0] rfl)
              refine q_if_ge (tgt := 147) hx hb dX10_laysTimes_141 (by decide) ⟨lx_9, ux_9⟩ (fun c141 => ?_) (fun c141 => ?_)
              · refine lv_iload hx hb dX10_laysTimes_147 (lv_at hl 6 rfl) ?_
                refine lv_istore (lv' := [(9, .int (iI y5_97)), (8, .int (iI x_12)), (7, .int (iI x_9)), (0, .ref a0), (1, .int (iI x1)), (2, .int (iI x2)), (4, .int (iI x_3)), (5, .int (iI y5_97)), (6, .int (iI y6_97))]) hx hb dX10_laysTimes_149 hl (by decide) rfl (fun ls hl => ?_)
                have J151 : ∀ (n151 : Nat) (y9_151 : Int) (ly9_151 : -2147483648 ≤ y9_151) (uy9_151 : y9_151 ≤ 2147483647) (L : List Nat) (fw151 : Nat → va_E) (hs : MS cy L0 fw151 a0 ad) (hE : Kp a0 ad [11, 12, 13] [] f0 fw151) (i9 : 0 ≤ y9_151) (i8 : y9_151 ≤ y5_97) (lx : LX (aI fw151 (ad 11)) (36525 * x2) y5_97 y9_151 y6_97) (rr : ∀ x : Int, 0 ≤ x → x ≠ x2 → aI fw151 (ad 13) x = aI f0 (ad 13) x) (le : LNx (PQ (Q0 (KG (aI f0 (ad 4)) (44 * x1)) O (aI f0 (ad 4) (44 * x1 + 1))) (fun l : Int => aI f0 (ad 4) (44 * x1 + 13 + 2 * l)) (fun l : Int => aI f0 (ad 4) (44 * x1 + 12 + 2 * l)) y6_97) (aI fw151 (ad 11)) (aI fw151 (ad 12)) (36525 * x2) y5_97 y9_151 x_9 x_12) (f11 : ∀ x : Int, 0 ≤ x → (x < 36525 * x2 ∨ 36525 * x2 + 36525 ≤ x) → aI fw151 (ad 11) x = aI f0 (ad 11) x) (f12 : ∀ x : Int, 0 ≤ x → (x < 36525 * x2 ∨ 36525 * x2 + 36525 ≤ x) → aI fw151 (ad 12) x = aI f0 (ad 12) x) (hn151 : (y9_151 + (2147483648 : Int)).toNat < n151) (H : Heap) (locs : List Loc) (ls : Array Slot) (hw : Wd D A s.heap L0 fw151 H locs) (hl : lv_has ls 10 [(0, .ref a0), (1, .int (iI x1)), (2, .int (iI x2)), (4, .int (iI x_3)), (5, .int (iI y5_97)), (6, .int (iI y6_97)), (7, .int (iI x_9)), (8, .int (iI x_12)), (9, .int (iI y9_151))]), W p l e ({ frames := 3, cells := 0, slots := 0, locals := 74 } : Room) s m ([.ref a0, .int (iI x1), .int (iI x2)] : List Value).toArray below meth c H locs (0 + 0 + 0 + 0 + 0) (0 + 0 + 0 + 0 + 0) (MQ below (Qv D (tq cy) L0 f0 s.heap.size (fun (L1 : List Nat) (f1 : Nat → va_E) => L0 = L1 ∧ MS cy L0 f1 a0 ad ∧ Kp a0 ad [11, 12, 13] [] f0 f1 ∧ (0 ≤ aI f1 (ad 13) x2 ∧ aI f1 (ad 13) x2 ≤ 36525 ∧ (∀ x : Int, 0 ≤ x → x ≠ x2 → aI f1 (ad 13) x = aI f0 (ad 13) x) ∧ LW (aI f1 (ad 11)) (36525 * x2) (aI f1 (ad 13) x2) 16 ∧ LL (Oc (aI f0 (ad 4)) (44 * x1) O) (fun i : Int => aI f1 (ad 11) (36525 * x2 + i)) (fun i : Int => aI f1 (ad 12) (36525 * x2 + i)) (aI f1 (ad 13) x2) ∧ (∀ x : Int, 0 ≤ x → (x < 36525 * x2 ∨ 36525 * x2 + 36525 ≤ x) → aI f1 (ad 11) x = aI f0 (ad 11) x) ∧ (∀ x : Int, 0 ≤ x → (x < 36525 * x2 ∨ 36525 * x2 + 36525 ≤ x) → aI f1 (ad 12) x = aI f0 (ad 12) x)))) ([.ref a0, .int (iI x1), .int (iI x2)] : List Value).toArray s 0 0 A) (F0 m 151 ls []) := by
                  intro n151
                  induction n151 with
                  | zero => intro y9_151 ly9_151 uy9_151 L fw151 hs hE i9 i8 lx rr le f11 f12 hn151; exact absurd hn151 (Nat.not_lt_zero _)
                  | succ n151 ih151 =>
                    intro y9_151 ly9_151 uy9_151 L fw151 hs hE i9 i8 lx rr le f11 f12 hn151 H locs ls hw hl
                    have Q4 : aI fw151 (ad 4) = aI f0 (ad 4) := funext fun x => hE.1 4 rfl (by decide) x
                    have q0_fw151 : aI fw151 (ad 4) (44 * x1 + 1) = aI f0 (ad 4) (44 * x1 + 1) := hE.1 4 rfl (by decide) _
                    have q1_fw151 : aI fw151 (ad 4) (44 * x1 + 11) = aI f0 (ad 4) (44 * x1 + 11) := hE.1 4 rfl (by decide) _
                    refine lv_iload hx hb dX10_laysTimes_151 (lv_at hl 8 rfl) ?_
                    have J257 : ∀ (c257 : y9_151 ≤ 0 ∨ aI fw151 (ad 11) (36525 * x2 + y9_151 - 1) < x_9 ∨ (aI fw151 (ad 11) (36525 * x2 + y9_151 - 1) = x_9 ∧ aI fw151 (ad 12) (36525 * x2 + y9_151 - 1) ≤ x_12)) (H : Heap) (locs : List Loc) (ls : Array Slot) (hw : Wd D A s.heap L0 fw151 H locs) (hl : lv_has ls 10 [(0, .ref a0), (1, .int (iI x1)), (2, .int (iI x2)), (4, .int (iI x_3)), (5, .int (iI y5_97)), (6, .int (iI y6_97)), (7, .int (iI x_9)), (8, .int (iI x_12)), (9, .int (iI y9_151))]), W p l e ({ frames := 3, cells := 0, slots := 0, locals := 74 } : Room) s m ([.ref a0, .int (iI x1), .int (iI x2)] : List Value).toArray below meth c H locs (0 + 0 + 0 + 0 + 0) (0 + 0 + 0 + 0 + 0) (MQ below (Qv D (tq cy) L0 f0 s.heap.size (fun (L1 : List Nat) (f1 : Nat → va_E) => L0 = L1 ∧ MS cy L0 f1 a0 ad ∧ Kp a0 ad [11, 12, 13] [] f0 f1 ∧ (0 ≤ aI f1 (ad 13) x2 ∧ aI f1 (ad 13) x2 ≤ 36525 ∧ (∀ x : Int, 0 ≤ x → x ≠ x2 → aI f1 (ad 13) x = aI f0 (ad 13) x) ∧ LW (aI f1 (ad 11)) (36525 * x2) (aI f1 (ad 13) x2) 16 ∧ LL (Oc (aI f0 (ad 4)) (44 * x1) O) (fun i : Int => aI f1 (ad 11) (36525 * x2 + i)) (fun i : Int => aI f1 (ad 12) (36525 * x2 + i)) (aI f1 (ad 13) x2) ∧ (∀ x : Int, 0 ≤ x → (x < 36525 * x2 ∨ 36525 * x2 + 36525 ≤ x) → aI f1 (ad 11) x = aI f0 (ad 11) x) ∧ (∀ x : Int, 0 ≤ x → (x < 36525 * x2 ∨ 36525 * x2 + 36525 ≤ x) → aI f1 (ad 12) x = aI f0 (ad 12) x)))) ([.ref a0, .int (iI x1), .int (iI x2)] : List Value).toArray s 0 0 A) (F0 m 257 ls []) := by
                      intro c257 H locs ls hw hl
                      have Q4 : aI fw151 (ad 4) = aI f0 (ad 4) := funext fun x => hE.1 4 rfl (by decide) x
                      have q0_fw151 : aI fw151 (ad 4) (44 * x1 + 1) = aI f0 (ad 4) (44 * x1 + 1) := hE.1 4 rfl (by decide) _
                      have q1_fw151 : aI fw151 (ad 4) (44 * x1 + 11) = aI f0 (ad 4) (44 * x1 + 11) := hE.1 4 rfl (by decide) _
                      refine lv_aload_n hx hb dX10_laysTimes_257 rfl (lv_at hl 0 rfl) ?_
                      refine q_getr (ci := 8) (C := RX10) (T := TX10) (N := 26) hx hb hts (fun w h => List.mem_cons_of_mem _ (mfX100 w h)) hown hK hw hs.1 hs.2.1 rfl 11 (by decide) (hts _ (List.mem_cons_of_mem _ (mr3 _ (List.mem_of_getElem? (i := 19) rfl)))) (fun _ h => h) rfl (hs.2.2.1 11 rfl).1 dX10_laysTimes_258 ?_
                      refine lv_iload hx hb dX10_laysTimes_261 (lv_at hl 3 rfl) ?_
                      refine lv_iload hx hb dX10_laysTimes_263 (lv_at hl 8 rfl) ?_
                      first | refine q_iadd hx hb dX10_laysTimes_265 ⟨by omega, by omega⟩ (fun x_14 lx_14 ux_14 ex_14 => ?_) | refine q_iaddw hx hb dX10_laysTimes_265 (fun x_14 lx_14 ux_14 ex_14 => ?_)
                      refine lv_iload hx hb dX10_laysTimes_266 (lv_at hl 6 rfl) ?_
                      refine q_iast hx hb hK hw (hs.2.2.1 11 rfl).2.1 1 (hs.2.2.1 11 rfl).2.2 rfl ⟨lx_14, ux_14⟩ (by omega) (by show _ < ((73050 : Nat) : Int); omega) dX10_laysTimes_268 (fun H locs hw => ?_)
                      obtain ⟨f_15, ef_15⟩ : ∃ g : Nat → va_E, g = aU fw151 (ad 11) x_14 (iI x_9) := ⟨_, rfl⟩
                      have hE := hE.trans (show Kp a0 ad [11, 12, 13] [] fw151 f_15 by rw [ef_15]; exact Kp_aU hs rfl (by decide))
                      have hs_ := hs
                      have hs : MS cy L0 f_15 a0 ad := by rw [ef_15]; exact MS_aU hs rfl
                      rw [← ef_15] at hw
                      have Q4 : aI f_15 (ad 4) = aI f0 (ad 4) := funext fun x => hE.1 4 rfl (by decide) x
                      have q0_f_15 : aI f_15 (ad 4) (44 * x1 + 1) = aI f0 (ad 4) (44 * x1 + 1) := hE.1 4 rfl (by decide) _
                      have q1_f_15 : aI f_15 (ad 4) (44 * x1 + 11) = aI f0 (ad 4) (44 * x1 + 11) := hE.1 4 rfl (by decide) _
                      have lw' : LW (aI f_15 (ad 11)) (36525 * x2) (y5_97 + 1) (y6_97 + 1) := lx.fill (t := x_9) (by omega) hbb rfl rfl ((aI_cg (show 36525 * x2 + y9_151 = x_14 by omega)).trans (by rw [ef_15]; exact hs_.aI_self rfl ⟨by omega, by omega⟩)) (by omega) (by omega) (fun x q0 q1 => by rw [ef_15]; exact hs_.aI_nj rfl (by omega) q0 (by omega))
                      have rr : ∀ x : Int, 0 ≤ x → x ≠ x2 → aI f_15 (ad 13) x = aI f0 (ad 13) x := fun x q0 q1 => Eq.trans (by rw [ef_15]; exact hs_.aI_ne rfl rfl (by decide) _) (rr x q0 q1)
                      have v268' : aI f_15 (ad 11) (36525 * x2 + y9_151) = x_9 := (aI_cg (show 36525 * x2 + y9_151 = x_14 by omega)).trans (by rw [ef_15]; exact hs_.aI_self rfl ⟨by omega, by omega⟩)
                      have n268' : ∀ x : Int, 0 ≤ x → x ≠ 36525 * x2 + y9_151 → aI f_15 (ad 11) x = aI fw151 (ad 11) x := fun x q0 q1 => by rw [ef_15]; exact hs_.aI_nj rfl (by omega) q0 (by omega)
                      have o268' : ∀ x : Int, aI f_15 (ad 12) x = aI fw151 (ad 12) x := fun x => by rw [ef_15]; exact hs_.aI_ne rfl rfl (by decide) _
                      have f11 : ∀ x : Int, 0 ≤ x → (x < 36525 * x2 ∨ 36525 * x2 + 36525 ≤ x) → aI f_15 (ad 11) x = aI f0 (ad 11) x := fun x q0 q1 => Eq.trans (by rw [ef_15]; exact hs_.aI_nj rfl (by omega) q0 (by omega)) (f11 x q0 q1)
                      have f12 : ∀ x : Int, 0 ≤ x → (x < 36525 * x2 ∨ 36525 * x2 + 36525 ≤ x) → aI f_15 (ad 12) x = aI f0 (ad 12) x := fun x q0 q1 => Eq.trans (by rw [ef_15]; exact hs_.aI_ne rfl rfl (by decide) _) (f12 x q0 q1)
                      refine lv_aload_n hx hb dX10_laysTimes_269 rfl (lv_at hl 0 rfl) ?_
                      refine q_getr (ci := 8) (C := RX10) (T := TX10) (N := 26) hx hb hts (fun w h => List.mem_cons_of_mem _ (mfX100 w h)) hown hK hw hs.1 hs.2.1 rfl 12 (by decide) (hts _ (List.mem_cons_of_mem _ (mr3 _ (List.mem_of_getElem? (i := 20) rfl)))) (fun _ h => h) rfl (hs.2.2.1 12 rfl).1 dX10_laysTimes_270 ?_
                      refine lv_iload hx hb dX10_laysTimes_273 (lv_at hl 3 rfl) ?_
                      refine lv_iload hx hb dX10_laysTimes_275 (lv_at hl 8 rfl) ?_
                      first | refine q_iadd hx hb dX10_laysTimes_277 ⟨by omega, by omega⟩ (fun x_16 lx_16 ux_16 ex_16 => ?_) | refine q_iaddw hx hb dX10_laysTimes_277 (fun x_16 lx_16 ux_16 ex_16 => ?_)
                      refine lv_iload hx hb dX10_laysTimes_278 (lv_at hl 7 rfl) ?_
                      refine q_iast hx hb hK hw (hs.2.2.1 12 rfl).2.1 1 (hs.2.2.1 12 rfl).2.2 rfl ⟨lx_16, ux_16⟩ (by omega) (by show _ < ((73050 : Nat) : Int); omega) dX10_laysTimes_280 (fun H locs hw => ?_)
                      obtain ⟨f_17, ef_17⟩ : ∃ g : Nat → va_E, g = aU f_15 (ad 12) x_16 (iI x_12) := ⟨_, rfl⟩
                      have hE := hE.trans (show Kp a0 ad [11, 12, 13] [] f_15 f_17 by rw [ef_17]; exact Kp_aU hs rfl (by decide))
                      have hs_ := hs
                      have hs : MS cy L0 f_17 a0 ad := by rw [ef_17]; exact MS_aU hs rfl
                      rw [← ef_17] at hw
                      have Q4 : aI f_17 (ad 4) = aI f0 (ad 4) := funext fun x => hE.1 4 rfl (by decide) x
                      have q0_f_17 : aI f_17 (ad 4) (44 * x1 + 1) = aI f0 (ad 4) (44 * x1 + 1) := hE.1 4 rfl (by decide) _
                      have q1_f_17 : aI f_17 (ad 4) (44 * x1 + 11) = aI f0 (ad 4) (44 * x1 + 11) := hE.1 4 rfl (by decide) _
                      have lw' : LW (aI f_17 (ad 11)) (36525 * x2) (y5_97 + 1) (y6_97 + 1) := lw'.same (funext fun x => by rw [ef_17]; exact hs_.aI_ne rfl rfl (by decide) _)
                      have rr : ∀ x : Int, 0 ≤ x → x ≠ x2 → aI f_17 (ad 13) x = aI f0 (ad 13) x := fun x q0 q1 => Eq.trans (by rw [ef_17]; exact hs_.aI_ne rfl rfl (by decide) _) (rr x q0 q1)
                      have v280' : aI f_17 (ad 12) (36525 * x2 + y9_151) = x_12 := (aI_cg (show 36525 * x2 + y9_151 = x_16 by omega)).trans (by rw [ef_17]; exact hs_.aI_self rfl ⟨by omega, by omega⟩)
                      have n280' : ∀ x : Int, 0 ≤ x → x ≠ 36525 * x2 + y9_151 → aI f_17 (ad 12) x = aI f_15 (ad 12) x := fun x q0 q1 => by rw [ef_17]; exact hs_.aI_nj rfl (by omega) q0 (by omega)
                      have o280' : ∀ x : Int, aI f_17 (ad 11) x = aI f_15 (ad 11) x := fun x => by rw [ef_17]; exact hs_.aI_ne rfl rfl (by decide) _
                      have np7 : ¬ (PQ (Q0 (KG (aI f0 (ad 4)) (44 * x1)) O (aI f0 (ad 4) (44 * x1 + 1))) (fun l : Int => aI f0 (ad 4) (44 * x1 + 13 + 2 * l)) (fun l : Int => aI f0 (ad 4) (44 * x1 + 12 + 2 * l)) y6_97) x_9 x_12 := by rw [t7, k8]; exact pq_new od (by omega) (by omega)
                      have eq7 : ∀ u d : Int, (PQ (Q0 (KG (aI f0 (ad 4)) (44 * x1)) O (aI f0 (ad 4) (44 * x1 + 1))) (fun l : Int => aI f0 (ad 4) (44 * x1 + 13 + 2 * l)) (fun l : Int => aI f0 (ad 4) (44 * x1 + 12 + 2 * l)) (y6_97 + 1)) u d ↔ ((PQ (Q0 (KG (aI f0 (ad 4)) (44 * x1)) O (aI f0 (ad 4) (44 * x1 + 1))) (fun l : Int => aI f0 (ad 4) (44 * x1 + 13 + 2 * l)) (fun l : Int => aI f0 (ad 4) (44 * x1 + 12 + 2 * l)) y6_97) u d ∨ (u = x_9 ∧ d = x_12)) := fun u d => by rw [t7, k8]; exact PQ.yes (by omega) (by show aI f0 (ad 4) (44 * x1 + 13 + 2 * y6_97) ≠ -1; omega)
                      have ll' : LL (PQ (Q0 (KG (aI f0 (ad 4)) (44 * x1)) O (aI f0 (ad 4) (44 * x1 + 1))) (fun l : Int => aI f0 (ad 4) (44 * x1 + 13 + 2 * l)) (fun l : Int => aI f0 (ad 4) (44 * x1 + 12 + 2 * l)) (y6_97 + 1)) (fun i : Int => aI f_17 (ad 11) (36525 * x2 + i)) (fun i : Int => aI f_17 (ad 12) (36525 * x2 + i)) (y5_97 + 1) := le.fill hbb rfl c257 np7 ((o280' _).trans v268') (fun x q0 q1 => (o280' x).trans (n268' x q0 q1)) v280' (fun x q0 q1 => (n280' x q0 q1).trans (o268' x)) eq7
                      have f12 : ∀ x : Int, 0 ≤ x → (x < 36525 * x2 ∨ 36525 * x2 + 36525 ≤ x) → aI f_17 (ad 12) x = aI f0 (ad 12) x := fun x q0 q1 => Eq.trans (by rw [ef_17]; exact hs_.aI_nj rfl (by omega) q0 (by omega)) (f12 x q0 q1)
                      have f11 : ∀ x : Int, 0 ≤ x → (x < 36525 * x2 ∨ 36525 * x2 + 36525 ≤ x) → aI f_17 (ad 11) x = aI f0 (ad 11) x := fun x q0 q1 => Eq.trans (by rw [ef_17]; exact hs_.aI_ne rfl rfl (by decide) _) (f11 x q0 q1)
                      obtain ⟨x_18, lx_18, ux_18, hx_18, ex_18⟩ := q_inc y5_97 (1)
                      try (replace ex_18 : x_18 = y5_97 + (1) := by omega)
                      refine lv_iinc (v := iI x_18) (lv' := [(5, .int (iI x_18)), (0, .ref a0), (1, .int (iI x1)), (2, .int (iI x2)), (4, .int (iI x_3)), (6, .int (iI y6_97)), (7, .int (iI x_9)), (8, .int (iI x_12)), (9, .int (iI y9_151))]) hx hb dX10_laysTimes_281 hl (k := 4) rfl hx_18 (by decide) rfl (fun ls hl => ?_)
                      exact J284 x_18 lx_18 ux_18 L0 f_17 hs hE (by omega) (by omega) (by first | exact lw.mono (by omega) | exact lw'.to (by omega) (by omega)) (by exact rr) (by first | exact ll.cg (fun t k => PQ.no (by omega) a7) | exact ll'.pq rfl (by omega) | fail "none") (by exact f11) (by exact f12) _ _ _ hw (lv_sub hl [1, 2, 3, 4, 0, 5] rfl)
                    refine q_if_le (tgt := 257) hx hb dX10_laysTimes_153 (by decide) ⟨ly9_151, uy9_151⟩ (fun c153 => ?_) (fun c153 => ?_)
                    · exact J257 (by omega) _ _ _ hw (lv_sub hl [0, 1, 2, 3, 4, 5, 6, 7, 8] rfl)
                    · refine lv_aload_n hx hb dX10_laysTimes_156 rfl (lv_at hl 0 rfl) ?_
                      refine q_getr (ci := 8) (C := RX10) (T := TX10) (N := 26) hx hb hts (fun w h => List.mem_cons_of_mem _ (mfX100 w h)) hown hK hw hs.1 hs.2.1 rfl 11 (by decide) (hts _ (List.mem_cons_of_mem _ (mr3 _ (List.mem_of_getElem? (i := 19) rfl)))) (fun _ h => h) rfl (hs.2.2.1 11 rfl).1 dX10_laysTimes_157 ?_
                      refine lv_iload hx hb dX10_laysTimes_160 (lv_at hl 3 rfl) ?_
                      refine lv_iload hx hb dX10_laysTimes_162 (lv_at hl 8 rfl) ?_
                      first | refine q_iadd hx hb dX10_laysTimes_164 ⟨by omega, by omega⟩ (fun x_19 lx_19 ux_19 ex_19 => ?_) | refine q_iaddw hx hb dX10_laysTimes_164 (fun x_19 lx_19 ux_19 ex_19 => ?_)
                      refine q_iconst hx hb dX10_laysTimes_165 ?_
                      first | refine q_isub hx hb dX10_laysTimes_166 ⟨by omega, by omega⟩ (fun x_20 lx_20 ux_20 ex_20 => ?_) | refine q_isubw hx hb dX10_laysTimes_166 (fun x_20 lx_20 ux_20 ex_20 => ?_)
                      refine q_iald hx hb hK hw (hs.2.2.1 11 rfl).2.1 1 (hs.2.2.1 11 rfl).2.2 rfl ⟨lx_20, ux_20⟩ (by omega) (by show _ < ((73050 : Nat) : Int); omega) dX10_laysTimes_167 (fun x_21 lx_21 ux_21 ex_21 => ?_)
                      have r167 : x_21 = aI fw151 (ad 11) (36525 * x2 + y9_151 - 1) := ex_21.trans (aI_cg (by omega))
                      refine lv_iload hx hb dX10_laysTimes_168 (lv_at hl 6 rfl) ?_
                      have J207 : ∀ (c207 : x_9 < aI fw151 (ad 11) (36525 * x2 + y9_151 - 1) ∨ (aI fw151 (ad 11) (36525 * x2 + y9_151 - 1) = x_9 ∧ x_12 < aI fw151 (ad 12) (36525 * x2 + y9_151 - 1))) (H : Heap) (locs : List Loc) (ls : Array Slot) (hw : Wd D A s.heap L0 fw151 H locs) (hl : lv_has ls 10 [(0, .ref a0), (1, .int (iI x1)), (2, .int (iI x2)), (4, .int (iI x_3)), (5, .int (iI y5_97)), (6, .int (iI y6_97)), (7, .int (iI x_9)), (8, .int (iI x_12)), (9, .int (iI y9_151))]), W p l e ({ frames := 3, cells := 0, slots := 0, locals := 74 } : Room) s m ([.ref a0, .int (iI x1), .int (iI x2)] : List Value).toArray below meth c H locs (0 + 0 + 0 + 0 + 0) (0 + 0 + 0 + 0 + 0) (MQ below (Qv D (tq cy) L0 f0 s.heap.size (fun (L1 : List Nat) (f1 : Nat → va_E) => L0 = L1 ∧ MS cy L0 f1 a0 ad ∧ Kp a0 ad [11, 12, 13] [] f0 f1 ∧ (0 ≤ aI f1 (ad 13) x2 ∧ aI f1 (ad 13) x2 ≤ 36525 ∧ (∀ x : Int, 0 ≤ x → x ≠ x2 → aI f1 (ad 13) x = aI f0 (ad 13) x) ∧ LW (aI f1 (ad 11)) (36525 * x2) (aI f1 (ad 13) x2) 16 ∧ LL (Oc (aI f0 (ad 4)) (44 * x1) O) (fun i : Int => aI f1 (ad 11) (36525 * x2 + i)) (fun i : Int => aI f1 (ad 12) (36525 * x2 + i)) (aI f1 (ad 13) x2) ∧ (∀ x : Int, 0 ≤ x → (x < 36525 * x2 ∨ 36525 * x2 + 36525 ≤ x) → aI f1 (ad 11) x = aI f0 (ad 11) x) ∧ (∀ x : Int, 0 ≤ x → (x < 36525 * x2 ∨ 36525 * x2 + 36525 ≤ x) → aI f1 (ad 12) x = aI f0 (ad 12) x)))) ([.ref a0, .int (iI x1), .int (iI x2)] : List Value).toArray s 0 0 A) (F0 m 207 ls []) := by
                        intro c207 H locs ls hw hl
                        have Q4 : aI fw151 (ad 4) = aI f0 (ad 4) := funext fun x => hE.1 4 rfl (by decide) x
                        have q0_fw151 : aI fw151 (ad 4) (44 * x1 + 1) = aI f0 (ad 4) (44 * x1 + 1) := hE.1 4 rfl (by decide) _
                        have q1_fw151 : aI fw151 (ad 4) (44 * x1 + 11) = aI f0 (ad 4) (44 * x1 + 11) := hE.1 4 rfl (by decide) _
                        refine lv_aload_n hx hb dX10_laysTimes_207 rfl (lv_at hl 0 rfl) ?_
                        refine q_getr (ci := 8) (C := RX10) (T := TX10) (N := 26) hx hb hts (fun w h => List.mem_cons_of_mem _ (mfX100 w h)) hown hK hw hs.1 hs.2.1 rfl 11 (by decide) (hts _ (List.mem_cons_of_mem _ (mr3 _ (List.mem_of_getElem? (i := 19) rfl)))) (fun _ h => h) rfl (hs.2.2.1 11 rfl).1 dX10_laysTimes_208 ?_
                        refine lv_iload hx hb dX10_laysTimes_211 (lv_at hl 3 rfl) ?_
                        refine lv_iload hx hb dX10_laysTimes_213 (lv_at hl 8 rfl) ?_
                        first | refine q_iadd hx hb dX10_laysTimes_215 ⟨by omega, by omega⟩ (fun x_22 lx_22 ux_22 ex_22 => ?_) | refine q_iaddw hx hb dX10_laysTimes_215 (fun x_22 lx_22 ux_22 ex_22 => ?_)
                        refine lv_aload_n hx hb dX10_laysTimes_216 rfl (lv_at hl 0 rfl) ?_
                        refine q_getr (ci := 8) (C := RX10) (T := TX10) (N := 26) hx hb hts (fun w h => List.mem_cons_of_mem _ (mfX100 w h)) hown hK hw hs.1 hs.2.1 rfl 11 (by decide) (hts _ (List.mem_cons_of_mem _ (mr3 _ (List.mem_of_getElem? (i := 19) rfl)))) (fun _ h => h) rfl (hs.2.2.1 11 rfl).1 dX10_laysTimes_217 ?_
                        refine lv_iload hx hb dX10_laysTimes_220 (lv_at hl 3 rfl) ?_
                        refine lv_iload hx hb dX10_laysTimes_222 (lv_at hl 8 rfl) ?_
                        first | refine q_iadd hx hb dX10_laysTimes_224 ⟨by omega, by omega⟩ (fun x_23 lx_23 ux_23 ex_23 => ?_) | refine q_iaddw hx hb dX10_laysTimes_224 (fun x_23 lx_23 ux_23 ex_23 => ?_)
                        refine q_iconst hx hb dX10_laysTimes_225 ?_
                        first | refine q_isub hx hb dX10_laysTimes_226 ⟨by omega, by omega⟩ (fun x_24 lx_24 ux_24 ex_24 => ?_) | refine q_isubw hx hb dX10_laysTimes_226 (fun x_24 lx_24 ux_24 ex_24 => ?_)
                        refine q_iald hx hb hK hw (hs.2.2.1 11 rfl).2.1 1 (hs.2.2.1 11 rfl).2.2 rfl ⟨lx_24, ux_24⟩ (by omega) (by show _ < ((73050 : Nat) : Int); omega) dX10_laysTimes_227 (fun x_25 lx_25 ux_25 ex_25 => ?_)
                        refine q_iast hx hb hK hw (hs.2.2.1 11 rfl).2.1 1 (hs.2.2.1 11 rfl).2.2 rfl ⟨lx_22, ux_22⟩ (by omega) (by show _ < ((73050 : Nat) : Int); omega) dX10_laysTimes_228 (fun H locs hw => ?_)
                        obtain ⟨f_26, ef_26⟩ : ∃ g : Nat → va_E, g = aU fw151 (ad 11) x_22 (iI x_25) := ⟨_, rfl⟩
                        have hE := hE.trans (show Kp a0 ad [11, 12, 13] [] fw151 f_26 by rw [ef_26]; exact Kp_aU hs rfl (by decide))
                        have hs_ := hs
                        have hs : MS cy L0 f_26 a0 ad := by rw [ef_26]; exact MS_aU hs rfl
                        rw [← ef_26] at hw
                        have Q4 : aI f_26 (ad 4) = aI f0 (ad 4) := funext fun x => hE.1 4 rfl (by decide) x
                        have q0_f_26 : aI f_26 (ad 4) (44 * x1 + 1) = aI f0 (ad 4) (44 * x1 + 1) := hE.1 4 rfl (by decide) _
                        have q1_f_26 : aI f_26 (ad 4) (44 * x1 + 11) = aI f0 (ad 4) (44 * x1 + 11) := hE.1 4 rfl (by decide) _
                        have v228 : aI f_26 (ad 11) (36525 * x2 + y9_151) = aI fw151 (ad 11) (36525 * x2 + y9_151 - 1) := (aI_cg (show 36525 * x2 + y9_151 = x_22 by omega)).trans (Eq.trans (by rw [ef_26]; exact hs_.aI_self rfl ⟨by omega, by omega⟩) (Eq.trans ex_25 (aI_cg (by omega))))
                        have lx' : LX (aI f_26 (ad 11)) (36525 * x2) y5_97 (y9_151 - 1) y6_97 := lx.shift (by omega) (by omega) hbb rfl v228 (fun x q0 q1 => by rw [ef_26]; exact hs_.aI_nj rfl (by omega) q0 (by omega))
                        have rr : ∀ x : Int, 0 ≤ x → x ≠ x2 → aI f_26 (ad 13) x = aI f0 (ad 13) x := fun x q0 q1 => Eq.trans (by rw [ef_26]; exact hs_.aI_ne rfl rfl (by decide) _) (rr x q0 q1)
                        have n228' : ∀ x : Int, 0 ≤ x → x ≠ 36525 * x2 + y9_151 → aI f_26 (ad 11) x = aI fw151 (ad 11) x := fun x q0 q1 => by rw [ef_26]; exact hs_.aI_nj rfl (by omega) q0 (by omega)
                        have o228' : ∀ x : Int, aI f_26 (ad 12) x = aI fw151 (ad 12) x := fun x => by rw [ef_26]; exact hs_.aI_ne rfl rfl (by decide) _
                        have f11 : ∀ x : Int, 0 ≤ x → (x < 36525 * x2 ∨ 36525 * x2 + 36525 ≤ x) → aI f_26 (ad 11) x = aI f0 (ad 11) x := fun x q0 q1 => Eq.trans (by rw [ef_26]; exact hs_.aI_nj rfl (by omega) q0 (by omega)) (f11 x q0 q1)
                        have f12 : ∀ x : Int, 0 ≤ x → (x < 36525 * x2 ∨ 36525 * x2 + 36525 ≤ x) → aI f_26 (ad 12) x = aI f0 (ad 12) x := fun x q0 q1 => Eq.trans (by rw [ef_26]; exact hs_.aI_ne rfl rfl (by decide) _) (f12 x q0 q1)
                        refine lv_aload_n hx hb dX10_laysTimes_229 rfl (lv_at hl 0 rfl) ?_
                        refine q_getr (ci := 8) (C := RX10) (T := TX10) (N := 26) hx hb hts (fun w h => List.mem_cons_of_mem _ (mfX100 w h)) hown hK hw hs.1 hs.2.1 rfl 12 (by decide) (hts _ (List.mem_cons_of_mem _ (mr3 _ (List.mem_of_getElem? (i := 20) rfl)))) (fun _ h => h) rfl (hs.2.2.1 12 rfl).1 dX10_laysTimes_230 ?_
                        refine lv_iload hx hb dX10_laysTimes_233 (lv_at hl 3 rfl) ?_
                        refine lv_iload hx hb dX10_laysTimes_235 (lv_at hl 8 rfl) ?_
                        first | refine q_iadd hx hb dX10_laysTimes_237 ⟨by omega, by omega⟩ (fun x_27 lx_27 ux_27 ex_27 => ?_) | refine q_iaddw hx hb dX10_laysTimes_237 (fun x_27 lx_27 ux_27 ex_27 => ?_)
                        refine lv_aload_n hx hb dX10_laysTimes_238 rfl (lv_at hl 0 rfl) ?_
                        refine q_getr (ci := 8) (C := RX10) (T := TX10) (N := 26) hx hb hts (fun w h => List.mem_cons_of_mem _ (mfX100 w h)) hown hK hw hs.1 hs.2.1 rfl 12 (by decide) (hts _ (List.mem_cons_of_mem _ (mr3 _ (List.mem_of_getElem? (i := 20) rfl)))) (fun _ h => h) rfl (hs.2.2.1 12 rfl).1 dX10_laysTimes_239 ?_
                        refine lv_iload hx hb dX10_laysTimes_242 (lv_at hl 3 rfl) ?_
                        refine lv_iload hx hb dX10_laysTimes_244 (lv_at hl 8 rfl) ?_
                        first | refine q_iadd hx hb dX10_laysTimes_246 ⟨by omega, by omega⟩ (fun x_28 lx_28 ux_28 ex_28 => ?_) | refine q_iaddw hx hb dX10_laysTimes_246 (fun x_28 lx_28 ux_28 ex_28 => ?_)
                        refine q_iconst hx hb dX10_laysTimes_247 ?_
                        first | refine q_isub hx hb dX10_laysTimes_248 ⟨by omega, by omega⟩ (fun x_29 lx_29 ux_29 ex_29 => ?_) | refine q_isubw hx hb dX10_laysTimes_248 (fun x_29 lx_29 ux_29 ex_29 => ?_)
                        refine q_iald hx hb hK hw (hs.2.2.1 12 rfl).2.1 1 (hs.2.2.1 12 rfl).2.2 rfl ⟨lx_29, ux_29⟩ (by omega) (by show _ < ((73050 : Nat) : Int); omega) dX10_laysTimes_249 (fun x_30 lx_30 ux_30 ex_30 => ?_)
                        refine q_iast hx hb hK hw (hs.2.2.1 12 rfl).2.1 1 (hs.2.2.1 12 rfl).2.2 rfl ⟨lx_27, ux_27⟩ (by omega) (by show _ < ((73050 : Nat) : Int); omega) dX10_laysTimes_250 (fun H locs hw => ?_)
                        obtain ⟨f_31, ef_31⟩ : ∃ g : Nat → va_E, g = aU f_26 (ad 12) x_27 (iI x_30) := ⟨_, rfl⟩
                        have hE := hE.trans (show Kp a0 ad [11, 12, 13] [] f_26 f_31 by rw [ef_31]; exact Kp_aU hs rfl (by decide))
                        have hs_ := hs
                        have hs : MS cy L0 f_31 a0 ad := by rw [ef_31]; exact MS_aU hs rfl
                        rw [← ef_31] at hw
                        have Q4 : aI f_31 (ad 4) = aI f0 (ad 4) := funext fun x => hE.1 4 rfl (by decide) x
                        have q0_f_31 : aI f_31 (ad 4) (44 * x1 + 1) = aI f0 (ad 4) (44 * x1 + 1) := hE.1 4 rfl (by decide) _
                        have q1_f_31 : aI f_31 (ad 4) (44 * x1 + 11) = aI f0 (ad 4) (44 * x1 + 11) := hE.1 4 rfl (by decide) _
                        have lx' : LX (aI f_31 (ad 11)) (36525 * x2) y5_97 (y9_151 - 1) y6_97 := lx'.same (funext fun x => by rw [ef_31]; exact hs_.aI_ne rfl rfl (by decide) _)
                        have rr : ∀ x : Int, 0 ≤ x → x ≠ x2 → aI f_31 (ad 13) x = aI f0 (ad 13) x := fun x q0 q1 => Eq.trans (by rw [ef_31]; exact hs_.aI_ne rfl rfl (by decide) _) (rr x q0 q1)
                        have v250' : aI f_31 (ad 12) (36525 * x2 + y9_151) = aI f_26 (ad 12) (36525 * x2 + y9_151 - 1) := (aI_cg (show 36525 * x2 + y9_151 = x_27 by omega)).trans (Eq.trans (by rw [ef_31]; exact hs_.aI_self rfl ⟨by omega, by omega⟩) (Eq.trans ex_30 (aI_cg (by omega))))
                        have n250' : ∀ x : Int, 0 ≤ x → x ≠ 36525 * x2 + y9_151 → aI f_31 (ad 12) x = aI f_26 (ad 12) x := fun x q0 q1 => by rw [ef_31]; exact hs_.aI_nj rfl (by omega) q0 (by omega)
                        have o250' : ∀ x : Int, aI f_31 (ad 11) x = aI f_26 (ad 11) x := fun x => by rw [ef_31]; exact hs_.aI_ne rfl rfl (by decide) _
                        have le' : LNx (PQ (Q0 (KG (aI f0 (ad 4)) (44 * x1)) O (aI f0 (ad 4) (44 * x1 + 1))) (fun l : Int => aI f0 (ad 4) (44 * x1 + 13 + 2 * l)) (fun l : Int => aI f0 (ad 4) (44 * x1 + 12 + 2 * l)) y6_97) (aI f_31 (ad 11)) (aI f_31 (ad 12)) (36525 * x2) y5_97 (y9_151 - 1) x_9 x_12 := le.shift (by omega) hbb rfl c207 ((o250' _).trans v228) (fun x q0 q1 => (o250' x).trans (n228' x q0 q1)) (v250'.trans (o228' _)) (fun x q0 q1 => (n250' x q0 q1).trans (o228' x))
                        have f12 : ∀ x : Int, 0 ≤ x → (x < 36525 * x2 ∨ 36525 * x2 + 36525 ≤ x) → aI f_31 (ad 12) x = aI f0 (ad 12) x := fun x q0 q1 => Eq.trans (by rw [ef_31]; exact hs_.aI_nj rfl (by omega) q0 (by omega)) (f12 x q0 q1)
                        have f11 : ∀ x : Int, 0 ≤ x → (x < 36525 * x2 ∨ 36525 * x2 + 36525 ≤ x) → aI f_31 (ad 11) x = aI f0 (ad 11) x := fun x q0 q1 => Eq.trans (by rw [ef_31]; exact hs_.aI_ne rfl rfl (by decide) _) (f11 x q0 q1)
                        obtain ⟨x_32, lx_32, ux_32, hx_32, ex_32⟩ := q_inc y9_151 (-1)
                        try (replace ex_32 : x_32 = y9_151 + (-1) := by omega)
                        refine lv_iinc (v := iI x_32) (lv' := [(9, .int (iI x_32)), (0, .ref a0), (1, .int (iI x1)), (2, .int (iI x2)), (4, .int (iI x_3)), (5, .int (iI y5_97)), (6, .int (iI y6_97)), (7, .int (iI x_9)), (8, .int (iI x_12))]) hx hb dX10_laysTimes_251 hl (k := 8) rfl hx_32 (by decide) rfl (fun ls hl => ?_)
                        refine lv_goto (tgt := 151) hx hb dX10_laysTimes_254 (by decide) ?_
                        exact ih151 x_32 lx_32 ux_32 L0 f_31 hs hE (by omega) (by omega) (by first | exact (lw.enter (by omega)).to (by omega) | exact lx'.to (by omega)) (by exact rr) (by first | exact LNx.enter ll (by omega) | exact le'.to (by omega) | fail "none") (by exact f11) (by exact f12) (by omega) _ _ _ hw (lv_sub hl [1, 2, 3, 4, 5, 6, 7, 8, 0] rfl)
                      refine q_icmp_gt (tgt := 207) hx hb dX10_laysTimes_170 (by decide) ⟨lx_21, ux_21⟩ ⟨lx_9, ux_9⟩ (fun c170 => ?_) (fun c170 => ?_)
                      · exact J207 (by omega) _ _ _ hw (lv_sub hl [0, 1, 2, 3, 4, 5, 6, 7, 8] rfl)
                      · refine lv_aload_n hx hb dX10_laysTimes_173 rfl (lv_at hl 0 rfl) ?_
                        refine q_getr (ci := 8) (C := RX10) (T := TX10) (N := 26) hx hb hts (fun w h => List.mem_cons_of_mem _ (mfX100 w h)) hown hK hw hs.1 hs.2.1 rfl 11 (by decide) (hts _ (List.mem_cons_of_mem _ (mr3 _ (List.mem_of_getElem? (i := 19) rfl)))) (fun _ h => h) rfl (hs.2.2.1 11 rfl).1 dX10_laysTimes_174 ?_
                        refine lv_iload hx hb dX10_laysTimes_177 (lv_at hl 3 rfl) ?_
                        refine lv_iload hx hb dX10_laysTimes_179 (lv_at hl 8 rfl) ?_
                        first | refine q_iadd hx hb dX10_laysTimes_181 ⟨by omega, by omega⟩ (fun x_33 lx_33 ux_33 ex_33 => ?_) | refine q_iaddw hx hb dX10_laysTimes_181 (fun x_33 lx_33 ux_33 ex_33 => ?_)
                        refine q_iconst hx hb dX10_laysTimes_182 ?_
                        first | refine q_isub hx hb dX10_laysTimes_183 ⟨by omega, by omega⟩ (fun x_34 lx_34 ux_34 ex_34 => ?_) | refine q_isubw hx hb dX10_laysTimes_183 (fun x_34 lx_34 ux_34 ex_34 => ?_)
                        refine q_iald hx hb hK hw (hs.2.2.1 11 rfl).2.1 1 (hs.2.2.1 11 rfl).2.2 rfl ⟨lx_34, ux_34⟩ (by omega) (by show _ < ((73050 : Nat) : Int); omega) dX10_laysTimes_184 (fun x_35 lx_35 ux_35 ex_35 => ?_)
                        have r184 : x_35 = aI fw151 (ad 11) (36525 * x2 + y9_151 - 1) := ex_35.trans (aI_cg (by omega))
                        refine lv_iload hx hb dX10_laysTimes_185 (lv_at hl 6 rfl) ?_
                        refine q_icmp_ne (tgt := 257) hx hb dX10_laysTimes_187 (by decide) ⟨lx_35, ux_35⟩ ⟨lx_9, ux_9⟩ (fun c187 => ?_) (fun c187 => ?_)
                        · exact J257 (by omega) _ _ _ hw (lv_sub hl [0, 1, 2, 3, 4, 5, 6, 7, 8] rfl)
                        · refine lv_aload_n hx hb dX10_laysTimes_190 rfl (lv_at hl 0 rfl) ?_
                          refine q_getr (ci := 8) (C := RX10) (T := TX10) (N := 26) hx hb hts (fun w h => List.mem_cons_of_mem _ (mfX100 w h)) hown hK hw hs.1 hs.2.1 rfl 12 (by decide) (hts _ (List.mem_cons_of_mem _ (mr3 _ (List.mem_of_getElem? (i := 20) rfl)))) (fun _ h => h) rfl (hs.2.2.1 12 rfl).1 dX10_laysTimes_191 ?_
                          refine lv_iload hx hb dX10_laysTimes_194 (lv_at hl 3 rfl) ?_
                          refine lv_iload hx hb dX10_laysTimes_196 (lv_at hl 8 rfl) ?_
                          first | refine q_iadd hx hb dX10_laysTimes_198 ⟨by omega, by omega⟩ (fun x_36 lx_36 ux_36 ex_36 => ?_) | refine q_iaddw hx hb dX10_laysTimes_198 (fun x_36 lx_36 ux_36 ex_36 => ?_)
                          refine q_iconst hx hb dX10_laysTimes_199 ?_
                          first | refine q_isub hx hb dX10_laysTimes_200 ⟨by omega, by omega⟩ (fun x_37 lx_37 ux_37 ex_37 => ?_) | refine q_isubw hx hb dX10_laysTimes_200 (fun x_37 lx_37 ux_37 ex_37 => ?_)
                          refine q_iald hx hb hK hw (hs.2.2.1 12 rfl).2.1 1 (hs.2.2.1 12 rfl).2.2 rfl ⟨lx_37, ux_37⟩ (by omega) (by show _ < ((73050 : Nat) : Int); omega) dX10_laysTimes_201 (fun x_38 lx_38 ux_38 ex_38 => ?_)
                          have r201 : x_38 = aI fw151 (ad 12) (36525 * x2 + y9_151 - 1) := ex_38.trans (aI_cg (by omega))
                          refine lv_iload hx hb dX10_laysTimes_202 (lv_at hl 7 rfl) ?_
                          refine q_icmp_le (tgt := 257) hx hb dX10_laysTimes_204 (by decide) ⟨lx_38, ux_38⟩ ⟨lx_12, ux_12⟩ (fun c204 => ?_) (fun c204 => ?_)
                          · exact J257 (by omega) _ _ _ hw (lv_sub hl [0, 1, 2, 3, 4, 5, 6, 7, 8] rfl)
                          · exact J207 (by omega) _ _ _ hw (lv_sub hl [0, 1, 2, 3, 4, 5, 6, 7, 8] rfl)
                exact J151 (((y5_97 + (2147483648 : Int)).toNat) + 1) y5_97 ly5_97 uy5_97 L0 fw97 hs hE (by omega) (by omega) (by first | exact (lw.enter (by omega)).to (by omega) | exact lx'.to (by omega)) (by exact rr) (by first | exact LNx.enter ll (by omega) | exact le'.to (by omega) | fail "none") (by exact f11) (by exact f12) (by omega) _ _ _ hw (lv_sub hl [3, 4, 5, 6, 7, 8, 2, 1, 0] rfl)
              · have a7 : (fun l : Int => aI f0 (ad 4) (44 * x1 + 13 + 2 * l)) y6_97 = -1 := by show aI f0 (ad 4) (44 * x1 + 13 + 2 * y6_97) = -1; omega
                refine lv_goto (tgt := 284) hx hb dX10_laysTimes_144 (by decide) ?_
                exact J284 y5_97 ly5_97 uy5_97 L0 fw97 hs hE (by omega) (by omega) (by first | exact lw.mono (by omega) | exact lw'.to (by omega) (by omega)) (by exact rr) (by first | exact ll.cg (fun t k => PQ.no (by omega) a7) | exact ll'.pq rfl (by omega) | fail "none") (by exact f11) (by exact f12) _ _ _ hw (lv_sub hl [2, 3, 4, 5, 6, 7] rfl)
        exact J97 ((((2147483647 : Int) - 0).toNat) + 1) y5_19 ly5_19 uy5_19 0 (by decide) (by decide) L0 fw19 hs hE (by omega) (by omega) (by omega) (by omega) (by first | exact lw.to (by omega) (by omega) | exact ld.2.2.to (by omega) (by omega)) (by exact rr) (by first | exact lm | exact ll.pq (by omega) (by omega) | fail "none") (by exact f11) (by exact f12) (by omega) _ _ _ hw (lv_sub hl [1, 2, 3, 5, 6, 0] rfl)
      · refine lv_aload_n hx hb dX10_laysTimes_25 rfl (lv_at hl 0 rfl) ?_
        refine q_getr (ci := 8) (C := RX10) (T := TX10) (N := 26) hx hb hts (fun w h => List.mem_cons_of_mem _ (mfX100 w h)) hown hK hw hs.1 hs.2.1 rfl 12 (by decide) (hts _ (List.mem_cons_of_mem _ (mr3 _ (List.mem_of_getElem? (i := 20) rfl)))) (fun _ h => h) rfl (hs.2.2.1 12 rfl).1 dX10_laysTimes_26 ?_
        refine lv_iload hx hb dX10_laysTimes_29 (lv_at hl 4 rfl) ?_
        refine lv_iload hx hb dX10_laysTimes_31 (lv_at hl 6 rfl) ?_
        first | refine q_iadd hx hb dX10_laysTimes_33 ⟨by omega, by omega⟩ (fun x_39 lx_39 ux_39 ex_39 => ?_) | refine q_iaddw hx hb dX10_laysTimes_33 (fun x_39 lx_39 ux_39 ex_39 => ?_)
        refine q_iald hx hb hK hw (hs.2.2.1 12 rfl).2.1 1 (hs.2.2.1 12 rfl).2.2 rfl ⟨lx_39, ux_39⟩ (by omega) (by show _ < ((73050 : Nat) : Int); omega) dX10_laysTimes_34 (fun x_40 lx_40 ux_40 ex_40 => ?_)
        have kk : x_40 = aI fw19 (ad 12) (36525 * x2 + y6_19) := ex_40.trans (aI_cg (by omega))
        have kb := lt.2.2.1 y6_19 (by omega) (by omega)
        have kb1 := kb.1
        have kb2 := kb.2.1
        have kb3 := UN_rg ro
        have k7 : x_40 = aI fA (ad 12) (36525 * x2 + y6_19) := kk.trans (lp.at (by omega))
        refine lv_istore (lv' := [(7, .int (iI x_40)), (0, .ref a0), (1, .int (iI x1)), (2, .int (iI x2)), (3, .int (iI x_1)), (4, .int (iI x_3)), (5, .int (iI y5_19)), (6, .int (iI y6_19))]) hx hb dX10_laysTimes_35 hl (by decide) rfl (fun ls hl => ?_)
        refine lv_aload_n hx hb dX10_laysTimes_37 rfl (lv_at hl 1 rfl) ?_
        refine lv_iload_n hx hb dX10_laysTimes_38 rfl (lv_at hl 2 rfl) ?_
        refine lv_iload hx hb dX10_laysTimes_39 (lv_at hl 0 rfl) ?_
        refine q_call_i hA hK hw (va_runV (As := [.int (iI x1), .int (iI x_40)]) (rest := []) ⟨hx, hb, hml, hown, hts⟩ (c_X10_oddOf_2 zo l D cy L0 fw19 a0 x1 lx1 ux1 x_40 lx_40 ux_40 ad hs (by omega) (by omega) (by omega) (by omega) _) (cwV 2 hts (gT (inV (mr27 _ (List.mem_of_getElem? (i := 7) rfl)) (mr27 _ (List.mem_of_getElem? (i := 8) rfl)) (mr27 _ (List.mem_of_getElem? (i := 9) rfl)) (mr1 _ (List.mem_of_getElem? (i := 5) rfl)) (mr27 _ (List.mem_of_getElem? (i := 10) rfl)))) rfl rfl rfl (by decide +kernel) ⟨Nat.le_of_ble_eq_true rfl, Nat.le_of_ble_eq_true rfl⟩) (Wd.preV zo hA hZ hw hK hs.1 hs.2.1 rfl) rfl rfl hl.1 rfl (lv_room (Nat.le_of_ble_eq_true rfl)) dX10_laysTimes_41 ⟨Nat.le_of_ble_eq_true rfl, Nat.le_of_ble_eq_true rfl⟩) (fun x_41 L1 f1 H locs lx_41 ux_41 ex_41 hw => ?_)
        obtain ⟨rfl, rfl, ex_41⟩ := ex_41
        rw [Q4] at ex_41
        have oR : -1 ≤ x_41 ∧ x_41 < aI f0 (ad 4) (44 * x1 + 11) := by rcases ex_41 with h | h <;> omega
        have oA : 0 ≤ x_41 → aI f0 (ad 4) (44 * x1 + 12 + 2 * x_41) = x_40 := fun q => ex_41.elim (fun h => absurd h.1 (by omega)) (fun h => h.2.2)
        have oB : x_41 < 0 → ∀ i : Int, 0 ≤ i → i < aI f0 (ad 4) (44 * x1 + 11) → aI f0 (ad 4) (44 * x1 + 12 + 2 * i) ≠ x_40 := fun q => ex_41.elim (fun h => h.2) (fun h => absurd h.1 (by omega))
        clear ex_41
        have J88 : ∀ (z5_88 : Int) (lz5_88 : -2147483648 ≤ z5_88) (uz5_88 : z5_88 ≤ 2147483647) (L : List Nat) (fw88 : Nat → va_E) (hs : MS cy L0 fw88 a0 ad) (hE : Kp a0 ad [11, 12, 13] [] f0 fw88) (i3 : 0 ≤ z5_88) (i4 : z5_88 ≤ y6_19 + 1) (lt : LT (aI f0 (ad 4)) (aI fw88 (ad 12)) (aI fw88 (ad 11)) (44 * x1) (36525 * x2) x_1 z5_88 (y6_19 + 1)) (rr : ∀ x : Int, 0 ≤ x → x ≠ x2 → aI fw88 (ad 13) x = aI f0 (ad 13) x) (lp : LPo (fun j : Int => aI fA (ad 12) (36525 * x2 + j)) (aI fw88 (ad 12)) (aI fw88 (ad 11)) O (aI f0 (ad 4) (44 * x1 + 1)) (36525 * x2) x_1 z5_88 (y6_19 + 1)) (f11 : ∀ x : Int, 0 ≤ x → (x < 36525 * x2 ∨ 36525 * x2 + 36525 ≤ x) → aI fw88 (ad 11) x = aI f0 (ad 11) x) (f12 : ∀ x : Int, 0 ≤ x → (x < 36525 * x2 ∨ 36525 * x2 + 36525 ≤ x) → aI fw88 (ad 12) x = aI f0 (ad 12) x) (H : Heap) (locs : List Loc) (ls : Array Slot) (hw : Wd D A s.heap L0 fw88 H locs) (hl : lv_has ls 10 [(0, .ref a0), (1, .int (iI x1)), (2, .int (iI x2)), (3, .int (iI x_1)), (4, .int (iI x_3)), (5, .int (iI z5_88)), (6, .int (iI y6_19))]), W p l e ({ frames := 3, cells := 0, slots := 0, locals := 74 } : Room) s m ([.ref a0, .int (iI x1), .int (iI x2)] : List Value).toArray below meth c H locs (0 + 0 + 0) (0 + 0 + 0) (MQ below (Qv D (tq cy) L0 f0 s.heap.size (fun (L1 : List Nat) (f1 : Nat → va_E) => L0 = L1 ∧ MS cy L0 f1 a0 ad ∧ Kp a0 ad [11, 12, 13] [] f0 f1 ∧ (0 ≤ aI f1 (ad 13) x2 ∧ aI f1 (ad 13) x2 ≤ 36525 ∧ (∀ x : Int, 0 ≤ x → x ≠ x2 → aI f1 (ad 13) x = aI f0 (ad 13) x) ∧ LW (aI f1 (ad 11)) (36525 * x2) (aI f1 (ad 13) x2) 16 ∧ LL (Oc (aI f0 (ad 4)) (44 * x1) O) (fun i : Int => aI f1 (ad 11) (36525 * x2 + i)) (fun i : Int => aI f1 (ad 12) (36525 * x2 + i)) (aI f1 (ad 13) x2) ∧ (∀ x : Int, 0 ≤ x → (x < 36525 * x2 ∨ 36525 * x2 + 36525 ≤ x) → aI f1 (ad 11) x = aI f0 (ad 11) x) ∧ (∀ x : Int, 0 ≤ x → (x < 36525 * x2 ∨ 36525 * x2 + 36525 ≤ x) → aI f1 (ad 12) x = aI f0 (ad 12) x)))) ([.ref a0, .int (iI x1), .int (iI x2)] : List Value).toArray s 0 0 A) (F0 m 88 ls []) := by
          intro z5_88 lz5_88 uz5_88 L fw88 hs hE i3 i4 lt rr lp f11 f12 H locs ls hw hl
          have Q4 : aI fw88 (ad 4) = aI f0 (ad 4) := funext fun x => hE.1 4 rfl (by decide) x
          have q0_fw88 : aI fw88 (ad 4) (44 * x1 + 1) = aI f0 (ad 4) (44 * x1 + 1) := hE.1 4 rfl (by decide) _
          have q1_fw88 : aI fw88 (ad 4) (44 * x1 + 11) = aI f0 (ad 4) (44 * x1 + 11) := hE.1 4 rfl (by decide) _
          obtain ⟨x_42, lx_42, ux_42, hx_42, ex_42⟩ := q_inc y6_19 (1)
          try (replace ex_42 : x_42 = y6_19 + (1) := by omega)
          refine lv_iinc (v := iI x_42) (lv' := [(6, .int (iI x_42)), (0, .ref a0), (1, .int (iI x1)), (2, .int (iI x2)), (3, .int (iI x_1)), (4, .int (iI x_3)), (5, .int (iI z5_88))]) hx hb dX10_laysTimes_88 hl (k := 6) rfl hx_42 (by decide) rfl (fun ls hl => ?_)
          refine lv_goto (tgt := 19) hx hb dX10_laysTimes_91 (by decide) ?_
          exact ih19 z5_88 lz5_88 uz5_88 x_42 lx_42 ux_42 L0 fw88 hs hE (by omega) (by omega) (by omega) (by omega) (by exact lt.to (by omega) (by omega)) (by exact rr) (by exact lp.to (by omega) (by omega)) (by exact f11) (by exact f12) (by omega) _ _ _ hw (lv_sub hl [1, 2, 3, 4, 5, 6, 0] rfl)
        refine q_if_lt (tgt := 50) hx hb dX10_laysTimes_44 (by decide) ⟨lx_41, ux_41⟩ (fun c44 => ?_) (fun c44 => ?_)
        · have of7 := om_no om (oB (by omega))
          refine lv_aload_n hx hb dX10_laysTimes_50 rfl (lv_at hl 1 rfl) ?_
          refine q_getr (ci := 8) (C := RX10) (T := TX10) (N := 26) hx hb hts (fun w h => List.mem_cons_of_mem _ (mfX100 w h)) hown hK hw hs.1 hs.2.1 rfl 12 (by decide) (hts _ (List.mem_cons_of_mem _ (mr3 _ (List.mem_of_getElem? (i := 20) rfl)))) (fun _ h => h) rfl (hs.2.2.1 12 rfl).1 dX10_laysTimes_51 ?_
          refine lv_iload hx hb dX10_laysTimes_54 (lv_at hl 5 rfl) ?_
          refine lv_iload hx hb dX10_laysTimes_56 (lv_at hl 6 rfl) ?_
          first | refine q_iadd hx hb dX10_laysTimes_58 ⟨by omega, by omega⟩ (fun x_43 lx_43 ux_43 ex_43 => ?_) | refine q_iaddw hx hb dX10_laysTimes_58 (fun x_43 lx_43 ux_43 ex_43 => ?_)
          refine lv_iload hx hb dX10_laysTimes_59 (lv_at hl 0 rfl) ?_
          refine q_iast hx hb hK hw (hs.2.2.1 12 rfl).2.1 1 (hs.2.2.1 12 rfl).2.2 rfl ⟨lx_43, ux_43⟩ (by omega) (by show _ < ((73050 : Nat) : Int); omega) dX10_laysTimes_61 (fun H locs hw => ?_)
          obtain ⟨f_44, ef_44⟩ : ∃ g : Nat → va_E, g = aU fw19 (ad 12) x_43 (iI x_40) := ⟨_, rfl⟩
          have hE := hE.trans (show Kp a0 ad [11, 12, 13] [] fw19 f_44 by rw [ef_44]; exact Kp_aU hs rfl (by decide))
          have hs_ := hs
          have hs : MS cy L0 f_44 a0 ad := by rw [ef_44]; exact MS_aU hs rfl
          rw [← ef_44] at hw
          have Q4 : aI f_44 (ad 4) = aI f0 (ad 4) := funext fun x => hE.1 4 rfl (by decide) x
          have q0_f_44 : aI f_44 (ad 4) (44 * x1 + 1) = aI f0 (ad 4) (44 * x1 + 1) := hE.1 4 rfl (by decide) _
          have q1_f_44 : aI f_44 (ad 4) (44 * x1 + 11) = aI f0 (ad 4) (44 * x1 + 11) := hE.1 4 rfl (by decide) _
          have n61 : ∀ x : Int, 0 ≤ x → x ≠ 36525 * x2 + y5_19 → aI f_44 (ad 12) x = aI fw19 (ad 12) x := fun x q0 q1 => by rw [ef_44]; exact hs_.aI_nj rfl (by omega) q0 (by omega)
          have t61 : ∀ x : Int, aI f_44 (ad 11) x = aI fw19 (ad 11) x := fun x => by rw [ef_44]; exact hs_.aI_ne rfl rfl (by decide) _
          have rr : ∀ x : Int, 0 ≤ x → x ≠ x2 → aI f_44 (ad 13) x = aI f0 (ad 13) x := fun x q0 q1 => Eq.trans (by rw [ef_44]; exact hs_.aI_ne rfl rfl (by decide) _) (rr x q0 q1)
          have v61' : aI f_44 (ad 12) (36525 * x2 + y5_19) = x_40 := (aI_cg (show 36525 * x2 + y5_19 = x_43 by omega)).trans (by rw [ef_44]; exact hs_.aI_self rfl ⟨by omega, by omega⟩)
          have f12 : ∀ x : Int, 0 ≤ x → (x < 36525 * x2 ∨ 36525 * x2 + 36525 ≤ x) → aI f_44 (ad 12) x = aI f0 (ad 12) x := fun x q0 q1 => Eq.trans (by rw [ef_44]; exact hs_.aI_nj rfl (by omega) q0 (by omega)) (f12 x q0 q1)
          have f11 : ∀ x : Int, 0 ≤ x → (x < 36525 * x2 ∨ 36525 * x2 + 36525 ≤ x) → aI f_44 (ad 11) x = aI f0 (ad 11) x := fun x q0 q1 => Eq.trans (by rw [ef_44]; exact hs_.aI_ne rfl rfl (by decide) _) (f11 x q0 q1)
          refine lv_aload_n hx hb dX10_laysTimes_62 rfl (lv_at hl 1 rfl) ?_
          refine q_getr (ci := 8) (C := RX10) (T := TX10) (N := 26) hx hb hts (fun w h => List.mem_cons_of_mem _ (mfX100 w h)) hown hK hw hs.1 hs.2.1 rfl 11 (by decide) (hts _ (List.mem_cons_of_mem _ (mr3 _ (List.mem_of_getElem? (i := 19) rfl)))) (fun _ h => h) rfl (hs.2.2.1 11 rfl).1 dX10_laysTimes_63 ?_
          refine lv_iload hx hb dX10_laysTimes_66 (lv_at hl 5 rfl) ?_
          refine lv_iload hx hb dX10_laysTimes_68 (lv_at hl 6 rfl) ?_
          first | refine q_iadd hx hb dX10_laysTimes_70 ⟨by omega, by omega⟩ (fun x_45 lx_45 ux_45 ex_45 => ?_) | refine q_iaddw hx hb dX10_laysTimes_70 (fun x_45 lx_45 ux_45 ex_45 => ?_)
          refine q_sipush hx hb dX10_laysTimes_71 rfl ?_
          refine lv_iload hx hb dX10_laysTimes_74 (lv_at hl 0 rfl) ?_
          first | refine q_imul hx hb dX10_laysTimes_76 ⟨by omega, by omega⟩ (fun x_46 lx_46 ux_46 ex_46 => ?_) | refine q_imulw hx hb dX10_laysTimes_76 (fun x_46 lx_46 ux_46 ex_46 => ?_)
          refine lv_aload_n hx hb dX10_laysTimes_77 rfl (lv_at hl 1 rfl) ?_
          refine lv_iload_n hx hb dX10_laysTimes_78 rfl (lv_at hl 2 rfl) ?_
          refine q_iconst hx hb dX10_laysTimes_79 ?_
          refine q_call_i hA hK hw (va_runV (As := [.int (iI x1), .int (iI 1)]) (rest := [.int (iI x_46), .int (iI x_45), .ref (ad 11)]) ⟨hx, hb, hml, hown, hts⟩ (c_X10_get zo l D cy L0 f_44 a0 x1 lx1 ux1 1 (by decide) (by decide) ad hs (by omega) (by omega) (by omega) (by omega) _) (cwV 2 hts (gT (inV (mr25 _ (List.mem_of_getElem? (i := 0) rfl)) (mr25 _ (List.mem_of_getElem? (i := 1) rfl)) (mr25 _ (List.mem_of_getElem? (i := 2) rfl)) (mr1 _ (List.mem_of_getElem? (i := 5) rfl)) (mr25 _ (List.mem_of_getElem? (i := 3) rfl)))) rfl rfl rfl (by decide +kernel) ⟨Nat.le_of_ble_eq_true rfl, Nat.le_of_ble_eq_true rfl⟩) (Wd.preV zo hA hZ hw hK hs.1 hs.2.1 rfl) rfl rfl hl.1 rfl (lv_room (Nat.le_of_ble_eq_true rfl)) dX10_laysTimes_80 ⟨Nat.le_of_ble_eq_true rfl, Nat.le_of_ble_eq_true rfl⟩) (fun x_47 L1 f1 H locs lx_47 ux_47 ex_47 hw => ?_)
          obtain ⟨rfl, rfl, ex_47⟩ := ex_47
          first | refine q_iadd hx hb dX10_laysTimes_83 ⟨by omega, by omega⟩ (fun x_48 lx_48 ux_48 ex_48 => ?_) | refine q_iaddw hx hb dX10_laysTimes_83 (fun x_48 lx_48 ux_48 ex_48 => ?_)
          refine q_iast hx hb hK hw (hs.2.2.1 11 rfl).2.1 1 (hs.2.2.1 11 rfl).2.2 rfl ⟨lx_45, ux_45⟩ (by omega) (by show _ < ((73050 : Nat) : Int); omega) dX10_laysTimes_84 (fun H locs hw => ?_)
          obtain ⟨f_49, ef_49⟩ : ∃ g : Nat → va_E, g = aU f_44 (ad 11) x_45 (iI x_48) := ⟨_, rfl⟩
          have hE := hE.trans (show Kp a0 ad [11, 12, 13] [] f_44 f_49 by rw [ef_49]; exact Kp_aU hs rfl (by decide))
          have hs_ := hs
          have hs : MS cy L0 f_49 a0 ad := by rw [ef_49]; exact MS_aU hs rfl
          rw [← ef_49] at hw
          have Q4 : aI f_49 (ad 4) = aI f0 (ad 4) := funext fun x => hE.1 4 rfl (by decide) x
          have q0_f_49 : aI f_49 (ad 4) (44 * x1 + 1) = aI f0 (ad 4) (44 * x1 + 1) := hE.1 4 rfl (by decide) _
          have q1_f_49 : aI f_49 (ad 4) (44 * x1 + 11) = aI f0 (ad 4) (44 * x1 + 11) := hE.1 4 rfl (by decide) _
          have n84 : ∀ x : Int, 0 ≤ x → x ≠ 36525 * x2 + y5_19 → aI f_49 (ad 11) x = aI f_44 (ad 11) x := fun x q0 q1 => by rw [ef_49]; exact hs_.aI_nj rfl (by omega) q0 (by omega)
          have t84 : ∀ x : Int, aI f_49 (ad 12) x = aI f_44 (ad 12) x := fun x => by rw [ef_49]; exact hs_.aI_ne rfl rfl (by decide) _
          have rr : ∀ x : Int, 0 ≤ x → x ≠ x2 → aI f_49 (ad 13) x = aI f0 (ad 13) x := fun x q0 q1 => Eq.trans (by rw [ef_49]; exact hs_.aI_ne rfl rfl (by decide) _) (rr x q0 q1)
          have v84 : aI f_49 (ad 11) (36525 * x2 + y5_19) = 1440 * aI fw19 (ad 12) (36525 * x2 + y6_19) + aI f0 (ad 4) (44 * x1 + 1) := (aI_cg (show 36525 * x2 + y5_19 = x_45 by omega)).trans (Eq.trans (by rw [ef_49]; exact hs_.aI_self rfl ⟨by omega, by omega⟩) (show x_48 = _ by rw [← kk]; omega))
          have lt' : LT (aI f0 (ad 4)) (aI f_49 (ad 12)) (aI f_49 (ad 11)) (44 * x1) (36525 * x2) x_1 (y5_19 + 1) (y6_19 + 1) := lt.keep ro (by omega) hbb (by rw [← kk]; exact oB (by omega)) (fun x q0 q1 => (t84 x).trans (n61 x q0 q1)) v84 (fun x q0 q1 => (n84 x q0 q1).trans (t61 x))
          have lp' : LPo (fun j : Int => aI fA (ad 12) (36525 * x2 + j)) (aI f_49 (ad 12)) (aI f_49 (ad 11)) O (aI f0 (ad 4) (44 * x1 + 1)) (36525 * x2) x_1 (y5_19 + 1) (y6_19 + 1) := lp.keep (by omega) (by omega) hbb (by rw [← k7]; exact of7) kl.2.2.1 (fun x q0 q1 => (t84 x).trans (n61 x q0 q1)) ((t84 _).trans (v61'.trans k7)) (fun x q0 q1 => (n84 x q0 q1).trans (t61 x)) (v84.trans (by rw [lp.at (by omega)])) rfl rfl
          have f11 : ∀ x : Int, 0 ≤ x → (x < 36525 * x2 ∨ 36525 * x2 + 36525 ≤ x) → aI f_49 (ad 11) x = aI f0 (ad 11) x := fun x q0 q1 => Eq.trans (by rw [ef_49]; exact hs_.aI_nj rfl (by omega) q0 (by omega)) (f11 x q0 q1)
          have f12 : ∀ x : Int, 0 ≤ x → (x < 36525 * x2 ∨ 36525 * x2 + 36525 ≤ x) → aI f_49 (ad 12) x = aI f0 (ad 12) x := fun x q0 q1 => Eq.trans (by rw [ef_49]; exact hs_.aI_ne rfl rfl (by decide) _) (f12 x q0 q1)
          obtain ⟨x_50, lx_50, ux_50, hx_50, ex_50⟩ := q_inc y5_19 (1)
          try (replace ex_50 : x_50 = y5_19 + (1) := by omega)
          refine lv_iinc (v := iI x_50) (lv' := [(5, .int (iI x_50)), (7, .int (iI x_40)), (0, .ref a0), (1, .int (iI x1)), (2, .int (iI x2)), (3, .int (iI x_1)), (4, .int (iI x_3)), (6, .int (iI y6_19))]) hx hb dX10_laysTimes_85 hl (k := 6) rfl hx_50 (by decide) rfl (fun ls hl => ?_)
          exact J88 x_50 lx_50 ux_50 L0 f_49 hs hE (by omega) (by omega) (by first | exact lt.skip.to (by omega) (by omega) | exact lt'.to (by omega) (by omega)) (by exact rr) (by first | exact lp.skip (by rw [← k7]; exact on7) rfl | exact lp'.to (by omega) rfl | fail "none") (by exact f11) (by exact f12) _ _ _ hw (lv_sub hl [2, 3, 4, 5, 6, 0, 7] rfl)
        · have on7 := (om_at om (by omega) (by omega) (oA (by omega))).2.1
          refine lv_goto (tgt := 88) hx hb dX10_laysTimes_47 (by decide) ?_
          exact J88 y5_19 ly5_19 uy5_19 L0 fw19 hs hE (by omega) (by omega) (by first | exact lt.skip.to (by omega) (by omega) | exact lt'.to (by omega) (by omega)) (by exact rr) (by first | exact lp.skip (by rw [← k7]; exact on7) rfl | exact lp'.to (by omega) rfl | fail "none") (by exact f11) (by exact f12) _ _ _ hw (lv_sub hl [1, 2, 3, 4, 5, 6, 7] rfl)
  exact J19 ((((2147483647 : Int) - 0).toNat) + 1) 0 (by decide) (by decide) 0 (by decide) (by decide) L0 f_2 hs hE (by omega) (by omega) (by omega) (by omega) (by exact lt.to (by omega) (by omega)) (by exact rr) (by exact lp.to (by omega) (by omega)) (by exact f11) (by exact f12) (by omega) _ _ _ hw (lv_sub hl [4, 5, 6, 3, 2, 1, 0] rfl)