set_option maxHeartbeats 4000000 in
set_option maxRecDepth 100000 in
theorem c_X10_laysKeys {Z : Zt} (zo : Zok Z) (l : Launch) (D : va_G) (cy : Cy) (L0 : List Nat) (f0 : Nat → va_E) (a0 : Nat) (x1 : Int) (lx1 : -2147483648 ≤ x1) (ux1 : x1 ≤ 2147483647) (x2 : Int) (lx2 : -2147483648 ≤ x2) (ux2 : x2 ≤ 2147483647) (ad : Nat → Nat) (hs : MS cy L0 f0 a0 ad) (b1 : 0 ≤ x1) (b2 : x1 ≤ 11) (s34 : aI f0 (ad 4) (44 * x1 + 3) = 0 ∨ 1 ≤ aI f0 (ad 4) (44 * x1 + 4)) (s5a : 0 ≤ aI f0 (ad 4) (44 * x1 + 5)) (s5b : aI f0 (ad 4) (44 * x1 + 5) ≤ 36524) (s8a : -1 ≤ aI f0 (ad 4) (44 * x1 + 8)) (s8b : aI f0 (ad 4) (44 * x1 + 8) ≤ 36524) (saa : 0 ≤ aI f0 (ad 4) (44 * x1 + 10)) (sab : aI f0 (ad 4) (44 * x1 + 10) ≤ 36524) (w1 : 0 ≤ x2) (w2 : x2 ≤ 1) : Ci Z l yX10_laysKeys (Cond.code yX10_laysKeys cX10_laysKeys 7 (some .int) :: TB) ({ frames := 2, cells := 0, slots := 0, locals := 48 } : Room) 0 0 D (tq cy) [.ref a0, .int (iI x1), .int (iI x2)] L0 f0 (fun (r : Int) (L1 : List Nat) (f1 : Nat → va_E) => L0 = L1 ∧ MS cy L0 f1 a0 ad ∧ Kp a0 ad [12, 13] [] f0 f1 ∧ (0 ≤ r ∧ r ≤ 36525)) := by
  refine Ci.enter (cc := cX10_laysKeys) (n := 7) rfl (plainFor_of_name (by decide)) (Nat.le_of_ble_eq_true rfl) ?_
  intro p e s m below meth c ls A hx hb hr hts hown hlocks hnm hml hK hA hAe hw hZ hl
  have hown : s.vm.findClass RX10 = some m.cls := hown
  have hl : lv_has ls 7 [(0, .ref a0), (1, .int (iI x1)), (2, .int (iI x2))] := hl
  have hN : ZN s := (zo.2.2.2.2 _ _ _ hZ).2
  have hE : Kp a0 ad [12, 13] [] f0 f0 := Kp.refl _ _ _ _ _
  refine q_iconst hx hb dX10_laysKeys_0 ?_
  refine lv_istore_n (lv' := [(3, .int (iI 0)), (0, .ref a0), (1, .int (iI x1)), (2, .int (iI x2))]) hx hb dX10_laysKeys_1 rfl hl (by decide) rfl (fun ls hl => ?_)
  refine lv_aload_n hx hb dX10_laysKeys_2 rfl (lv_at hl 1 rfl) ?_
  refine lv_iload_n hx hb dX10_laysKeys_3 rfl (lv_at hl 2 rfl) ?_
  refine q_bipush hx hb dX10_laysKeys_4 rfl ?_
  refine q_call_i hA hK hw (va_runV (As := [.int (iI x1), .int (iI 9)]) (rest := []) ⟨hx, hb, hml, hown, hts⟩ (c_X10_get zo l D cy L0 f0 a0 x1 lx1 ux1 9 (by decide) (by decide) ad hs (by omega) (by omega) (by omega) (by omega) _) (cwV 2 hts (gT (inV (mr25 _ (List.mem_of_getElem? (i := 0) rfl)) (mr25 _ (List.mem_of_getElem? (i := 1) rfl)) (mr25 _ (List.mem_of_getElem? (i := 2) rfl)) (mr1 _ (List.mem_of_getElem? (i := 5) rfl)) (mr25 _ (List.mem_of_getElem? (i := 3) rfl)))) rfl rfl rfl (by decide +kernel) ⟨Nat.le_of_ble_eq_true rfl, Nat.le_of_ble_eq_true rfl⟩) (Wd.preV zo hA hZ hw hK hs.1 hs.2.1 rfl) rfl rfl hl.1 rfl (lv_room (Nat.le_of_ble_eq_true rfl)) dX10_laysKeys_6 ⟨Nat.le_of_ble_eq_true rfl, Nat.le_of_ble_eq_true rfl⟩) (fun x_1 L1 f1 H locs lx_1 ux_1 ex_1 hw => ?_)
  obtain ⟨rfl, rfl, ex_1⟩ := ex_1
  refine lv_istore (lv' := [(4, .int (iI x_1)), (3, .int (iI 0)), (0, .ref a0), (1, .int (iI x1)), (2, .int (iI x2))]) hx hb dX10_laysKeys_9 hl (by decide) rfl (fun ls hl => ?_)
  refine lv_aload_n hx hb dX10_laysKeys_11 rfl (lv_at hl 2 rfl) ?_
  refine lv_iload_n hx hb dX10_laysKeys_12 rfl (lv_at hl 3 rfl) ?_
  refine q_bipush hx hb dX10_laysKeys_13 rfl ?_
  refine q_call_i hA hK hw (va_runV (As := [.int (iI x1), .int (iI 8)]) (rest := []) ⟨hx, hb, hml, hown, hts⟩ (c_X10_get zo l D cy L0 f0 a0 x1 lx1 ux1 8 (by decide) (by decide) ad hs (by omega) (by omega) (by omega) (by omega) _) (cwV 2 hts (gT (inV (mr25 _ (List.mem_of_getElem? (i := 0) rfl)) (mr25 _ (List.mem_of_getElem? (i := 1) rfl)) (mr25 _ (List.mem_of_getElem? (i := 2) rfl)) (mr1 _ (List.mem_of_getElem? (i := 5) rfl)) (mr25 _ (List.mem_of_getElem? (i := 3) rfl)))) rfl rfl rfl (by decide +kernel) ⟨Nat.le_of_ble_eq_true rfl, Nat.le_of_ble_eq_true rfl⟩) (Wd.preV zo hA hZ hw hK hs.1 hs.2.1 rfl) rfl rfl hl.1 rfl (lv_room (Nat.le_of_ble_eq_true rfl)) dX10_laysKeys_15 ⟨Nat.le_of_ble_eq_true rfl, Nat.le_of_ble_eq_true rfl⟩) (fun x_2 L1 f1 H locs lx_2 ux_2 ex_2 hw => ?_)
  obtain ⟨rfl, rfl, ex_2⟩ := ex_2
  have J33 : ∀ (w0_33 : Int) (lw0_33 : -2147483648 ≤ w0_33) (uw0_33 : w0_33 ≤ 2147483647) (k1 : w0_33 ≤ 36524) (H : Heap) (locs : List Loc) (ls : Array Slot) (hw : Wd D A s.heap L0 f0 H locs) (hl : lv_has ls 7 [(0, .ref a0), (1, .int (iI x1)), (2, .int (iI x2)), (3, .int (iI 0)), (4, .int (iI x_1))]), W p l e ({ frames := 2, cells := 0, slots := 0, locals := 48 } : Room) s m ([.ref a0, .int (iI x1), .int (iI x2)] : List Value).toArray below meth c H locs (0 + 0 + 0) (0 + 0 + 0) (MQ below (Qi D (tq cy) L0 f0 s.heap.size (fun (r : Int) (L1 : List Nat) (f1 : Nat → va_E) => L0 = L1 ∧ MS cy L0 f1 a0 ad ∧ Kp a0 ad [12, 13] [] f0 f1 ∧ (0 ≤ r ∧ r ≤ 36525))) ([.ref a0, .int (iI x1), .int (iI x2)] : List Value).toArray s 0 0 A) (F0 m 33 ls [.int (iI w0_33)]) := by
    intro w0_33 lw0_33 uw0_33 k1 H locs ls hw hl
    refine lv_istore (lv' := [(5, .int (iI w0_33)), (0, .ref a0), (1, .int (iI x1)), (2, .int (iI x2)), (3, .int (iI 0)), (4, .int (iI x_1))]) hx hb dX10_laysKeys_33 hl (by decide) rfl (fun ls hl => ?_)
    refine lv_aload_n hx hb dX10_laysKeys_35 rfl (lv_at hl 1 rfl) ?_
    refine lv_iload_n hx hb dX10_laysKeys_36 rfl (lv_at hl 2 rfl) ?_
    refine q_bipush hx hb dX10_laysKeys_37 rfl ?_
    refine q_call_i hA hK hw (va_runV (As := [.int (iI x1), .int (iI 10)]) (rest := []) ⟨hx, hb, hml, hown, hts⟩ (c_X10_get zo l D cy L0 f0 a0 x1 lx1 ux1 10 (by decide) (by decide) ad hs (by omega) (by omega) (by omega) (by omega) _) (cwV 2 hts (gT (inV (mr25 _ (List.mem_of_getElem? (i := 0) rfl)) (mr25 _ (List.mem_of_getElem? (i := 1) rfl)) (mr25 _ (List.mem_of_getElem? (i := 2) rfl)) (mr1 _ (List.mem_of_getElem? (i := 5) rfl)) (mr25 _ (List.mem_of_getElem? (i := 3) rfl)))) rfl rfl rfl (by decide +kernel) ⟨Nat.le_of_ble_eq_true rfl, Nat.le_of_ble_eq_true rfl⟩) (Wd.preV zo hA hZ hw hK hs.1 hs.2.1 rfl) rfl rfl hl.1 rfl (lv_room (Nat.le_of_ble_eq_true rfl)) dX10_laysKeys_39 ⟨Nat.le_of_ble_eq_true rfl, Nat.le_of_ble_eq_true rfl⟩) (fun x_3 L1 f1 H locs lx_3 ux_3 ex_3 hw => ?_)
    obtain ⟨rfl, rfl, ex_3⟩ := ex_3
    refine lv_istore (lv' := [(6, .int (iI x_3)), (5, .int (iI w0_33)), (0, .ref a0), (1, .int (iI x1)), (2, .int (iI x2)), (3, .int (iI 0)), (4, .int (iI x_1))]) hx hb dX10_laysKeys_42 hl (by decide) rfl (fun ls hl => ?_)
    have J44 : ∀ (n44 : Nat) (y3_44 : Int) (ly3_44 : -2147483648 ≤ y3_44) (uy3_44 : y3_44 ≤ 2147483647) (y6_44 : Int) (ly6_44 : -2147483648 ≤ y6_44) (uy6_44 : y6_44 ≤ 2147483647) (L : List Nat) (fw44 : Nat → va_E) (hs : MS cy L0 fw44 a0 ad) (hE : Kp a0 ad [12, 13] [] f0 fw44) (i1 : 0 ≤ y3_44) (i2 : y3_44 ≤ y6_44 - aI f0 (ad 4) (44 * x1 + 10)) (i3 : y6_44 ≤ 36525) (i4 : aI f0 (ad 4) (44 * x1 + 10) ≤ y6_44) (hn44 : ((2147483647 : Int) - y6_44).toNat < n44) (H : Heap) (locs : List Loc) (ls : Array Slot) (hw : Wd D A s.heap L0 fw44 H locs) (hl : lv_has ls 7 [(0, .ref a0), (1, .int (iI x1)), (2, .int (iI x2)), (3, .int (iI y3_44)), (4, .int (iI x_1)), (5, .int (iI w0_33)), (6, .int (iI y6_44))]), W p l e ({ frames := 2, cells := 0, slots := 0, locals := 48 } : Room) s m ([.ref a0, .int (iI x1), .int (iI x2)] : List Value).toArray below meth c H locs (0 + 0 + 0 + 0) (0 + 0 + 0 + 0) (MQ below (Qi D (tq cy) L0 f0 s.heap.size (fun (r : Int) (L1 : List Nat) (f1 : Nat → va_E) => L0 = L1 ∧ MS cy L0 f1 a0 ad ∧ Kp a0 ad [12, 13] [] f0 f1 ∧ (0 ≤ r ∧ r ≤ 36525))) ([.ref a0, .int (iI x1), .int (iI x2)] : List Value).toArray s 0 0 A) (F0 m 44 ls []) := by
      intro n44
      induction n44 with
      | zero => intro y3_44 ly3_44 uy3_44 y6_44 ly6_44 uy6_44 L fw44 hs hE i1 i2 i3 i4 hn44; exact absurd hn44 (Nat.not_lt_zero _)
      | succ n44 ih44 =>
        intro y3_44 ly3_44 uy3_44 y6_44 ly6_44 uy6_44 L fw44 hs hE i1 i2 i3 i4 hn44 H locs ls hw hl
        have q0_fw44 : aI fw44 (ad 4) (44 * x1 + 3) = aI f0 (ad 4) (44 * x1 + 3) := hE.1 4 rfl (by decide) _
        have q1_fw44 : aI fw44 (ad 4) (44 * x1 + 4) = aI f0 (ad 4) (44 * x1 + 4) := hE.1 4 rfl (by decide) _
        have q2_fw44 : aI fw44 (ad 4) (44 * x1 + 5) = aI f0 (ad 4) (44 * x1 + 5) := hE.1 4 rfl (by decide) _
        have q3_fw44 : aI fw44 (ad 4) (44 * x1 + 8) = aI f0 (ad 4) (44 * x1 + 8) := hE.1 4 rfl (by decide) _
        have q4_fw44 : aI fw44 (ad 4) (44 * x1 + 9) = aI f0 (ad 4) (44 * x1 + 9) := hE.1 4 rfl (by decide) _
        have q5_fw44 : aI fw44 (ad 4) (44 * x1 + 10) = aI f0 (ad 4) (44 * x1 + 10) := hE.1 4 rfl (by decide) _
        refine lv_iload hx hb dX10_laysKeys_44 (lv_at hl 6 rfl) ?_
        refine lv_iload hx hb dX10_laysKeys_46 (lv_at hl 5 rfl) ?_
        have J97 : ∀ (H : Heap) (locs : List Loc) (ls : Array Slot) (hw : Wd D A s.heap L0 fw44 H locs) (hl : lv_has ls 7 [(0, .ref a0), (2, .int (iI x2)), (3, .int (iI y3_44))]), W p l e ({ frames := 2, cells := 0, slots := 0, locals := 48 } : Room) s m ([.ref a0, .int (iI x1), .int (iI x2)] : List Value).toArray below meth c H locs (0 + 0 + 0 + 0) (0 + 0 + 0 + 0) (MQ below (Qi D (tq cy) L0 f0 s.heap.size (fun (r : Int) (L1 : List Nat) (f1 : Nat → va_E) => L0 = L1 ∧ MS cy L0 f1 a0 ad ∧ Kp a0 ad [12, 13] [] f0 f1 ∧ (0 ≤ r ∧ r ≤ 36525))) ([.ref a0, .int (iI x1), .int (iI x2)] : List Value).toArray s 0 0 A) (F0 m 97 ls []) := by
          intro H locs ls hw hl
          have q0_fw44 : aI fw44 (ad 4) (44 * x1 + 3) = aI f0 (ad 4) (44 * x1 + 3) := hE.1 4 rfl (by decide) _
          have q1_fw44 : aI fw44 (ad 4) (44 * x1 + 4) = aI f0 (ad 4) (44 * x1 + 4) := hE.1 4 rfl (by decide) _
          have q2_fw44 : aI fw44 (ad 4) (44 * x1 + 5) = aI f0 (ad 4) (44 * x1 + 5) := hE.1 4 rfl (by decide) _
          have q3_fw44 : aI fw44 (ad 4) (44 * x1 + 8) = aI f0 (ad 4) (44 * x1 + 8) := hE.1 4 rfl (by decide) _
          have q4_fw44 : aI fw44 (ad 4) (44 * x1 + 9) = aI f0 (ad 4) (44 * x1 + 9) := hE.1 4 rfl (by decide) _
          have q5_fw44 : aI fw44 (ad 4) (44 * x1 + 10) = aI f0 (ad 4) (44 * x1 + 10) := hE.1 4 rfl (by decide) _
          refine lv_aload_n hx hb dX10_laysKeys_97 rfl (lv_at hl 0 rfl) ?_
          refine q_getr (ci := 8) (C := RX10) (T := TX10) (N := 26) hx hb hts (fun w h => List.mem_cons_of_mem _ (mfX100 w h)) hown hK hw hs.1 hs.2.1 rfl 13 (by decide) (hts _ (List.mem_cons_of_mem _ (mr3 _ (List.mem_of_getElem? (i := 21) rfl)))) (fun _ h => h) rfl (hs.2.2.1 13 rfl).1 dX10_laysKeys_98 ?_
          refine lv_iload_n hx hb dX10_laysKeys_101 rfl (lv_at hl 1 rfl) ?_
          refine lv_iload_n hx hb dX10_laysKeys_102 rfl (lv_at hl 2 rfl) ?_
          refine q_iast hx hb hK hw (hs.2.2.1 13 rfl).2.1 1 (hs.2.2.1 13 rfl).2.2 rfl ⟨lx2, ux2⟩ (by omega) (by show _ < ((2 : Nat) : Int); omega) dX10_laysKeys_103 (fun H locs hw => ?_)
          obtain ⟨f_4, ef_4⟩ : ∃ g : Nat → va_E, g = aU fw44 (ad 13) x2 (iI y3_44) := ⟨_, rfl⟩
          have hE := hE.trans (show Kp a0 ad [12, 13] [] fw44 f_4 by rw [ef_4]; exact Kp_aU hs rfl (by decide))
          have hs : MS cy L0 f_4 a0 ad := by rw [ef_4]; exact MS_aU hs rfl
          rw [← ef_4] at hw
          have q0_f_4 : aI f_4 (ad 4) (44 * x1 + 3) = aI f0 (ad 4) (44 * x1 + 3) := hE.1 4 rfl (by decide) _
          have q1_f_4 : aI f_4 (ad 4) (44 * x1 + 4) = aI f0 (ad 4) (44 * x1 + 4) := hE.1 4 rfl (by decide) _
          have q2_f_4 : aI f_4 (ad 4) (44 * x1 + 5) = aI f0 (ad 4) (44 * x1 + 5) := hE.1 4 rfl (by decide) _
          have q3_f_4 : aI f_4 (ad 4) (44 * x1 + 8) = aI f0 (ad 4) (44 * x1 + 8) := hE.1 4 rfl (by decide) _
          have q4_f_4 : aI f_4 (ad 4) (44 * x1 + 9) = aI f0 (ad 4) (44 * x1 + 9) := hE.1 4 rfl (by decide) _
          have q5_f_4 : aI f_4 (ad 4) (44 * x1 + 10) = aI f0 (ad 4) (44 * x1 + 10) := hE.1 4 rfl (by decide) _
          refine lv_iload_n hx hb dX10_laysKeys_104 rfl (lv_at hl 2 rfl) ?_
          exact q_ret_i hx hb hr hlocks hK hAe hw ⟨ly3_44, uy3_44⟩ (Nat.le_of_ble_eq_true rfl) (Nat.le_of_ble_eq_true rfl) dX10_laysKeys_105 (by exact ⟨rfl, hs, hE, by first | trivial | omega⟩)
        refine q_icmp_gt (tgt := 97) hx hb dX10_laysKeys_48 (by decide) ⟨ly6_44, uy6_44⟩ ⟨lw0_33, uw0_33⟩ (fun c48 => ?_) (fun c48 => ?_)
        · exact J97 _ _ _ hw (lv_sub hl [0, 2, 3] rfl)
        · refine lv_iload hx hb dX10_laysKeys_51 (lv_at hl 4 rfl) ?_
          have J62 : ∀ (H : Heap) (locs : List Loc) (ls : Array Slot) (hw : Wd D A s.heap L0 fw44 H locs) (hl : lv_has ls 7 [(0, .ref a0), (1, .int (iI x1)), (2, .int (iI x2)), (3, .int (iI y3_44)), (4, .int (iI x_1)), (5, .int (iI w0_33)), (6, .int (iI y6_44))]), W p l e ({ frames := 2, cells := 0, slots := 0, locals := 48 } : Room) s m ([.ref a0, .int (iI x1), .int (iI x2)] : List Value).toArray below meth c H locs (0 + 0 + 0 + 0) (0 + 0 + 0 + 0) (MQ below (Qi D (tq cy) L0 f0 s.heap.size (fun (r : Int) (L1 : List Nat) (f1 : Nat → va_E) => L0 = L1 ∧ MS cy L0 f1 a0 ad ∧ Kp a0 ad [12, 13] [] f0 f1 ∧ (0 ≤ r ∧ r ≤ 36525))) ([.ref a0, .int (iI x1), .int (iI x2)] : List Value).toArray s 0 0 A) (F0 m 62 ls []) := by
            intro H locs ls hw hl
            have q0_fw44 : aI fw44 (ad 4) (44 * x1 + 3) = aI f0 (ad 4) (44 * x1 + 3) := hE.1 4 rfl (by decide) _
            have q1_fw44 : aI fw44 (ad 4) (44 * x1 + 4) = aI f0 (ad 4) (44 * x1 + 4) := hE.1 4 rfl (by decide) _
            have q2_fw44 : aI fw44 (ad 4) (44 * x1 + 5) = aI f0 (ad 4) (44 * x1 + 5) := hE.1 4 rfl (by decide) _
            have q3_fw44 : aI fw44 (ad 4) (44 * x1 + 8) = aI f0 (ad 4) (44 * x1 + 8) := hE.1 4 rfl (by decide) _
            have q4_fw44 : aI fw44 (ad 4) (44 * x1 + 9) = aI f0 (ad 4) (44 * x1 + 9) := hE.1 4 rfl (by decide) _
            have q5_fw44 : aI fw44 (ad 4) (44 * x1 + 10) = aI f0 (ad 4) (44 * x1 + 10) := hE.1 4 rfl (by decide) _
            refine lv_aload_n hx hb dX10_laysKeys_62 rfl (lv_at hl 0 rfl) ?_
            refine lv_iload_n hx hb dX10_laysKeys_63 rfl (lv_at hl 1 rfl) ?_
            refine lv_iload hx hb dX10_laysKeys_64 (lv_at hl 6 rfl) ?_
            refine q_call_i hA hK hw (va_runV (As := [.int (iI x1), .int (iI y6_44)]) (rest := []) ⟨hx, hb, hml, hown, hts⟩ (c_X10_isOn zo l D cy L0 fw44 a0 x1 lx1 ux1 y6_44 ly6_44 uy6_44 ad hs (by omega) (by omega) (by omega) (by omega) (by omega) (by omega) (by omega) _) (cwV 2 hts (gT (inV (mr25 _ (List.mem_of_getElem? (i := 4) rfl)) (mr25 _ (List.mem_of_getElem? (i := 5) rfl)) (mr25 _ (List.mem_of_getElem? (i := 6) rfl)) (mr1 _ (List.mem_of_getElem? (i := 5) rfl)) (mr25 _ (List.mem_of_getElem? (i := 7) rfl)))) rfl rfl rfl (by decide +kernel) ⟨Nat.le_of_ble_eq_true rfl, Nat.le_of_ble_eq_true rfl⟩) (Wd.preV zo hA hZ hw hK hs.1 hs.2.1 rfl) rfl rfl hl.1 rfl (lv_room (Nat.le_of_ble_eq_true rfl)) dX10_laysKeys_66 ⟨Nat.le_of_ble_eq_true rfl, Nat.le_of_ble_eq_true rfl⟩) (fun x_5 L1 f1 H locs lx_5 ux_5 ex_5 hw => ?_)
            obtain ⟨rfl, rfl, ex_5⟩ := ex_5
            have J91 : ∀ (z3_91 : Int) (lz3_91 : -2147483648 ≤ z3_91) (uz3_91 : z3_91 ≤ 2147483647) (L : List Nat) (fw91 : Nat → va_E) (hs : MS cy L0 fw91 a0 ad) (hE : Kp a0 ad [12, 13] [] f0 fw91) (k1 : 0 ≤ z3_91) (k2 : z3_91 ≤ y6_44 - aI f0 (ad 4) (44 * x1 + 10) + 1) (H : Heap) (locs : List Loc) (ls : Array Slot) (hw : Wd D A s.heap L0 fw91 H locs) (hl : lv_has ls 7 [(0, .ref a0), (1, .int (iI x1)), (2, .int (iI x2)), (3, .int (iI z3_91)), (4, .int (iI x_1)), (5, .int (iI w0_33)), (6, .int (iI y6_44))]), W p l e ({ frames := 2, cells := 0, slots := 0, locals := 48 } : Room) s m ([.ref a0, .int (iI x1), .int (iI x2)] : List Value).toArray below meth c H locs (0 + 0 + 0 + 0 + 0) (0 + 0 + 0 + 0 + 0) (MQ below (Qi D (tq cy) L0 f0 s.heap.size (fun (r : Int) (L1 : List Nat) (f1 : Nat → va_E) => L0 = L1 ∧ MS cy L0 f1 a0 ad ∧ Kp a0 ad [12, 13] [] f0 f1 ∧ (0 ≤ r ∧ r ≤ 36525))) ([.ref a0, .int (iI x1), .int (iI x2)] : List Value).toArray s 0 0 A) (F0 m 91 ls []) := by
              intro z3_91 lz3_91 uz3_91 L fw91 hs hE k1 k2 H locs ls hw hl
              have q0_fw91 : aI fw91 (ad 4) (44 * x1 + 3) = aI f0 (ad 4) (44 * x1 + 3) := hE.1 4 rfl (by decide) _
              have q1_fw91 : aI fw91 (ad 4) (44 * x1 + 4) = aI f0 (ad 4) (44 * x1 + 4) := hE.1 4 rfl (by decide) _
              have q2_fw91 : aI fw91 (ad 4) (44 * x1 + 5) = aI f0 (ad 4) (44 * x1 + 5) := hE.1 4 rfl (by decide) _
              have q3_fw91 : aI fw91 (ad 4) (44 * x1 + 8) = aI f0 (ad 4) (44 * x1 + 8) := hE.1 4 rfl (by decide) _
              have q4_fw91 : aI fw91 (ad 4) (44 * x1 + 9) = aI f0 (ad 4) (44 * x1 + 9) := hE.1 4 rfl (by decide) _
              have q5_fw91 : aI fw91 (ad 4) (44 * x1 + 10) = aI f0 (ad 4) (44 * x1 + 10) := hE.1 4 rfl (by decide) _
              obtain ⟨x_6, lx_6, ux_6, hx_6, ex_6⟩ := q_inc y6_44 (1)
              try (replace ex_6 : x_6 = y6_44 + (1) := by omega)
              refine lv_iinc (v := iI x_6) (lv' := [(6, .int (iI x_6)), (0, .ref a0), (1, .int (iI x1)), (2, .int (iI x2)), (3, .int (iI z3_91)), (4, .int (iI x_1)), (5, .int (iI w0_33))]) hx hb dX10_laysKeys_91 hl (k := 6) rfl hx_6 (by decide) rfl (fun ls hl => ?_)
              refine lv_goto (tgt := 44) hx hb dX10_laysKeys_94 (by decide) ?_
              exact ih44 z3_91 lz3_91 uz3_91 x_6 lx_6 ux_6 L0 fw91 hs hE (by omega) (by omega) (by omega) (by omega) (by omega) _ _ _ hw (lv_sub hl [1, 2, 3, 4, 5, 6, 0] rfl)
            refine q_if_ne (tgt := 75) hx hb dX10_laysKeys_69 (by decide) ⟨lx_5, ux_5⟩ (fun c69 => ?_) (fun c69 => ?_)
            · refine lv_aload_n hx hb dX10_laysKeys_75 rfl (lv_at hl 0 rfl) ?_
              refine q_getr (ci := 8) (C := RX10) (T := TX10) (N := 26) hx hb hts (fun w h => List.mem_cons_of_mem _ (mfX100 w h)) hown hK hw hs.1 hs.2.1 rfl 12 (by decide) (hts _ (List.mem_cons_of_mem _ (mr3 _ (List.mem_of_getElem? (i := 20) rfl)))) (fun _ h => h) rfl (hs.2.2.1 12 rfl).1 dX10_laysKeys_76 ?_
              refine q_ldc (n := 36525) hx hb hown (hts _ (List.mem_cons_of_mem _ (mr3 _ (List.mem_of_getElem? (i := 9) rfl)))) rfl dX10_laysKeys_79 ?_
              refine lv_iload_n hx hb dX10_laysKeys_81 rfl (lv_at hl 2 rfl) ?_
              first | refine q_imul hx hb dX10_laysKeys_82 ⟨by omega, by omega⟩ (fun x_7 lx_7 ux_7 ex_7 => ?_) | refine q_imulw hx hb dX10_laysKeys_82 (fun x_7 lx_7 ux_7 ex_7 => ?_)
              refine lv_iload_n hx hb dX10_laysKeys_83 rfl (lv_at hl 3 rfl) ?_
              first | refine q_iadd hx hb dX10_laysKeys_84 ⟨by omega, by omega⟩ (fun x_8 lx_8 ux_8 ex_8 => ?_) | refine q_iaddw hx hb dX10_laysKeys_84 (fun x_8 lx_8 ux_8 ex_8 => ?_)
              refine lv_iload hx hb dX10_laysKeys_85 (lv_at hl 6 rfl) ?_
              refine q_iast hx hb hK hw (hs.2.2.1 12 rfl).2.1 1 (hs.2.2.1 12 rfl).2.2 rfl ⟨lx_8, ux_8⟩ (by omega) (by show _ < ((73050 : Nat) : Int); omega) dX10_laysKeys_87 (fun H locs hw => ?_)
              obtain ⟨f_9, ef_9⟩ : ∃ g : Nat → va_E, g = aU fw44 (ad 12) x_8 (iI y6_44) := ⟨_, rfl⟩
              have hE := hE.trans (show Kp a0 ad [12, 13] [] fw44 f_9 by rw [ef_9]; exact Kp_aU hs rfl (by decide))
              have hs : MS cy L0 f_9 a0 ad := by rw [ef_9]; exact MS_aU hs rfl
              rw [← ef_9] at hw
              have q0_f_9 : aI f_9 (ad 4) (44 * x1 + 3) = aI f0 (ad 4) (44 * x1 + 3) := hE.1 4 rfl (by decide) _
              have q1_f_9 : aI f_9 (ad 4) (44 * x1 + 4) = aI f0 (ad 4) (44 * x1 + 4) := hE.1 4 rfl (by decide) _
              have q2_f_9 : aI f_9 (ad 4) (44 * x1 + 5) = aI f0 (ad 4) (44 * x1 + 5) := hE.1 4 rfl (by decide) _
              have q3_f_9 : aI f_9 (ad 4) (44 * x1 + 8) = aI f0 (ad 4) (44 * x1 + 8) := hE.1 4 rfl (by decide) _
              have q4_f_9 : aI f_9 (ad 4) (44 * x1 + 9) = aI f0 (ad 4) (44 * x1 + 9) := hE.1 4 rfl (by decide) _
              have q5_f_9 : aI f_9 (ad 4) (44 * x1 + 10) = aI f0 (ad 4) (44 * x1 + 10) := hE.1 4 rfl (by decide) _
              obtain ⟨x_10, lx_10, ux_10, hx_10, ex_10⟩ := q_inc y3_44 (1)
              try (replace ex_10 : x_10 = y3_44 + (1) := by omega)
              refine lv_iinc (v := iI x_10) (lv' := [(3, .int (iI x_10)), (0, .ref a0), (1, .int (iI x1)), (2, .int (iI x2)), (4, .int (iI x_1)), (5, .int (iI w0_33)), (6, .int (iI y6_44))]) hx hb dX10_laysKeys_88 hl (k := 3) rfl hx_10 (by decide) rfl (fun ls hl => ?_)
              exact J91 x_10 lx_10 ux_10 L0 f_9 hs hE (by omega) (by omega) _ _ _ hw (lv_sub hl [1, 2, 3, 0, 4, 5, 6] rfl)
            · refine lv_goto (tgt := 91) hx hb dX10_laysKeys_72 (by decide) ?_
              exact J91 y3_44 ly3_44 uy3_44 L0 fw44 hs hE (by omega) (by omega) _ _ _ hw (lv_sub hl [0, 1, 2, 3, 4, 5, 6] rfl)
          refine q_if_lt (tgt := 62) hx hb dX10_laysKeys_53 (by decide) ⟨lx_1, ux_1⟩ (fun c53 => ?_) (fun c53 => ?_)
          · exact J62 _ _ _ hw (lv_sub hl [0, 1, 2, 3, 4, 5, 6] rfl)
          · refine lv_iload_n hx hb dX10_laysKeys_56 rfl (lv_at hl 3 rfl) ?_
            refine lv_iload hx hb dX10_laysKeys_57 (lv_at hl 4 rfl) ?_
            refine q_icmp_ge (tgt := 97) hx hb dX10_laysKeys_59 (by decide) ⟨ly3_44, uy3_44⟩ ⟨lx_1, ux_1⟩ (fun c59 => ?_) (fun c59 => ?_)
            · exact J97 _ _ _ hw (lv_sub hl [0, 2, 3] rfl)
            · exact J62 _ _ _ hw (lv_sub hl [0, 1, 2, 3, 4, 5, 6] rfl)
    exact J44 ((((2147483647 : Int) - x_3).toNat) + 1) 0 (by decide) (by decide) x_3 lx_3 ux_3 L0 f0 hs hE (by omega) (by omega) (by omega) (by omega) (by omega) _ _ _ hw (lv_sub hl [2, 3, 4, 5, 6, 1, 0] rfl)
  refine q_if_ge (tgt := 26) hx hb dX10_laysKeys_18 (by decide) ⟨lx_2, ux_2⟩ (fun c18 => ?_) (fun c18 => ?_)
  · refine lv_aload_n hx hb dX10_laysKeys_26 rfl (lv_at hl 2 rfl) ?_
    refine lv_iload_n hx hb dX10_laysKeys_27 rfl (lv_at hl 3 rfl) ?_
    refine q_bipush hx hb dX10_laysKeys_28 rfl ?_
    refine q_call_i hA hK hw (va_runV (As := [.int (iI x1), .int (iI 8)]) (rest := []) ⟨hx, hb, hml, hown, hts⟩ (c_X10_get zo l D cy L0 f0 a0 x1 lx1 ux1 8 (by decide) (by decide) ad hs (by omega) (by omega) (by omega) (by omega) _) (cwV 2 hts (gT (inV (mr25 _ (List.mem_of_getElem? (i := 0) rfl)) (mr25 _ (List.mem_of_getElem? (i := 1) rfl)) (mr25 _ (List.mem_of_getElem? (i := 2) rfl)) (mr1 _ (List.mem_of_getElem? (i := 5) rfl)) (mr25 _ (List.mem_of_getElem? (i := 3) rfl)))) rfl rfl rfl (by decide +kernel) ⟨Nat.le_of_ble_eq_true rfl, Nat.le_of_ble_eq_true rfl⟩) (Wd.preV zo hA hZ hw hK hs.1 hs.2.1 rfl) rfl rfl hl.1 rfl (lv_room (Nat.le_of_ble_eq_true rfl)) dX10_laysKeys_30 ⟨Nat.le_of_ble_eq_true rfl, Nat.le_of_ble_eq_true rfl⟩) (fun x_11 L1 f1 H locs lx_11 ux_11 ex_11 hw => ?_)
    obtain ⟨rfl, rfl, ex_11⟩ := ex_11
    exact J33 x_11 lx_11 ux_11 (by omega) _ _ _ hw (lv_sub hl [2, 3, 4, 1, 0] rfl)
  · refine q_ldc (n := 36524) hx hb hown (hts _ (List.mem_cons_of_mem _ (mr24 _ (List.mem_of_getElem? (i := 0) rfl)))) rfl dX10_laysKeys_21 ?_
    refine lv_goto (tgt := 33) hx hb dX10_laysKeys_23 (by decide) ?_
    exact J33 36524 (by decide) (by decide) (by omega) _ _ _ hw (lv_sub hl [2, 3, 4, 1, 0] rfl)
set_option maxHeartbeats 4000000 in
set_option maxRecDepth 100000 in
theorem c_X10_isOfRoom {Z : Zt} (zo : Zok Z) (l : Launch) (D : va_G) (cy : Cy) (L0 : List Nat) (f0 : Nat → va_E) (a0 : Nat) (x1 : Int) (lx1 : -2147483648 ≤ x1) (ux1 : x1 ≤ 2147483647) (x2 : Int) (lx2 : -2147483648 ≤ x2) (ux2 : x2 ≤ 2147483647) (ad : Nat → Nat) (hs : MS cy L0 f0 a0 ad) (b1 : 0 ≤ x1) (b2 : x1 ≤ 11) : Ci Z l yX10_isOfRoom (Cond.code yX10_isOfRoom cX10_isOfRoom 3 (some .boolean) :: TB) ({ frames := 1, cells := 0, slots := 0, locals := 22 } : Room) 0 0 D (tq cy) [.ref a0, .int (iI x1), .int (iI x2)] L0 f0 (fun (r : Int) (L1 : List Nat) (f1 : Nat → va_E) => L0 = L1 ∧ f0 = f1 ∧ (r = 0 ∨ r = 1)) := by
  refine Ci.enter (cc := cX10_isOfRoom) (n := 3) rfl (plainFor_of_name (by decide)) (Nat.le_of_ble_eq_true rfl) ?_
  intro p e s m below meth c ls A hx hb hr hts hown hlocks hnm hml hK hA hAe hw hZ hl
  have hown : s.vm.findClass RX10 = some m.cls := hown
  have hl : lv_has ls 3 [(0, .ref a0), (1, .int (iI x1)), (2, .int (iI x2))] := hl
  have hN : ZN s := (zo.2.2.2.2 _ _ _ hZ).2
  refine lv_iload_n hx hb dX10_isOfRoom_0 rfl (lv_at hl 2 rfl) ?_
  refine q_iconst hx hb dX10_isOfRoom_1 ?_
  refine q_icmp_eq (tgt := 15) hx hb dX10_isOfRoom_2 (by decide) ⟨lx2, ux2⟩ ⟨by decide, by decide⟩ (fun c2 => ?_) (fun c2 => ?_)
  · refine q_iconst hx hb dX10_isOfRoom_15 ?_
    refine lv_goto (tgt := 20) hx hb dX10_isOfRoom_16 (by decide) ?_
    exact q_ret_z hx hb hr hlocks hK hAe hw (by omega) (Nat.le_of_ble_eq_true rfl) (Nat.le_of_ble_eq_true rfl) dX10_isOfRoom_20 ⟨rfl, rfl, by omega⟩
  · refine lv_aload_n hx hb dX10_isOfRoom_5 rfl (lv_at hl 0 rfl) ?_
    refine lv_iload_n hx hb dX10_isOfRoom_6 rfl (lv_at hl 1 rfl) ?_
    refine q_iconst hx hb dX10_isOfRoom_7 ?_
    refine q_call_i hA hK hw (va_runV (As := [.int (iI x1), .int (iI 0)]) (rest := []) ⟨hx, hb, hml, hown, hts⟩ (c_X10_get zo l D cy L0 f0 a0 x1 lx1 ux1 0 (by decide) (by decide) ad hs (by omega) (by omega) (by omega) (by omega) _) (cwV 2 hts (gT (inV (mr25 _ (List.mem_of_getElem? (i := 0) rfl)) (mr25 _ (List.mem_of_getElem? (i := 1) rfl)) (mr25 _ (List.mem_of_getElem? (i := 2) rfl)) (mr1 _ (List.mem_of_getElem? (i := 5) rfl)) (mr25 _ (List.mem_of_getElem? (i := 3) rfl)))) rfl rfl rfl (by decide +kernel) ⟨Nat.le_of_ble_eq_true rfl, Nat.le_of_ble_eq_true rfl⟩) (Wd.preV zo hA hZ hw hK hs.1 hs.2.1 rfl) rfl rfl hl.1 rfl (lv_room (Nat.le_of_ble_eq_true rfl)) dX10_isOfRoom_8 ⟨Nat.le_of_ble_eq_true rfl, Nat.le_of_ble_eq_true rfl⟩) (fun x_1 L1 f1 H locs lx_1 ux_1 ex_1 hw => ?_)
    obtain ⟨rfl, rfl, ex_1⟩ := ex_1
    refine lv_iload_n hx hb dX10_isOfRoom_11 rfl (lv_at hl 2 rfl) ?_
    refine q_icmp_ne (tgt := 19) hx hb dX10_isOfRoom_12 (by decide) ⟨lx_1, ux_1⟩ ⟨lx2, ux2⟩ (fun c12 => ?_) (fun c12 => ?_)
    · refine q_iconst hx hb dX10_isOfRoom_19 ?_
      exact q_ret_z hx hb hr hlocks hK hAe hw (by omega) (Nat.le_of_ble_eq_true rfl) (Nat.le_of_ble_eq_true rfl) dX10_isOfRoom_20 ⟨rfl, rfl, by omega⟩
    · refine q_iconst hx hb dX10_isOfRoom_15 ?_
      refine lv_goto (tgt := 20) hx hb dX10_isOfRoom_16 (by decide) ?_
      exact q_ret_z hx hb hr hlocks hK hAe hw (by omega) (Nat.le_of_ble_eq_true rfl) (Nat.le_of_ble_eq_true rfl) dX10_isOfRoom_20 ⟨rfl, rfl, by omega⟩
set_option maxHeartbeats 4000000 in
set_option maxRecDepth 100000 in
theorem c_X10_oddMany {Z : Zt} (zo : Zok Z) (l : Launch) (D : va_G) (cy : Cy) (L0 : List Nat) (f0 : Nat → va_E) (a0 : Nat) (x1 : Int) (lx1 : -2147483648 ≤ x1) (ux1 : x1 ≤ 2147483647) (x2 : Int) (lx2 : -2147483648 ≤ x2) (ux2 : x2 ≤ 2147483647) (ad : Nat → Nat) (hs : MS cy L0 f0 a0 ad) (b1 : 0 ≤ x1) (b2 : x1 ≤ 11) (o1 : 0 ≤ aI f0 (ad 4) (44 * x1 + 11)) (o2 : aI f0 (ad 4) (44 * x1 + 11) ≤ 16) : Ci Z l yX10_oddMany (Cond.code yX10_oddMany cX10_oddMany 5 (some .int) :: TB) ({ frames := 1, cells := 0, slots := 0, locals := 22 } : Room) 0 0 D (tq cy) [.ref a0, .int (iI x1), .int (iI x2)] L0 f0 (fun (r : Int) (L1 : List Nat) (f1 : Nat → va_E) => L0 = L1 ∧ f0 = f1 ∧ (True)) := by
  refine Ci.enter (cc := cX10_oddMany) (n := 5) rfl (plainFor_of_name (by decide)) (Nat.le_of_ble_eq_true rfl) ?_
  intro p e s m below meth c ls A hx hb hr hts hown hlocks hnm hml hK hA hAe hw hZ hl
  have hown : s.vm.findClass RX10 = some m.cls := hown
  have hl : lv_has ls 5 [(0, .ref a0), (1, .int (iI x1)), (2, .int (iI x2))] := hl
  have hN : ZN s := (zo.2.2.2.2 _ _ _ hZ).2
  refine q_iconst hx hb dX10_oddMany_0 ?_
  refine lv_istore_n (lv' := [(3, .int (iI 0)), (0, .ref a0), (1, .int (iI x1)), (2, .int (iI x2))]) hx hb dX10_oddMany_1 rfl hl (by decide) rfl (fun ls hl => ?_)
  refine q_iconst hx hb dX10_oddMany_2 ?_
  refine lv_istore (lv' := [(4, .int (iI 0)), (3, .int (iI 0)), (0, .ref a0), (1, .int (iI x1)), (2, .int (iI x2))]) hx hb dX10_oddMany_3 hl (by decide) rfl (fun ls hl => ?_)
  have J5 : ∀ (n5 : Nat) (y3_5 : Int) (ly3_5 : -2147483648 ≤ y3_5) (uy3_5 : y3_5 ≤ 2147483647) (y4_5 : Int) (ly4_5 : -2147483648 ≤ y4_5) (uy4_5 : y4_5 ≤ 2147483647) (i1 : 0 ≤ y4_5) (hn5 : ((2147483647 : Int) - y4_5).toNat < n5) (H : Heap) (locs : List Loc) (ls : Array Slot) (hw : Wd D A s.heap L0 f0 H locs) (hl : lv_has ls 5 [(0, .ref a0), (1, .int (iI x1)), (2, .int (iI x2)), (3, .int (iI y3_5)), (4, .int (iI y4_5))]), W p l e ({ frames := 1, cells := 0, slots := 0, locals := 22 } : Room) s m ([.ref a0, .int (iI x1), .int (iI x2)] : List Value).toArray below meth c H locs (0) (0) (MQ below (Qi D (tq cy) L0 f0 s.heap.size (fun (r : Int) (L1 : List Nat) (f1 : Nat → va_E) => L0 = L1 ∧ f0 = f1 ∧ (True))) ([.ref a0, .int (iI x1), .int (iI x2)] : List Value).toArray s 0 0 A) (F0 m 5 ls []) := by
    intro n5
    induction n5 with
    | zero => intro y3_5 ly3_5 uy3_5 y4_5 ly4_5 uy4_5 i1 hn5; exact absurd hn5 (Nat.not_lt_zero _)
    | succ n5 ih5 =>
      intro y3_5 ly3_5 uy3_5 y4_5 ly4_5 uy4_5 i1 hn5 H locs ls hw hl
      refine lv_iload hx hb dX10_oddMany_5 (lv_at hl 4 rfl) ?_
      refine lv_aload_n hx hb dX10_oddMany_7 rfl (lv_at hl 0 rfl) ?_
      refine lv_iload_n hx hb dX10_oddMany_8 rfl (lv_at hl 1 rfl) ?_
      refine q_bipush hx hb dX10_oddMany_9 rfl ?_
      refine q_call_i hA hK hw (va_runV (As := [.int (iI x1), .int (iI 11)]) (rest := [.int (iI y4_5)]) ⟨hx, hb, hml, hown, hts⟩ (c_X10_get zo l D cy L0 f0 a0 x1 lx1 ux1 11 (by decide) (by decide) ad hs (by omega) (by omega) (by omega) (by omega) _) (cwV 2 hts (gT (inV (mr25 _ (List.mem_of_getElem? (i := 0) rfl)) (mr25 _ (List.mem_of_getElem? (i := 1) rfl)) (mr25 _ (List.mem_of_getElem? (i := 2) rfl)) (mr1 _ (List.mem_of_getElem? (i := 5) rfl)) (mr25 _ (List.mem_of_getElem? (i := 3) rfl)))) rfl rfl rfl (by decide +kernel) ⟨Nat.le_of_ble_eq_true rfl, Nat.le_of_ble_eq_true rfl⟩) (Wd.preV zo hA hZ hw hK hs.1 hs.2.1 rfl) rfl rfl hl.1 rfl (lv_room (Nat.le_of_ble_eq_true rfl)) dX10_oddMany_11 ⟨Nat.le_of_ble_eq_true rfl, Nat.le_of_ble_eq_true rfl⟩) (fun x_1 L1 f1 H locs lx_1 ux_1 ex_1 hw => ?_)
      obtain ⟨rfl, rfl, ex_1⟩ := ex_1
      refine q_icmp_ge (tgt := 52) hx hb dX10_oddMany_14 (by decide) ⟨ly4_5, uy4_5⟩ ⟨lx_1, ux_1⟩ (fun c14 => ?_) (fun c14 => ?_)
      · refine lv_iload_n hx hb dX10_oddMany_52 rfl (lv_at hl 3 rfl) ?_
        exact q_ret_i hx hb hr hlocks hK hAe hw ⟨ly3_5, uy3_5⟩ (Nat.le_of_ble_eq_true rfl) (Nat.le_of_ble_eq_true rfl) dX10_oddMany_53 ⟨rfl, rfl, by trivial⟩
      · refine lv_aload_n hx hb dX10_oddMany_17 rfl (lv_at hl 0 rfl) ?_
        refine lv_iload_n hx hb dX10_oddMany_18 rfl (lv_at hl 1 rfl) ?_
        refine q_bipush hx hb dX10_oddMany_19 rfl ?_
        refine q_iconst hx hb dX10_oddMany_21 ?_
        refine lv_iload hx hb dX10_oddMany_22 (lv_at hl 4 rfl) ?_
        first | refine q_imul hx hb dX10_oddMany_24 ⟨by omega, by omega⟩ (fun x_2 lx_2 ux_2 ex_2 => ?_) | refine q_imulw hx hb dX10_oddMany_24 (fun x_2 lx_2 ux_2 ex_2 => ?_)
        first | refine q_iadd hx hb dX10_oddMany_25 ⟨by omega, by omega⟩ (fun x_3 lx_3 ux_3 ex_3 => ?_) | refine q_iaddw hx hb dX10_oddMany_25 (fun x_3 lx_3 ux_3 ex_3 => ?_)
        refine q_iconst hx hb dX10_oddMany_26 ?_
        first | refine q_iadd hx hb dX10_oddMany_27 ⟨by omega, by omega⟩ (fun x_4 lx_4 ux_4 ex_4 => ?_) | refine q_iaddw hx hb dX10_oddMany_27 (fun x_4 lx_4 ux_4 ex_4 => ?_)
        refine q_call_i hA hK hw (va_runV (As := [.int (iI x1), .int (iI x_4)]) (rest := []) ⟨hx, hb, hml, hown, hts⟩ (c_X10_get zo l D cy L0 f0 a0 x1 lx1 ux1 x_4 lx_4 ux_4 ad hs (by omega) (by omega) (by omega) (by omega) _) (cwV 2 hts (gT (inV (mr25 _ (List.mem_of_getElem? (i := 0) rfl)) (mr25 _ (List.mem_of_getElem? (i := 1) rfl)) (mr25 _ (List.mem_of_getElem? (i := 2) rfl)) (mr1 _ (List.mem_of_getElem? (i := 5) rfl)) (mr25 _ (List.mem_of_getElem? (i := 3) rfl)))) rfl rfl rfl (by decide +kernel) ⟨Nat.le_of_ble_eq_true rfl, Nat.le_of_ble_eq_true rfl⟩) (Wd.preV zo hA hZ hw hK hs.1 hs.2.1 rfl) rfl rfl hl.1 rfl (lv_room (Nat.le_of_ble_eq_true rfl)) dX10_oddMany_28 ⟨Nat.le_of_ble_eq_true rfl, Nat.le_of_ble_eq_true rfl⟩) (fun x_5 L1 f1 H locs lx_5 ux_5 ex_5 hw => ?_)
        obtain ⟨rfl, rfl, ex_5⟩ := ex_5
        have J39 : ∀ (w0_39 : Int) (lw0_39 : -2147483648 ≤ w0_39) (uw0_39 : w0_39 ≤ 2147483647) (H : Heap) (locs : List Loc) (ls : Array Slot) (hw : Wd D A s.heap L0 f0 H locs) (hl : lv_has ls 5 [(0, .ref a0), (1, .int (iI x1)), (2, .int (iI x2)), (3, .int (iI y3_5)), (4, .int (iI y4_5))]), W p l e ({ frames := 1, cells := 0, slots := 0, locals := 22 } : Room) s m ([.ref a0, .int (iI x1), .int (iI x2)] : List Value).toArray below meth c H locs (0 + 0 + 0) (0 + 0 + 0) (MQ below (Qi D (tq cy) L0 f0 s.heap.size (fun (r : Int) (L1 : List Nat) (f1 : Nat → va_E) => L0 = L1 ∧ f0 = f1 ∧ (True))) ([.ref a0, .int (iI x1), .int (iI x2)] : List Value).toArray s 0 0 A) (F0 m 39 ls [.int (iI w0_39)]) := by
          intro w0_39 lw0_39 uw0_39 H locs ls hw hl
          refine lv_iload_n hx hb dX10_oddMany_39 rfl (lv_at hl 2 rfl) ?_
          have J46 : ∀ (z3_46 : Int) (lz3_46 : -2147483648 ≤ z3_46) (uz3_46 : z3_46 ≤ 2147483647) (H : Heap) (locs : List Loc) (ls : Array Slot) (hw : Wd D A s.heap L0 f0 H locs) (hl : lv_has ls 5 [(0, .ref a0), (1, .int (iI x1)), (2, .int (iI x2)), (3, .int (iI z3_46)), (4, .int (iI y4_5))]), W p l e ({ frames := 1, cells := 0, slots := 0, locals := 22 } : Room) s m ([.ref a0, .int (iI x1), .int (iI x2)] : List Value).toArray below meth c H locs (0 + 0 + 0) (0 + 0 + 0) (MQ below (Qi D (tq cy) L0 f0 s.heap.size (fun (r : Int) (L1 : List Nat) (f1 : Nat → va_E) => L0 = L1 ∧ f0 = f1 ∧ (True))) ([.ref a0, .int (iI x1), .int (iI x2)] : List Value).toArray s 0 0 A) (F0 m 46 ls []) := by
            intro z3_46 lz3_46 uz3_46 H locs ls hw hl
            obtain ⟨x_6, lx_6, ux_6, hx_6, ex_6⟩ := q_inc y4_5 (1)
            try (replace ex_6 : x_6 = y4_5 + (1) := by omega)
            refine lv_iinc (v := iI x_6) (lv' := [(4, .int (iI x_6)), (0, .ref a0), (1, .int (iI x1)), (2, .int (iI x2)), (3, .int (iI z3_46))]) hx hb dX10_oddMany_46 hl (k := 4) rfl hx_6 (by decide) rfl (fun ls hl => ?_)
            refine lv_goto (tgt := 5) hx hb dX10_oddMany_49 (by decide) ?_
            exact ih5 z3_46 lz3_46 uz3_46 x_6 lx_6 ux_6 (by omega) (by omega) _ _ _ hw (lv_sub hl [1, 2, 3, 4, 0] rfl)
          refine q_icmp_ne (tgt := 46) hx hb dX10_oddMany_40 (by decide) ⟨lw0_39, uw0_39⟩ ⟨lx2, ux2⟩ (fun c40 => ?_) (fun c40 => ?_)
          · exact J46 y3_5 ly3_5 uy3_5 _ _ _ hw (lv_sub hl [0, 1, 2, 3, 4] rfl)
          · obtain ⟨x_7, lx_7, ux_7, hx_7, ex_7⟩ := q_inc y3_5 (1)
            try (replace ex_7 : x_7 = y3_5 + (1) := by omega)
            refine lv_iinc (v := iI x_7) (lv' := [(3, .int (iI x_7)), (0, .ref a0), (1, .int (iI x1)), (2, .int (iI x2)), (4, .int (iI y4_5))]) hx hb dX10_oddMany_43 hl (k := 3) rfl hx_7 (by decide) rfl (fun ls hl => ?_)
            exact J46 x_7 lx_7 ux_7 _ _ _ hw (lv_sub hl [1, 2, 3, 0, 4] rfl)
        refine q_if_ge (tgt := 38) hx hb dX10_oddMany_31 (by decide) ⟨lx_5, ux_5⟩ (fun c31 => ?_) (fun c31 => ?_)
        · refine q_iconst hx hb dX10_oddMany_38 ?_
          exact J39 0 (by decide) (by decide) _ _ _ hw (lv_sub hl [0, 1, 2, 3, 4] rfl)
        · refine q_iconst hx hb dX10_oddMany_34 ?_
          refine lv_goto (tgt := 39) hx hb dX10_oddMany_35 (by decide) ?_
          exact J39 1 (by decide) (by decide) _ _ _ hw (lv_sub hl [0, 1, 2, 3, 4] rfl)
  exact J5 ((((2147483647 : Int) - 0).toNat) + 1) 0 (by decide) (by decide) 0 (by decide) (by decide) (by omega) (by omega) _ _ _ hw (lv_sub hl [2, 3, 4, 1, 0] rfl)
